/-! KiteLandModel.county(I)I -/
theorem e_X12_county_0 : decode cX12_county 0 = .ok (.aload_n 0, 1) ∧ decode cX12_county 1 = .ok (.iload_n 1, 1) ∧ decode cX12_county 2 = .ok (.sipush 900, 3) ∧ decode cX12_county 5 = .ok (.invokevirtual 237, 3) ∧ decode cX12_county 8 = .ok (.ifCond .ne 9, 3) ∧ decode cX12_county 11 = .ok (.aload_n 0, 1) ∧ decode cX12_county 12 = .ok (.iconst 1, 1) ∧ decode cX12_county 13 = .ok (.invokevirtual 93, 3) ∧ decode cX12_county 16 = .ok (.ireturn, 1) ∧ decode cX12_county 17 = .ok (.aload_n 0, 1) := by decide +kernel
theorem e_X12_county_1 : decode cX12_county 18 = .ok (.sipush 2056, 3) ∧ decode cX12_county 21 = .ok (.invokevirtual 83, 3) ∧ decode cX12_county 24 = .ok (.aload_n 0, 1) ∧ decode cX12_county 25 = .ok (.iconst 0, 1) ∧ decode cX12_county 26 = .ok (.putfield 215, 3) ∧ decode cX12_county 29 = .ok (.iconst 1, 1) ∧ decode cX12_county 30 = .ok (.istore_n 2, 1) ∧ decode cX12_county 31 = .ok (.iload_n 2, 1) ∧ decode cX12_county 32 = .ok (.ifCond .eq 18, 3) ∧ decode cX12_county 35 = .ok (.aload_n 0, 1) := by decide +kernel
theorem e_X12_county_2 : decode cX12_county 36 = .ok (.getfield 138, 3) ∧ decode cX12_county 39 = .ok (.ifCond .eq 11, 3) ∧ decode cX12_county 42 = .ok (.aload_n 0, 1) ∧ decode cX12_county 43 = .ok (.invokevirtual 241, 3) ∧ decode cX12_county 46 = .ok (.istore_n 2, 1) ∧ decode cX12_county 47 = .ok (.goto (-16), 3) ∧ decode cX12_county 50 = .ok (.aload_n 0, 1) ∧ decode cX12_county 51 = .ok (.getfield 163, 3) ∧ decode cX12_county 54 = .ok (.ifCond .ne 63, 3) ∧ decode cX12_county 57 = .ok (.iconst 0, 1) := by decide +kernel
theorem e_X12_county_3 : decode cX12_county 58 = .ok (.istore_n 3, 1) ∧ decode cX12_county 59 = .ok (.iload_n 3, 1) ∧ decode cX12_county 60 = .ok (.sipush 514, 3) ∧ decode cX12_county 63 = .ok (.if_icmp .ge 25, 3) ∧ decode cX12_county 66 = .ok (.aload_n 0, 1) ∧ decode cX12_county 67 = .ok (.getfield 7, 3) ∧ decode cX12_county 70 = .ok (.iload_n 3, 1) ∧ decode cX12_county 71 = .ok (.aload_n 0, 1) ∧ decode cX12_county 72 = .ok (.getfield 7, 3) ∧ decode cX12_county 75 = .ok (.sipush 2056, 3) := by decide +kernel
theorem e_X12_county_4 : decode cX12_county 78 = .ok (.iload_n 3, 1) ∧ decode cX12_county 79 = .ok (.iadd, 1) ∧ decode cX12_county 80 = .ok (.iaload, 1) ∧ decode cX12_county 81 = .ok (.iastore, 1) ∧ decode cX12_county 82 = .ok (.iinc 3 1, 3) ∧ decode cX12_county 85 = .ok (.goto (-26), 3) ∧ decode cX12_county 88 = .ok (.iconst 0, 1) ∧ decode cX12_county 89 = .ok (.istore_n 3, 1) ∧ decode cX12_county 90 = .ok (.iload_n 3, 1) ∧ decode cX12_county 91 = .ok (.bipush 20, 2) := by decide +kernel
theorem e_X12_county_5 : decode cX12_county 93 = .ok (.if_icmp .ge 24, 3) ∧ decode cX12_county 96 = .ok (.aload_n 0, 1) ∧ decode cX12_county 97 = .ok (.getfield 13, 3) ∧ decode cX12_county 100 = .ok (.iload_n 3, 1) ∧ decode cX12_county 101 = .ok (.aload_n 0, 1) ∧ decode cX12_county 102 = .ok (.getfield 13, 3) ∧ decode cX12_county 105 = .ok (.bipush 80, 2) ∧ decode cX12_county 107 = .ok (.iload_n 3, 1) ∧ decode cX12_county 108 = .ok (.iadd, 1) ∧ decode cX12_county 109 = .ok (.laload, 1) := by decide +kernel
theorem e_X12_county_6 : decode cX12_county 110 = .ok (.lastore, 1) ∧ decode cX12_county 111 = .ok (.iinc 3 1, 3) ∧ decode cX12_county 114 = .ok (.goto (-24), 3) ∧ decode cX12_county 117 = .ok (.aload_n 0, 1) ∧ decode cX12_county 118 = .ok (.aload_n 0, 1) ∧ decode cX12_county 119 = .ok (.getfield 7, 3) ∧ decode cX12_county 122 = .ok (.iconst 2, 1) ∧ decode cX12_county 123 = .ok (.iaload, 1) ∧ decode cX12_county 124 = .ok (.invokevirtual 244, 3) ∧ decode cX12_county 127 = .ok (.ireturn, 1) := by decide +kernel
abbrev E_X12_county_31 (G : Kg) (l2 : Int) (σ : Kmem) (Q : Int → Kmem → Prop) : Prop := Ex G WM M_X12_county 9 0 0 31 [(0, vA G 0), (2, vI l2)] [] σ Q
abbrev E_X12_county_59 (G : Kg) (l3 : Int) (σ : Kmem) (Q : Int → Kmem → Prop) : Prop := Ex G WM M_X12_county 9 0 0 59 [(0, vA G 0), (3, vI l3)] [] σ Q
abbrev E_X12_county_90 (G : Kg) (l3 : Int) (σ : Kmem) (Q : Int → Kmem → Prop) : Prop := Ex G WM M_X12_county 9 0 0 90 [(0, vA G 0), (3, vI l3)] [] σ Q
theorem S_X12_county {G : Kg} {σ : Kmem} {Q : Int → Kmem → Prop} {l1 : Int}  (h : Run G WM M_X12_begins 2 0 0 [vA G 0, vI l1, vI 900] σ (fun r1 s2 => (rI r1) ∧ ((r1 ≠ 0 → Run G WM M_X12_plain 0 0 0 [vA G 0, vI 2056] s2 (fun r4 s5 => E_X12_county_31 G 1 (kup s5 0 20 0) Q)) ∧ (r1 = 0 → Run G WM M_X12_refuse 0 0 0 [vA G 0, vI 1] s2 (fun r6 s7 => Q r6 s7))))) : Run G WM M_X12_county 9 0 0 [vA G 0, vI l1] σ Q := by
  refine Run.of (by decide +kernel) (by show (2 : Nat) ≤ 4; decide) ?_
  show Ex G WM M_X12_county 9 0 0 0 [(0, vA G 0), (1, vI l1)] [] σ Q
  refine R_aload_n e_X12_county_0.1 0 rfl ?_
  refine R_iload_n e_X12_county_0.2.1 1 rfl ?_
  refine R_sipush e_X12_county_0.2.2.1 (by decide) ?_
  refine R_callV (mc := 0) (ms := 0) (mc' := 0) (ms' := 0) (M' := M_X12_begins) (d' := 2) (as := [vI l1, vI 900]) (st := []) 12 2 e_X12_county_0.2.2.2.1 (kCVof m_X12_begins l_X12_237) rfl (by decide) km_0 (by decide) (by decide) rfl rfl (by show (0 : Nat) ≤ 8; decide) ?_
  refine Run.mono h (fun r1 s2 h => ?_)
  refine R_eqs (st2 := [vI r1]) rfl rfl ?_
  obtain ⟨q3, h⟩ := h
  refine R_if_ne 17 e_X12_county_0.2.2.2.2.1 (by decide) q3  (fun q => ?_) (fun q => ?_)
  · replace h := h.1 q
    refine R_aload_n e_X12_county_0.2.2.2.2.2.2.2.2.2 0 rfl ?_
    refine R_sipush e_X12_county_1.1 (by decide) ?_
    refine R_callV (mc := 0) (ms := 0) (mc' := 0) (ms' := 0) (M' := M_X12_plain) (d' := 0) (as := [vI 2056]) (st := []) 12 1 e_X12_county_1.2.1 (kCVof m_X12_plain l_X12_83) rfl (by decide) km_0 (by decide) (by decide) rfl rfl (by show (0 : Nat) ≤ 8; decide) ?_
    refine Run.mono h (fun r4 s5 h => ?_)
    refine R_eqs (st2 := []) rfl rfl ?_
    refine R_aload_n e_X12_county_1.2.2.1 0 rfl ?_
    refine R_iconst e_X12_county_1.2.2.2.1 ?_
    refine R_putI 12 20 20 WM_ok e_X12_county_1.2.2.2.2.1 f_X12_215 km_0 rfl rfl rfl ?_
    refine R_iconst e_X12_county_1.2.2.2.2.2.1 ?_
    refine R_istore_n (ls2 := [(2, vI 1), (0, vA G 0), (1, vI l1)]) e_X12_county_1.2.2.2.2.2.2.1 (by decide) rfl ?_
    refine R_ls (ls2 := [(0, vA G 0), (2, vI 1)]) [1, 0] rfl ?_
    exact h
  · replace h := h.2 q
    refine R_aload_n e_X12_county_0.2.2.2.2.2.1 0 rfl ?_
    refine R_iconst e_X12_county_0.2.2.2.2.2.2.1 ?_
    refine R_callV (mc := 0) (ms := 0) (mc' := 0) (ms' := 0) (M' := M_X12_refuse) (d' := 0) (as := [vI 1]) (st := []) 12 1 e_X12_county_0.2.2.2.2.2.2.2.1 (kCVof m_X12_refuse l_X12_93) rfl (by decide) km_0 (by decide) (by decide) rfl rfl (by show (0 : Nat) ≤ 8; decide) ?_
    refine Run.mono h (fun r6 s7 h => ?_)
    refine R_eqs (st2 := [vI r6]) rfl rfl ?_
    exact R_ireturn e_X12_county_0.2.2.2.2.2.2.2.2.1 rfl h
theorem S_X12_county_31 {G : Kg} {σ : Kmem} {Q : Int → Kmem → Prop} {l1 l2 : Int}  (h : (rI l2) ∧ ((l2 = 0 → (rI (σ 0 18)) ∧ ((σ 0 18 ≠ 0 → Run G WM M_X12_taken 1 0 0 [vA G 0, vI (σ 1 2)] σ (fun r10 s11 => Q r10 s11)) ∧ (σ 0 18 = 0 → E_X12_county_59 G 0 σ Q))) ∧ (l2 ≠ 0 → (rI (σ 0 12)) ∧ ((σ 0 12 = 0 → (rI (σ 0 18)) ∧ ((σ 0 18 ≠ 0 → Run G WM M_X12_taken 1 0 0 [vA G 0, vI (σ 1 2)] σ (fun r14 s15 => Q r14 s15)) ∧ (σ 0 18 = 0 → E_X12_county_59 G 0 σ Q))) ∧ (σ 0 12 ≠ 0 → Run G WM M_X12_countyPart 8 0 0 [vA G 0] σ (fun r16 s17 => E_X12_county_31 G r16 s17 Q)))))) : E_X12_county_31 G l2 σ Q := by
  refine R_iload_n e_X12_county_1.2.2.2.2.2.2.2.1 1 rfl ?_
  obtain ⟨q8, h⟩ := h
  refine R_if_eq 50 e_X12_county_1.2.2.2.2.2.2.2.2.1 (by decide) q8  (fun q => ?_) (fun q => ?_)
  · replace h := h.1 q
    refine R_aload_n e_X12_county_2.2.2.2.2.2.2.1 0 rfl ?_
    refine R_getI 12 18 18 e_X12_county_2.2.2.2.2.2.2.2.1 f_X12_163 km_0 (fun _ _ => rfl) rfl ?_
    obtain ⟨q9, h⟩ := h
    refine R_if_ne 117 e_X12_county_2.2.2.2.2.2.2.2.2.1 (by decide) q9  (fun q => ?_) (fun q => ?_)
    · replace h := h.1 q
      refine R_aload_n e_X12_county_6.2.2.2.1 0 rfl ?_
      refine R_aload_n e_X12_county_6.2.2.2.2.1 0 rfl ?_
      refine R_getA 12 0 1 e_X12_county_6.2.2.2.2.2.1 f_X12_7 km_0 (fun _ _ => rfl) rm_0_0 (by decide) ?_
      refine R_iconst e_X12_county_6.2.2.2.2.2.2.1 ?_
      refine R_iald 3598 e_X12_county_6.2.2.2.2.2.2.2.1 kma_1 (by decide) ?_
      refine R_callV (mc := 0) (ms := 0) (mc' := 0) (ms' := 0) (M' := M_X12_taken) (d' := 1) (as := [vI (σ 1 2)]) (st := []) 12 1 e_X12_county_6.2.2.2.2.2.2.2.2.1 (kCVof m_X12_taken l_X12_244) rfl (by decide) km_0 (by decide) (by decide) rfl rfl (by show (0 : Nat) ≤ 8; decide) ?_
      refine Run.mono h (fun r10 s11 h => ?_)
      refine R_eqs (st2 := [vI r10]) rfl rfl ?_
      exact R_ireturn e_X12_county_6.2.2.2.2.2.2.2.2.2 rfl h
    · replace h := h.2 q
      refine R_iconst e_X12_county_2.2.2.2.2.2.2.2.2.2 ?_
      refine R_istore_n (ls2 := [(3, vI 0), (0, vA G 0), (2, vI l2)]) e_X12_county_3.1 (by decide) rfl ?_
      refine R_ls (ls2 := [(0, vA G 0), (3, vI 0)]) [1, 0] rfl ?_
      exact h
  · replace h := h.2 q
    refine R_aload_n e_X12_county_1.2.2.2.2.2.2.2.2.2 0 rfl ?_
    refine R_getI 12 12 12 e_X12_county_2.1 f_X12_138 km_0 (fun _ _ => rfl) rfl ?_
    obtain ⟨q12, h⟩ := h
    refine R_if_eq 50 e_X12_county_2.2.1 (by decide) q12  (fun q => ?_) (fun q => ?_)
    · replace h := h.1 q
      refine R_aload_n e_X12_county_2.2.2.2.2.2.2.1 0 rfl ?_
      refine R_getI 12 18 18 e_X12_county_2.2.2.2.2.2.2.2.1 f_X12_163 km_0 (fun _ _ => rfl) rfl ?_
      obtain ⟨q13, h⟩ := h
      refine R_if_ne 117 e_X12_county_2.2.2.2.2.2.2.2.2.1 (by decide) q13  (fun q => ?_) (fun q => ?_)
      · replace h := h.1 q
        refine R_aload_n e_X12_county_6.2.2.2.1 0 rfl ?_
        refine R_aload_n e_X12_county_6.2.2.2.2.1 0 rfl ?_
        refine R_getA 12 0 1 e_X12_county_6.2.2.2.2.2.1 f_X12_7 km_0 (fun _ _ => rfl) rm_0_0 (by decide) ?_
        refine R_iconst e_X12_county_6.2.2.2.2.2.2.1 ?_
        refine R_iald 3598 e_X12_county_6.2.2.2.2.2.2.2.1 kma_1 (by decide) ?_
        refine R_callV (mc := 0) (ms := 0) (mc' := 0) (ms' := 0) (M' := M_X12_taken) (d' := 1) (as := [vI (σ 1 2)]) (st := []) 12 1 e_X12_county_6.2.2.2.2.2.2.2.2.1 (kCVof m_X12_taken l_X12_244) rfl (by decide) km_0 (by decide) (by decide) rfl rfl (by show (0 : Nat) ≤ 8; decide) ?_
        refine Run.mono h (fun r14 s15 h => ?_)
        refine R_eqs (st2 := [vI r14]) rfl rfl ?_
        exact R_ireturn e_X12_county_6.2.2.2.2.2.2.2.2.2 rfl h
      · replace h := h.2 q
        refine R_iconst e_X12_county_2.2.2.2.2.2.2.2.2.2 ?_
        refine R_istore_n (ls2 := [(3, vI 0), (0, vA G 0), (2, vI l2)]) e_X12_county_3.1 (by decide) rfl ?_
        refine R_ls (ls2 := [(0, vA G 0), (3, vI 0)]) [1, 0] rfl ?_
        exact h
    · replace h := h.2 q
      refine R_aload_n e_X12_county_2.2.2.1 0 rfl ?_
      refine R_callV (mc := 0) (ms := 0) (mc' := 0) (ms' := 0) (M' := M_X12_countyPart) (d' := 8) (as := []) (st := []) 12 0 e_X12_county_2.2.2.2.1 (kCVof m_X12_countyPart l_X12_241) rfl (by decide) km_0 (by decide) (by decide) rfl rfl (by show (0 : Nat) ≤ 8; decide) ?_
      refine Run.mono h (fun r16 s17 h => ?_)
      refine R_eqs (st2 := [vI r16]) rfl rfl ?_
      refine R_istore_n (ls2 := [(2, vI r16), (0, vA G 0)]) e_X12_county_2.2.2.2.2.1 (by decide) rfl ?_
      refine R_goto 31 e_X12_county_2.2.2.2.2.2.1 (by decide) ?_
      refine R_ls (ls2 := [(0, vA G 0), (2, vI r16)]) [1, 0] rfl ?_
      exact h
theorem S_X12_county_59 {G : Kg} {σ : Kmem} {Q : Int → Kmem → Prop} {l1 l3 : Int}  (h : (rI l3) ∧ ((514 ≤ l3 → E_X12_county_90 G 0 σ Q) ∧ (l3 < 514 → (0 ≤ 2056 + l3 ∧ 2056 + l3 < 3598) ∧ (0 ≤ l3 ∧ l3 < 3598) ∧ E_X12_county_59 G (l3 + 1) (kup σ 1 l3 (σ 1 (2056 + l3))) Q))) : E_X12_county_59 G l3 σ Q := by
  refine R_iload_n e_X12_county_3.2.1 1 rfl ?_
  refine R_sipush e_X12_county_3.2.2.1 (by decide) ?_
  obtain ⟨q18, h⟩ := h
  refine R_icmp_ge 88 e_X12_county_3.2.2.2.1 (by decide) q18 (by decide) (fun q => ?_) (fun q => ?_)
  · replace h := h.1 q
    refine R_iconst e_X12_county_4.2.2.2.2.2.2.1 ?_
    refine R_istore_n (ls2 := [(3, vI 0), (0, vA G 0)]) e_X12_county_4.2.2.2.2.2.2.2.1 (by decide) rfl ?_
    refine R_ls (ls2 := [(0, vA G 0), (3, vI 0)]) [1, 0] rfl ?_
    exact h
  · replace h := h.2 q
    refine R_aload_n e_X12_county_3.2.2.2.2.1 0 rfl ?_
    refine R_getA 12 0 1 e_X12_county_3.2.2.2.2.2.1 f_X12_7 km_0 (fun _ _ => rfl) rm_0_0 (by decide) ?_
    refine R_iload_n e_X12_county_3.2.2.2.2.2.2.1 1 rfl ?_
    refine R_aload_n e_X12_county_3.2.2.2.2.2.2.2.1 0 rfl ?_
    refine R_getA 12 0 1 e_X12_county_3.2.2.2.2.2.2.2.2.1 f_X12_7 km_0 (fun _ _ => rfl) rm_0_0 (by decide) ?_
    refine R_sipush e_X12_county_3.2.2.2.2.2.2.2.2.2 (by decide) ?_
    refine R_iload_n e_X12_county_4.1 1 rfl ?_
    refine R_iadd e_X12_county_4.2.1 ?_
    obtain ⟨q19, h⟩ := h
    refine R_iald 3598 e_X12_county_4.2.2.1 kma_1 q19 ?_
    obtain ⟨q20, h⟩ := h
    refine R_iast 3598 WM_ok e_X12_county_4.2.2.2.1 kma_1 q20 ?_
    refine R_iinc (ls2 := [(3, vI (l3 + 1)), (0, vA G 0)]) e_X12_county_4.2.2.2.2.1 1 rfl (by decide) rfl ?_
    refine R_goto 59 e_X12_county_4.2.2.2.2.2.1 (by decide) ?_
    refine R_ls (ls2 := [(0, vA G 0), (3, vI (l3 + 1))]) [1, 0] rfl ?_
    exact h
theorem S_X12_county_90 {G : Kg} {σ : Kmem} {Q : Int → Kmem → Prop} {l1 l3 : Int}  (h : (rI l3) ∧ ((20 ≤ l3 → Run G WM M_X12_taken 1 0 0 [vA G 0, vI (σ 1 2)] σ (fun r22 s23 => Q r22 s23)) ∧ (l3 < 20 → (0 ≤ 80 + l3 ∧ 80 + l3 < 120) ∧ (0 ≤ l3 ∧ l3 < 120) ∧ E_X12_county_90 G (l3 + 1) (kup σ 2 l3 (σ 2 (80 + l3))) Q))) : E_X12_county_90 G l3 σ Q := by
  refine R_iload_n e_X12_county_4.2.2.2.2.2.2.2.2.1 1 rfl ?_
  refine R_bipush e_X12_county_4.2.2.2.2.2.2.2.2.2 (by decide) ?_
  obtain ⟨q21, h⟩ := h
  refine R_icmp_ge 117 e_X12_county_5.1 (by decide) q21 (by decide) (fun q => ?_) (fun q => ?_)
  · replace h := h.1 q
    refine R_aload_n e_X12_county_6.2.2.2.1 0 rfl ?_
    refine R_aload_n e_X12_county_6.2.2.2.2.1 0 rfl ?_
    refine R_getA 12 0 1 e_X12_county_6.2.2.2.2.2.1 f_X12_7 km_0 (fun _ _ => rfl) rm_0_0 (by decide) ?_
    refine R_iconst e_X12_county_6.2.2.2.2.2.2.1 ?_
    refine R_iald 3598 e_X12_county_6.2.2.2.2.2.2.2.1 kma_1 (by decide) ?_
    refine R_callV (mc := 0) (ms := 0) (mc' := 0) (ms' := 0) (M' := M_X12_taken) (d' := 1) (as := [vI (σ 1 2)]) (st := []) 12 1 e_X12_county_6.2.2.2.2.2.2.2.2.1 (kCVof m_X12_taken l_X12_244) rfl (by decide) km_0 (by decide) (by decide) rfl rfl (by show (0 : Nat) ≤ 8; decide) ?_
    refine Run.mono h (fun r22 s23 h => ?_)
    refine R_eqs (st2 := [vI r22]) rfl rfl ?_
    exact R_ireturn e_X12_county_6.2.2.2.2.2.2.2.2.2 rfl h
  · replace h := h.2 q
    refine R_aload_n e_X12_county_5.2.1 0 rfl ?_
    refine R_getA 12 1 2 e_X12_county_5.2.2.1 f_X12_13 km_0 (fun _ _ => rfl) rm_0_1 (by decide) ?_
    refine R_iload_n e_X12_county_5.2.2.2.1 1 rfl ?_
    refine R_aload_n e_X12_county_5.2.2.2.2.1 0 rfl ?_
    refine R_getA 12 1 2 e_X12_county_5.2.2.2.2.2.1 f_X12_13 km_0 (fun _ _ => rfl) rm_0_1 (by decide) ?_
    refine R_bipush e_X12_county_5.2.2.2.2.2.2.1 (by decide) ?_
    refine R_iload_n e_X12_county_5.2.2.2.2.2.2.2.1 1 rfl ?_
    refine R_iadd e_X12_county_5.2.2.2.2.2.2.2.2.1 ?_
    obtain ⟨q24, h⟩ := h
    refine R_lald 120 e_X12_county_5.2.2.2.2.2.2.2.2.2 kma_2 q24 ?_
    obtain ⟨q25, h⟩ := h
    refine R_last 120 WM_ok e_X12_county_6.1 kma_2 q25 ?_
    refine R_iinc (ls2 := [(3, vI (l3 + 1)), (0, vA G 0)]) e_X12_county_6.2.1 1 rfl (by decide) rfl ?_
    refine R_goto 90 e_X12_county_6.2.2.1 (by decide) ?_
    refine R_ls (ls2 := [(0, vA G 0), (3, vI (l3 + 1))]) [1, 0] rfl ?_
    exact h
/-! KiteLandModel.kiteTo(I)Z -/
theorem e_X12_kiteTo_0 : decode cX12_kiteTo 0 = .ok (.aload_n 0, 1) ∧ decode cX12_kiteTo 1 = .ok (.iconst 0, 1) ∧ decode cX12_kiteTo 2 = .ok (.aload_n 0, 1) ∧ decode cX12_kiteTo 3 = .ok (.getfield 7, 3) ∧ decode cX12_kiteTo 6 = .ok (.iconst 2, 1) ∧ decode cX12_kiteTo 7 = .ok (.iaload, 1) ∧ decode cX12_kiteTo 8 = .ok (.iload_n 1, 1) ∧ decode cX12_kiteTo 9 = .ok (.invokevirtual 212, 3) ∧ decode cX12_kiteTo 12 = .ok (.ireturn, 1) := by decide +kernel
theorem S_X12_kiteTo {G : Kg} {σ : Kmem} {Q : Int → Kmem → Prop} {l1 : Int}  (h : Run G WM M_X12_oldOne 6 0 0 [vA G 0, vI 0, vI (σ 1 2), vI l1] σ (fun r1 s2 => (r1 = 0 ∨ r1 = 1) ∧ Q r1 s2)) : Run G WM M_X12_kiteTo 7 0 0 [vA G 0, vI l1] σ Q := by
  refine Run.of (by decide +kernel) (by show (2 : Nat) ≤ 2; decide) ?_
  show Ex G WM M_X12_kiteTo 7 0 0 0 [(0, vA G 0), (1, vI l1)] [] σ Q
  refine R_aload_n e_X12_kiteTo_0.1 0 rfl ?_
  refine R_iconst e_X12_kiteTo_0.2.1 ?_
  refine R_aload_n e_X12_kiteTo_0.2.2.1 0 rfl ?_
  refine R_getA 12 0 1 e_X12_kiteTo_0.2.2.2.1 f_X12_7 km_0 (fun _ _ => rfl) rm_0_0 (by decide) ?_
  refine R_iconst e_X12_kiteTo_0.2.2.2.2.1 ?_
  refine R_iald 3598 e_X12_kiteTo_0.2.2.2.2.2.1 kma_1 (by decide) ?_
  refine R_iload_n e_X12_kiteTo_0.2.2.2.2.2.2.1 1 rfl ?_
  refine R_callV (mc := 0) (ms := 0) (mc' := 0) (ms' := 0) (M' := M_X12_oldOne) (d' := 6) (as := [vI 0, vI (σ 1 2), vI l1]) (st := []) 12 3 e_X12_kiteTo_0.2.2.2.2.2.2.2.1 (kCVof m_X12_oldOne l_X12_212) rfl (by decide) km_0 (by decide) (by decide) rfl rfl (by show (0 : Nat) ≤ 8; decide) ?_
  refine Run.mono h (fun r1 s2 h => ?_)
  refine R_eqs (st2 := [vI r1]) rfl rfl ?_
  obtain ⟨q3, h⟩ := h
  exact R_zreturn e_X12_kiteTo_0.2.2.2.2.2.2.2.2 rfl q3 h
/-! KiteLandModel.test(I)Z -/
theorem e_X12_test_0 : decode cX12_test 0 = .ok (.aload_n 0, 1) ∧ decode cX12_test 1 = .ok (.ldc 186, 2) ∧ decode cX12_test 3 = .ok (.invokevirtual 178, 3) ∧ decode cX12_test 6 = .ok (.istore_n 2, 1) ∧ decode cX12_test 7 = .ok (.iload_n 2, 1) ∧ decode cX12_test 8 = .ok (.bipush 24, 2) ∧ decode cX12_test 10 = .ok (.if_icmp .ge 9, 3) ∧ decode cX12_test 13 = .ok (.aload_n 0, 1) ∧ decode cX12_test 14 = .ok (.iconst 2, 1) ∧ decode cX12_test 15 = .ok (.invokevirtual 175, 3) := by decide +kernel
theorem e_X12_test_1 : decode cX12_test 18 = .ok (.ireturn, 1) ∧ decode cX12_test 19 = .ok (.aload_n 0, 1) ∧ decode cX12_test 20 = .ok (.getfield 7, 3) ∧ decode cX12_test 23 = .ok (.iload_n 1, 1) ∧ decode cX12_test 24 = .ok (.sipush 2000, 3) ∧ decode cX12_test 27 = .ok (.iload_n 2, 1) ∧ decode cX12_test 28 = .ok (.iadd, 1) ∧ decode cX12_test 29 = .ok (.iastore, 1) ∧ decode cX12_test 30 = .ok (.aload_n 0, 1) ∧ decode cX12_test 31 = .ok (.invokevirtual 169, 3) := by decide +kernel
theorem e_X12_test_2 : decode cX12_test 34 = .ok (.iload_n 2, 1) ∧ decode cX12_test 35 = .ok (.bipush 25, 2) ∧ decode cX12_test 37 = .ok (.if_icmp .ne 19, 3) ∧ decode cX12_test 40 = .ok (.aload_n 0, 1) ∧ decode cX12_test 41 = .ok (.bipush 6, 2) ∧ decode cX12_test 43 = .ok (.aload_n 0, 1) ∧ decode cX12_test 44 = .ok (.getfield 7, 3) ∧ decode cX12_test 47 = .ok (.iconst 3, 1) ∧ decode cX12_test 48 = .ok (.iaload, 1) ∧ decode cX12_test 49 = .ok (.iload_n 1, 1) := by decide +kernel
theorem e_X12_test_3 : decode cX12_test 50 = .ok (.iconst 1, 1) ∧ decode cX12_test 51 = .ok (.iadd, 1) ∧ decode cX12_test 52 = .ok (.invokevirtual 212, 3) ∧ decode cX12_test 55 = .ok (.ireturn, 1) ∧ decode cX12_test 56 = .ok (.aload_n 0, 1) ∧ decode cX12_test 57 = .ok (.iload_n 1, 1) ∧ decode cX12_test 58 = .ok (.iconst 1, 1) ∧ decode cX12_test 59 = .ok (.iadd, 1) ∧ decode cX12_test 60 = .ok (.invokevirtual 247, 3) ∧ decode cX12_test 63 = .ok (.ifCond .ne 5, 3) := by decide +kernel
theorem e_X12_test_4 : decode cX12_test 66 = .ok (.iconst 0, 1) ∧ decode cX12_test 67 = .ok (.ireturn, 1) ∧ decode cX12_test 68 = .ok (.iload_n 2, 1) ∧ decode cX12_test 69 = .ok (.bipush 26, 2) ∧ decode cX12_test 71 = .ok (.if_icmp .ne 5, 3) ∧ decode cX12_test 74 = .ok (.iconst 1, 1) ∧ decode cX12_test 75 = .ok (.ireturn, 1) ∧ decode cX12_test 76 = .ok (.aload_n 0, 1) ∧ decode cX12_test 77 = .ok (.bipush 60, 2) ∧ decode cX12_test 79 = .ok (.invokevirtual 172, 3) := by decide +kernel
theorem e_X12_test_5 : decode cX12_test 82 = .ok (.ifCond .ne 27, 3) ∧ decode cX12_test 85 = .ok (.aload_n 0, 1) ∧ decode cX12_test 86 = .ok (.bipush 62, 2) ∧ decode cX12_test 88 = .ok (.invokevirtual 172, 3) ∧ decode cX12_test 91 = .ok (.ifCond .ne 18, 3) ∧ decode cX12_test 94 = .ok (.aload_n 0, 1) ∧ decode cX12_test 95 = .ok (.bipush 61, 2) ∧ decode cX12_test 97 = .ok (.invokevirtual 172, 3) ∧ decode cX12_test 100 = .ok (.ifCond .ne 9, 3) ∧ decode cX12_test 103 = .ok (.aload_n 0, 1) := by decide +kernel
theorem e_X12_test_6 : decode cX12_test 104 = .ok (.iconst 2, 1) ∧ decode cX12_test 105 = .ok (.invokevirtual 175, 3) ∧ decode cX12_test 108 = .ok (.ireturn, 1) ∧ decode cX12_test 109 = .ok (.aload_n 0, 1) ∧ decode cX12_test 110 = .ok (.getfield 7, 3) ∧ decode cX12_test 113 = .ok (.iload_n 1, 1) ∧ decode cX12_test 114 = .ok (.iconst 5, 1) ∧ decode cX12_test 115 = .ok (.iadd, 1) ∧ decode cX12_test 116 = .ok (.aload_n 0, 1) ∧ decode cX12_test 117 = .ok (.getfield 135, 3) := by decide +kernel
theorem e_X12_test_7 : decode cX12_test 120 = .ok (.iastore, 1) ∧ decode cX12_test 121 = .ok (.aload_n 0, 1) ∧ decode cX12_test 122 = .ok (.invokevirtual 169, 3) ∧ decode cX12_test 125 = .ok (.aload_n 0, 1) ∧ decode cX12_test 126 = .ok (.iload_n 1, 1) ∧ decode cX12_test 127 = .ok (.iconst 2, 1) ∧ decode cX12_test 128 = .ok (.iadd, 1) ∧ decode cX12_test 129 = .ok (.iconst 0, 1) ∧ decode cX12_test 130 = .ok (.sipush 9999, 3) ∧ decode cX12_test 133 = .ok (.invokevirtual 199, 3) := by decide +kernel
theorem e_X12_test_8 : decode cX12_test 136 = .ok (.ireturn, 1) := by decide +kernel
theorem S_X12_test {G : Kg} {σ : Kmem} {Q : Int → Kmem → Prop} {l1 : Int}  (h : Run G WM M_X12_inWords 4 0 0 [vA G 0, vA G (-38)] σ (fun r1 s2 => (rI r1) ∧ ((24 ≤ r1 → (0 ≤ l1 ∧ l1 < 3598) ∧ Run G WM M_X12_ahead 1 0 0 [vA G 0] (kup s2 1 l1 (2000 + r1)) (fun r5 s6 => ((r1 ≠ 25 → Run G WM M_X12_kiteTo 7 0 0 [vA G 0, vI (l1 + 1)] s6 (fun r7 s8 => (rI r7) ∧ ((r7 ≠ 0 → ((r1 ≠ 26 → Run G WM M_X12_isSign 0 0 0 [vA G 0, vI 60] s8 (fun r10 s11 => (rI r10) ∧ ((r10 ≠ 0 → (0 ≤ l1 + 5 ∧ l1 + 5 < 3598) ∧ Run G WM M_X12_ahead 1 0 0 [vA G 0] (kup s11 1 (l1 + 5) (s11 0 15)) (fun r14 s15 => Run G WM M_X12_number 2 0 0 [vA G 0, vI (l1 + 2), vI 0, vI 9999] s15 (fun r16 s17 => (r16 = 0 ∨ r16 = 1) ∧ Q r16 s17))) ∧ (r10 = 0 → Run G WM M_X12_isSign 0 0 0 [vA G 0, vI 62] s11 (fun r19 s20 => (rI r19) ∧ ((r19 ≠ 0 → (0 ≤ l1 + 5 ∧ l1 + 5 < 3598) ∧ Run G WM M_X12_ahead 1 0 0 [vA G 0] (kup s20 1 (l1 + 5) (s20 0 15)) (fun r23 s24 => Run G WM M_X12_number 2 0 0 [vA G 0, vI (l1 + 2), vI 0, vI 9999] s24 (fun r25 s26 => (r25 = 0 ∨ r25 = 1) ∧ Q r25 s26))) ∧ (r19 = 0 → Run G WM M_X12_isSign 0 0 0 [vA G 0, vI 61] s20 (fun r28 s29 => (rI r28) ∧ ((r28 ≠ 0 → (0 ≤ l1 + 5 ∧ l1 + 5 < 3598) ∧ Run G WM M_X12_ahead 1 0 0 [vA G 0] (kup s29 1 (l1 + 5) (s29 0 15)) (fun r32 s33 => Run G WM M_X12_number 2 0 0 [vA G 0, vI (l1 + 2), vI 0, vI 9999] s33 (fun r34 s35 => (r34 = 0 ∨ r34 = 1) ∧ Q r34 s35))) ∧ (r28 = 0 → Run G WM M_X12_fails 0 0 0 [vA G 0, vI 2] s29 (fun r37 s38 => (r37 = 0 ∨ r37 = 1) ∧ Q r37 s38))))))))))) ∧ (r1 = 26 → Q 1 s8))) ∧ (r7 = 0 → Q 0 s8)))) ∧ (r1 = 25 → Run G WM M_X12_oldOne 6 0 0 [vA G 0, vI 6, vI (s6 1 3), vI (l1 + 1)] s6 (fun r40 s41 => (r40 = 0 ∨ r40 = 1) ∧ Q r40 s41))))) ∧ (r1 < 24 → Run G WM M_X12_fails 0 0 0 [vA G 0, vI 2] s2 (fun r43 s44 => (r43 = 0 ∨ r43 = 1) ∧ Q r43 s44))))) : Run G WM M_X12_test 8 0 0 [vA G 0, vI l1] σ Q := by
  refine Run.of (by decide +kernel) (by show (2 : Nat) ≤ 3; decide) ?_
  show Ex G WM M_X12_test 8 0 0 0 [(0, vA G 0), (1, vI l1)] [] σ Q
  refine R_aload_n e_X12_test_0.1 0 rfl ?_
  refine R_ldcS (i := 28) (-38) e_X12_test_0.2.1 rfl rfl ?_
  refine R_callV (mc := 0) (ms := 0) (mc' := 0) (ms' := 0) (M' := M_X12_inWords) (d' := 4) (as := [vA G (-38)]) (st := []) 12 1 e_X12_test_0.2.2.1 (kCVof m_X12_inWords l_X12_178) rfl (by decide) km_0 (by decide) (by decide) rfl rfl (by show (0 : Nat) ≤ 8; decide) ?_
  refine Run.mono h (fun r1 s2 h => ?_)
  refine R_eqs (st2 := [vI r1]) rfl rfl ?_
  refine R_istore_n (ls2 := [(2, vI r1), (0, vA G 0), (1, vI l1)]) e_X12_test_0.2.2.2.1 (by decide) rfl ?_
  refine R_iload_n e_X12_test_0.2.2.2.2.1 0 rfl ?_
  refine R_bipush e_X12_test_0.2.2.2.2.2.1 (by decide) ?_
  obtain ⟨q3, h⟩ := h
  refine R_icmp_ge 19 e_X12_test_0.2.2.2.2.2.2.1 (by decide) q3 (by decide) (fun q => ?_) (fun q => ?_)
  · replace h := h.1 q
    refine R_aload_n e_X12_test_1.2.1 1 rfl ?_
    refine R_getA 12 0 1 e_X12_test_1.2.2.1 f_X12_7 km_0 (fun _ _ => rfl) rm_0_0 (by decide) ?_
    refine R_iload_n e_X12_test_1.2.2.2.1 2 rfl ?_
    refine R_sipush e_X12_test_1.2.2.2.2.1 (by decide) ?_
    refine R_iload_n e_X12_test_1.2.2.2.2.2.1 0 rfl ?_
    refine R_iadd e_X12_test_1.2.2.2.2.2.2.1 ?_
    obtain ⟨q4, h⟩ := h
    refine R_iast 3598 WM_ok e_X12_test_1.2.2.2.2.2.2.2.1 kma_1 q4 ?_
    refine R_aload_n e_X12_test_1.2.2.2.2.2.2.2.2.1 1 rfl ?_
    refine R_callV (mc := 0) (ms := 0) (mc' := 0) (ms' := 0) (M' := M_X12_ahead) (d' := 1) (as := []) (st := []) 12 0 e_X12_test_1.2.2.2.2.2.2.2.2.2 (kCVof m_X12_ahead l_X12_169) rfl (by decide) km_0 (by decide) (by decide) rfl rfl (by show (0 : Nat) ≤ 8; decide) ?_
    refine Run.mono h (fun r5 s6 h => ?_)
    refine R_eqs (st2 := []) rfl rfl ?_
    refine R_iload_n e_X12_test_2.1 0 rfl ?_
    refine R_bipush e_X12_test_2.2.1 (by decide) ?_
    refine R_icmp_ne 56 e_X12_test_2.2.2.1 (by decide) q3 (by decide) (fun q => ?_) (fun q => ?_)
    · replace h := h.1 q
      refine R_aload_n e_X12_test_3.2.2.2.2.1 1 rfl ?_
      refine R_iload_n e_X12_test_3.2.2.2.2.2.1 2 rfl ?_
      refine R_iconst e_X12_test_3.2.2.2.2.2.2.1 ?_
      refine R_iadd e_X12_test_3.2.2.2.2.2.2.2.1 ?_
      refine R_callV (mc := 0) (ms := 0) (mc' := 0) (ms' := 0) (M' := M_X12_kiteTo) (d' := 7) (as := [vI (l1 + 1)]) (st := []) 12 1 e_X12_test_3.2.2.2.2.2.2.2.2.1 (kCVof m_X12_kiteTo l_X12_247) rfl (by decide) km_0 (by decide) (by decide) rfl rfl (by show (0 : Nat) ≤ 8; decide) ?_
      refine Run.mono h (fun r7 s8 h => ?_)
      refine R_eqs (st2 := [vI r7]) rfl rfl ?_
      obtain ⟨q9, h⟩ := h
      refine R_if_ne 68 e_X12_test_3.2.2.2.2.2.2.2.2.2 (by decide) q9  (fun q => ?_) (fun q => ?_)
      · replace h := h.1 q
        refine R_iload_n e_X12_test_4.2.2.1 0 rfl ?_
        refine R_bipush e_X12_test_4.2.2.2.1 (by decide) ?_
        refine R_icmp_ne 76 e_X12_test_4.2.2.2.2.1 (by decide) q3 (by decide) (fun q => ?_) (fun q => ?_)
        · replace h := h.1 q
          refine R_aload_n e_X12_test_4.2.2.2.2.2.2.2.1 1 rfl ?_
          refine R_bipush e_X12_test_4.2.2.2.2.2.2.2.2.1 (by decide) ?_
          refine R_callV (mc := 0) (ms := 0) (mc' := 0) (ms' := 0) (M' := M_X12_isSign) (d' := 0) (as := [vI 60]) (st := []) 12 1 e_X12_test_4.2.2.2.2.2.2.2.2.2 (kCVof m_X12_isSign l_X12_172) rfl (by decide) km_0 (by decide) (by decide) rfl rfl (by show (0 : Nat) ≤ 8; decide) ?_
          refine Run.mono h (fun r10 s11 h => ?_)
          refine R_eqs (st2 := [vI r10]) rfl rfl ?_
          obtain ⟨q12, h⟩ := h
          refine R_if_ne 109 e_X12_test_5.1 (by decide) q12  (fun q => ?_) (fun q => ?_)
          · replace h := h.1 q
            refine R_aload_n e_X12_test_6.2.2.2.1 1 rfl ?_
            refine R_getA 12 0 1 e_X12_test_6.2.2.2.2.1 f_X12_7 km_0 (fun _ _ => rfl) rm_0_0 (by decide) ?_
            refine R_iload_n e_X12_test_6.2.2.2.2.2.1 2 rfl ?_
            refine R_iconst e_X12_test_6.2.2.2.2.2.2.1 ?_
            refine R_iadd e_X12_test_6.2.2.2.2.2.2.2.1 ?_
            refine R_aload_n e_X12_test_6.2.2.2.2.2.2.2.2.1 1 rfl ?_
            refine R_getI 12 15 15 e_X12_test_6.2.2.2.2.2.2.2.2.2 f_X12_135 km_0 (fun _ _ => rfl) rfl ?_
            obtain ⟨q13, h⟩ := h
            refine R_iast 3598 WM_ok e_X12_test_7.1 kma_1 q13 ?_
            refine R_aload_n e_X12_test_7.2.1 1 rfl ?_
            refine R_callV (mc := 0) (ms := 0) (mc' := 0) (ms' := 0) (M' := M_X12_ahead) (d' := 1) (as := []) (st := []) 12 0 e_X12_test_7.2.2.1 (kCVof m_X12_ahead l_X12_169) rfl (by decide) km_0 (by decide) (by decide) rfl rfl (by show (0 : Nat) ≤ 8; decide) ?_
            refine Run.mono h (fun r14 s15 h => ?_)
            refine R_eqs (st2 := []) rfl rfl ?_
            refine R_aload_n e_X12_test_7.2.2.2.1 1 rfl ?_
            refine R_iload_n e_X12_test_7.2.2.2.2.1 2 rfl ?_
            refine R_iconst e_X12_test_7.2.2.2.2.2.1 ?_
            refine R_iadd e_X12_test_7.2.2.2.2.2.2.1 ?_
            refine R_iconst e_X12_test_7.2.2.2.2.2.2.2.1 ?_
            refine R_sipush e_X12_test_7.2.2.2.2.2.2.2.2.1 (by decide) ?_
            refine R_callV (mc := 0) (ms := 0) (mc' := 0) (ms' := 0) (M' := M_X12_number) (d' := 2) (as := [vI (l1 + 2), vI 0, vI 9999]) (st := []) 12 3 e_X12_test_7.2.2.2.2.2.2.2.2.2 (kCVof m_X12_number l_X12_199) rfl (by decide) km_0 (by decide) (by decide) rfl rfl (by show (0 : Nat) ≤ 8; decide) ?_
            refine Run.mono h (fun r16 s17 h => ?_)
            refine R_eqs (st2 := [vI r16]) rfl rfl ?_
            obtain ⟨q18, h⟩ := h
            exact R_zreturn e_X12_test_8 rfl q18 h
          · replace h := h.2 q
            refine R_aload_n e_X12_test_5.2.1 1 rfl ?_
            refine R_bipush e_X12_test_5.2.2.1 (by decide) ?_
            refine R_callV (mc := 0) (ms := 0) (mc' := 0) (ms' := 0) (M' := M_X12_isSign) (d' := 0) (as := [vI 62]) (st := []) 12 1 e_X12_test_5.2.2.2.1 (kCVof m_X12_isSign l_X12_172) rfl (by decide) km_0 (by decide) (by decide) rfl rfl (by show (0 : Nat) ≤ 8; decide) ?_
            refine Run.mono h (fun r19 s20 h => ?_)
            refine R_eqs (st2 := [vI r19]) rfl rfl ?_
            obtain ⟨q21, h⟩ := h
            refine R_if_ne 109 e_X12_test_5.2.2.2.2.1 (by decide) q21  (fun q => ?_) (fun q => ?_)
            · replace h := h.1 q
              refine R_aload_n e_X12_test_6.2.2.2.1 1 rfl ?_
              refine R_getA 12 0 1 e_X12_test_6.2.2.2.2.1 f_X12_7 km_0 (fun _ _ => rfl) rm_0_0 (by decide) ?_
              refine R_iload_n e_X12_test_6.2.2.2.2.2.1 2 rfl ?_
              refine R_iconst e_X12_test_6.2.2.2.2.2.2.1 ?_
              refine R_iadd e_X12_test_6.2.2.2.2.2.2.2.1 ?_
              refine R_aload_n e_X12_test_6.2.2.2.2.2.2.2.2.1 1 rfl ?_
              refine R_getI 12 15 15 e_X12_test_6.2.2.2.2.2.2.2.2.2 f_X12_135 km_0 (fun _ _ => rfl) rfl ?_
              obtain ⟨q22, h⟩ := h
              refine R_iast 3598 WM_ok e_X12_test_7.1 kma_1 q22 ?_
              refine R_aload_n e_X12_test_7.2.1 1 rfl ?_
              refine R_callV (mc := 0) (ms := 0) (mc' := 0) (ms' := 0) (M' := M_X12_ahead) (d' := 1) (as := []) (st := []) 12 0 e_X12_test_7.2.2.1 (kCVof m_X12_ahead l_X12_169) rfl (by decide) km_0 (by decide) (by decide) rfl rfl (by show (0 : Nat) ≤ 8; decide) ?_
              refine Run.mono h (fun r23 s24 h => ?_)
              refine R_eqs (st2 := []) rfl rfl ?_
              refine R_aload_n e_X12_test_7.2.2.2.1 1 rfl ?_
              refine R_iload_n e_X12_test_7.2.2.2.2.1 2 rfl ?_
              refine R_iconst e_X12_test_7.2.2.2.2.2.1 ?_
              refine R_iadd e_X12_test_7.2.2.2.2.2.2.1 ?_
              refine R_iconst e_X12_test_7.2.2.2.2.2.2.2.1 ?_
              refine R_sipush e_X12_test_7.2.2.2.2.2.2.2.2.1 (by decide) ?_
              refine R_callV (mc := 0) (ms := 0) (mc' := 0) (ms' := 0) (M' := M_X12_number) (d' := 2) (as := [vI (l1 + 2), vI 0, vI 9999]) (st := []) 12 3 e_X12_test_7.2.2.2.2.2.2.2.2.2 (kCVof m_X12_number l_X12_199) rfl (by decide) km_0 (by decide) (by decide) rfl rfl (by show (0 : Nat) ≤ 8; decide) ?_
              refine Run.mono h (fun r25 s26 h => ?_)
              refine R_eqs (st2 := [vI r25]) rfl rfl ?_
              obtain ⟨q27, h⟩ := h
              exact R_zreturn e_X12_test_8 rfl q27 h
            · replace h := h.2 q
              refine R_aload_n e_X12_test_5.2.2.2.2.2.1 1 rfl ?_
              refine R_bipush e_X12_test_5.2.2.2.2.2.2.1 (by decide) ?_
              refine R_callV (mc := 0) (ms := 0) (mc' := 0) (ms' := 0) (M' := M_X12_isSign) (d' := 0) (as := [vI 61]) (st := []) 12 1 e_X12_test_5.2.2.2.2.2.2.2.1 (kCVof m_X12_isSign l_X12_172) rfl (by decide) km_0 (by decide) (by decide) rfl rfl (by show (0 : Nat) ≤ 8; decide) ?_
              refine Run.mono h (fun r28 s29 h => ?_)
              refine R_eqs (st2 := [vI r28]) rfl rfl ?_
              obtain ⟨q30, h⟩ := h
              refine R_if_ne 109 e_X12_test_5.2.2.2.2.2.2.2.2.1 (by decide) q30  (fun q => ?_) (fun q => ?_)
              · replace h := h.1 q
                refine R_aload_n e_X12_test_6.2.2.2.1 1 rfl ?_
                refine R_getA 12 0 1 e_X12_test_6.2.2.2.2.1 f_X12_7 km_0 (fun _ _ => rfl) rm_0_0 (by decide) ?_
                refine R_iload_n e_X12_test_6.2.2.2.2.2.1 2 rfl ?_
                refine R_iconst e_X12_test_6.2.2.2.2.2.2.1 ?_
                refine R_iadd e_X12_test_6.2.2.2.2.2.2.2.1 ?_
                refine R_aload_n e_X12_test_6.2.2.2.2.2.2.2.2.1 1 rfl ?_
                refine R_getI 12 15 15 e_X12_test_6.2.2.2.2.2.2.2.2.2 f_X12_135 km_0 (fun _ _ => rfl) rfl ?_
                obtain ⟨q31, h⟩ := h
                refine R_iast 3598 WM_ok e_X12_test_7.1 kma_1 q31 ?_
                refine R_aload_n e_X12_test_7.2.1 1 rfl ?_
                refine R_callV (mc := 0) (ms := 0) (mc' := 0) (ms' := 0) (M' := M_X12_ahead) (d' := 1) (as := []) (st := []) 12 0 e_X12_test_7.2.2.1 (kCVof m_X12_ahead l_X12_169) rfl (by decide) km_0 (by decide) (by decide) rfl rfl (by show (0 : Nat) ≤ 8; decide) ?_
                refine Run.mono h (fun r32 s33 h => ?_)
                refine R_eqs (st2 := []) rfl rfl ?_
                refine R_aload_n e_X12_test_7.2.2.2.1 1 rfl ?_
                refine R_iload_n e_X12_test_7.2.2.2.2.1 2 rfl ?_
                refine R_iconst e_X12_test_7.2.2.2.2.2.1 ?_
                refine R_iadd e_X12_test_7.2.2.2.2.2.2.1 ?_
                refine R_iconst e_X12_test_7.2.2.2.2.2.2.2.1 ?_
                refine R_sipush e_X12_test_7.2.2.2.2.2.2.2.2.1 (by decide) ?_
                refine R_callV (mc := 0) (ms := 0) (mc' := 0) (ms' := 0) (M' := M_X12_number) (d' := 2) (as := [vI (l1 + 2), vI 0, vI 9999]) (st := []) 12 3 e_X12_test_7.2.2.2.2.2.2.2.2.2 (kCVof m_X12_number l_X12_199) rfl (by decide) km_0 (by decide) (by decide) rfl rfl (by show (0 : Nat) ≤ 8; decide) ?_
                refine Run.mono h (fun r34 s35 h => ?_)
                refine R_eqs (st2 := [vI r34]) rfl rfl ?_
                obtain ⟨q36, h⟩ := h
                exact R_zreturn e_X12_test_8 rfl q36 h
              · replace h := h.2 q
                refine R_aload_n e_X12_test_5.2.2.2.2.2.2.2.2.2 1 rfl ?_
                refine R_iconst e_X12_test_6.1 ?_
                refine R_callV (mc := 0) (ms := 0) (mc' := 0) (ms' := 0) (M' := M_X12_fails) (d' := 0) (as := [vI 2]) (st := []) 12 1 e_X12_test_6.2.1 (kCVof m_X12_fails l_X12_175) rfl (by decide) km_0 (by decide) (by decide) rfl rfl (by show (0 : Nat) ≤ 8; decide) ?_
                refine Run.mono h (fun r37 s38 h => ?_)
                refine R_eqs (st2 := [vI r37]) rfl rfl ?_
                obtain ⟨q39, h⟩ := h
                exact R_zreturn e_X12_test_6.2.2.1 rfl q39 h
        · replace h := h.2 q
          refine R_iconst e_X12_test_4.2.2.2.2.2.1 ?_
          exact R_zreturn e_X12_test_4.2.2.2.2.2.2.1 rfl (Or.inr rfl) h
      · replace h := h.2 q
        refine R_iconst e_X12_test_4.1 ?_
        exact R_zreturn e_X12_test_4.2.1 rfl (Or.inl rfl) h
    · replace h := h.2 q
      refine R_aload_n e_X12_test_2.2.2.2.1 1 rfl ?_
      refine R_bipush e_X12_test_2.2.2.2.2.1 (by decide) ?_
      refine R_aload_n e_X12_test_2.2.2.2.2.2.1 1 rfl ?_
      refine R_getA 12 0 1 e_X12_test_2.2.2.2.2.2.2.1 f_X12_7 km_0 (fun _ _ => rfl) rm_0_0 (by decide) ?_
      refine R_iconst e_X12_test_2.2.2.2.2.2.2.2.1 ?_
      refine R_iald 3598 e_X12_test_2.2.2.2.2.2.2.2.2.1 kma_1 (by decide) ?_
      refine R_iload_n e_X12_test_2.2.2.2.2.2.2.2.2.2 2 rfl ?_
      refine R_iconst e_X12_test_3.1 ?_
      refine R_iadd e_X12_test_3.2.1 ?_
      refine R_callV (mc := 0) (ms := 0) (mc' := 0) (ms' := 0) (M' := M_X12_oldOne) (d' := 6) (as := [vI 6, vI (s6 1 3), vI (l1 + 1)]) (st := []) 12 3 e_X12_test_3.2.2.1 (kCVof m_X12_oldOne l_X12_212) rfl (by decide) km_0 (by decide) (by decide) rfl rfl (by show (0 : Nat) ≤ 8; decide) ?_
      refine Run.mono h (fun r40 s41 h => ?_)
      refine R_eqs (st2 := [vI r40]) rfl rfl ?_
      obtain ⟨q42, h⟩ := h
      exact R_zreturn e_X12_test_3.2.2.2.1 rfl q42 h
  · replace h := h.2 q
    refine R_aload_n e_X12_test_0.2.2.2.2.2.2.2.1 1 rfl ?_
    refine R_iconst e_X12_test_0.2.2.2.2.2.2.2.2.1 ?_
    refine R_callV (mc := 0) (ms := 0) (mc' := 0) (ms' := 0) (M' := M_X12_fails) (d' := 0) (as := [vI 2]) (st := []) 12 1 e_X12_test_0.2.2.2.2.2.2.2.2.2 (kCVof m_X12_fails l_X12_175) rfl (by decide) km_0 (by decide) (by decide) rfl rfl (by show (0 : Nat) ≤ 8; decide) ?_
    refine Run.mono h (fun r43 s44 h => ?_)
    refine R_eqs (st2 := [vI r43]) rfl rfl ?_
    obtain ⟨q45, h⟩ := h
    exact R_zreturn e_X12_test_1.1 rfl q45 h
/-! KiteLandModel.seasonOrder(II)Z -/
theorem e_X12_seasonOrder_0 : decode cX12_seasonOrder 0 = .ok (.iload_n 1, 1) ∧ decode cX12_seasonOrder 1 = .ok (.tableswitch 106 15 21 #[43, 64, 92, 92, 92, 100, 53], 43) ∧ decode cX12_seasonOrder 44 = .ok (.aload_n 0, 1) ∧ decode cX12_seasonOrder 45 = .ok (.iload_n 2, 1) ∧ decode cX12_seasonOrder 46 = .ok (.iconst 1, 1) ∧ decode cX12_seasonOrder 47 = .ok (.iadd, 1) ∧ decode cX12_seasonOrder 48 = .ok (.iconst 1, 1) ∧ decode cX12_seasonOrder 49 = .ok (.iconst 3, 1) ∧ decode cX12_seasonOrder 50 = .ok (.invokevirtual 199, 3) ∧ decode cX12_seasonOrder 53 = .ok (.ireturn, 1) := by decide +kernel
theorem e_X12_seasonOrder_1 : decode cX12_seasonOrder 54 = .ok (.aload_n 0, 1) ∧ decode cX12_seasonOrder 55 = .ok (.iload_n 2, 1) ∧ decode cX12_seasonOrder 56 = .ok (.iconst 1, 1) ∧ decode cX12_seasonOrder 57 = .ok (.iadd, 1) ∧ decode cX12_seasonOrder 58 = .ok (.iconst 1, 1) ∧ decode cX12_seasonOrder 59 = .ok (.bipush 99, 2) ∧ decode cX12_seasonOrder 61 = .ok (.invokevirtual 199, 3) ∧ decode cX12_seasonOrder 64 = .ok (.ireturn, 1) ∧ decode cX12_seasonOrder 65 = .ok (.aload_n 0, 1) ∧ decode cX12_seasonOrder 66 = .ok (.iload_n 2, 1) := by decide +kernel
theorem e_X12_seasonOrder_2 : decode cX12_seasonOrder 67 = .ok (.iconst 1, 1) ∧ decode cX12_seasonOrder 68 = .ok (.iadd, 1) ∧ decode cX12_seasonOrder 69 = .ok (.invokevirtual 247, 3) ∧ decode cX12_seasonOrder 72 = .ok (.ifCond .eq 19, 3) ∧ decode cX12_seasonOrder 75 = .ok (.aload_n 0, 1) ∧ decode cX12_seasonOrder 76 = .ok (.iload_n 2, 1) ∧ decode cX12_seasonOrder 77 = .ok (.iconst 2, 1) ∧ decode cX12_seasonOrder 78 = .ok (.iadd, 1) ∧ decode cX12_seasonOrder 79 = .ok (.iconst 1, 1) ∧ decode cX12_seasonOrder 80 = .ok (.iconst 4, 1) := by decide +kernel
theorem e_X12_seasonOrder_3 : decode cX12_seasonOrder 81 = .ok (.invokevirtual 199, 3) ∧ decode cX12_seasonOrder 84 = .ok (.ifCond .eq 7, 3) ∧ decode cX12_seasonOrder 87 = .ok (.iconst 1, 1) ∧ decode cX12_seasonOrder 88 = .ok (.goto 4, 3) ∧ decode cX12_seasonOrder 91 = .ok (.iconst 0, 1) ∧ decode cX12_seasonOrder 92 = .ok (.ireturn, 1) ∧ decode cX12_seasonOrder 93 = .ok (.aload_n 0, 1) ∧ decode cX12_seasonOrder 94 = .ok (.iload_n 2, 1) ∧ decode cX12_seasonOrder 95 = .ok (.iconst 1, 1) ∧ decode cX12_seasonOrder 96 = .ok (.iadd, 1) := by decide +kernel
theorem e_X12_seasonOrder_4 : decode cX12_seasonOrder 97 = .ok (.invokevirtual 247, 3) ∧ decode cX12_seasonOrder 100 = .ok (.ireturn, 1) ∧ decode cX12_seasonOrder 101 = .ok (.aload_n 0, 1) ∧ decode cX12_seasonOrder 102 = .ok (.iload_n 2, 1) ∧ decode cX12_seasonOrder 103 = .ok (.invokevirtual 250, 3) ∧ decode cX12_seasonOrder 106 = .ok (.ireturn, 1) ∧ decode cX12_seasonOrder 107 = .ok (.iconst 1, 1) ∧ decode cX12_seasonOrder 108 = .ok (.ireturn, 1) := by decide +kernel
theorem S_X12_seasonOrder {G : Kg} {σ : Kmem} {Q : Int → Kmem → Prop} {l1 l2 : Int}  (h : (rI l1) ∧ ((l1 = 15 → Run G WM M_X12_number 2 0 0 [vA G 0, vI (l2 + 1), vI 1, vI 3] σ (fun r2 s3 => (r2 = 0 ∨ r2 = 1) ∧ Q r2 s3)) ∧ (l1 = 16 → Run G WM M_X12_kiteTo 7 0 0 [vA G 0, vI (l2 + 1)] σ (fun r5 s6 => (rI r5) ∧ ((r5 = 0 → Q 0 s6) ∧ (r5 ≠ 0 → Run G WM M_X12_number 2 0 0 [vA G 0, vI (l2 + 2), vI 1, vI 4] s6 (fun r8 s9 => (rI r8) ∧ ((r8 = 0 → Q 0 s9) ∧ (r8 ≠ 0 → Q 1 s9))))))) ∧ (l1 = 17 → Run G WM M_X12_kiteTo 7 0 0 [vA G 0, vI (l2 + 1)] σ (fun r11 s12 => (r11 = 0 ∨ r11 = 1) ∧ Q r11 s12)) ∧ (l1 = 18 → Run G WM M_X12_kiteTo 7 0 0 [vA G 0, vI (l2 + 1)] σ (fun r14 s15 => (r14 = 0 ∨ r14 = 1) ∧ Q r14 s15)) ∧ (l1 = 19 → Run G WM M_X12_kiteTo 7 0 0 [vA G 0, vI (l2 + 1)] σ (fun r17 s18 => (r17 = 0 ∨ r17 = 1) ∧ Q r17 s18)) ∧ (l1 = 20 → Run G WM M_X12_test 8 0 0 [vA G 0, vI l2] σ (fun r20 s21 => (r20 = 0 ∨ r20 = 1) ∧ Q r20 s21)) ∧ (l1 = 21 → Run G WM M_X12_number 2 0 0 [vA G 0, vI (l2 + 1), vI 1, vI 99] σ (fun r23 s24 => (r23 = 0 ∨ r23 = 1) ∧ Q r23 s24)) ∧ (l1 < 15 ∨ 21 < l1 → Q 1 σ))) : Run G WM M_X12_seasonOrder 9 0 0 [vA G 0, vI l1, vI l2] σ Q := by
  refine Run.of (by decide +kernel) (by show (3 : Nat) ≤ 3; decide) ?_
  show Ex G WM M_X12_seasonOrder 9 0 0 0 [(0, vA G 0), (1, vI l1), (2, vI l2)] [] σ Q
  refine R_iload_n e_X12_seasonOrder_0.1 1 rfl ?_
  obtain ⟨q1, h⟩ := h
  by_cases t15 : l1 = 15
  · refine R_tableIn 44 e_X12_seasonOrder_0.2.1 q1 (by omega) (by omega) (off := 43) (by rw [t15]; rfl) (by decide) ?_
    replace h := h.1 t15
    refine R_aload_n e_X12_seasonOrder_0.2.2.1 0 rfl ?_
    refine R_iload_n e_X12_seasonOrder_0.2.2.2.1 2 rfl ?_
    refine R_iconst e_X12_seasonOrder_0.2.2.2.2.1 ?_
    refine R_iadd e_X12_seasonOrder_0.2.2.2.2.2.1 ?_
    refine R_iconst e_X12_seasonOrder_0.2.2.2.2.2.2.1 ?_
    refine R_iconst e_X12_seasonOrder_0.2.2.2.2.2.2.2.1 ?_
    refine R_callV (mc := 0) (ms := 0) (mc' := 0) (ms' := 0) (M' := M_X12_number) (d' := 2) (as := [vI (l2 + 1), vI 1, vI 3]) (st := []) 12 3 e_X12_seasonOrder_0.2.2.2.2.2.2.2.2.1 (kCVof m_X12_number l_X12_199) rfl (by decide) km_0 (by decide) (by decide) rfl rfl (by show (0 : Nat) ≤ 8; decide) ?_
    refine Run.mono h (fun r2 s3 h => ?_)
    refine R_eqs (st2 := [vI r2]) rfl rfl ?_
    obtain ⟨q4, h⟩ := h
    exact R_zreturn e_X12_seasonOrder_0.2.2.2.2.2.2.2.2.2 rfl q4 h
  by_cases t16 : l1 = 16
  · refine R_tableIn 65 e_X12_seasonOrder_0.2.1 q1 (by omega) (by omega) (off := 64) (by rw [t16]; rfl) (by decide) ?_
    replace h := h.2.1 t16
    refine R_aload_n e_X12_seasonOrder_1.2.2.2.2.2.2.2.2.1 0 rfl ?_
    refine R_iload_n e_X12_seasonOrder_1.2.2.2.2.2.2.2.2.2 2 rfl ?_
    refine R_iconst e_X12_seasonOrder_2.1 ?_
    refine R_iadd e_X12_seasonOrder_2.2.1 ?_
    refine R_callV (mc := 0) (ms := 0) (mc' := 0) (ms' := 0) (M' := M_X12_kiteTo) (d' := 7) (as := [vI (l2 + 1)]) (st := []) 12 1 e_X12_seasonOrder_2.2.2.1 (kCVof m_X12_kiteTo l_X12_247) rfl (by decide) km_0 (by decide) (by decide) rfl rfl (by show (0 : Nat) ≤ 8; decide) ?_
    refine Run.mono h (fun r5 s6 h => ?_)
    refine R_eqs (st2 := [vI r5]) rfl rfl ?_
    obtain ⟨q7, h⟩ := h
    refine R_if_eq 91 e_X12_seasonOrder_2.2.2.2.1 (by decide) q7  (fun q => ?_) (fun q => ?_)
    · replace h := h.1 q
      refine R_iconst e_X12_seasonOrder_3.2.2.2.2.1 ?_
      exact R_zreturn e_X12_seasonOrder_3.2.2.2.2.2.1 rfl (Or.inl rfl) h
    · replace h := h.2 q
      refine R_aload_n e_X12_seasonOrder_2.2.2.2.2.1 0 rfl ?_
      refine R_iload_n e_X12_seasonOrder_2.2.2.2.2.2.1 2 rfl ?_
      refine R_iconst e_X12_seasonOrder_2.2.2.2.2.2.2.1 ?_
      refine R_iadd e_X12_seasonOrder_2.2.2.2.2.2.2.2.1 ?_
      refine R_iconst e_X12_seasonOrder_2.2.2.2.2.2.2.2.2.1 ?_
      refine R_iconst e_X12_seasonOrder_2.2.2.2.2.2.2.2.2.2 ?_
      refine R_callV (mc := 0) (ms := 0) (mc' := 0) (ms' := 0) (M' := M_X12_number) (d' := 2) (as := [vI (l2 + 2), vI 1, vI 4]) (st := []) 12 3 e_X12_seasonOrder_3.1 (kCVof m_X12_number l_X12_199) rfl (by decide) km_0 (by decide) (by decide) rfl rfl (by show (0 : Nat) ≤ 8; decide) ?_
      refine Run.mono h (fun r8 s9 h => ?_)
      refine R_eqs (st2 := [vI r8]) rfl rfl ?_
      obtain ⟨q10, h⟩ := h
      refine R_if_eq 91 e_X12_seasonOrder_3.2.1 (by decide) q10  (fun q => ?_) (fun q => ?_)
      · replace h := h.1 q
        refine R_iconst e_X12_seasonOrder_3.2.2.2.2.1 ?_
        exact R_zreturn e_X12_seasonOrder_3.2.2.2.2.2.1 rfl (Or.inl rfl) h
      · replace h := h.2 q
        refine R_iconst e_X12_seasonOrder_3.2.2.1 ?_
        refine R_goto 92 e_X12_seasonOrder_3.2.2.2.1 (by decide) ?_
        exact R_zreturn e_X12_seasonOrder_3.2.2.2.2.2.1 rfl (Or.inr rfl) h
  by_cases t17 : l1 = 17
  · refine R_tableIn 93 e_X12_seasonOrder_0.2.1 q1 (by omega) (by omega) (off := 92) (by rw [t17]; rfl) (by decide) ?_
    replace h := h.2.2.1 t17
    refine R_aload_n e_X12_seasonOrder_3.2.2.2.2.2.2.1 0 rfl ?_
    refine R_iload_n e_X12_seasonOrder_3.2.2.2.2.2.2.2.1 2 rfl ?_
    refine R_iconst e_X12_seasonOrder_3.2.2.2.2.2.2.2.2.1 ?_
    refine R_iadd e_X12_seasonOrder_3.2.2.2.2.2.2.2.2.2 ?_
    refine R_callV (mc := 0) (ms := 0) (mc' := 0) (ms' := 0) (M' := M_X12_kiteTo) (d' := 7) (as := [vI (l2 + 1)]) (st := []) 12 1 e_X12_seasonOrder_4.1 (kCVof m_X12_kiteTo l_X12_247) rfl (by decide) km_0 (by decide) (by decide) rfl rfl (by show (0 : Nat) ≤ 8; decide) ?_
    refine Run.mono h (fun r11 s12 h => ?_)
    refine R_eqs (st2 := [vI r11]) rfl rfl ?_
    obtain ⟨q13, h⟩ := h
    exact R_zreturn e_X12_seasonOrder_4.2.1 rfl q13 h
  by_cases t18 : l1 = 18
  · refine R_tableIn 93 e_X12_seasonOrder_0.2.1 q1 (by omega) (by omega) (off := 92) (by rw [t18]; rfl) (by decide) ?_
    replace h := h.2.2.2.1 t18
    refine R_aload_n e_X12_seasonOrder_3.2.2.2.2.2.2.1 0 rfl ?_
    refine R_iload_n e_X12_seasonOrder_3.2.2.2.2.2.2.2.1 2 rfl ?_
    refine R_iconst e_X12_seasonOrder_3.2.2.2.2.2.2.2.2.1 ?_
    refine R_iadd e_X12_seasonOrder_3.2.2.2.2.2.2.2.2.2 ?_
    refine R_callV (mc := 0) (ms := 0) (mc' := 0) (ms' := 0) (M' := M_X12_kiteTo) (d' := 7) (as := [vI (l2 + 1)]) (st := []) 12 1 e_X12_seasonOrder_4.1 (kCVof m_X12_kiteTo l_X12_247) rfl (by decide) km_0 (by decide) (by decide) rfl rfl (by show (0 : Nat) ≤ 8; decide) ?_
    refine Run.mono h (fun r14 s15 h => ?_)
    refine R_eqs (st2 := [vI r14]) rfl rfl ?_
    obtain ⟨q16, h⟩ := h
    exact R_zreturn e_X12_seasonOrder_4.2.1 rfl q16 h
  by_cases t19 : l1 = 19
  · refine R_tableIn 93 e_X12_seasonOrder_0.2.1 q1 (by omega) (by omega) (off := 92) (by rw [t19]; rfl) (by decide) ?_
    replace h := h.2.2.2.2.1 t19
    refine R_aload_n e_X12_seasonOrder_3.2.2.2.2.2.2.1 0 rfl ?_
    refine R_iload_n e_X12_seasonOrder_3.2.2.2.2.2.2.2.1 2 rfl ?_
    refine R_iconst e_X12_seasonOrder_3.2.2.2.2.2.2.2.2.1 ?_
    refine R_iadd e_X12_seasonOrder_3.2.2.2.2.2.2.2.2.2 ?_
    refine R_callV (mc := 0) (ms := 0) (mc' := 0) (ms' := 0) (M' := M_X12_kiteTo) (d' := 7) (as := [vI (l2 + 1)]) (st := []) 12 1 e_X12_seasonOrder_4.1 (kCVof m_X12_kiteTo l_X12_247) rfl (by decide) km_0 (by decide) (by decide) rfl rfl (by show (0 : Nat) ≤ 8; decide) ?_
    refine Run.mono h (fun r17 s18 h => ?_)
    refine R_eqs (st2 := [vI r17]) rfl rfl ?_
    obtain ⟨q19, h⟩ := h
    exact R_zreturn e_X12_seasonOrder_4.2.1 rfl q19 h
  by_cases t20 : l1 = 20
  · refine R_tableIn 101 e_X12_seasonOrder_0.2.1 q1 (by omega) (by omega) (off := 100) (by rw [t20]; rfl) (by decide) ?_
    replace h := h.2.2.2.2.2.1 t20
    refine R_aload_n e_X12_seasonOrder_4.2.2.1 0 rfl ?_
    refine R_iload_n e_X12_seasonOrder_4.2.2.2.1 2 rfl ?_
    refine R_callV (mc := 0) (ms := 0) (mc' := 0) (ms' := 0) (M' := M_X12_test) (d' := 8) (as := [vI l2]) (st := []) 12 1 e_X12_seasonOrder_4.2.2.2.2.1 (kCVof m_X12_test l_X12_250) rfl (by decide) km_0 (by decide) (by decide) rfl rfl (by show (0 : Nat) ≤ 8; decide) ?_
    refine Run.mono h (fun r20 s21 h => ?_)
    refine R_eqs (st2 := [vI r20]) rfl rfl ?_
    obtain ⟨q22, h⟩ := h
    exact R_zreturn e_X12_seasonOrder_4.2.2.2.2.2.1 rfl q22 h
  by_cases t21 : l1 = 21
  · refine R_tableIn 54 e_X12_seasonOrder_0.2.1 q1 (by omega) (by omega) (off := 53) (by rw [t21]; rfl) (by decide) ?_
    replace h := h.2.2.2.2.2.2.1 t21
    refine R_aload_n e_X12_seasonOrder_1.1 0 rfl ?_
    refine R_iload_n e_X12_seasonOrder_1.2.1 2 rfl ?_
    refine R_iconst e_X12_seasonOrder_1.2.2.1 ?_
    refine R_iadd e_X12_seasonOrder_1.2.2.2.1 ?_
    refine R_iconst e_X12_seasonOrder_1.2.2.2.2.1 ?_
    refine R_bipush e_X12_seasonOrder_1.2.2.2.2.2.1 (by decide) ?_
    refine R_callV (mc := 0) (ms := 0) (mc' := 0) (ms' := 0) (M' := M_X12_number) (d' := 2) (as := [vI (l2 + 1), vI 1, vI 99]) (st := []) 12 3 e_X12_seasonOrder_1.2.2.2.2.2.2.1 (kCVof m_X12_number l_X12_199) rfl (by decide) km_0 (by decide) (by decide) rfl rfl (by show (0 : Nat) ≤ 8; decide) ?_
    refine Run.mono h (fun r23 s24 h => ?_)
    refine R_eqs (st2 := [vI r23]) rfl rfl ?_
    obtain ⟨q25, h⟩ := h
    exact R_zreturn e_X12_seasonOrder_1.2.2.2.2.2.2.2.1 rfl q25 h
  refine R_tableOut 107 e_X12_seasonOrder_0.2.1 q1 (by omega) (by decide) ?_
  replace h := h.2.2.2.2.2.2.2 (by omega)
  refine R_iconst e_X12_seasonOrder_4.2.2.2.2.2.2.1 ?_
  exact R_zreturn e_X12_seasonOrder_4.2.2.2.2.2.2.2 rfl (Or.inr rfl) h
/-! KiteLandModel.seasonStep()Z -/
theorem e_X12_seasonStep_0 : decode cX12_seasonStep 0 = .ok (.aload_n 0, 1) ∧ decode cX12_seasonStep 1 = .ok (.ldc 186, 2) ∧ decode cX12_seasonStep 3 = .ok (.invokevirtual 178, 3) ∧ decode cX12_seasonStep 6 = .ok (.istore_n 1, 1) ∧ decode cX12_seasonStep 7 = .ok (.aload_n 0, 1) ∧ decode cX12_seasonStep 8 = .ok (.getfield 7, 3) ∧ decode cX12_seasonStep 11 = .ok (.sipush 2064, 3) ∧ decode cX12_seasonStep 14 = .ok (.iaload, 1) ∧ decode cX12_seasonStep 15 = .ok (.istore_n 2, 1) ∧ decode cX12_seasonStep 16 = .ok (.sipush 2206, 3) := by decide +kernel
theorem e_X12_seasonStep_1 : decode cX12_seasonStep 19 = .ok (.bipush 6, 2) ∧ decode cX12_seasonStep 21 = .ok (.iload_n 2, 1) ∧ decode cX12_seasonStep 22 = .ok (.imul, 1) ∧ decode cX12_seasonStep 23 = .ok (.iadd, 1) ∧ decode cX12_seasonStep 24 = .ok (.istore_n 3, 1) ∧ decode cX12_seasonStep 25 = .ok (.iload_n 1, 1) ∧ decode cX12_seasonStep 26 = .ok (.bipush 20, 2) ∧ decode cX12_seasonStep 28 = .ok (.if_icmp .eq 9, 3) ∧ decode cX12_seasonStep 31 = .ok (.iload_n 1, 1) ∧ decode cX12_seasonStep 32 = .ok (.bipush 21, 2) := by decide +kernel
theorem e_X12_seasonStep_2 : decode cX12_seasonStep 34 = .ok (.if_icmp .ne 7, 3) ∧ decode cX12_seasonStep 37 = .ok (.iconst 1, 1) ∧ decode cX12_seasonStep 38 = .ok (.goto 4, 3) ∧ decode cX12_seasonStep 41 = .ok (.iconst 0, 1) ∧ decode cX12_seasonStep 42 = .ok (.istore 4, 2) ∧ decode cX12_seasonStep 44 = .ok (.iload_n 1, 1) ∧ decode cX12_seasonStep 45 = .ok (.bipush 15, 2) ∧ decode cX12_seasonStep 47 = .ok (.if_icmp .lt 22, 3) ∧ decode cX12_seasonStep 50 = .ok (.iload_n 1, 1) ∧ decode cX12_seasonStep 51 = .ok (.bipush 23, 2) := by decide +kernel
theorem e_X12_seasonStep_3 : decode cX12_seasonStep 53 = .ok (.if_icmp .gt 16, 3) ∧ decode cX12_seasonStep 56 = .ok (.iload_n 1, 1) ∧ decode cX12_seasonStep 57 = .ok (.bipush 22, 2) ∧ decode cX12_seasonStep 59 = .ok (.if_icmp .ne 16, 3) ∧ decode cX12_seasonStep 62 = .ok (.aload_n 0, 1) ∧ decode cX12_seasonStep 63 = .ok (.getfield 253, 3) ∧ decode cX12_seasonStep 66 = .ok (.ifCond .ne 9, 3) ∧ decode cX12_seasonStep 69 = .ok (.aload_n 0, 1) ∧ decode cX12_seasonStep 70 = .ok (.iconst 2, 1) ∧ decode cX12_seasonStep 71 = .ok (.invokevirtual 175, 3) := by decide +kernel
theorem e_X12_seasonStep_4 : decode cX12_seasonStep 74 = .ok (.ireturn, 1) ∧ decode cX12_seasonStep 75 = .ok (.iload_n 1, 1) ∧ decode cX12_seasonStep 76 = .ok (.bipush 22, 2) ∧ decode cX12_seasonStep 78 = .ok (.if_icmp .eq 19, 3) ∧ decode cX12_seasonStep 81 = .ok (.aload_n 0, 1) ∧ decode cX12_seasonStep 82 = .ok (.getfield 256, 3) ∧ decode cX12_seasonStep 85 = .ok (.bipush 30, 2) ∧ decode cX12_seasonStep 87 = .ok (.if_icmp .ne 10, 3) ∧ decode cX12_seasonStep 90 = .ok (.aload_n 0, 1) ∧ decode cX12_seasonStep 91 = .ok (.bipush 6, 2) := by decide +kernel
theorem e_X12_seasonStep_5 : decode cX12_seasonStep 93 = .ok (.invokevirtual 175, 3) ∧ decode cX12_seasonStep 96 = .ok (.ireturn, 1) ∧ decode cX12_seasonStep 97 = .ok (.iload 4, 2) ∧ decode cX12_seasonStep 99 = .ok (.ifCond .eq 18, 3) ∧ decode cX12_seasonStep 102 = .ok (.aload_n 0, 1) ∧ decode cX12_seasonStep 103 = .ok (.getfield 253, 3) ∧ decode cX12_seasonStep 106 = .ok (.iconst 3, 1) ∧ decode cX12_seasonStep 107 = .ok (.if_icmp .ne 10, 3) ∧ decode cX12_seasonStep 110 = .ok (.aload_n 0, 1) ∧ decode cX12_seasonStep 111 = .ok (.bipush 7, 2) := by decide +kernel
theorem e_X12_seasonStep_6 : decode cX12_seasonStep 113 = .ok (.invokevirtual 175, 3) ∧ decode cX12_seasonStep 116 = .ok (.ireturn, 1) ∧ decode cX12_seasonStep 117 = .ok (.aload_n 0, 1) ∧ decode cX12_seasonStep 118 = .ok (.dup, 1) ∧ decode cX12_seasonStep 119 = .ok (.getfield 256, 3) ∧ decode cX12_seasonStep 122 = .ok (.iload_n 1, 1) ∧ decode cX12_seasonStep 123 = .ok (.bipush 22, 2) ∧ decode cX12_seasonStep 125 = .ok (.if_icmp .ne 7, 3) ∧ decode cX12_seasonStep 128 = .ok (.iconst 0, 1) ∧ decode cX12_seasonStep 129 = .ok (.goto 4, 3) := by decide +kernel
theorem e_X12_seasonStep_7 : decode cX12_seasonStep 132 = .ok (.iconst 1, 1) ∧ decode cX12_seasonStep 133 = .ok (.iadd, 1) ∧ decode cX12_seasonStep 134 = .ok (.putfield 256, 3) ∧ decode cX12_seasonStep 137 = .ok (.aload_n 0, 1) ∧ decode cX12_seasonStep 138 = .ok (.getfield 7, 3) ∧ decode cX12_seasonStep 141 = .ok (.iload_n 3, 1) ∧ decode cX12_seasonStep 142 = .ok (.iload_n 1, 1) ∧ decode cX12_seasonStep 143 = .ok (.iastore, 1) ∧ decode cX12_seasonStep 144 = .ok (.iconst 1, 1) ∧ decode cX12_seasonStep 145 = .ok (.istore 5, 2) := by decide +kernel
theorem e_X12_seasonStep_8 : decode cX12_seasonStep 147 = .ok (.iload 5, 2) ∧ decode cX12_seasonStep 149 = .ok (.bipush 6, 2) ∧ decode cX12_seasonStep 151 = .ok (.if_icmp .ge 19, 3) ∧ decode cX12_seasonStep 154 = .ok (.aload_n 0, 1) ∧ decode cX12_seasonStep 155 = .ok (.getfield 7, 3) ∧ decode cX12_seasonStep 158 = .ok (.iload_n 3, 1) ∧ decode cX12_seasonStep 159 = .ok (.iload 5, 2) ∧ decode cX12_seasonStep 161 = .ok (.iadd, 1) ∧ decode cX12_seasonStep 162 = .ok (.iconst 0, 1) ∧ decode cX12_seasonStep 163 = .ok (.iastore, 1) := by decide +kernel
theorem e_X12_seasonStep_9 : decode cX12_seasonStep 164 = .ok (.iinc 5 1, 3) ∧ decode cX12_seasonStep 167 = .ok (.goto (-20), 3) ∧ decode cX12_seasonStep 170 = .ok (.aload_n 0, 1) ∧ decode cX12_seasonStep 171 = .ok (.getfield 7, 3) ∧ decode cX12_seasonStep 174 = .ok (.sipush 2064, 3) ∧ decode cX12_seasonStep 177 = .ok (.dup2, 1) ∧ decode cX12_seasonStep 178 = .ok (.iaload, 1) ∧ decode cX12_seasonStep 179 = .ok (.iconst 1, 1) ∧ decode cX12_seasonStep 180 = .ok (.iadd, 1) ∧ decode cX12_seasonStep 181 = .ok (.iastore, 1) := by decide +kernel
theorem e_X12_seasonStep_10 : decode cX12_seasonStep 182 = .ok (.aload_n 0, 1) ∧ decode cX12_seasonStep 183 = .ok (.invokevirtual 169, 3) ∧ decode cX12_seasonStep 186 = .ok (.aload_n 0, 1) ∧ decode cX12_seasonStep 187 = .ok (.iload_n 1, 1) ∧ decode cX12_seasonStep 188 = .ok (.iload_n 3, 1) ∧ decode cX12_seasonStep 189 = .ok (.invokevirtual 259, 3) ∧ decode cX12_seasonStep 192 = .ok (.ifCond .ne 5, 3) ∧ decode cX12_seasonStep 195 = .ok (.iconst 0, 1) ∧ decode cX12_seasonStep 196 = .ok (.ireturn, 1) ∧ decode cX12_seasonStep 197 = .ok (.iload 4, 2) := by decide +kernel
theorem e_X12_seasonStep_11 : decode cX12_seasonStep 199 = .ok (.ifCond .eq 23, 3) ∧ decode cX12_seasonStep 202 = .ok (.aload_n 0, 1) ∧ decode cX12_seasonStep 203 = .ok (.getfield 44, 3) ∧ decode cX12_seasonStep 206 = .ok (.aload_n 0, 1) ∧ decode cX12_seasonStep 207 = .ok (.getfield 253, 3) ∧ decode cX12_seasonStep 210 = .ok (.iload_n 2, 1) ∧ decode cX12_seasonStep 211 = .ok (.iastore, 1) ∧ decode cX12_seasonStep 212 = .ok (.aload_n 0, 1) ∧ decode cX12_seasonStep 213 = .ok (.dup, 1) ∧ decode cX12_seasonStep 214 = .ok (.getfield 253, 3) := by decide +kernel
theorem e_X12_seasonStep_12 : decode cX12_seasonStep 217 = .ok (.iconst 1, 1) ∧ decode cX12_seasonStep 218 = .ok (.iadd, 1) ∧ decode cX12_seasonStep 219 = .ok (.putfield 253, 3) ∧ decode cX12_seasonStep 222 = .ok (.iload_n 1, 1) ∧ decode cX12_seasonStep 223 = .ok (.bipush 22, 2) ∧ decode cX12_seasonStep 225 = .ok (.if_icmp .ne 54, 3) ∧ decode cX12_seasonStep 228 = .ok (.aload_n 0, 1) ∧ decode cX12_seasonStep 229 = .ok (.dup, 1) ∧ decode cX12_seasonStep 230 = .ok (.getfield 253, 3) ∧ decode cX12_seasonStep 233 = .ok (.iconst 1, 1) := by decide +kernel
theorem e_X12_seasonStep_13 : decode cX12_seasonStep 234 = .ok (.isub, 1) ∧ decode cX12_seasonStep 235 = .ok (.putfield 253, 3) ∧ decode cX12_seasonStep 238 = .ok (.aload_n 0, 1) ∧ decode cX12_seasonStep 239 = .ok (.getfield 7, 3) ∧ decode cX12_seasonStep 242 = .ok (.iload_n 3, 1) ∧ decode cX12_seasonStep 243 = .ok (.iconst 4, 1) ∧ decode cX12_seasonStep 244 = .ok (.iadd, 1) ∧ decode cX12_seasonStep 245 = .ok (.aload_n 0, 1) ∧ decode cX12_seasonStep 246 = .ok (.getfield 44, 3) ∧ decode cX12_seasonStep 249 = .ok (.aload_n 0, 1) := by decide +kernel
theorem e_X12_seasonStep_14 : decode cX12_seasonStep 250 = .ok (.getfield 253, 3) ∧ decode cX12_seasonStep 253 = .ok (.iaload, 1) ∧ decode cX12_seasonStep 254 = .ok (.iastore, 1) ∧ decode cX12_seasonStep 255 = .ok (.aload_n 0, 1) ∧ decode cX12_seasonStep 256 = .ok (.getfield 7, 3) ∧ decode cX12_seasonStep 259 = .ok (.sipush 2206, 3) ∧ decode cX12_seasonStep 262 = .ok (.bipush 6, 2) ∧ decode cX12_seasonStep 264 = .ok (.aload_n 0, 1) ∧ decode cX12_seasonStep 265 = .ok (.getfield 44, 3) ∧ decode cX12_seasonStep 268 = .ok (.aload_n 0, 1) := by decide +kernel
theorem e_X12_seasonStep_15 : decode cX12_seasonStep 269 = .ok (.getfield 253, 3) ∧ decode cX12_seasonStep 272 = .ok (.iaload, 1) ∧ decode cX12_seasonStep 273 = .ok (.imul, 1) ∧ decode cX12_seasonStep 274 = .ok (.iadd, 1) ∧ decode cX12_seasonStep 275 = .ok (.iconst 4, 1) ∧ decode cX12_seasonStep 276 = .ok (.iadd, 1) ∧ decode cX12_seasonStep 277 = .ok (.iload_n 2, 1) ∧ decode cX12_seasonStep 278 = .ok (.iastore, 1) ∧ decode cX12_seasonStep 279 = .ok (.aload_n 0, 1) ∧ decode cX12_seasonStep 280 = .ok (.bipush 59, 2) := by decide +kernel
theorem e_X12_seasonStep_16 : decode cX12_seasonStep 282 = .ok (.invokevirtual 234, 3) ∧ decode cX12_seasonStep 285 = .ok (.ireturn, 1) := by decide +kernel
abbrev E_X12_seasonStep_42 (G : Kg) (l1 l2 l3 p0 : Int) (σ : Kmem) (Q : Int → Kmem → Prop) : Prop := Ex G WM M_X12_seasonStep 10 0 0 42 [(0, vA G 0), (1, vI l1), (2, vI l2), (3, vI l3)] [vI p0] σ Q
abbrev E_X12_seasonStep_97 (G : Kg) (l1 l2 l3 l4 : Int) (σ : Kmem) (Q : Int → Kmem → Prop) : Prop := Ex G WM M_X12_seasonStep 10 0 0 97 [(0, vA G 0), (1, vI l1), (2, vI l2), (3, vI l3), (4, vI l4)] [] σ Q
abbrev E_X12_seasonStep_147 (G : Kg) (l1 l2 l3 l4 l5 : Int) (σ : Kmem) (Q : Int → Kmem → Prop) : Prop := Ex G WM M_X12_seasonStep 10 0 0 147 [(0, vA G 0), (1, vI l1), (2, vI l2), (3, vI l3), (4, vI l4), (5, vI l5)] [] σ Q
abbrev E_X12_seasonStep_222 (G : Kg) (l1 l2 l3 : Int) (σ : Kmem) (Q : Int → Kmem → Prop) : Prop := Ex G WM M_X12_seasonStep 10 0 0 222 [(0, vA G 0), (1, vI l1), (2, vI l2), (3, vI l3)] [] σ Q
theorem S_X12_seasonStep {G : Kg} {σ : Kmem} {Q : Int → Kmem → Prop}  (h : Run G WM M_X12_inWords 4 0 0 [vA G 0, vA G (-38)] σ (fun r1 s2 => (rI r1) ∧ ((r1 = 20 → E_X12_seasonStep_42 G r1 (s2 1 2064) (2206 + (6 * (s2 1 2064))) 1 s2 Q) ∧ (r1 ≠ 20 → ((r1 ≠ 21 → E_X12_seasonStep_42 G r1 (s2 1 2064) (2206 + (6 * (s2 1 2064))) 0 s2 Q) ∧ (r1 = 21 → E_X12_seasonStep_42 G r1 (s2 1 2064) (2206 + (6 * (s2 1 2064))) 1 s2 Q)))))) : Run G WM M_X12_seasonStep 10 0 0 [vA G 0] σ Q := by
  refine Run.of (by decide +kernel) (by show (1 : Nat) ≤ 6; decide) ?_
  show Ex G WM M_X12_seasonStep 10 0 0 0 [(0, vA G 0)] [] σ Q
  refine R_aload_n e_X12_seasonStep_0.1 0 rfl ?_
  refine R_ldcS (i := 28) (-38) e_X12_seasonStep_0.2.1 rfl rfl ?_
  refine R_callV (mc := 0) (ms := 0) (mc' := 0) (ms' := 0) (M' := M_X12_inWords) (d' := 4) (as := [vA G (-38)]) (st := []) 12 1 e_X12_seasonStep_0.2.2.1 (kCVof m_X12_inWords l_X12_178) rfl (by decide) km_0 (by decide) (by decide) rfl rfl (by show (0 : Nat) ≤ 8; decide) ?_
  refine Run.mono h (fun r1 s2 h => ?_)
  refine R_eqs (st2 := [vI r1]) rfl rfl ?_
  refine R_istore_n (ls2 := [(1, vI r1), (0, vA G 0)]) e_X12_seasonStep_0.2.2.2.1 (by decide) rfl ?_
  refine R_aload_n e_X12_seasonStep_0.2.2.2.2.1 1 rfl ?_
  refine R_getA 12 0 1 e_X12_seasonStep_0.2.2.2.2.2.1 f_X12_7 km_0 (fun _ _ => rfl) rm_0_0 (by decide) ?_
  refine R_sipush e_X12_seasonStep_0.2.2.2.2.2.2.1 (by decide) ?_
  refine R_iald 3598 e_X12_seasonStep_0.2.2.2.2.2.2.2.1 kma_1 (by decide) ?_
  refine R_istore_n (ls2 := [(2, vI (s2 1 2064)), (1, vI r1), (0, vA G 0)]) e_X12_seasonStep_0.2.2.2.2.2.2.2.2.1 (by decide) rfl ?_
  refine R_sipush e_X12_seasonStep_0.2.2.2.2.2.2.2.2.2 (by decide) ?_
  refine R_bipush e_X12_seasonStep_1.1 (by decide) ?_
  refine R_iload_n e_X12_seasonStep_1.2.1 0 rfl ?_
  refine R_imul e_X12_seasonStep_1.2.2.1 ?_
  refine R_iadd e_X12_seasonStep_1.2.2.2.1 ?_
  refine R_istore_n (ls2 := [(3, vI (2206 + (6 * (s2 1 2064)))), (2, vI (s2 1 2064)), (1, vI r1), (0, vA G 0)]) e_X12_seasonStep_1.2.2.2.2.1 (by decide) rfl ?_
  refine R_iload_n e_X12_seasonStep_1.2.2.2.2.2.1 2 rfl ?_
  refine R_bipush e_X12_seasonStep_1.2.2.2.2.2.2.1 (by decide) ?_
  obtain ⟨q3, h⟩ := h
  refine R_icmp_eq 37 e_X12_seasonStep_1.2.2.2.2.2.2.2.1 (by decide) q3 (by decide) (fun q => ?_) (fun q => ?_)
  · replace h := h.1 q
    refine R_iconst e_X12_seasonStep_2.2.1 ?_
    refine R_goto 42 e_X12_seasonStep_2.2.2.1 (by decide) ?_
    refine R_ls (ls2 := [(0, vA G 0), (1, vI r1), (2, vI (s2 1 2064)), (3, vI (2206 + (6 * (s2 1 2064))))]) [3, 2, 1, 0] rfl ?_
    exact h
  · replace h := h.2 q
    refine R_iload_n e_X12_seasonStep_1.2.2.2.2.2.2.2.2.1 2 rfl ?_
    refine R_bipush e_X12_seasonStep_1.2.2.2.2.2.2.2.2.2 (by decide) ?_
    refine R_icmp_ne 41 e_X12_seasonStep_2.1 (by decide) q3 (by decide) (fun q => ?_) (fun q => ?_)
    · replace h := h.1 q
      refine R_iconst e_X12_seasonStep_2.2.2.2.1 ?_
      refine R_ls (ls2 := [(0, vA G 0), (1, vI r1), (2, vI (s2 1 2064)), (3, vI (2206 + (6 * (s2 1 2064))))]) [3, 2, 1, 0] rfl ?_
      exact h
    · replace h := h.2 q
      refine R_iconst e_X12_seasonStep_2.2.1 ?_
      refine R_goto 42 e_X12_seasonStep_2.2.2.1 (by decide) ?_
      refine R_ls (ls2 := [(0, vA G 0), (1, vI r1), (2, vI (s2 1 2064)), (3, vI (2206 + (6 * (s2 1 2064))))]) [3, 2, 1, 0] rfl ?_
      exact h
theorem S_X12_seasonStep_42 {G : Kg} {σ : Kmem} {Q : Int → Kmem → Prop} {l1 l2 l3 p0 : Int}  (h : (rI l1) ∧ ((l1 < 15 → Run G WM M_X12_fails 0 0 0 [vA G 0, vI 2] σ (fun r5 s6 => (r5 = 0 ∨ r5 = 1) ∧ Q r5 s6)) ∧ (15 ≤ l1 → ((23 < l1 → Run G WM M_X12_fails 0 0 0 [vA G 0, vI 2] σ (fun r8 s9 => (r8 = 0 ∨ r8 = 1) ∧ Q r8 s9)) ∧ (l1 ≤ 23 → ((l1 ≠ 22 → ((l1 = 22 → E_X12_seasonStep_97 G l1 l2 l3 p0 σ Q) ∧ (l1 ≠ 22 → (rI (σ 0 23)) ∧ ((σ 0 23 ≠ 30 → E_X12_seasonStep_97 G l1 l2 l3 p0 σ Q) ∧ (σ 0 23 = 30 → Run G WM M_X12_fails 0 0 0 [vA G 0, vI 6] σ (fun r12 s13 => (r12 = 0 ∨ r12 = 1) ∧ Q r12 s13)))))) ∧ (l1 = 22 → (rI (σ 0 22)) ∧ ((σ 0 22 ≠ 0 → ((l1 = 22 → E_X12_seasonStep_97 G l1 l2 l3 p0 σ Q) ∧ (l1 ≠ 22 → (rI (σ 0 23)) ∧ ((σ 0 23 ≠ 30 → E_X12_seasonStep_97 G l1 l2 l3 p0 σ Q) ∧ (σ 0 23 = 30 → Run G WM M_X12_fails 0 0 0 [vA G 0, vI 6] σ (fun r17 s18 => (r17 = 0 ∨ r17 = 1) ∧ Q r17 s18)))))) ∧ (σ 0 22 = 0 → Run G WM M_X12_fails 0 0 0 [vA G 0, vI 2] σ (fun r20 s21 => (r20 = 0 ∨ r20 = 1) ∧ Q r20 s21)))))))))) : E_X12_seasonStep_42 G l1 l2 l3 p0 σ Q := by
  refine R_istore (ls2 := [(4, vI p0), (0, vA G 0), (1, vI l1), (2, vI l2), (3, vI l3)]) e_X12_seasonStep_2.2.2.2.2.1 (by decide) rfl ?_
  refine R_iload_n e_X12_seasonStep_2.2.2.2.2.2.1 2 rfl ?_
  refine R_bipush e_X12_seasonStep_2.2.2.2.2.2.2.1 (by decide) ?_
  obtain ⟨q4, h⟩ := h
  refine R_icmp_lt 69 e_X12_seasonStep_2.2.2.2.2.2.2.2.1 (by decide) q4 (by decide) (fun q => ?_) (fun q => ?_)
  · replace h := h.1 q
    refine R_aload_n e_X12_seasonStep_3.2.2.2.2.2.2.2.1 1 rfl ?_
    refine R_iconst e_X12_seasonStep_3.2.2.2.2.2.2.2.2.1 ?_
    refine R_callV (mc := 0) (ms := 0) (mc' := 0) (ms' := 0) (M' := M_X12_fails) (d' := 0) (as := [vI 2]) (st := []) 12 1 e_X12_seasonStep_3.2.2.2.2.2.2.2.2.2 (kCVof m_X12_fails l_X12_175) rfl (by decide) km_0 (by decide) (by decide) rfl rfl (by show (0 : Nat) ≤ 8; decide) ?_
    refine Run.mono h (fun r5 s6 h => ?_)
    refine R_eqs (st2 := [vI r5]) rfl rfl ?_
    obtain ⟨q7, h⟩ := h
    exact R_zreturn e_X12_seasonStep_4.1 rfl q7 h
  · replace h := h.2 q
    refine R_iload_n e_X12_seasonStep_2.2.2.2.2.2.2.2.2.1 2 rfl ?_
    refine R_bipush e_X12_seasonStep_2.2.2.2.2.2.2.2.2.2 (by decide) ?_
    refine R_icmp_gt 69 e_X12_seasonStep_3.1 (by decide) q4 (by decide) (fun q => ?_) (fun q => ?_)
    · replace h := h.1 q
      refine R_aload_n e_X12_seasonStep_3.2.2.2.2.2.2.2.1 1 rfl ?_
      refine R_iconst e_X12_seasonStep_3.2.2.2.2.2.2.2.2.1 ?_
      refine R_callV (mc := 0) (ms := 0) (mc' := 0) (ms' := 0) (M' := M_X12_fails) (d' := 0) (as := [vI 2]) (st := []) 12 1 e_X12_seasonStep_3.2.2.2.2.2.2.2.2.2 (kCVof m_X12_fails l_X12_175) rfl (by decide) km_0 (by decide) (by decide) rfl rfl (by show (0 : Nat) ≤ 8; decide) ?_
      refine Run.mono h (fun r8 s9 h => ?_)
      refine R_eqs (st2 := [vI r8]) rfl rfl ?_
      obtain ⟨q10, h⟩ := h
      exact R_zreturn e_X12_seasonStep_4.1 rfl q10 h
    · replace h := h.2 q
      refine R_iload_n e_X12_seasonStep_3.2.1 2 rfl ?_
      refine R_bipush e_X12_seasonStep_3.2.2.1 (by decide) ?_
      refine R_icmp_ne 75 e_X12_seasonStep_3.2.2.2.1 (by decide) q4 (by decide) (fun q => ?_) (fun q => ?_)
      · replace h := h.1 q
        refine R_iload_n e_X12_seasonStep_4.2.1 2 rfl ?_
        refine R_bipush e_X12_seasonStep_4.2.2.1 (by decide) ?_
        refine R_icmp_eq 97 e_X12_seasonStep_4.2.2.2.1 (by decide) q4 (by decide) (fun q => ?_) (fun q => ?_)
        · replace h := h.1 q
          refine R_ls (ls2 := [(0, vA G 0), (1, vI l1), (2, vI l2), (3, vI l3), (4, vI p0)]) [1, 2, 3, 4, 0] rfl ?_
          exact h
        · replace h := h.2 q
          refine R_aload_n e_X12_seasonStep_4.2.2.2.2.1 1 rfl ?_
          refine R_getI 12 23 23 e_X12_seasonStep_4.2.2.2.2.2.1 f_X12_256 km_0 (fun _ _ => rfl) rfl ?_
          refine R_bipush e_X12_seasonStep_4.2.2.2.2.2.2.1 (by decide) ?_
          obtain ⟨q11, h⟩ := h
          refine R_icmp_ne 97 e_X12_seasonStep_4.2.2.2.2.2.2.2.1 (by decide) q11 (by decide) (fun q => ?_) (fun q => ?_)
          · replace h := h.1 q
            refine R_ls (ls2 := [(0, vA G 0), (1, vI l1), (2, vI l2), (3, vI l3), (4, vI p0)]) [1, 2, 3, 4, 0] rfl ?_
            exact h
          · replace h := h.2 q
            refine R_aload_n e_X12_seasonStep_4.2.2.2.2.2.2.2.2.1 1 rfl ?_
            refine R_bipush e_X12_seasonStep_4.2.2.2.2.2.2.2.2.2 (by decide) ?_
            refine R_callV (mc := 0) (ms := 0) (mc' := 0) (ms' := 0) (M' := M_X12_fails) (d' := 0) (as := [vI 6]) (st := []) 12 1 e_X12_seasonStep_5.1 (kCVof m_X12_fails l_X12_175) rfl (by decide) km_0 (by decide) (by decide) rfl rfl (by show (0 : Nat) ≤ 8; decide) ?_
            refine Run.mono h (fun r12 s13 h => ?_)
            refine R_eqs (st2 := [vI r12]) rfl rfl ?_
            obtain ⟨q14, h⟩ := h
            exact R_zreturn e_X12_seasonStep_5.2.1 rfl q14 h
      · replace h := h.2 q
        refine R_aload_n e_X12_seasonStep_3.2.2.2.2.1 1 rfl ?_
        refine R_getI 12 22 22 e_X12_seasonStep_3.2.2.2.2.2.1 f_X12_253 km_0 (fun _ _ => rfl) rfl ?_
        obtain ⟨q15, h⟩ := h
        refine R_if_ne 75 e_X12_seasonStep_3.2.2.2.2.2.2.1 (by decide) q15  (fun q => ?_) (fun q => ?_)
        · replace h := h.1 q
          refine R_iload_n e_X12_seasonStep_4.2.1 2 rfl ?_
          refine R_bipush e_X12_seasonStep_4.2.2.1 (by decide) ?_
          refine R_icmp_eq 97 e_X12_seasonStep_4.2.2.2.1 (by decide) q4 (by decide) (fun q => ?_) (fun q => ?_)
          · replace h := h.1 q
            refine R_ls (ls2 := [(0, vA G 0), (1, vI l1), (2, vI l2), (3, vI l3), (4, vI p0)]) [1, 2, 3, 4, 0] rfl ?_
            exact h
          · replace h := h.2 q
            refine R_aload_n e_X12_seasonStep_4.2.2.2.2.1 1 rfl ?_
            refine R_getI 12 23 23 e_X12_seasonStep_4.2.2.2.2.2.1 f_X12_256 km_0 (fun _ _ => rfl) rfl ?_
            refine R_bipush e_X12_seasonStep_4.2.2.2.2.2.2.1 (by decide) ?_
            obtain ⟨q16, h⟩ := h
            refine R_icmp_ne 97 e_X12_seasonStep_4.2.2.2.2.2.2.2.1 (by decide) q16 (by decide) (fun q => ?_) (fun q => ?_)
            · replace h := h.1 q
              refine R_ls (ls2 := [(0, vA G 0), (1, vI l1), (2, vI l2), (3, vI l3), (4, vI p0)]) [1, 2, 3, 4, 0] rfl ?_
              exact h
            · replace h := h.2 q
              refine R_aload_n e_X12_seasonStep_4.2.2.2.2.2.2.2.2.1 1 rfl ?_
              refine R_bipush e_X12_seasonStep_4.2.2.2.2.2.2.2.2.2 (by decide) ?_
              refine R_callV (mc := 0) (ms := 0) (mc' := 0) (ms' := 0) (M' := M_X12_fails) (d' := 0) (as := [vI 6]) (st := []) 12 1 e_X12_seasonStep_5.1 (kCVof m_X12_fails l_X12_175) rfl (by decide) km_0 (by decide) (by decide) rfl rfl (by show (0 : Nat) ≤ 8; decide) ?_
              refine Run.mono h (fun r17 s18 h => ?_)
              refine R_eqs (st2 := [vI r17]) rfl rfl ?_
              obtain ⟨q19, h⟩ := h
              exact R_zreturn e_X12_seasonStep_5.2.1 rfl q19 h
        · replace h := h.2 q
          refine R_aload_n e_X12_seasonStep_3.2.2.2.2.2.2.2.1 1 rfl ?_
          refine R_iconst e_X12_seasonStep_3.2.2.2.2.2.2.2.2.1 ?_
          refine R_callV (mc := 0) (ms := 0) (mc' := 0) (ms' := 0) (M' := M_X12_fails) (d' := 0) (as := [vI 2]) (st := []) 12 1 e_X12_seasonStep_3.2.2.2.2.2.2.2.2.2 (kCVof m_X12_fails l_X12_175) rfl (by decide) km_0 (by decide) (by decide) rfl rfl (by show (0 : Nat) ≤ 8; decide) ?_
          refine Run.mono h (fun r20 s21 h => ?_)
          refine R_eqs (st2 := [vI r20]) rfl rfl ?_
          obtain ⟨q22, h⟩ := h
          exact R_zreturn e_X12_seasonStep_4.1 rfl q22 h
theorem S_X12_seasonStep_97 {G : Kg} {σ : Kmem} {Q : Int → Kmem → Prop} {l1 l2 l3 l4 : Int}  (h : (rI l4) ∧ ((l4 = 0 → (rI l1) ∧ ((l1 ≠ 22 → (0 ≤ l3 ∧ l3 < 3598) ∧ E_X12_seasonStep_147 G l1 l2 l3 l4 1 (kup (kup σ 0 23 ((σ 0 23) + 1)) 1 l3 l1) Q) ∧ (l1 = 22 → (0 ≤ l3 ∧ l3 < 3598) ∧ E_X12_seasonStep_147 G l1 l2 l3 l4 1 (kup (kup σ 0 23 ((σ 0 23) + 0)) 1 l3 l1) Q))) ∧ (l4 ≠ 0 → (rI (σ 0 22)) ∧ ((σ 0 22 ≠ 3 → (rI l1) ∧ ((l1 ≠ 22 → (0 ≤ l3 ∧ l3 < 3598) ∧ E_X12_seasonStep_147 G l1 l2 l3 l4 1 (kup (kup σ 0 23 ((σ 0 23) + 1)) 1 l3 l1) Q) ∧ (l1 = 22 → (0 ≤ l3 ∧ l3 < 3598) ∧ E_X12_seasonStep_147 G l1 l2 l3 l4 1 (kup (kup σ 0 23 ((σ 0 23) + 0)) 1 l3 l1) Q))) ∧ (σ 0 22 = 3 → Run G WM M_X12_fails 0 0 0 [vA G 0, vI 7] σ (fun r31 s32 => (r31 = 0 ∨ r31 = 1) ∧ Q r31 s32)))))) : E_X12_seasonStep_97 G l1 l2 l3 l4 σ Q := by
  refine R_iload e_X12_seasonStep_5.2.2.1 4 rfl ?_
  obtain ⟨q23, h⟩ := h
  refine R_if_eq 117 e_X12_seasonStep_5.2.2.2.1 (by decide) q23  (fun q => ?_) (fun q => ?_)
  · replace h := h.1 q
    refine R_aload_n e_X12_seasonStep_6.2.2.1 0 rfl ?_
    refine R_dup e_X12_seasonStep_6.2.2.2.1 rfl ?_
    refine R_getI 12 23 23 e_X12_seasonStep_6.2.2.2.2.1 f_X12_256 km_0 (fun _ _ => rfl) rfl ?_
    refine R_iload_n e_X12_seasonStep_6.2.2.2.2.2.1 1 rfl ?_
    refine R_bipush e_X12_seasonStep_6.2.2.2.2.2.2.1 (by decide) ?_
    obtain ⟨q24, h⟩ := h
    refine R_icmp_ne 132 e_X12_seasonStep_6.2.2.2.2.2.2.2.1 (by decide) q24 (by decide) (fun q => ?_) (fun q => ?_)
    · replace h := h.1 q
      refine R_iconst e_X12_seasonStep_7.1 ?_
      refine R_iadd e_X12_seasonStep_7.2.1 ?_
      refine R_putI 12 23 23 WM_ok e_X12_seasonStep_7.2.2.1 f_X12_256 km_0 rfl rfl rfl ?_
      refine R_aload_n e_X12_seasonStep_7.2.2.2.1 0 rfl ?_
      refine R_getA 12 0 1 e_X12_seasonStep_7.2.2.2.2.1 f_X12_7 km_0 (fun _ _ => rfl) rm_0_0 (by decide) ?_
      refine R_iload_n e_X12_seasonStep_7.2.2.2.2.2.1 3 rfl ?_
      refine R_iload_n e_X12_seasonStep_7.2.2.2.2.2.2.1 1 rfl ?_
      obtain ⟨q25, h⟩ := h
      refine R_iast 3598 WM_ok e_X12_seasonStep_7.2.2.2.2.2.2.2.1 kma_1 q25 ?_
      refine R_iconst e_X12_seasonStep_7.2.2.2.2.2.2.2.2.1 ?_
      refine R_istore (ls2 := [(5, vI 1), (0, vA G 0), (1, vI l1), (2, vI l2), (3, vI l3), (4, vI l4)]) e_X12_seasonStep_7.2.2.2.2.2.2.2.2.2 (by decide) rfl ?_
      refine R_ls (ls2 := [(0, vA G 0), (1, vI l1), (2, vI l2), (3, vI l3), (4, vI l4), (5, vI 1)]) [1, 2, 3, 4, 5, 0] rfl ?_
      exact h
    · replace h := h.2 q
      refine R_iconst e_X12_seasonStep_6.2.2.2.2.2.2.2.2.1 ?_
      refine R_goto 133 e_X12_seasonStep_6.2.2.2.2.2.2.2.2.2 (by decide) ?_
      refine R_iadd e_X12_seasonStep_7.2.1 ?_
      refine R_putI 12 23 23 WM_ok e_X12_seasonStep_7.2.2.1 f_X12_256 km_0 rfl rfl rfl ?_
      refine R_aload_n e_X12_seasonStep_7.2.2.2.1 0 rfl ?_
      refine R_getA 12 0 1 e_X12_seasonStep_7.2.2.2.2.1 f_X12_7 km_0 (fun _ _ => rfl) rm_0_0 (by decide) ?_
      refine R_iload_n e_X12_seasonStep_7.2.2.2.2.2.1 3 rfl ?_
      refine R_iload_n e_X12_seasonStep_7.2.2.2.2.2.2.1 1 rfl ?_
      obtain ⟨q26, h⟩ := h
      refine R_iast 3598 WM_ok e_X12_seasonStep_7.2.2.2.2.2.2.2.1 kma_1 q26 ?_
      refine R_iconst e_X12_seasonStep_7.2.2.2.2.2.2.2.2.1 ?_
      refine R_istore (ls2 := [(5, vI 1), (0, vA G 0), (1, vI l1), (2, vI l2), (3, vI l3), (4, vI l4)]) e_X12_seasonStep_7.2.2.2.2.2.2.2.2.2 (by decide) rfl ?_
      refine R_ls (ls2 := [(0, vA G 0), (1, vI l1), (2, vI l2), (3, vI l3), (4, vI l4), (5, vI 1)]) [1, 2, 3, 4, 5, 0] rfl ?_
      exact h
  · replace h := h.2 q
    refine R_aload_n e_X12_seasonStep_5.2.2.2.2.1 0 rfl ?_
    refine R_getI 12 22 22 e_X12_seasonStep_5.2.2.2.2.2.1 f_X12_253 km_0 (fun _ _ => rfl) rfl ?_
    refine R_iconst e_X12_seasonStep_5.2.2.2.2.2.2.1 ?_
    obtain ⟨q27, h⟩ := h
    refine R_icmp_ne 117 e_X12_seasonStep_5.2.2.2.2.2.2.2.1 (by decide) q27 (by decide) (fun q => ?_) (fun q => ?_)
    · replace h := h.1 q
      refine R_aload_n e_X12_seasonStep_6.2.2.1 0 rfl ?_
      refine R_dup e_X12_seasonStep_6.2.2.2.1 rfl ?_
      refine R_getI 12 23 23 e_X12_seasonStep_6.2.2.2.2.1 f_X12_256 km_0 (fun _ _ => rfl) rfl ?_
      refine R_iload_n e_X12_seasonStep_6.2.2.2.2.2.1 1 rfl ?_
      refine R_bipush e_X12_seasonStep_6.2.2.2.2.2.2.1 (by decide) ?_
      obtain ⟨q28, h⟩ := h
      refine R_icmp_ne 132 e_X12_seasonStep_6.2.2.2.2.2.2.2.1 (by decide) q28 (by decide) (fun q => ?_) (fun q => ?_)
      · replace h := h.1 q
        refine R_iconst e_X12_seasonStep_7.1 ?_
        refine R_iadd e_X12_seasonStep_7.2.1 ?_
        refine R_putI 12 23 23 WM_ok e_X12_seasonStep_7.2.2.1 f_X12_256 km_0 rfl rfl rfl ?_
        refine R_aload_n e_X12_seasonStep_7.2.2.2.1 0 rfl ?_
        refine R_getA 12 0 1 e_X12_seasonStep_7.2.2.2.2.1 f_X12_7 km_0 (fun _ _ => rfl) rm_0_0 (by decide) ?_
        refine R_iload_n e_X12_seasonStep_7.2.2.2.2.2.1 3 rfl ?_
        refine R_iload_n e_X12_seasonStep_7.2.2.2.2.2.2.1 1 rfl ?_
        obtain ⟨q29, h⟩ := h
        refine R_iast 3598 WM_ok e_X12_seasonStep_7.2.2.2.2.2.2.2.1 kma_1 q29 ?_
        refine R_iconst e_X12_seasonStep_7.2.2.2.2.2.2.2.2.1 ?_
        refine R_istore (ls2 := [(5, vI 1), (0, vA G 0), (1, vI l1), (2, vI l2), (3, vI l3), (4, vI l4)]) e_X12_seasonStep_7.2.2.2.2.2.2.2.2.2 (by decide) rfl ?_
        refine R_ls (ls2 := [(0, vA G 0), (1, vI l1), (2, vI l2), (3, vI l3), (4, vI l4), (5, vI 1)]) [1, 2, 3, 4, 5, 0] rfl ?_
        exact h
      · replace h := h.2 q
        refine R_iconst e_X12_seasonStep_6.2.2.2.2.2.2.2.2.1 ?_
        refine R_goto 133 e_X12_seasonStep_6.2.2.2.2.2.2.2.2.2 (by decide) ?_
        refine R_iadd e_X12_seasonStep_7.2.1 ?_
        refine R_putI 12 23 23 WM_ok e_X12_seasonStep_7.2.2.1 f_X12_256 km_0 rfl rfl rfl ?_
        refine R_aload_n e_X12_seasonStep_7.2.2.2.1 0 rfl ?_
        refine R_getA 12 0 1 e_X12_seasonStep_7.2.2.2.2.1 f_X12_7 km_0 (fun _ _ => rfl) rm_0_0 (by decide) ?_
        refine R_iload_n e_X12_seasonStep_7.2.2.2.2.2.1 3 rfl ?_
        refine R_iload_n e_X12_seasonStep_7.2.2.2.2.2.2.1 1 rfl ?_
        obtain ⟨q30, h⟩ := h
        refine R_iast 3598 WM_ok e_X12_seasonStep_7.2.2.2.2.2.2.2.1 kma_1 q30 ?_
        refine R_iconst e_X12_seasonStep_7.2.2.2.2.2.2.2.2.1 ?_
        refine R_istore (ls2 := [(5, vI 1), (0, vA G 0), (1, vI l1), (2, vI l2), (3, vI l3), (4, vI l4)]) e_X12_seasonStep_7.2.2.2.2.2.2.2.2.2 (by decide) rfl ?_
        refine R_ls (ls2 := [(0, vA G 0), (1, vI l1), (2, vI l2), (3, vI l3), (4, vI l4), (5, vI 1)]) [1, 2, 3, 4, 5, 0] rfl ?_
        exact h
    · replace h := h.2 q
      refine R_aload_n e_X12_seasonStep_5.2.2.2.2.2.2.2.2.1 0 rfl ?_
      refine R_bipush e_X12_seasonStep_5.2.2.2.2.2.2.2.2.2 (by decide) ?_
      refine R_callV (mc := 0) (ms := 0) (mc' := 0) (ms' := 0) (M' := M_X12_fails) (d' := 0) (as := [vI 7]) (st := []) 12 1 e_X12_seasonStep_6.1 (kCVof m_X12_fails l_X12_175) rfl (by decide) km_0 (by decide) (by decide) rfl rfl (by show (0 : Nat) ≤ 8; decide) ?_
      refine Run.mono h (fun r31 s32 h => ?_)
      refine R_eqs (st2 := [vI r31]) rfl rfl ?_
      obtain ⟨q33, h⟩ := h
      exact R_zreturn e_X12_seasonStep_6.2.1 rfl q33 h
theorem S_X12_seasonStep_147 {G : Kg} {σ : Kmem} {Q : Int → Kmem → Prop} {l1 l2 l3 l4 l5 : Int}  (h : (rI l5) ∧ ((6 ≤ l5 → Run G WM M_X12_ahead 1 0 0 [vA G 0] (kup σ 1 2064 ((σ 1 2064) + 1)) (fun r35 s36 => Run G WM M_X12_seasonOrder 9 0 0 [vA G 0, vI l1, vI l3] s36 (fun r37 s38 => (rI r37) ∧ ((r37 ≠ 0 → (rI l4) ∧ ((l4 = 0 → E_X12_seasonStep_222 G l1 l2 l3 s38 Q) ∧ (l4 ≠ 0 → (0 ≤ s38 0 22 ∧ s38 0 22 < 3) ∧ E_X12_seasonStep_222 G l1 l2 l3 (kup (kup s38 8 (s38 0 22) l2) 0 22 (((kup s38 8 (s38 0 22) l2) 0 22) + 1)) Q))) ∧ (r37 = 0 → Q 0 s38))))) ∧ (l5 < 6 → (0 ≤ l3 + l5 ∧ l3 + l5 < 3598) ∧ E_X12_seasonStep_147 G l1 l2 l3 l4 (l5 + 1) (kup σ 1 (l3 + l5) 0) Q))) : E_X12_seasonStep_147 G l1 l2 l3 l4 l5 σ Q := by
  refine R_iload e_X12_seasonStep_8.1 5 rfl ?_
  refine R_bipush e_X12_seasonStep_8.2.1 (by decide) ?_
  obtain ⟨q34, h⟩ := h
  refine R_icmp_ge 170 e_X12_seasonStep_8.2.2.1 (by decide) q34 (by decide) (fun q => ?_) (fun q => ?_)
  · replace h := h.1 q
    refine R_aload_n e_X12_seasonStep_9.2.2.1 0 rfl ?_
    refine R_getA 12 0 1 e_X12_seasonStep_9.2.2.2.1 f_X12_7 km_0 (fun _ _ => rfl) rm_0_0 (by decide) ?_
    refine R_sipush e_X12_seasonStep_9.2.2.2.2.1 (by decide) ?_
    refine R_dup2 e_X12_seasonStep_9.2.2.2.2.2.1 rfl rfl ?_
    refine R_iald 3598 e_X12_seasonStep_9.2.2.2.2.2.2.1 kma_1 (by decide) ?_
    refine R_iconst e_X12_seasonStep_9.2.2.2.2.2.2.2.1 ?_
    refine R_iadd e_X12_seasonStep_9.2.2.2.2.2.2.2.2.1 ?_
    refine R_iast 3598 WM_ok e_X12_seasonStep_9.2.2.2.2.2.2.2.2.2 kma_1 (by decide) ?_
    refine R_aload_n e_X12_seasonStep_10.1 0 rfl ?_
    refine R_callV (mc := 0) (ms := 0) (mc' := 0) (ms' := 0) (M' := M_X12_ahead) (d' := 1) (as := []) (st := []) 12 0 e_X12_seasonStep_10.2.1 (kCVof m_X12_ahead l_X12_169) rfl (by decide) km_0 (by decide) (by decide) rfl rfl (by show (0 : Nat) ≤ 8; decide) ?_
    refine Run.mono h (fun r35 s36 h => ?_)
    refine R_eqs (st2 := []) rfl rfl ?_
    refine R_aload_n e_X12_seasonStep_10.2.2.1 0 rfl ?_
    refine R_iload_n e_X12_seasonStep_10.2.2.2.1 1 rfl ?_
    refine R_iload_n e_X12_seasonStep_10.2.2.2.2.1 3 rfl ?_
    refine R_callV (mc := 0) (ms := 0) (mc' := 0) (ms' := 0) (M' := M_X12_seasonOrder) (d' := 9) (as := [vI l1, vI l3]) (st := []) 12 2 e_X12_seasonStep_10.2.2.2.2.2.1 (kCVof m_X12_seasonOrder l_X12_259) rfl (by decide) km_0 (by decide) (by decide) rfl rfl (by show (0 : Nat) ≤ 8; decide) ?_
    refine Run.mono h (fun r37 s38 h => ?_)
    refine R_eqs (st2 := [vI r37]) rfl rfl ?_
    obtain ⟨q39, h⟩ := h
    refine R_if_ne 197 e_X12_seasonStep_10.2.2.2.2.2.2.1 (by decide) q39  (fun q => ?_) (fun q => ?_)
    · replace h := h.1 q
      refine R_iload e_X12_seasonStep_10.2.2.2.2.2.2.2.2.2 4 rfl ?_
      obtain ⟨q40, h⟩ := h
      refine R_if_eq 222 e_X12_seasonStep_11.1 (by decide) q40  (fun q => ?_) (fun q => ?_)
      · replace h := h.1 q
        refine R_ls (ls2 := [(0, vA G 0), (1, vI l1), (2, vI l2), (3, vI l3)]) [0, 1, 2, 3] rfl ?_
        exact h
      · replace h := h.2 q
        refine R_aload_n e_X12_seasonStep_11.2.1 0 rfl ?_
        refine R_getA 12 21 8 e_X12_seasonStep_11.2.2.1 f_X12_44 km_0 (fun _ _ => rfl) rm_0_21 (by decide) ?_
        refine R_aload_n e_X12_seasonStep_11.2.2.2.1 0 rfl ?_
        refine R_getI 12 22 22 e_X12_seasonStep_11.2.2.2.2.1 f_X12_253 km_0 (fun _ _ => rfl) rfl ?_
        refine R_iload_n e_X12_seasonStep_11.2.2.2.2.2.1 2 rfl ?_
        obtain ⟨q41, h⟩ := h
        refine R_iast 3 WM_ok e_X12_seasonStep_11.2.2.2.2.2.2.1 kma_8 q41 ?_
        refine R_aload_n e_X12_seasonStep_11.2.2.2.2.2.2.2.1 0 rfl ?_
        refine R_dup e_X12_seasonStep_11.2.2.2.2.2.2.2.2.1 rfl ?_
        refine R_getI 12 22 22 e_X12_seasonStep_11.2.2.2.2.2.2.2.2.2 f_X12_253 km_0 (fun _ _ => rfl) rfl ?_
        refine R_iconst e_X12_seasonStep_12.1 ?_
        refine R_iadd e_X12_seasonStep_12.2.1 ?_
        refine R_putI 12 22 22 WM_ok e_X12_seasonStep_12.2.2.1 f_X12_253 km_0 rfl rfl rfl ?_
        refine R_ls (ls2 := [(0, vA G 0), (1, vI l1), (2, vI l2), (3, vI l3)]) [0, 1, 2, 3] rfl ?_
        exact h
    · replace h := h.2 q
      refine R_iconst e_X12_seasonStep_10.2.2.2.2.2.2.2.1 ?_
      exact R_zreturn e_X12_seasonStep_10.2.2.2.2.2.2.2.2.1 rfl (Or.inl rfl) h
  · replace h := h.2 q
    refine R_aload_n e_X12_seasonStep_8.2.2.2.1 0 rfl ?_
    refine R_getA 12 0 1 e_X12_seasonStep_8.2.2.2.2.1 f_X12_7 km_0 (fun _ _ => rfl) rm_0_0 (by decide) ?_
    refine R_iload_n e_X12_seasonStep_8.2.2.2.2.2.1 3 rfl ?_
    refine R_iload e_X12_seasonStep_8.2.2.2.2.2.2.1 5 rfl ?_
    refine R_iadd e_X12_seasonStep_8.2.2.2.2.2.2.2.1 ?_
    refine R_iconst e_X12_seasonStep_8.2.2.2.2.2.2.2.2.1 ?_
    obtain ⟨q42, h⟩ := h
    refine R_iast 3598 WM_ok e_X12_seasonStep_8.2.2.2.2.2.2.2.2.2 kma_1 q42 ?_
    refine R_iinc (ls2 := [(5, vI (l5 + 1)), (0, vA G 0), (1, vI l1), (2, vI l2), (3, vI l3), (4, vI l4)]) e_X12_seasonStep_9.1 5 rfl (by decide) rfl ?_
    refine R_goto 147 e_X12_seasonStep_9.2.1 (by decide) ?_
    refine R_ls (ls2 := [(0, vA G 0), (1, vI l1), (2, vI l2), (3, vI l3), (4, vI l4), (5, vI (l5 + 1))]) [1, 2, 3, 4, 5, 0] rfl ?_
    exact h
theorem S_X12_seasonStep_222 {G : Kg} {σ : Kmem} {Q : Int → Kmem → Prop} {l1 l2 l3 : Int}  (h : (rI l1) ∧ ((l1 ≠ 22 → Run G WM M_X12_wantSign 2 0 0 [vA G 0, vI 59] σ (fun r44 s45 => (r44 = 0 ∨ r44 = 1) ∧ Q r44 s45)) ∧ (l1 = 22 → (0 ≤ (kup σ 0 22 ((σ 0 22) - 1)) 0 22 ∧ (kup σ 0 22 ((σ 0 22) - 1)) 0 22 < 3) ∧ (0 ≤ l3 + 4 ∧ l3 + 4 < 3598) ∧ (0 ≤ (kup (kup σ 0 22 ((σ 0 22) - 1)) 1 (l3 + 4) ((kup σ 0 22 ((σ 0 22) - 1)) 8 ((kup σ 0 22 ((σ 0 22) - 1)) 0 22))) 0 22 ∧ (kup (kup σ 0 22 ((σ 0 22) - 1)) 1 (l3 + 4) ((kup σ 0 22 ((σ 0 22) - 1)) 8 ((kup σ 0 22 ((σ 0 22) - 1)) 0 22))) 0 22 < 3) ∧ (0 ≤ (2206 + (6 * ((kup (kup σ 0 22 ((σ 0 22) - 1)) 1 (l3 + 4) ((kup σ 0 22 ((σ 0 22) - 1)) 8 ((kup σ 0 22 ((σ 0 22) - 1)) 0 22))) 8 ((kup (kup σ 0 22 ((σ 0 22) - 1)) 1 (l3 + 4) ((kup σ 0 22 ((σ 0 22) - 1)) 8 ((kup σ 0 22 ((σ 0 22) - 1)) 0 22))) 0 22)))) + 4 ∧ (2206 + (6 * ((kup (kup σ 0 22 ((σ 0 22) - 1)) 1 (l3 + 4) ((kup σ 0 22 ((σ 0 22) - 1)) 8 ((kup σ 0 22 ((σ 0 22) - 1)) 0 22))) 8 ((kup (kup σ 0 22 ((σ 0 22) - 1)) 1 (l3 + 4) ((kup σ 0 22 ((σ 0 22) - 1)) 8 ((kup σ 0 22 ((σ 0 22) - 1)) 0 22))) 0 22)))) + 4 < 3598) ∧ Run G WM M_X12_wantSign 2 0 0 [vA G 0, vI 59] (kup (kup (kup σ 0 22 ((σ 0 22) - 1)) 1 (l3 + 4) ((kup σ 0 22 ((σ 0 22) - 1)) 8 ((kup σ 0 22 ((σ 0 22) - 1)) 0 22))) 1 ((2206 + (6 * ((kup (kup σ 0 22 ((σ 0 22) - 1)) 1 (l3 + 4) ((kup σ 0 22 ((σ 0 22) - 1)) 8 ((kup σ 0 22 ((σ 0 22) - 1)) 0 22))) 8 ((kup (kup σ 0 22 ((σ 0 22) - 1)) 1 (l3 + 4) ((kup σ 0 22 ((σ 0 22) - 1)) 8 ((kup σ 0 22 ((σ 0 22) - 1)) 0 22))) 0 22)))) + 4) l2) (fun r51 s52 => (r51 = 0 ∨ r51 = 1) ∧ Q r51 s52)))) : E_X12_seasonStep_222 G l1 l2 l3 σ Q := by
  refine R_iload_n e_X12_seasonStep_12.2.2.2.1 1 rfl ?_
  refine R_bipush e_X12_seasonStep_12.2.2.2.2.1 (by decide) ?_
  obtain ⟨q43, h⟩ := h
  refine R_icmp_ne 279 e_X12_seasonStep_12.2.2.2.2.2.1 (by decide) q43 (by decide) (fun q => ?_) (fun q => ?_)
  · replace h := h.1 q
    refine R_aload_n e_X12_seasonStep_15.2.2.2.2.2.2.2.2.1 0 rfl ?_
    refine R_bipush e_X12_seasonStep_15.2.2.2.2.2.2.2.2.2 (by decide) ?_
    refine R_callV (mc := 0) (ms := 0) (mc' := 0) (ms' := 0) (M' := M_X12_wantSign) (d' := 2) (as := [vI 59]) (st := []) 12 1 e_X12_seasonStep_16.1 (kCVof m_X12_wantSign l_X12_234) rfl (by decide) km_0 (by decide) (by decide) rfl rfl (by show (0 : Nat) ≤ 8; decide) ?_
    refine Run.mono h (fun r44 s45 h => ?_)
    refine R_eqs (st2 := [vI r44]) rfl rfl ?_
    obtain ⟨q46, h⟩ := h
    exact R_zreturn e_X12_seasonStep_16.2 rfl q46 h
  · replace h := h.2 q
    refine R_aload_n e_X12_seasonStep_12.2.2.2.2.2.2.1 0 rfl ?_
    refine R_dup e_X12_seasonStep_12.2.2.2.2.2.2.2.1 rfl ?_
    refine R_getI 12 22 22 e_X12_seasonStep_12.2.2.2.2.2.2.2.2.1 f_X12_253 km_0 (fun _ _ => rfl) rfl ?_
    refine R_iconst e_X12_seasonStep_12.2.2.2.2.2.2.2.2.2 ?_
    refine R_isub e_X12_seasonStep_13.1 ?_
    refine R_putI 12 22 22 WM_ok e_X12_seasonStep_13.2.1 f_X12_253 km_0 rfl rfl rfl ?_
    refine R_aload_n e_X12_seasonStep_13.2.2.1 0 rfl ?_
    refine R_getA 12 0 1 e_X12_seasonStep_13.2.2.2.1 f_X12_7 km_0 (fun _ _ => rfl) rm_0_0 (by decide) ?_
    refine R_iload_n e_X12_seasonStep_13.2.2.2.2.1 3 rfl ?_
    refine R_iconst e_X12_seasonStep_13.2.2.2.2.2.1 ?_
    refine R_iadd e_X12_seasonStep_13.2.2.2.2.2.2.1 ?_
    refine R_aload_n e_X12_seasonStep_13.2.2.2.2.2.2.2.1 0 rfl ?_
    refine R_getA 12 21 8 e_X12_seasonStep_13.2.2.2.2.2.2.2.2.1 f_X12_44 km_0 (fun _ _ => rfl) rm_0_21 (by decide) ?_
    refine R_aload_n e_X12_seasonStep_13.2.2.2.2.2.2.2.2.2 0 rfl ?_
    refine R_getI 12 22 22 e_X12_seasonStep_14.1 f_X12_253 km_0 (fun _ _ => rfl) rfl ?_
    obtain ⟨q47, h⟩ := h
    refine R_iald 3 e_X12_seasonStep_14.2.1 kma_8 q47 ?_
    obtain ⟨q48, h⟩ := h
    refine R_iast 3598 WM_ok e_X12_seasonStep_14.2.2.1 kma_1 q48 ?_
    refine R_aload_n e_X12_seasonStep_14.2.2.2.1 0 rfl ?_
    refine R_getA 12 0 1 e_X12_seasonStep_14.2.2.2.2.1 f_X12_7 km_0 (fun _ _ => rfl) rm_0_0 (by decide) ?_
    refine R_sipush e_X12_seasonStep_14.2.2.2.2.2.1 (by decide) ?_
    refine R_bipush e_X12_seasonStep_14.2.2.2.2.2.2.1 (by decide) ?_
    refine R_aload_n e_X12_seasonStep_14.2.2.2.2.2.2.2.1 0 rfl ?_
    refine R_getA 12 21 8 e_X12_seasonStep_14.2.2.2.2.2.2.2.2.1 f_X12_44 km_0 (fun _ _ => rfl) rm_0_21 (by decide) ?_
    refine R_aload_n e_X12_seasonStep_14.2.2.2.2.2.2.2.2.2 0 rfl ?_
    refine R_getI 12 22 22 e_X12_seasonStep_15.1 f_X12_253 km_0 (fun _ _ => rfl) rfl ?_
    obtain ⟨q49, h⟩ := h
    refine R_iald 3 e_X12_seasonStep_15.2.1 kma_8 q49 ?_
    refine R_imul e_X12_seasonStep_15.2.2.1 ?_
    refine R_iadd e_X12_seasonStep_15.2.2.2.1 ?_
    refine R_iconst e_X12_seasonStep_15.2.2.2.2.1 ?_
    refine R_iadd e_X12_seasonStep_15.2.2.2.2.2.1 ?_
    refine R_iload_n e_X12_seasonStep_15.2.2.2.2.2.2.1 2 rfl ?_
    obtain ⟨q50, h⟩ := h
    refine R_iast 3598 WM_ok e_X12_seasonStep_15.2.2.2.2.2.2.2.1 kma_1 q50 ?_
    refine R_aload_n e_X12_seasonStep_15.2.2.2.2.2.2.2.2.1 0 rfl ?_
    refine R_bipush e_X12_seasonStep_15.2.2.2.2.2.2.2.2.2 (by decide) ?_
    refine R_callV (mc := 0) (ms := 0) (mc' := 0) (ms' := 0) (M' := M_X12_wantSign) (d' := 2) (as := [vI 59]) (st := []) 12 1 e_X12_seasonStep_16.1 (kCVof m_X12_wantSign l_X12_234) rfl (by decide) km_0 (by decide) (by decide) rfl rfl (by show (0 : Nat) ≤ 8; decide) ?_
    refine Run.mono h (fun r51 s52 h => ?_)
    refine R_eqs (st2 := [vI r51]) rfl rfl ?_
    obtain ⟨q53, h⟩ := h
    exact R_zreturn e_X12_seasonStep_16.2 rfl q53 h
/-! KiteLandModel.seasons(I)I -/
theorem e_X12_seasons_0 : decode cX12_seasons 0 = .ok (.aload_n 0, 1) ∧ decode cX12_seasons 1 = .ok (.iload_n 1, 1) ∧ decode cX12_seasons 2 = .ok (.sipush 300, 3) ∧ decode cX12_seasons 5 = .ok (.invokevirtual 237, 3) ∧ decode cX12_seasons 8 = .ok (.ifCond .ne 9, 3) ∧ decode cX12_seasons 11 = .ok (.aload_n 0, 1) ∧ decode cX12_seasons 12 = .ok (.iconst 1, 1) ∧ decode cX12_seasons 13 = .ok (.invokevirtual 93, 3) ∧ decode cX12_seasons 16 = .ok (.ireturn, 1) ∧ decode cX12_seasons 17 = .ok (.aload_n 0, 1) := by decide +kernel
theorem e_X12_seasons_1 : decode cX12_seasons 18 = .ok (.getfield 7, 3) ∧ decode cX12_seasons 21 = .ok (.sipush 2064, 3) ∧ decode cX12_seasons 24 = .ok (.iconst 0, 1) ∧ decode cX12_seasons 25 = .ok (.iastore, 1) ∧ decode cX12_seasons 26 = .ok (.aload_n 0, 1) ∧ decode cX12_seasons 27 = .ok (.iconst 0, 1) ∧ decode cX12_seasons 28 = .ok (.putfield 253, 3) ∧ decode cX12_seasons 31 = .ok (.aload_n 0, 1) ∧ decode cX12_seasons 32 = .ok (.iconst 0, 1) ∧ decode cX12_seasons 33 = .ok (.putfield 256, 3) := by decide +kernel
theorem e_X12_seasons_2 : decode cX12_seasons 36 = .ok (.iconst 1, 1) ∧ decode cX12_seasons 37 = .ok (.istore_n 2, 1) ∧ decode cX12_seasons 38 = .ok (.iload_n 2, 1) ∧ decode cX12_seasons 39 = .ok (.ifCond .eq 18, 3) ∧ decode cX12_seasons 42 = .ok (.aload_n 0, 1) ∧ decode cX12_seasons 43 = .ok (.getfield 138, 3) ∧ decode cX12_seasons 46 = .ok (.ifCond .eq 11, 3) ∧ decode cX12_seasons 49 = .ok (.aload_n 0, 1) ∧ decode cX12_seasons 50 = .ok (.invokevirtual 262, 3) ∧ decode cX12_seasons 53 = .ok (.istore_n 2, 1) := by decide +kernel
theorem e_X12_seasons_3 : decode cX12_seasons 54 = .ok (.goto (-16), 3) ∧ decode cX12_seasons 57 = .ok (.aload_n 0, 1) ∧ decode cX12_seasons 58 = .ok (.getfield 163, 3) ∧ decode cX12_seasons 61 = .ok (.ifCond .ne 16, 3) ∧ decode cX12_seasons 64 = .ok (.aload_n 0, 1) ∧ decode cX12_seasons 65 = .ok (.getfield 253, 3) ∧ decode cX12_seasons 68 = .ok (.ifCond .le 9, 3) ∧ decode cX12_seasons 71 = .ok (.aload_n 0, 1) ∧ decode cX12_seasons 72 = .ok (.iconst 2, 1) ∧ decode cX12_seasons 73 = .ok (.invokevirtual 175, 3) := by decide +kernel
theorem e_X12_seasons_4 : decode cX12_seasons 76 = .ok (.pop, 1) ∧ decode cX12_seasons 77 = .ok (.aload_n 0, 1) ∧ decode cX12_seasons 78 = .ok (.getfield 163, 3) ∧ decode cX12_seasons 81 = .ok (.ifCond .ne 51, 3) ∧ decode cX12_seasons 84 = .ok (.aload_n 0, 1) ∧ decode cX12_seasons 85 = .ok (.getfield 7, 3) ∧ decode cX12_seasons 88 = .ok (.bipush 8, 2) ∧ decode cX12_seasons 90 = .ok (.aload_n 0, 1) ∧ decode cX12_seasons 91 = .ok (.getfield 7, 3) ∧ decode cX12_seasons 94 = .ok (.sipush 2064, 3) := by decide +kernel
theorem e_X12_seasons_5 : decode cX12_seasons 97 = .ok (.iaload, 1) ∧ decode cX12_seasons 98 = .ok (.iastore, 1) ∧ decode cX12_seasons 99 = .ok (.sipush 150, 3) ∧ decode cX12_seasons 102 = .ok (.istore_n 3, 1) ∧ decode cX12_seasons 103 = .ok (.iload_n 3, 1) ∧ decode cX12_seasons 104 = .ok (.sipush 510, 3) ∧ decode cX12_seasons 107 = .ok (.if_icmp .ge 25, 3) ∧ decode cX12_seasons 110 = .ok (.aload_n 0, 1) ∧ decode cX12_seasons 111 = .ok (.getfield 7, 3) ∧ decode cX12_seasons 114 = .ok (.iload_n 3, 1) := by decide +kernel
theorem e_X12_seasons_6 : decode cX12_seasons 115 = .ok (.aload_n 0, 1) ∧ decode cX12_seasons 116 = .ok (.getfield 7, 3) ∧ decode cX12_seasons 119 = .ok (.sipush 2056, 3) ∧ decode cX12_seasons 122 = .ok (.iload_n 3, 1) ∧ decode cX12_seasons 123 = .ok (.iadd, 1) ∧ decode cX12_seasons 124 = .ok (.iaload, 1) ∧ decode cX12_seasons 125 = .ok (.iastore, 1) ∧ decode cX12_seasons 126 = .ok (.iinc 3 1, 3) ∧ decode cX12_seasons 129 = .ok (.goto (-26), 3) ∧ decode cX12_seasons 132 = .ok (.aload_n 0, 1) := by decide +kernel
theorem e_X12_seasons_7 : decode cX12_seasons 133 = .ok (.aload_n 0, 1) ∧ decode cX12_seasons 134 = .ok (.getfield 256, 3) ∧ decode cX12_seasons 137 = .ok (.invokevirtual 244, 3) ∧ decode cX12_seasons 140 = .ok (.ireturn, 1) := by decide +kernel
abbrev E_X12_seasons_38 (G : Kg) (l2 : Int) (σ : Kmem) (Q : Int → Kmem → Prop) : Prop := Ex G WM M_X12_seasons 11 0 0 38 [(0, vA G 0), (2, vI l2)] [] σ Q
abbrev E_X12_seasons_57 (G : Kg) (σ : Kmem) (Q : Int → Kmem → Prop) : Prop := Ex G WM M_X12_seasons 11 0 0 57 [(0, vA G 0)] [] σ Q
abbrev E_X12_seasons_103 (G : Kg) (l3 : Int) (σ : Kmem) (Q : Int → Kmem → Prop) : Prop := Ex G WM M_X12_seasons 11 0 0 103 [(0, vA G 0), (3, vI l3)] [] σ Q
theorem S_X12_seasons {G : Kg} {σ : Kmem} {Q : Int → Kmem → Prop} {l1 : Int}  (h : Run G WM M_X12_begins 2 0 0 [vA G 0, vI l1, vI 300] σ (fun r1 s2 => (rI r1) ∧ ((r1 ≠ 0 → E_X12_seasons_38 G 1 (kup (kup (kup s2 1 2064 0) 0 22 0) 0 23 0) Q) ∧ (r1 = 0 → Run G WM M_X12_refuse 0 0 0 [vA G 0, vI 1] s2 (fun r4 s5 => Q r4 s5))))) : Run G WM M_X12_seasons 11 0 0 [vA G 0, vI l1] σ Q := by
  refine Run.of (by decide +kernel) (by show (2 : Nat) ≤ 4; decide) ?_
  show Ex G WM M_X12_seasons 11 0 0 0 [(0, vA G 0), (1, vI l1)] [] σ Q
  refine R_aload_n e_X12_seasons_0.1 0 rfl ?_
  refine R_iload_n e_X12_seasons_0.2.1 1 rfl ?_
  refine R_sipush e_X12_seasons_0.2.2.1 (by decide) ?_
  refine R_callV (mc := 0) (ms := 0) (mc' := 0) (ms' := 0) (M' := M_X12_begins) (d' := 2) (as := [vI l1, vI 300]) (st := []) 12 2 e_X12_seasons_0.2.2.2.1 (kCVof m_X12_begins l_X12_237) rfl (by decide) km_0 (by decide) (by decide) rfl rfl (by show (0 : Nat) ≤ 8; decide) ?_
  refine Run.mono h (fun r1 s2 h => ?_)
  refine R_eqs (st2 := [vI r1]) rfl rfl ?_
  obtain ⟨q3, h⟩ := h
  refine R_if_ne 17 e_X12_seasons_0.2.2.2.2.1 (by decide) q3  (fun q => ?_) (fun q => ?_)
  · replace h := h.1 q
    refine R_aload_n e_X12_seasons_0.2.2.2.2.2.2.2.2.2 0 rfl ?_
    refine R_getA 12 0 1 e_X12_seasons_1.1 f_X12_7 km_0 (fun _ _ => rfl) rm_0_0 (by decide) ?_
    refine R_sipush e_X12_seasons_1.2.1 (by decide) ?_
    refine R_iconst e_X12_seasons_1.2.2.1 ?_
    refine R_iast 3598 WM_ok e_X12_seasons_1.2.2.2.1 kma_1 (by decide) ?_
    refine R_aload_n e_X12_seasons_1.2.2.2.2.1 0 rfl ?_
    refine R_iconst e_X12_seasons_1.2.2.2.2.2.1 ?_
    refine R_putI 12 22 22 WM_ok e_X12_seasons_1.2.2.2.2.2.2.1 f_X12_253 km_0 rfl rfl rfl ?_
    refine R_aload_n e_X12_seasons_1.2.2.2.2.2.2.2.1 0 rfl ?_
    refine R_iconst e_X12_seasons_1.2.2.2.2.2.2.2.2.1 ?_
    refine R_putI 12 23 23 WM_ok e_X12_seasons_1.2.2.2.2.2.2.2.2.2 f_X12_256 km_0 rfl rfl rfl ?_
    refine R_iconst e_X12_seasons_2.1 ?_
    refine R_istore_n (ls2 := [(2, vI 1), (0, vA G 0), (1, vI l1)]) e_X12_seasons_2.2.1 (by decide) rfl ?_
    refine R_ls (ls2 := [(0, vA G 0), (2, vI 1)]) [1, 0] rfl ?_
    exact h
  · replace h := h.2 q
    refine R_aload_n e_X12_seasons_0.2.2.2.2.2.1 0 rfl ?_
    refine R_iconst e_X12_seasons_0.2.2.2.2.2.2.1 ?_
    refine R_callV (mc := 0) (ms := 0) (mc' := 0) (ms' := 0) (M' := M_X12_refuse) (d' := 0) (as := [vI 1]) (st := []) 12 1 e_X12_seasons_0.2.2.2.2.2.2.2.1 (kCVof m_X12_refuse l_X12_93) rfl (by decide) km_0 (by decide) (by decide) rfl rfl (by show (0 : Nat) ≤ 8; decide) ?_
    refine Run.mono h (fun r4 s5 h => ?_)
    refine R_eqs (st2 := [vI r4]) rfl rfl ?_
    exact R_ireturn e_X12_seasons_0.2.2.2.2.2.2.2.2.1 rfl h
theorem S_X12_seasons_38 {G : Kg} {σ : Kmem} {Q : Int → Kmem → Prop} {l1 l2 : Int}  (h : (rI l2) ∧ ((l2 = 0 → E_X12_seasons_57 G σ Q) ∧ (l2 ≠ 0 → (rI (σ 0 12)) ∧ ((σ 0 12 = 0 → E_X12_seasons_57 G σ Q) ∧ (σ 0 12 ≠ 0 → Run G WM M_X12_seasonStep 10 0 0 [vA G 0] σ (fun r8 s9 => E_X12_seasons_38 G r8 s9 Q)))))) : E_X12_seasons_38 G l2 σ Q := by
  refine R_iload_n e_X12_seasons_2.2.2.1 1 rfl ?_
  obtain ⟨q6, h⟩ := h
  refine R_if_eq 57 e_X12_seasons_2.2.2.2.1 (by decide) q6  (fun q => ?_) (fun q => ?_)
  · replace h := h.1 q
    refine R_ls (ls2 := [(0, vA G 0)]) [0] rfl ?_
    exact h
  · replace h := h.2 q
    refine R_aload_n e_X12_seasons_2.2.2.2.2.1 0 rfl ?_
    refine R_getI 12 12 12 e_X12_seasons_2.2.2.2.2.2.1 f_X12_138 km_0 (fun _ _ => rfl) rfl ?_
    obtain ⟨q7, h⟩ := h
    refine R_if_eq 57 e_X12_seasons_2.2.2.2.2.2.2.1 (by decide) q7  (fun q => ?_) (fun q => ?_)
    · replace h := h.1 q
      refine R_ls (ls2 := [(0, vA G 0)]) [0] rfl ?_
      exact h
    · replace h := h.2 q
      refine R_aload_n e_X12_seasons_2.2.2.2.2.2.2.2.1 0 rfl ?_
      refine R_callV (mc := 0) (ms := 0) (mc' := 0) (ms' := 0) (M' := M_X12_seasonStep) (d' := 10) (as := []) (st := []) 12 0 e_X12_seasons_2.2.2.2.2.2.2.2.2.1 (kCVof m_X12_seasonStep l_X12_262) rfl (by decide) km_0 (by decide) (by decide) rfl rfl (by show (0 : Nat) ≤ 8; decide) ?_
      refine Run.mono h (fun r8 s9 h => ?_)
      refine R_eqs (st2 := [vI r8]) rfl rfl ?_
      refine R_istore_n (ls2 := [(2, vI r8), (0, vA G 0)]) e_X12_seasons_2.2.2.2.2.2.2.2.2.2 (by decide) rfl ?_
      refine R_goto 38 e_X12_seasons_3.1 (by decide) ?_
      refine R_ls (ls2 := [(0, vA G 0), (2, vI r8)]) [1, 0] rfl ?_
      exact h
theorem S_X12_seasons_57 {G : Kg} {σ : Kmem} {Q : Int → Kmem → Prop} {l1 : Int}  (h : (rI (σ 0 18)) ∧ ((σ 0 18 ≠ 0 → ((σ 0 18 ≠ 0 → Run G WM M_X12_taken 1 0 0 [vA G 0, vI (σ 0 23)] σ (fun r11 s12 => Q r11 s12)) ∧ (σ 0 18 = 0 → E_X12_seasons_103 G 150 (kup σ 1 8 (σ 1 2064)) Q))) ∧ (σ 0 18 = 0 → (rI (σ 0 22)) ∧ ((σ 0 22 ≤ 0 → ((σ 0 18 ≠ 0 → Run G WM M_X12_taken 1 0 0 [vA G 0, vI (σ 0 23)] σ (fun r14 s15 => Q r14 s15)) ∧ (σ 0 18 = 0 → E_X12_seasons_103 G 150 (kup σ 1 8 (σ 1 2064)) Q))) ∧ (0 < σ 0 22 → Run G WM M_X12_fails 0 0 0 [vA G 0, vI 2] σ (fun r16 s17 => (rI (s17 0 18)) ∧ ((s17 0 18 ≠ 0 → Run G WM M_X12_taken 1 0 0 [vA G 0, vI (s17 0 23)] s17 (fun r19 s20 => Q r19 s20)) ∧ (s17 0 18 = 0 → E_X12_seasons_103 G 150 (kup s17 1 8 (s17 1 2064)) Q)))))))) : E_X12_seasons_57 G σ Q := by
  refine R_aload_n e_X12_seasons_3.2.1 0 rfl ?_
  refine R_getI 12 18 18 e_X12_seasons_3.2.2.1 f_X12_163 km_0 (fun _ _ => rfl) rfl ?_
  obtain ⟨q10, h⟩ := h
  refine R_if_ne 77 e_X12_seasons_3.2.2.2.1 (by decide) q10  (fun q => ?_) (fun q => ?_)
  · replace h := h.1 q
    refine R_aload_n e_X12_seasons_4.2.1 0 rfl ?_
    refine R_getI 12 18 18 e_X12_seasons_4.2.2.1 f_X12_163 km_0 (fun _ _ => rfl) rfl ?_
    refine R_if_ne 132 e_X12_seasons_4.2.2.2.1 (by decide) q10  (fun q => ?_) (fun q => ?_)
    · replace h := h.1 q
      refine R_aload_n e_X12_seasons_6.2.2.2.2.2.2.2.2.2 0 rfl ?_
      refine R_aload_n e_X12_seasons_7.1 0 rfl ?_
      refine R_getI 12 23 23 e_X12_seasons_7.2.1 f_X12_256 km_0 (fun _ _ => rfl) rfl ?_
      refine R_callV (mc := 0) (ms := 0) (mc' := 0) (ms' := 0) (M' := M_X12_taken) (d' := 1) (as := [vI (σ 0 23)]) (st := []) 12 1 e_X12_seasons_7.2.2.1 (kCVof m_X12_taken l_X12_244) rfl (by decide) km_0 (by decide) (by decide) rfl rfl (by show (0 : Nat) ≤ 8; decide) ?_
      refine Run.mono h (fun r11 s12 h => ?_)
      refine R_eqs (st2 := [vI r11]) rfl rfl ?_
      exact R_ireturn e_X12_seasons_7.2.2.2 rfl h
    · replace h := h.2 q
      refine R_aload_n e_X12_seasons_4.2.2.2.2.1 0 rfl ?_
      refine R_getA 12 0 1 e_X12_seasons_4.2.2.2.2.2.1 f_X12_7 km_0 (fun _ _ => rfl) rm_0_0 (by decide) ?_
      refine R_bipush e_X12_seasons_4.2.2.2.2.2.2.1 (by decide) ?_
      refine R_aload_n e_X12_seasons_4.2.2.2.2.2.2.2.1 0 rfl ?_
      refine R_getA 12 0 1 e_X12_seasons_4.2.2.2.2.2.2.2.2.1 f_X12_7 km_0 (fun _ _ => rfl) rm_0_0 (by decide) ?_
      refine R_sipush e_X12_seasons_4.2.2.2.2.2.2.2.2.2 (by decide) ?_
      refine R_iald 3598 e_X12_seasons_5.1 kma_1 (by decide) ?_
      refine R_iast 3598 WM_ok e_X12_seasons_5.2.1 kma_1 (by decide) ?_
      refine R_sipush e_X12_seasons_5.2.2.1 (by decide) ?_
      refine R_istore_n (ls2 := [(3, vI 150), (0, vA G 0)]) e_X12_seasons_5.2.2.2.1 (by decide) rfl ?_
      refine R_ls (ls2 := [(0, vA G 0), (3, vI 150)]) [1, 0] rfl ?_
      exact h
  · replace h := h.2 q
    refine R_aload_n e_X12_seasons_3.2.2.2.2.1 0 rfl ?_
    refine R_getI 12 22 22 e_X12_seasons_3.2.2.2.2.2.1 f_X12_253 km_0 (fun _ _ => rfl) rfl ?_
    obtain ⟨q13, h⟩ := h
    refine R_if_le 77 e_X12_seasons_3.2.2.2.2.2.2.1 (by decide) q13  (fun q => ?_) (fun q => ?_)
    · replace h := h.1 q
      refine R_aload_n e_X12_seasons_4.2.1 0 rfl ?_
      refine R_getI 12 18 18 e_X12_seasons_4.2.2.1 f_X12_163 km_0 (fun _ _ => rfl) rfl ?_
      refine R_if_ne 132 e_X12_seasons_4.2.2.2.1 (by decide) q10  (fun q => ?_) (fun q => ?_)
      · replace h := h.1 q
        refine R_aload_n e_X12_seasons_6.2.2.2.2.2.2.2.2.2 0 rfl ?_
        refine R_aload_n e_X12_seasons_7.1 0 rfl ?_
        refine R_getI 12 23 23 e_X12_seasons_7.2.1 f_X12_256 km_0 (fun _ _ => rfl) rfl ?_
        refine R_callV (mc := 0) (ms := 0) (mc' := 0) (ms' := 0) (M' := M_X12_taken) (d' := 1) (as := [vI (σ 0 23)]) (st := []) 12 1 e_X12_seasons_7.2.2.1 (kCVof m_X12_taken l_X12_244) rfl (by decide) km_0 (by decide) (by decide) rfl rfl (by show (0 : Nat) ≤ 8; decide) ?_
        refine Run.mono h (fun r14 s15 h => ?_)
        refine R_eqs (st2 := [vI r14]) rfl rfl ?_
        exact R_ireturn e_X12_seasons_7.2.2.2 rfl h
      · replace h := h.2 q
        refine R_aload_n e_X12_seasons_4.2.2.2.2.1 0 rfl ?_
        refine R_getA 12 0 1 e_X12_seasons_4.2.2.2.2.2.1 f_X12_7 km_0 (fun _ _ => rfl) rm_0_0 (by decide) ?_
        refine R_bipush e_X12_seasons_4.2.2.2.2.2.2.1 (by decide) ?_
        refine R_aload_n e_X12_seasons_4.2.2.2.2.2.2.2.1 0 rfl ?_
        refine R_getA 12 0 1 e_X12_seasons_4.2.2.2.2.2.2.2.2.1 f_X12_7 km_0 (fun _ _ => rfl) rm_0_0 (by decide) ?_
        refine R_sipush e_X12_seasons_4.2.2.2.2.2.2.2.2.2 (by decide) ?_
        refine R_iald 3598 e_X12_seasons_5.1 kma_1 (by decide) ?_
        refine R_iast 3598 WM_ok e_X12_seasons_5.2.1 kma_1 (by decide) ?_
        refine R_sipush e_X12_seasons_5.2.2.1 (by decide) ?_
        refine R_istore_n (ls2 := [(3, vI 150), (0, vA G 0)]) e_X12_seasons_5.2.2.2.1 (by decide) rfl ?_
        refine R_ls (ls2 := [(0, vA G 0), (3, vI 150)]) [1, 0] rfl ?_
        exact h
    · replace h := h.2 q
      refine R_aload_n e_X12_seasons_3.2.2.2.2.2.2.2.1 0 rfl ?_
      refine R_iconst e_X12_seasons_3.2.2.2.2.2.2.2.2.1 ?_
      refine R_callV (mc := 0) (ms := 0) (mc' := 0) (ms' := 0) (M' := M_X12_fails) (d' := 0) (as := [vI 2]) (st := []) 12 1 e_X12_seasons_3.2.2.2.2.2.2.2.2.2 (kCVof m_X12_fails l_X12_175) rfl (by decide) km_0 (by decide) (by decide) rfl rfl (by show (0 : Nat) ≤ 8; decide) ?_
      refine Run.mono h (fun r16 s17 h => ?_)
      refine R_eqs (st2 := [vI r16]) rfl rfl ?_
      refine R_pop e_X12_seasons_4.1 rfl ?_
      refine R_aload_n e_X12_seasons_4.2.1 0 rfl ?_
      refine R_getI 12 18 18 e_X12_seasons_4.2.2.1 f_X12_163 km_0 (fun _ _ => rfl) rfl ?_
      obtain ⟨q18, h⟩ := h
      refine R_if_ne 132 e_X12_seasons_4.2.2.2.1 (by decide) q18  (fun q => ?_) (fun q => ?_)
      · replace h := h.1 q
        refine R_aload_n e_X12_seasons_6.2.2.2.2.2.2.2.2.2 0 rfl ?_
        refine R_aload_n e_X12_seasons_7.1 0 rfl ?_
        refine R_getI 12 23 23 e_X12_seasons_7.2.1 f_X12_256 km_0 (fun _ _ => rfl) rfl ?_
        refine R_callV (mc := 0) (ms := 0) (mc' := 0) (ms' := 0) (M' := M_X12_taken) (d' := 1) (as := [vI (s17 0 23)]) (st := []) 12 1 e_X12_seasons_7.2.2.1 (kCVof m_X12_taken l_X12_244) rfl (by decide) km_0 (by decide) (by decide) rfl rfl (by show (0 : Nat) ≤ 8; decide) ?_
        refine Run.mono h (fun r19 s20 h => ?_)
        refine R_eqs (st2 := [vI r19]) rfl rfl ?_
        exact R_ireturn e_X12_seasons_7.2.2.2 rfl h
      · replace h := h.2 q
        refine R_aload_n e_X12_seasons_4.2.2.2.2.1 0 rfl ?_
        refine R_getA 12 0 1 e_X12_seasons_4.2.2.2.2.2.1 f_X12_7 km_0 (fun _ _ => rfl) rm_0_0 (by decide) ?_
        refine R_bipush e_X12_seasons_4.2.2.2.2.2.2.1 (by decide) ?_
        refine R_aload_n e_X12_seasons_4.2.2.2.2.2.2.2.1 0 rfl ?_
        refine R_getA 12 0 1 e_X12_seasons_4.2.2.2.2.2.2.2.2.1 f_X12_7 km_0 (fun _ _ => rfl) rm_0_0 (by decide) ?_
        refine R_sipush e_X12_seasons_4.2.2.2.2.2.2.2.2.2 (by decide) ?_
        refine R_iald 3598 e_X12_seasons_5.1 kma_1 (by decide) ?_
        refine R_iast 3598 WM_ok e_X12_seasons_5.2.1 kma_1 (by decide) ?_
        refine R_sipush e_X12_seasons_5.2.2.1 (by decide) ?_
        refine R_istore_n (ls2 := [(3, vI 150), (0, vA G 0)]) e_X12_seasons_5.2.2.2.1 (by decide) rfl ?_
        refine R_ls (ls2 := [(0, vA G 0), (3, vI 150)]) [1, 0] rfl ?_
        exact h
theorem S_X12_seasons_103 {G : Kg} {σ : Kmem} {Q : Int → Kmem → Prop} {l1 l3 : Int}  (h : (rI l3) ∧ ((510 ≤ l3 → Run G WM M_X12_taken 1 0 0 [vA G 0, vI (σ 0 23)] σ (fun r22 s23 => Q r22 s23)) ∧ (l3 < 510 → (0 ≤ 2056 + l3 ∧ 2056 + l3 < 3598) ∧ (0 ≤ l3 ∧ l3 < 3598) ∧ E_X12_seasons_103 G (l3 + 1) (kup σ 1 l3 (σ 1 (2056 + l3))) Q))) : E_X12_seasons_103 G l3 σ Q := by
  refine R_iload_n e_X12_seasons_5.2.2.2.2.1 1 rfl ?_
  refine R_sipush e_X12_seasons_5.2.2.2.2.2.1 (by decide) ?_
  obtain ⟨q21, h⟩ := h
  refine R_icmp_ge 132 e_X12_seasons_5.2.2.2.2.2.2.1 (by decide) q21 (by decide) (fun q => ?_) (fun q => ?_)
  · replace h := h.1 q
    refine R_aload_n e_X12_seasons_6.2.2.2.2.2.2.2.2.2 0 rfl ?_
    refine R_aload_n e_X12_seasons_7.1 0 rfl ?_
    refine R_getI 12 23 23 e_X12_seasons_7.2.1 f_X12_256 km_0 (fun _ _ => rfl) rfl ?_
    refine R_callV (mc := 0) (ms := 0) (mc' := 0) (ms' := 0) (M' := M_X12_taken) (d' := 1) (as := [vI (σ 0 23)]) (st := []) 12 1 e_X12_seasons_7.2.2.1 (kCVof m_X12_taken l_X12_244) rfl (by decide) km_0 (by decide) (by decide) rfl rfl (by show (0 : Nat) ≤ 8; decide) ?_
    refine Run.mono h (fun r22 s23 h => ?_)
    refine R_eqs (st2 := [vI r22]) rfl rfl ?_
    exact R_ireturn e_X12_seasons_7.2.2.2 rfl h
  · replace h := h.2 q
    refine R_aload_n e_X12_seasons_5.2.2.2.2.2.2.2.1 0 rfl ?_
    refine R_getA 12 0 1 e_X12_seasons_5.2.2.2.2.2.2.2.2.1 f_X12_7 km_0 (fun _ _ => rfl) rm_0_0 (by decide) ?_
    refine R_iload_n e_X12_seasons_5.2.2.2.2.2.2.2.2.2 1 rfl ?_
    refine R_aload_n e_X12_seasons_6.1 0 rfl ?_
    refine R_getA 12 0 1 e_X12_seasons_6.2.1 f_X12_7 km_0 (fun _ _ => rfl) rm_0_0 (by decide) ?_
    refine R_sipush e_X12_seasons_6.2.2.1 (by decide) ?_
    refine R_iload_n e_X12_seasons_6.2.2.2.1 1 rfl ?_
    refine R_iadd e_X12_seasons_6.2.2.2.2.1 ?_
    obtain ⟨q24, h⟩ := h
    refine R_iald 3598 e_X12_seasons_6.2.2.2.2.2.1 kma_1 q24 ?_
    obtain ⟨q25, h⟩ := h
    refine R_iast 3598 WM_ok e_X12_seasons_6.2.2.2.2.2.2.1 kma_1 q25 ?_
    refine R_iinc (ls2 := [(3, vI (l3 + 1)), (0, vA G 0)]) e_X12_seasons_6.2.2.2.2.2.2.2.1 1 rfl (by decide) rfl ?_
    refine R_goto 103 e_X12_seasons_6.2.2.2.2.2.2.2.2.1 (by decide) ?_
    refine R_ls (ls2 := [(0, vA G 0), (3, vI (l3 + 1))]) [1, 0] rfl ?_
    exact h
/-! KiteLandModel.kiteRow(I)I -/
theorem e_X12_kiteRow_0 : decode cX12_kiteRow 0 = .ok (.bipush 34, 2) ∧ decode cX12_kiteRow 2 = .ok (.bipush 9, 2) ∧ decode cX12_kiteRow 4 = .ok (.iload_n 0, 1) ∧ decode cX12_kiteRow 5 = .ok (.imul, 1) ∧ decode cX12_kiteRow 6 = .ok (.iadd, 1) ∧ decode cX12_kiteRow 7 = .ok (.ireturn, 1) := by decide +kernel
theorem S_X12_kiteRow {G : Kg} {σ : Kmem} {Q : Int → Kmem → Prop} {l0 : Int}  (h : Q (34 + (9 * l0)) σ) : Run G WM M_X12_kiteRow 0 0 0 [vI l0] σ Q := by
  refine Run.of (by decide +kernel) (by show (1 : Nat) ≤ 1; decide) ?_
  show Ex G WM M_X12_kiteRow 0 0 0 0 [(0, vI l0)] [] σ Q
  refine R_bipush e_X12_kiteRow_0.1 (by decide) ?_
  refine R_bipush e_X12_kiteRow_0.2.1 (by decide) ?_
  refine R_iload_n e_X12_kiteRow_0.2.2.1 0 rfl ?_
  refine R_imul e_X12_kiteRow_0.2.2.2.1 ?_
  refine R_iadd e_X12_kiteRow_0.2.2.2.2.1 ?_
  exact R_ireturn e_X12_kiteRow_0.2.2.2.2.2 rfl h
/-! KiteLandModel.cropRow(I)I -/
theorem e_X12_cropRow_0 : decode cX12_cropRow 0 = .ok (.bipush 88, 2) ∧ decode cX12_cropRow 2 = .ok (.iconst 4, 1) ∧ decode cX12_cropRow 3 = .ok (.iload_n 0, 1) ∧ decode cX12_cropRow 4 = .ok (.imul, 1) ∧ decode cX12_cropRow 5 = .ok (.iadd, 1) ∧ decode cX12_cropRow 6 = .ok (.ireturn, 1) := by decide +kernel
theorem S_X12_cropRow {G : Kg} {σ : Kmem} {Q : Int → Kmem → Prop} {l0 : Int}  (h : Q (88 + (4 * l0)) σ) : Run G WM M_X12_cropRow 0 0 0 [vI l0] σ Q := by
  refine Run.of (by decide +kernel) (by show (1 : Nat) ≤ 1; decide) ?_
  show Ex G WM M_X12_cropRow 0 0 0 0 [(0, vI l0)] [] σ Q
  refine R_bipush e_X12_cropRow_0.1 (by decide) ?_
  refine R_iconst e_X12_cropRow_0.2.1 ?_
  refine R_iload_n e_X12_cropRow_0.2.2.1 0 rfl ?_
  refine R_imul e_X12_cropRow_0.2.2.2.1 ?_
  refine R_iadd e_X12_cropRow_0.2.2.2.2.1 ?_
  exact R_ireturn e_X12_cropRow_0.2.2.2.2.2 rfl h
/-! KiteLandModel.tenantRow(I)I -/
theorem e_X12_tenantRow_0 : decode cX12_tenantRow 0 = .ok (.bipush 120, 2) ∧ decode cX12_tenantRow 2 = .ok (.iconst 5, 1) ∧ decode cX12_tenantRow 3 = .ok (.iload_n 0, 1) ∧ decode cX12_tenantRow 4 = .ok (.imul, 1) ∧ decode cX12_tenantRow 5 = .ok (.iadd, 1) ∧ decode cX12_tenantRow 6 = .ok (.ireturn, 1) := by decide +kernel
theorem S_X12_tenantRow {G : Kg} {σ : Kmem} {Q : Int → Kmem → Prop} {l0 : Int}  (h : Q (120 + (5 * l0)) σ) : Run G WM M_X12_tenantRow 0 0 0 [vI l0] σ Q := by
  refine Run.of (by decide +kernel) (by show (1 : Nat) ≤ 1; decide) ?_
  show Ex G WM M_X12_tenantRow 0 0 0 0 [(0, vI l0)] [] σ Q
  refine R_bipush e_X12_tenantRow_0.1 (by decide) ?_
  refine R_iconst e_X12_tenantRow_0.2.1 ?_
  refine R_iload_n e_X12_tenantRow_0.2.2.1 0 rfl ?_
  refine R_imul e_X12_tenantRow_0.2.2.2.1 ?_
  refine R_iadd e_X12_tenantRow_0.2.2.2.2.1 ?_
  exact R_ireturn e_X12_tenantRow_0.2.2.2.2.2 rfl h
/-! KiteLandModel.isKite(I)Z -/
theorem e_X12_isKite_0 : decode cX12_isKite 0 = .ok (.iload_n 1, 1) ∧ decode cX12_isKite 1 = .ok (.ifCond .lt 17, 3) ∧ decode cX12_isKite 4 = .ok (.iload_n 1, 1) ∧ decode cX12_isKite 5 = .ok (.aload_n 0, 1) ∧ decode cX12_isKite 6 = .ok (.getfield 7, 3) ∧ decode cX12_isKite 9 = .ok (.iconst 2, 1) ∧ decode cX12_isKite 10 = .ok (.iaload, 1) ∧ decode cX12_isKite 11 = .ok (.if_icmp .ge 7, 3) ∧ decode cX12_isKite 14 = .ok (.iconst 1, 1) ∧ decode cX12_isKite 15 = .ok (.goto 4, 3) := by decide +kernel
theorem e_X12_isKite_1 : decode cX12_isKite 18 = .ok (.iconst 0, 1) ∧ decode cX12_isKite 19 = .ok (.ireturn, 1) := by decide +kernel
theorem S_X12_isKite {G : Kg} {σ : Kmem} {Q : Int → Kmem → Prop} {l1 : Int}  (h : (rI l1) ∧ ((l1 < 0 → Q 0 σ) ∧ (0 ≤ l1 → (rI (σ 1 2)) ∧ ((σ 1 2 ≤ l1 → Q 0 σ) ∧ (l1 < σ 1 2 → Q 1 σ))))) : Run G WM M_X12_isKite 0 0 0 [vA G 0, vI l1] σ Q := by
  refine Run.of (by decide +kernel) (by show (2 : Nat) ≤ 2; decide) ?_
  show Ex G WM M_X12_isKite 0 0 0 0 [(0, vA G 0), (1, vI l1)] [] σ Q
  refine R_iload_n e_X12_isKite_0.1 1 rfl ?_
  obtain ⟨q1, h⟩ := h
  refine R_if_lt 18 e_X12_isKite_0.2.1 (by decide) q1  (fun q => ?_) (fun q => ?_)
  · replace h := h.1 q
    refine R_iconst e_X12_isKite_1.1 ?_
    exact R_zreturn e_X12_isKite_1.2 rfl (Or.inl rfl) h
  · replace h := h.2 q
    refine R_iload_n e_X12_isKite_0.2.2.1 1 rfl ?_
    refine R_aload_n e_X12_isKite_0.2.2.2.1 0 rfl ?_
    refine R_getA 12 0 1 e_X12_isKite_0.2.2.2.2.1 f_X12_7 km_0 (fun _ _ => rfl) rm_0_0 (by decide) ?_
    refine R_iconst e_X12_isKite_0.2.2.2.2.2.1 ?_
    refine R_iald 3598 e_X12_isKite_0.2.2.2.2.2.2.1 kma_1 (by decide) ?_
    obtain ⟨q2, h⟩ := h
    refine R_icmp_ge 18 e_X12_isKite_0.2.2.2.2.2.2.2.1 (by decide) q1 q2 (fun q => ?_) (fun q => ?_)
    · replace h := h.1 q
      refine R_iconst e_X12_isKite_1.1 ?_
      exact R_zreturn e_X12_isKite_1.2 rfl (Or.inl rfl) h
    · replace h := h.2 q
      refine R_iconst e_X12_isKite_0.2.2.2.2.2.2.2.2.1 ?_
      refine R_goto 19 e_X12_isKite_0.2.2.2.2.2.2.2.2.2 (by decide) ?_
      exact R_zreturn e_X12_isKite_1.2 rfl (Or.inr rfl) h
/-! KiteLandModel.isCrop(I)Z -/
theorem e_X12_isCrop_0 : decode cX12_isCrop 0 = .ok (.iload_n 1, 1) ∧ decode cX12_isCrop 1 = .ok (.ifCond .lt 17, 3) ∧ decode cX12_isCrop 4 = .ok (.iload_n 1, 1) ∧ decode cX12_isCrop 5 = .ok (.aload_n 0, 1) ∧ decode cX12_isCrop 6 = .ok (.getfield 7, 3) ∧ decode cX12_isCrop 9 = .ok (.iconst 3, 1) ∧ decode cX12_isCrop 10 = .ok (.iaload, 1) ∧ decode cX12_isCrop 11 = .ok (.if_icmp .ge 7, 3) ∧ decode cX12_isCrop 14 = .ok (.iconst 1, 1) ∧ decode cX12_isCrop 15 = .ok (.goto 4, 3) := by decide +kernel
theorem e_X12_isCrop_1 : decode cX12_isCrop 18 = .ok (.iconst 0, 1) ∧ decode cX12_isCrop 19 = .ok (.ireturn, 1) := by decide +kernel
theorem S_X12_isCrop {G : Kg} {σ : Kmem} {Q : Int → Kmem → Prop} {l1 : Int}  (h : (rI l1) ∧ ((l1 < 0 → Q 0 σ) ∧ (0 ≤ l1 → (rI (σ 1 3)) ∧ ((σ 1 3 ≤ l1 → Q 0 σ) ∧ (l1 < σ 1 3 → Q 1 σ))))) : Run G WM M_X12_isCrop 0 0 0 [vA G 0, vI l1] σ Q := by
  refine Run.of (by decide +kernel) (by show (2 : Nat) ≤ 2; decide) ?_
  show Ex G WM M_X12_isCrop 0 0 0 0 [(0, vA G 0), (1, vI l1)] [] σ Q
  refine R_iload_n e_X12_isCrop_0.1 1 rfl ?_
  obtain ⟨q1, h⟩ := h
  refine R_if_lt 18 e_X12_isCrop_0.2.1 (by decide) q1  (fun q => ?_) (fun q => ?_)
  · replace h := h.1 q
    refine R_iconst e_X12_isCrop_1.1 ?_
    exact R_zreturn e_X12_isCrop_1.2 rfl (Or.inl rfl) h
  · replace h := h.2 q
    refine R_iload_n e_X12_isCrop_0.2.2.1 1 rfl ?_
    refine R_aload_n e_X12_isCrop_0.2.2.2.1 0 rfl ?_
    refine R_getA 12 0 1 e_X12_isCrop_0.2.2.2.2.1 f_X12_7 km_0 (fun _ _ => rfl) rm_0_0 (by decide) ?_
    refine R_iconst e_X12_isCrop_0.2.2.2.2.2.1 ?_
    refine R_iald 3598 e_X12_isCrop_0.2.2.2.2.2.2.1 kma_1 (by decide) ?_
    obtain ⟨q2, h⟩ := h
    refine R_icmp_ge 18 e_X12_isCrop_0.2.2.2.2.2.2.2.1 (by decide) q1 q2 (fun q => ?_) (fun q => ?_)
    · replace h := h.1 q
      refine R_iconst e_X12_isCrop_1.1 ?_
      exact R_zreturn e_X12_isCrop_1.2 rfl (Or.inl rfl) h
    · replace h := h.2 q
      refine R_iconst e_X12_isCrop_0.2.2.2.2.2.2.2.2.1 ?_
      refine R_goto 19 e_X12_isCrop_0.2.2.2.2.2.2.2.2.2 (by decide) ?_
      exact R_zreturn e_X12_isCrop_1.2 rfl (Or.inr rfl) h
/-! KiteLandModel.isTenant(I)Z -/
theorem e_X12_isTenant_0 : decode cX12_isTenant 0 = .ok (.iload_n 1, 1) ∧ decode cX12_isTenant 1 = .ok (.ifCond .lt 17, 3) ∧ decode cX12_isTenant 4 = .ok (.iload_n 1, 1) ∧ decode cX12_isTenant 5 = .ok (.aload_n 0, 1) ∧ decode cX12_isTenant 6 = .ok (.getfield 7, 3) ∧ decode cX12_isTenant 9 = .ok (.iconst 4, 1) ∧ decode cX12_isTenant 10 = .ok (.iaload, 1) ∧ decode cX12_isTenant 11 = .ok (.if_icmp .ge 7, 3) ∧ decode cX12_isTenant 14 = .ok (.iconst 1, 1) ∧ decode cX12_isTenant 15 = .ok (.goto 4, 3) := by decide +kernel
theorem e_X12_isTenant_1 : decode cX12_isTenant 18 = .ok (.iconst 0, 1) ∧ decode cX12_isTenant 19 = .ok (.ireturn, 1) := by decide +kernel
theorem S_X12_isTenant {G : Kg} {σ : Kmem} {Q : Int → Kmem → Prop} {l1 : Int}  (h : (rI l1) ∧ ((l1 < 0 → Q 0 σ) ∧ (0 ≤ l1 → (rI (σ 1 4)) ∧ ((σ 1 4 ≤ l1 → Q 0 σ) ∧ (l1 < σ 1 4 → Q 1 σ))))) : Run G WM M_X12_isTenant 0 0 0 [vA G 0, vI l1] σ Q := by
  refine Run.of (by decide +kernel) (by show (2 : Nat) ≤ 2; decide) ?_
  show Ex G WM M_X12_isTenant 0 0 0 0 [(0, vA G 0), (1, vI l1)] [] σ Q
  refine R_iload_n e_X12_isTenant_0.1 1 rfl ?_
  obtain ⟨q1, h⟩ := h
  refine R_if_lt 18 e_X12_isTenant_0.2.1 (by decide) q1  (fun q => ?_) (fun q => ?_)
  · replace h := h.1 q
    refine R_iconst e_X12_isTenant_1.1 ?_
    exact R_zreturn e_X12_isTenant_1.2 rfl (Or.inl rfl) h
  · replace h := h.2 q
    refine R_iload_n e_X12_isTenant_0.2.2.1 1 rfl ?_
    refine R_aload_n e_X12_isTenant_0.2.2.2.1 0 rfl ?_
    refine R_getA 12 0 1 e_X12_isTenant_0.2.2.2.2.1 f_X12_7 km_0 (fun _ _ => rfl) rm_0_0 (by decide) ?_
    refine R_iconst e_X12_isTenant_0.2.2.2.2.2.1 ?_
    refine R_iald 3598 e_X12_isTenant_0.2.2.2.2.2.2.1 kma_1 (by decide) ?_
    obtain ⟨q2, h⟩ := h
    refine R_icmp_ge 18 e_X12_isTenant_0.2.2.2.2.2.2.2.1 (by decide) q1 q2 (fun q => ?_) (fun q => ?_)
    · replace h := h.1 q
      refine R_iconst e_X12_isTenant_1.1 ?_
      exact R_zreturn e_X12_isTenant_1.2 rfl (Or.inl rfl) h
    · replace h := h.2 q
      refine R_iconst e_X12_isTenant_0.2.2.2.2.2.2.2.2.1 ?_
      refine R_goto 19 e_X12_isTenant_0.2.2.2.2.2.2.2.2.2 (by decide) ?_
      exact R_zreturn e_X12_isTenant_1.2 rfl (Or.inr rfl) h
/-! KiteLandModel.isField(II)Z -/
theorem e_X12_isField_0 : decode cX12_isField 0 = .ok (.iload_n 1, 1) ∧ decode cX12_isField 1 = .ok (.ifCond .lt 31, 3) ∧ decode cX12_isField 4 = .ok (.iload_n 2, 1) ∧ decode cX12_isField 5 = .ok (.ifCond .lt 27, 3) ∧ decode cX12_isField 8 = .ok (.iload_n 1, 1) ∧ decode cX12_isField 9 = .ok (.aload_n 0, 1) ∧ decode cX12_isField 10 = .ok (.getfield 7, 3) ∧ decode cX12_isField 13 = .ok (.iconst 0, 1) ∧ decode cX12_isField 14 = .ok (.iaload, 1) ∧ decode cX12_isField 15 = .ok (.if_icmp .ge 17, 3) := by decide +kernel
theorem e_X12_isField_1 : decode cX12_isField 18 = .ok (.iload_n 2, 1) ∧ decode cX12_isField 19 = .ok (.aload_n 0, 1) ∧ decode cX12_isField 20 = .ok (.getfield 7, 3) ∧ decode cX12_isField 23 = .ok (.iconst 1, 1) ∧ decode cX12_isField 24 = .ok (.iaload, 1) ∧ decode cX12_isField 25 = .ok (.if_icmp .ge 7, 3) ∧ decode cX12_isField 28 = .ok (.iconst 1, 1) ∧ decode cX12_isField 29 = .ok (.goto 4, 3) ∧ decode cX12_isField 32 = .ok (.iconst 0, 1) ∧ decode cX12_isField 33 = .ok (.ireturn, 1) := by decide +kernel
theorem S_X12_isField {G : Kg} {σ : Kmem} {Q : Int → Kmem → Prop} {l1 l2 : Int}  (h : (rI l1) ∧ ((l1 < 0 → Q 0 σ) ∧ (0 ≤ l1 → (rI l2) ∧ ((l2 < 0 → Q 0 σ) ∧ (0 ≤ l2 → (rI (σ 1 0)) ∧ ((σ 1 0 ≤ l1 → Q 0 σ) ∧ (l1 < σ 1 0 → (rI (σ 1 1)) ∧ ((σ 1 1 ≤ l2 → Q 0 σ) ∧ (l2 < σ 1 1 → Q 1 σ))))))))) : Run G WM M_X12_isField 0 0 0 [vA G 0, vI l1, vI l2] σ Q := by
  refine Run.of (by decide +kernel) (by show (3 : Nat) ≤ 3; decide) ?_
  show Ex G WM M_X12_isField 0 0 0 0 [(0, vA G 0), (1, vI l1), (2, vI l2)] [] σ Q
  refine R_iload_n e_X12_isField_0.1 1 rfl ?_
  obtain ⟨q1, h⟩ := h
  refine R_if_lt 32 e_X12_isField_0.2.1 (by decide) q1  (fun q => ?_) (fun q => ?_)
  · replace h := h.1 q
    refine R_iconst e_X12_isField_1.2.2.2.2.2.2.2.2.1 ?_
    exact R_zreturn e_X12_isField_1.2.2.2.2.2.2.2.2.2 rfl (Or.inl rfl) h
  · replace h := h.2 q
    refine R_iload_n e_X12_isField_0.2.2.1 2 rfl ?_
    obtain ⟨q2, h⟩ := h
    refine R_if_lt 32 e_X12_isField_0.2.2.2.1 (by decide) q2  (fun q => ?_) (fun q => ?_)
    · replace h := h.1 q
      refine R_iconst e_X12_isField_1.2.2.2.2.2.2.2.2.1 ?_
      exact R_zreturn e_X12_isField_1.2.2.2.2.2.2.2.2.2 rfl (Or.inl rfl) h
    · replace h := h.2 q
      refine R_iload_n e_X12_isField_0.2.2.2.2.1 1 rfl ?_
      refine R_aload_n e_X12_isField_0.2.2.2.2.2.1 0 rfl ?_
      refine R_getA 12 0 1 e_X12_isField_0.2.2.2.2.2.2.1 f_X12_7 km_0 (fun _ _ => rfl) rm_0_0 (by decide) ?_
      refine R_iconst e_X12_isField_0.2.2.2.2.2.2.2.1 ?_
      refine R_iald 3598 e_X12_isField_0.2.2.2.2.2.2.2.2.1 kma_1 (by decide) ?_
      obtain ⟨q3, h⟩ := h
      refine R_icmp_ge 32 e_X12_isField_0.2.2.2.2.2.2.2.2.2 (by decide) q1 q3 (fun q => ?_) (fun q => ?_)
      · replace h := h.1 q
        refine R_iconst e_X12_isField_1.2.2.2.2.2.2.2.2.1 ?_
        exact R_zreturn e_X12_isField_1.2.2.2.2.2.2.2.2.2 rfl (Or.inl rfl) h
      · replace h := h.2 q
        refine R_iload_n e_X12_isField_1.1 2 rfl ?_
        refine R_aload_n e_X12_isField_1.2.1 0 rfl ?_
        refine R_getA 12 0 1 e_X12_isField_1.2.2.1 f_X12_7 km_0 (fun _ _ => rfl) rm_0_0 (by decide) ?_
        refine R_iconst e_X12_isField_1.2.2.2.1 ?_
        refine R_iald 3598 e_X12_isField_1.2.2.2.2.1 kma_1 (by decide) ?_
        obtain ⟨q4, h⟩ := h
        refine R_icmp_ge 32 e_X12_isField_1.2.2.2.2.2.1 (by decide) q2 q4 (fun q => ?_) (fun q => ?_)
        · replace h := h.1 q
          refine R_iconst e_X12_isField_1.2.2.2.2.2.2.2.2.1 ?_
          exact R_zreturn e_X12_isField_1.2.2.2.2.2.2.2.2.2 rfl (Or.inl rfl) h
        · replace h := h.2 q
          refine R_iconst e_X12_isField_1.2.2.2.2.2.2.1 ?_
          refine R_goto 33 e_X12_isField_1.2.2.2.2.2.2.2.1 (by decide) ?_
          exact R_zreturn e_X12_isField_1.2.2.2.2.2.2.2.2.2 rfl (Or.inr rfl) h
/-! KiteLandModel.isHour(I)Z -/
theorem e_X12_isHour_0 : decode cX12_isHour 0 = .ok (.iload_n 0, 1) ∧ decode cX12_isHour 1 = .ok (.ifCond .lt 13, 3) ∧ decode cX12_isHour 4 = .ok (.iload_n 0, 1) ∧ decode cX12_isHour 5 = .ok (.bipush 12, 2) ∧ decode cX12_isHour 7 = .ok (.if_icmp .ge 7, 3) ∧ decode cX12_isHour 10 = .ok (.iconst 1, 1) ∧ decode cX12_isHour 11 = .ok (.goto 4, 3) ∧ decode cX12_isHour 14 = .ok (.iconst 0, 1) ∧ decode cX12_isHour 15 = .ok (.ireturn, 1) := by decide +kernel
theorem S_X12_isHour {G : Kg} {σ : Kmem} {Q : Int → Kmem → Prop} {l0 : Int}  (h : (rI l0) ∧ ((l0 < 0 → Q 0 σ) ∧ (0 ≤ l0 → ((12 ≤ l0 → Q 0 σ) ∧ (l0 < 12 → Q 1 σ))))) : Run G WM M_X12_isHour 0 0 0 [vI l0] σ Q := by
  refine Run.of (by decide +kernel) (by show (1 : Nat) ≤ 1; decide) ?_
  show Ex G WM M_X12_isHour 0 0 0 0 [(0, vI l0)] [] σ Q
  refine R_iload_n e_X12_isHour_0.1 0 rfl ?_
  obtain ⟨q1, h⟩ := h
  refine R_if_lt 14 e_X12_isHour_0.2.1 (by decide) q1  (fun q => ?_) (fun q => ?_)
  · replace h := h.1 q
    refine R_iconst e_X12_isHour_0.2.2.2.2.2.2.2.1 ?_
    exact R_zreturn e_X12_isHour_0.2.2.2.2.2.2.2.2 rfl (Or.inl rfl) h
  · replace h := h.2 q
    refine R_iload_n e_X12_isHour_0.2.2.1 0 rfl ?_
    refine R_bipush e_X12_isHour_0.2.2.2.1 (by decide) ?_
    refine R_icmp_ge 14 e_X12_isHour_0.2.2.2.2.1 (by decide) q1 (by decide) (fun q => ?_) (fun q => ?_)
    · replace h := h.1 q
      refine R_iconst e_X12_isHour_0.2.2.2.2.2.2.2.1 ?_
      exact R_zreturn e_X12_isHour_0.2.2.2.2.2.2.2.2 rfl (Or.inl rfl) h
    · replace h := h.2 q
      refine R_iconst e_X12_isHour_0.2.2.2.2.2.1 ?_
      refine R_goto 15 e_X12_isHour_0.2.2.2.2.2.2.1 (by decide) ?_
      exact R_zreturn e_X12_isHour_0.2.2.2.2.2.2.2.2 rfl (Or.inr rfl) h
/-! KiteLandModel.isIn(II)Z -/
theorem e_X12_isIn_0 : decode cX12_isIn 0 = .ok (.iload_n 1, 1) ∧ decode cX12_isIn 1 = .ok (.iload_n 2, 1) ∧ decode cX12_isIn 2 = .ok (.ishr, 1) ∧ decode cX12_isIn 3 = .ok (.iconst 1, 1) ∧ decode cX12_isIn 4 = .ok (.iand, 1) ∧ decode cX12_isIn 5 = .ok (.iconst 1, 1) ∧ decode cX12_isIn 6 = .ok (.if_icmp .ne 7, 3) ∧ decode cX12_isIn 9 = .ok (.iconst 1, 1) ∧ decode cX12_isIn 10 = .ok (.goto 4, 3) ∧ decode cX12_isIn 13 = .ok (.iconst 0, 1) := by decide +kernel
theorem e_X12_isIn_1 : decode cX12_isIn 14 = .ok (.ireturn, 1) := by decide +kernel
theorem S_X12_isIn {G : Kg} {σ : Kmem} {Q : Int → Kmem → Prop} {l1 l2 : Int}  (h : (rI (kand (kshr l1 l2) 1)) ∧ ((kand (kshr l1 l2) 1 ≠ 1 → Q 0 σ) ∧ (kand (kshr l1 l2) 1 = 1 → Q 1 σ))) : Run G WM M_X12_isIn 0 0 0 [vA G 0, vI l1, vI l2] σ Q := by
  refine Run.of (by decide +kernel) (by show (3 : Nat) ≤ 3; decide) ?_
  show Ex G WM M_X12_isIn 0 0 0 0 [(0, vA G 0), (1, vI l1), (2, vI l2)] [] σ Q
  refine R_iload_n e_X12_isIn_0.1 1 rfl ?_
  refine R_iload_n e_X12_isIn_0.2.1 2 rfl ?_
  refine R_ishr e_X12_isIn_0.2.2.1 ?_
  refine R_iconst e_X12_isIn_0.2.2.2.1 ?_
  refine R_iand e_X12_isIn_0.2.2.2.2.1 ?_
  refine R_iconst e_X12_isIn_0.2.2.2.2.2.1 ?_
  obtain ⟨q1, h⟩ := h
  refine R_icmp_ne 13 e_X12_isIn_0.2.2.2.2.2.2.1 (by decide) q1 (by decide) (fun q => ?_) (fun q => ?_)
  · replace h := h.1 q
    refine R_iconst e_X12_isIn_0.2.2.2.2.2.2.2.2.2 ?_
    exact R_zreturn e_X12_isIn_1 rfl (Or.inl rfl) h
  · replace h := h.2 q
    refine R_iconst e_X12_isIn_0.2.2.2.2.2.2.2.1 ?_
    refine R_goto 14 e_X12_isIn_0.2.2.2.2.2.2.2.2.1 (by decide) ?_
    exact R_zreturn e_X12_isIn_1 rfl (Or.inr rfl) h
/-! KiteLandModel.bits(I)I -/
theorem e_X12_bits_0 : decode cX12_bits 0 = .ok (.iconst 0, 1) ∧ decode cX12_bits 1 = .ok (.istore_n 1, 1) ∧ decode cX12_bits 2 = .ok (.iload_n 0, 1) ∧ decode cX12_bits 3 = .ok (.istore_n 2, 1) ∧ decode cX12_bits 4 = .ok (.iload_n 2, 1) ∧ decode cX12_bits 5 = .ok (.ifCond .eq 15, 3) ∧ decode cX12_bits 8 = .ok (.iinc 1 1, 3) ∧ decode cX12_bits 11 = .ok (.iload_n 2, 1) ∧ decode cX12_bits 12 = .ok (.iload_n 2, 1) ∧ decode cX12_bits 13 = .ok (.iconst 1, 1) := by decide +kernel
theorem e_X12_bits_1 : decode cX12_bits 14 = .ok (.isub, 1) ∧ decode cX12_bits 15 = .ok (.iand, 1) ∧ decode cX12_bits 16 = .ok (.istore_n 2, 1) ∧ decode cX12_bits 17 = .ok (.goto (-13), 3) ∧ decode cX12_bits 20 = .ok (.iload_n 1, 1) ∧ decode cX12_bits 21 = .ok (.ireturn, 1) := by decide +kernel
abbrev E_X12_bits_4 (G : Kg) (l1 l2 : Int) (σ : Kmem) (Q : Int → Kmem → Prop) : Prop := Ex G WM M_X12_bits 0 0 0 4 [(1, vI l1), (2, vI l2)] [] σ Q
theorem S_X12_bits {G : Kg} {σ : Kmem} {Q : Int → Kmem → Prop} {l0 : Int}  (h : E_X12_bits_4 G 0 l0 σ Q) : Run G WM M_X12_bits 0 0 0 [vI l0] σ Q := by
  refine Run.of (by decide +kernel) (by show (1 : Nat) ≤ 3; decide) ?_
  show Ex G WM M_X12_bits 0 0 0 0 [(0, vI l0)] [] σ Q
  refine R_iconst e_X12_bits_0.1 ?_
  refine R_istore_n (ls2 := [(1, vI 0), (0, vI l0)]) e_X12_bits_0.2.1 (by decide) rfl ?_
  refine R_iload_n e_X12_bits_0.2.2.1 1 rfl ?_
  refine R_istore_n (ls2 := [(2, vI l0), (1, vI 0), (0, vI l0)]) e_X12_bits_0.2.2.2.1 (by decide) rfl ?_
  refine R_ls (ls2 := [(1, vI 0), (2, vI l0)]) [1, 0] rfl ?_
  exact h
theorem S_X12_bits_4 {G : Kg} {σ : Kmem} {Q : Int → Kmem → Prop} {l0 l1 l2 : Int}  (h : (rI l2) ∧ ((l2 = 0 → Q l1 σ) ∧ (l2 ≠ 0 → E_X12_bits_4 G (l1 + 1) (kand l2 (l2 - 1)) σ Q))) : E_X12_bits_4 G l1 l2 σ Q := by
  refine R_iload_n e_X12_bits_0.2.2.2.2.1 1 rfl ?_
  obtain ⟨q1, h⟩ := h
  refine R_if_eq 20 e_X12_bits_0.2.2.2.2.2.1 (by decide) q1  (fun q => ?_) (fun q => ?_)
  · replace h := h.1 q
    refine R_iload_n e_X12_bits_1.2.2.2.2.1 0 rfl ?_
    exact R_ireturn e_X12_bits_1.2.2.2.2.2 rfl h
  · replace h := h.2 q
    refine R_iinc (ls2 := [(1, vI (l1 + 1)), (2, vI l2)]) e_X12_bits_0.2.2.2.2.2.2.1 0 rfl (by decide) rfl ?_
    refine R_iload_n e_X12_bits_0.2.2.2.2.2.2.2.1 1 rfl ?_
    refine R_iload_n e_X12_bits_0.2.2.2.2.2.2.2.2.1 1 rfl ?_
    refine R_iconst e_X12_bits_0.2.2.2.2.2.2.2.2.2 ?_
    refine R_isub e_X12_bits_1.1 ?_
    refine R_iand e_X12_bits_1.2.1 ?_
    refine R_istore_n (ls2 := [(2, vI (kand l2 (l2 - 1))), (1, vI (l1 + 1))]) e_X12_bits_1.2.2.1 (by decide) rfl ?_
    refine R_goto 4 e_X12_bits_1.2.2.2.1 (by decide) ?_
    refine R_ls (ls2 := [(1, vI (l1 + 1)), (2, vI (kand l2 (l2 - 1)))]) [1, 0] rfl ?_
    exact h
/-! KiteLandModel.now()I -/
theorem e_X12_now_0 : decode cX12_now 0 = .ok (.aload_n 0, 1) ∧ decode cX12_now 1 = .ok (.getfield 7, 3) ∧ decode cX12_now 4 = .ok (.bipush 7, 2) ∧ decode cX12_now 6 = .ok (.iaload, 1) ∧ decode cX12_now 7 = .ok (.bipush 12, 2) ∧ decode cX12_now 9 = .ok (.irem, 1) ∧ decode cX12_now 10 = .ok (.ireturn, 1) := by decide +kernel
theorem S_X12_now {G : Kg} {σ : Kmem} {Q : Int → Kmem → Prop}  (h : (0 ≤ σ 1 7 ∧ σ 1 7 ≤ 2147483647) ∧ Q ((σ 1 7) % 12) σ) : Run G WM M_X12_now 0 0 0 [vA G 0] σ Q := by
  refine Run.of (by decide +kernel) (by show (1 : Nat) ≤ 1; decide) ?_
  show Ex G WM M_X12_now 0 0 0 0 [(0, vA G 0)] [] σ Q
  refine R_aload_n e_X12_now_0.1 0 rfl ?_
  refine R_getA 12 0 1 e_X12_now_0.2.1 f_X12_7 km_0 (fun _ _ => rfl) rm_0_0 (by decide) ?_
  refine R_bipush e_X12_now_0.2.2.1 (by decide) ?_
  refine R_iald 3598 e_X12_now_0.2.2.2.1 kma_1 (by decide) ?_
  refine R_bipush e_X12_now_0.2.2.2.2.1 (by decide) ?_
  obtain ⟨q1, h⟩ := h
  refine R_irem e_X12_now_0.2.2.2.2.2.1 q1 (by decide) ?_
  exact R_ireturn e_X12_now_0.2.2.2.2.2.2 rfl h
/-! KiteLandModel.of(II)I -/
theorem e_X12_of_0 : decode cX12_of 0 = .ok (.aload_n 0, 1) ∧ decode cX12_of 1 = .ok (.getfield 7, 3) ∧ decode cX12_of 4 = .ok (.iload_n 1, 1) ∧ decode cX12_of 5 = .ok (.invokestatic 265, 3) ∧ decode cX12_of 8 = .ok (.iload_n 2, 1) ∧ decode cX12_of 9 = .ok (.iadd, 1) ∧ decode cX12_of 10 = .ok (.iaload, 1) ∧ decode cX12_of 11 = .ok (.ireturn, 1) := by decide +kernel
theorem S_X12_of {G : Kg} {σ : Kmem} {Q : Int → Kmem → Prop} {l1 l2 : Int}  (h : Run G WM M_X12_kiteRow 0 0 0 [vI l1] σ (fun r1 s2 => (0 ≤ r1 + l2 ∧ r1 + l2 < 3598) ∧ Q (s2 1 (r1 + l2)) s2)) : Run G WM M_X12_of 1 0 0 [vA G 0, vI l1, vI l2] σ Q := by
  refine Run.of (by decide +kernel) (by show (3 : Nat) ≤ 3; decide) ?_
  show Ex G WM M_X12_of 1 0 0 0 [(0, vA G 0), (1, vI l1), (2, vI l2)] [] σ Q
  refine R_aload_n e_X12_of_0.1 0 rfl ?_
  refine R_getA 12 0 1 e_X12_of_0.2.1 f_X12_7 km_0 (fun _ _ => rfl) rm_0_0 (by decide) ?_
  refine R_iload_n e_X12_of_0.2.2.1 1 rfl ?_
  refine R_callS (mc := 0) (ms := 0) (mc' := 0) (ms' := 0) (M' := M_X12_kiteRow) (d' := 0) (as := [vI l1]) (st := [vA G 1]) 1 e_X12_of_0.2.2.2.1 (kCSof m_X12_kiteRow l_X12_265) (by decide) (by decide) rfl rfl (by show (1 : Nat) ≤ 8; decide) ?_
  refine Run.mono h (fun r1 s2 h => ?_)
  refine R_eqs (st2 := [vI r1, vA G 1]) rfl rfl ?_
  refine R_iload_n e_X12_of_0.2.2.2.2.1 2 rfl ?_
  refine R_iadd e_X12_of_0.2.2.2.2.2.1 ?_
  obtain ⟨q3, h⟩ := h
  refine R_iald 3598 e_X12_of_0.2.2.2.2.2.2.1 kma_1 q3 ?_
  exact R_ireturn e_X12_of_0.2.2.2.2.2.2.2 rfl h
/-! KiteLandModel.isCut(I)Z -/
theorem e_X12_isCut_0 : decode cX12_isCut 0 = .ok (.aload_n 0, 1) ∧ decode cX12_isCut 1 = .ok (.iload_n 1, 1) ∧ decode cX12_isCut 2 = .ok (.bipush 8, 2) ∧ decode cX12_isCut 4 = .ok (.invokevirtual 268, 3) ∧ decode cX12_isCut 7 = .ok (.iconst 1, 1) ∧ decode cX12_isCut 8 = .ok (.if_icmp .ne 7, 3) ∧ decode cX12_isCut 11 = .ok (.iconst 1, 1) ∧ decode cX12_isCut 12 = .ok (.goto 4, 3) ∧ decode cX12_isCut 15 = .ok (.iconst 0, 1) ∧ decode cX12_isCut 16 = .ok (.ireturn, 1) := by decide +kernel
theorem S_X12_isCut {G : Kg} {σ : Kmem} {Q : Int → Kmem → Prop} {l1 : Int}  (h : Run G WM M_X12_of 1 0 0 [vA G 0, vI l1, vI 8] σ (fun r1 s2 => (rI r1) ∧ ((r1 ≠ 1 → Q 0 s2) ∧ (r1 = 1 → Q 1 s2)))) : Run G WM M_X12_isCut 2 0 0 [vA G 0, vI l1] σ Q := by
  refine Run.of (by decide +kernel) (by show (2 : Nat) ≤ 2; decide) ?_
  show Ex G WM M_X12_isCut 2 0 0 0 [(0, vA G 0), (1, vI l1)] [] σ Q
  refine R_aload_n e_X12_isCut_0.1 0 rfl ?_
  refine R_iload_n e_X12_isCut_0.2.1 1 rfl ?_
  refine R_bipush e_X12_isCut_0.2.2.1 (by decide) ?_
  refine R_callV (mc := 0) (ms := 0) (mc' := 0) (ms' := 0) (M' := M_X12_of) (d' := 1) (as := [vI l1, vI 8]) (st := []) 12 2 e_X12_isCut_0.2.2.2.1 (kCVof m_X12_of l_X12_268) rfl (by decide) km_0 (by decide) (by decide) rfl rfl (by show (0 : Nat) ≤ 8; decide) ?_
  refine Run.mono h (fun r1 s2 h => ?_)
  refine R_eqs (st2 := [vI r1]) rfl rfl ?_
  refine R_iconst e_X12_isCut_0.2.2.2.2.1 ?_
  obtain ⟨q3, h⟩ := h
  refine R_icmp_ne 15 e_X12_isCut_0.2.2.2.2.2.1 (by decide) q3 (by decide) (fun q => ?_) (fun q => ?_)
  · replace h := h.1 q
    refine R_iconst e_X12_isCut_0.2.2.2.2.2.2.2.2.1 ?_
    exact R_zreturn e_X12_isCut_0.2.2.2.2.2.2.2.2.2 rfl (Or.inl rfl) h
  · replace h := h.2 q
    refine R_iconst e_X12_isCut_0.2.2.2.2.2.2.1 ?_
    refine R_goto 16 e_X12_isCut_0.2.2.2.2.2.2.2.1 (by decide) ?_
    exact R_zreturn e_X12_isCut_0.2.2.2.2.2.2.2.2.2 rfl (Or.inr rfl) h
/-! KiteLandModel.isBorne(II)Z -/
theorem e_X12_isBorne_0 : decode cX12_isBorne 0 = .ok (.aload_n 0, 1) ∧ decode cX12_isBorne 1 = .ok (.getfield 7, 3) ∧ decode cX12_isBorne 4 = .ok (.bipush 10, 2) ∧ decode cX12_isBorne 6 = .ok (.iconst 2, 1) ∧ decode cX12_isBorne 7 = .ok (.iload_n 2, 1) ∧ decode cX12_isBorne 8 = .ok (.imul, 1) ∧ decode cX12_isBorne 9 = .ok (.iadd, 1) ∧ decode cX12_isBorne 10 = .ok (.iconst 1, 1) ∧ decode cX12_isBorne 11 = .ok (.iadd, 1) ∧ decode cX12_isBorne 12 = .ok (.iaload, 1) := by decide +kernel
theorem e_X12_isBorne_1 : decode cX12_isBorne 13 = .ok (.aload_n 0, 1) ∧ decode cX12_isBorne 14 = .ok (.iload_n 1, 1) ∧ decode cX12_isBorne 15 = .ok (.iconst 4, 1) ∧ decode cX12_isBorne 16 = .ok (.invokevirtual 268, 3) ∧ decode cX12_isBorne 19 = .ok (.if_icmp .lt 7, 3) ∧ decode cX12_isBorne 22 = .ok (.iconst 1, 1) ∧ decode cX12_isBorne 23 = .ok (.goto 4, 3) ∧ decode cX12_isBorne 26 = .ok (.iconst 0, 1) ∧ decode cX12_isBorne 27 = .ok (.ireturn, 1) := by decide +kernel
theorem S_X12_isBorne {G : Kg} {σ : Kmem} {Q : Int → Kmem → Prop} {l1 l2 : Int}  (h : (0 ≤ (10 + (2 * l2)) + 1 ∧ (10 + (2 * l2)) + 1 < 3598) ∧ Run G WM M_X12_of 1 0 0 [vA G 0, vI l1, vI 4] σ (fun r2 s3 => (rI (σ 1 ((10 + (2 * l2)) + 1))) ∧ (rI r2) ∧ ((σ 1 ((10 + (2 * l2)) + 1) < r2 → Q 0 s3) ∧ (r2 ≤ σ 1 ((10 + (2 * l2)) + 1) → Q 1 s3)))) : Run G WM M_X12_isBorne 2 0 0 [vA G 0, vI l1, vI l2] σ Q := by
  refine Run.of (by decide +kernel) (by show (3 : Nat) ≤ 3; decide) ?_
  show Ex G WM M_X12_isBorne 2 0 0 0 [(0, vA G 0), (1, vI l1), (2, vI l2)] [] σ Q
  refine R_aload_n e_X12_isBorne_0.1 0 rfl ?_
  refine R_getA 12 0 1 e_X12_isBorne_0.2.1 f_X12_7 km_0 (fun _ _ => rfl) rm_0_0 (by decide) ?_
  refine R_bipush e_X12_isBorne_0.2.2.1 (by decide) ?_
  refine R_iconst e_X12_isBorne_0.2.2.2.1 ?_
  refine R_iload_n e_X12_isBorne_0.2.2.2.2.1 2 rfl ?_
  refine R_imul e_X12_isBorne_0.2.2.2.2.2.1 ?_
  refine R_iadd e_X12_isBorne_0.2.2.2.2.2.2.1 ?_
  refine R_iconst e_X12_isBorne_0.2.2.2.2.2.2.2.1 ?_
  refine R_iadd e_X12_isBorne_0.2.2.2.2.2.2.2.2.1 ?_
  obtain ⟨q1, h⟩ := h
  refine R_iald 3598 e_X12_isBorne_0.2.2.2.2.2.2.2.2.2 kma_1 q1 ?_
  refine R_aload_n e_X12_isBorne_1.1 0 rfl ?_
  refine R_iload_n e_X12_isBorne_1.2.1 1 rfl ?_
  refine R_iconst e_X12_isBorne_1.2.2.1 ?_
  refine R_callV (mc := 0) (ms := 0) (mc' := 0) (ms' := 0) (M' := M_X12_of) (d' := 1) (as := [vI l1, vI 4]) (st := [vI (σ 1 ((10 + (2 * l2)) + 1))]) 12 2 e_X12_isBorne_1.2.2.2.1 (kCVof m_X12_of l_X12_268) rfl (by decide) km_0 (by decide) (by decide) rfl rfl (by show (1 : Nat) ≤ 8; decide) ?_
  refine Run.mono h (fun r2 s3 h => ?_)
  refine R_eqs (st2 := [vI r2, vI (σ 1 ((10 + (2 * l2)) + 1))]) rfl rfl ?_
  obtain ⟨q4, h⟩ := h
  obtain ⟨q5, h⟩ := h
  refine R_icmp_lt 26 e_X12_isBorne_1.2.2.2.2.1 (by decide) q4 q5 (fun q => ?_) (fun q => ?_)
  · replace h := h.1 q
    refine R_iconst e_X12_isBorne_1.2.2.2.2.2.2.2.1 ?_
    exact R_zreturn e_X12_isBorne_1.2.2.2.2.2.2.2.2 rfl (Or.inl rfl) h
  · replace h := h.2 q
    refine R_iconst e_X12_isBorne_1.2.2.2.2.2.1 ?_
    refine R_goto 27 e_X12_isBorne_1.2.2.2.2.2.2.1 (by decide) ?_
    exact R_zreturn e_X12_isBorne_1.2.2.2.2.2.2.2.2 rfl (Or.inr rfl) h
/-! KiteLandModel.isUp(II)Z -/
theorem e_X12_isUp_0 : decode cX12_isUp 0 = .ok (.aload_n 0, 1) ∧ decode cX12_isUp 1 = .ok (.iload_n 1, 1) ∧ decode cX12_isUp 2 = .ok (.invokevirtual 271, 3) ∧ decode cX12_isUp 5 = .ok (.ifCond .ne 16, 3) ∧ decode cX12_isUp 8 = .ok (.aload_n 0, 1) ∧ decode cX12_isUp 9 = .ok (.iload_n 1, 1) ∧ decode cX12_isUp 10 = .ok (.iload_n 2, 1) ∧ decode cX12_isUp 11 = .ok (.invokevirtual 274, 3) ∧ decode cX12_isUp 14 = .ok (.ifCond .eq 7, 3) ∧ decode cX12_isUp 17 = .ok (.iconst 1, 1) := by decide +kernel
theorem e_X12_isUp_1 : decode cX12_isUp 18 = .ok (.goto 4, 3) ∧ decode cX12_isUp 21 = .ok (.iconst 0, 1) ∧ decode cX12_isUp 22 = .ok (.ireturn, 1) := by decide +kernel
theorem S_X12_isUp {G : Kg} {σ : Kmem} {Q : Int → Kmem → Prop} {l1 l2 : Int}  (h : Run G WM M_X12_isCut 2 0 0 [vA G 0, vI l1] σ (fun r1 s2 => (rI r1) ∧ ((r1 ≠ 0 → Q 0 s2) ∧ (r1 = 0 → Run G WM M_X12_isBorne 2 0 0 [vA G 0, vI l1, vI l2] s2 (fun r4 s5 => (rI r4) ∧ ((r4 = 0 → Q 0 s5) ∧ (r4 ≠ 0 → Q 1 s5))))))) : Run G WM M_X12_isUp 3 0 0 [vA G 0, vI l1, vI l2] σ Q := by
  refine Run.of (by decide +kernel) (by show (3 : Nat) ≤ 3; decide) ?_
  show Ex G WM M_X12_isUp 3 0 0 0 [(0, vA G 0), (1, vI l1), (2, vI l2)] [] σ Q
  refine R_aload_n e_X12_isUp_0.1 0 rfl ?_
  refine R_iload_n e_X12_isUp_0.2.1 1 rfl ?_
  refine R_callV (mc := 0) (ms := 0) (mc' := 0) (ms' := 0) (M' := M_X12_isCut) (d' := 2) (as := [vI l1]) (st := []) 12 1 e_X12_isUp_0.2.2.1 (kCVof m_X12_isCut l_X12_271) rfl (by decide) km_0 (by decide) (by decide) rfl rfl (by show (0 : Nat) ≤ 8; decide) ?_
  refine Run.mono h (fun r1 s2 h => ?_)
  refine R_eqs (st2 := [vI r1]) rfl rfl ?_
  obtain ⟨q3, h⟩ := h
  refine R_if_ne 21 e_X12_isUp_0.2.2.2.1 (by decide) q3  (fun q => ?_) (fun q => ?_)
  · replace h := h.1 q
    refine R_iconst e_X12_isUp_1.2.1 ?_
    exact R_zreturn e_X12_isUp_1.2.2 rfl (Or.inl rfl) h
  · replace h := h.2 q
    refine R_aload_n e_X12_isUp_0.2.2.2.2.1 0 rfl ?_
    refine R_iload_n e_X12_isUp_0.2.2.2.2.2.1 1 rfl ?_
    refine R_iload_n e_X12_isUp_0.2.2.2.2.2.2.1 2 rfl ?_
    refine R_callV (mc := 0) (ms := 0) (mc' := 0) (ms' := 0) (M' := M_X12_isBorne) (d' := 2) (as := [vI l1, vI l2]) (st := []) 12 2 e_X12_isUp_0.2.2.2.2.2.2.2.1 (kCVof m_X12_isBorne l_X12_274) rfl (by decide) km_0 (by decide) (by decide) rfl rfl (by show (0 : Nat) ≤ 8; decide) ?_
    refine Run.mono h (fun r4 s5 h => ?_)
    refine R_eqs (st2 := [vI r4]) rfl rfl ?_
    obtain ⟨q6, h⟩ := h
    refine R_if_eq 21 e_X12_isUp_0.2.2.2.2.2.2.2.2.1 (by decide) q6  (fun q => ?_) (fun q => ?_)
    · replace h := h.1 q
      refine R_iconst e_X12_isUp_1.2.1 ?_
      exact R_zreturn e_X12_isUp_1.2.2 rfl (Or.inl rfl) h
    · replace h := h.2 q
      refine R_iconst e_X12_isUp_0.2.2.2.2.2.2.2.2.2 ?_
      refine R_goto 22 e_X12_isUp_1.1 (by decide) ?_
      exact R_zreturn e_X12_isUp_1.2.2 rfl (Or.inr rfl) h
/-! KiteLandModel.farFrom(II)I -/
theorem e_X12_farFrom_0 : decode cX12_farFrom 0 = .ok (.aload_n 0, 1) ∧ decode cX12_farFrom 1 = .ok (.iload_n 1, 1) ∧ decode cX12_farFrom 2 = .ok (.iconst 3, 1) ∧ decode cX12_farFrom 3 = .ok (.invokevirtual 268, 3) ∧ decode cX12_farFrom 6 = .ok (.aload_n 0, 1) ∧ decode cX12_farFrom 7 = .ok (.getfield 7, 3) ∧ decode cX12_farFrom 10 = .ok (.bipush 10, 2) ∧ decode cX12_farFrom 12 = .ok (.iconst 2, 1) ∧ decode cX12_farFrom 13 = .ok (.iload_n 2, 1) ∧ decode cX12_farFrom 14 = .ok (.imul, 1) := by decide +kernel
theorem e_X12_farFrom_1 : decode cX12_farFrom 15 = .ok (.iadd, 1) ∧ decode cX12_farFrom 16 = .ok (.iconst 1, 1) ∧ decode cX12_farFrom 17 = .ok (.iadd, 1) ∧ decode cX12_farFrom 18 = .ok (.iaload, 1) ∧ decode cX12_farFrom 19 = .ok (.imul, 1) ∧ decode cX12_farFrom 20 = .ok (.iconst 3, 1) ∧ decode cX12_farFrom 21 = .ok (.idiv, 1) ∧ decode cX12_farFrom 22 = .ok (.ireturn, 1) := by decide +kernel
theorem S_X12_farFrom {G : Kg} {σ : Kmem} {Q : Int → Kmem → Prop} {l1 l2 : Int}  (h : Run G WM M_X12_of 1 0 0 [vA G 0, vI l1, vI 3] σ (fun r1 s2 => (0 ≤ (10 + (2 * l2)) + 1 ∧ (10 + (2 * l2)) + 1 < 3598) ∧ (0 ≤ r1 * (s2 1 ((10 + (2 * l2)) + 1)) ∧ r1 * (s2 1 ((10 + (2 * l2)) + 1)) ≤ 2147483647) ∧ Q ((r1 * (s2 1 ((10 + (2 * l2)) + 1))) / 3) s2)) : Run G WM M_X12_farFrom 2 0 0 [vA G 0, vI l1, vI l2] σ Q := by
  refine Run.of (by decide +kernel) (by show (3 : Nat) ≤ 3; decide) ?_
  show Ex G WM M_X12_farFrom 2 0 0 0 [(0, vA G 0), (1, vI l1), (2, vI l2)] [] σ Q
  refine R_aload_n e_X12_farFrom_0.1 0 rfl ?_
  refine R_iload_n e_X12_farFrom_0.2.1 1 rfl ?_
  refine R_iconst e_X12_farFrom_0.2.2.1 ?_
  refine R_callV (mc := 0) (ms := 0) (mc' := 0) (ms' := 0) (M' := M_X12_of) (d' := 1) (as := [vI l1, vI 3]) (st := []) 12 2 e_X12_farFrom_0.2.2.2.1 (kCVof m_X12_of l_X12_268) rfl (by decide) km_0 (by decide) (by decide) rfl rfl (by show (0 : Nat) ≤ 8; decide) ?_
  refine Run.mono h (fun r1 s2 h => ?_)
  refine R_eqs (st2 := [vI r1]) rfl rfl ?_
  refine R_aload_n e_X12_farFrom_0.2.2.2.2.1 0 rfl ?_
  refine R_getA 12 0 1 e_X12_farFrom_0.2.2.2.2.2.1 f_X12_7 km_0 (fun _ _ => rfl) rm_0_0 (by decide) ?_
  refine R_bipush e_X12_farFrom_0.2.2.2.2.2.2.1 (by decide) ?_
  refine R_iconst e_X12_farFrom_0.2.2.2.2.2.2.2.1 ?_
  refine R_iload_n e_X12_farFrom_0.2.2.2.2.2.2.2.2.1 2 rfl ?_
  refine R_imul e_X12_farFrom_0.2.2.2.2.2.2.2.2.2 ?_
  refine R_iadd e_X12_farFrom_1.1 ?_
  refine R_iconst e_X12_farFrom_1.2.1 ?_
  refine R_iadd e_X12_farFrom_1.2.2.1 ?_
  obtain ⟨q3, h⟩ := h
  refine R_iald 3598 e_X12_farFrom_1.2.2.2.1 kma_1 q3 ?_
  refine R_imul e_X12_farFrom_1.2.2.2.2.1 ?_
  refine R_iconst e_X12_farFrom_1.2.2.2.2.2.1 ?_
  obtain ⟨q4, h⟩ := h
  refine R_idiv e_X12_farFrom_1.2.2.2.2.2.2.1 q4 (by decide) ?_
  exact R_ireturn e_X12_farFrom_1.2.2.2.2.2.2.2 rfl h
/-! KiteLandModel.turned(II)I -/
theorem e_X12_turned_0 : decode cX12_turned 0 = .ok (.aload_n 0, 1) ∧ decode cX12_turned 1 = .ok (.getfield 7, 3) ∧ decode cX12_turned 4 = .ok (.bipush 10, 2) ∧ decode cX12_turned 6 = .ok (.iconst 2, 1) ∧ decode cX12_turned 7 = .ok (.iload_n 2, 1) ∧ decode cX12_turned 8 = .ok (.imul, 1) ∧ decode cX12_turned 9 = .ok (.iadd, 1) ∧ decode cX12_turned 10 = .ok (.iaload, 1) ∧ decode cX12_turned 11 = .ok (.aload_n 0, 1) ∧ decode cX12_turned 12 = .ok (.iload_n 1, 1) := by decide +kernel
theorem e_X12_turned_1 : decode cX12_turned 13 = .ok (.bipush 7, 2) ∧ decode cX12_turned 15 = .ok (.invokevirtual 268, 3) ∧ decode cX12_turned 18 = .ok (.iadd, 1) ∧ decode cX12_turned 19 = .ok (.bipush 8, 2) ∧ decode cX12_turned 21 = .ok (.irem, 1) ∧ decode cX12_turned 22 = .ok (.ireturn, 1) := by decide +kernel
theorem S_X12_turned {G : Kg} {σ : Kmem} {Q : Int → Kmem → Prop} {l1 l2 : Int}  (h : (0 ≤ 10 + (2 * l2) ∧ 10 + (2 * l2) < 3598) ∧ Run G WM M_X12_of 1 0 0 [vA G 0, vI l1, vI 7] σ (fun r2 s3 => (0 ≤ (σ 1 (10 + (2 * l2))) + r2 ∧ (σ 1 (10 + (2 * l2))) + r2 ≤ 2147483647) ∧ Q (((σ 1 (10 + (2 * l2))) + r2) % 8) s3)) : Run G WM M_X12_turned 2 0 0 [vA G 0, vI l1, vI l2] σ Q := by
  refine Run.of (by decide +kernel) (by show (3 : Nat) ≤ 3; decide) ?_
  show Ex G WM M_X12_turned 2 0 0 0 [(0, vA G 0), (1, vI l1), (2, vI l2)] [] σ Q
  refine R_aload_n e_X12_turned_0.1 0 rfl ?_
  refine R_getA 12 0 1 e_X12_turned_0.2.1 f_X12_7 km_0 (fun _ _ => rfl) rm_0_0 (by decide) ?_
  refine R_bipush e_X12_turned_0.2.2.1 (by decide) ?_
  refine R_iconst e_X12_turned_0.2.2.2.1 ?_
  refine R_iload_n e_X12_turned_0.2.2.2.2.1 2 rfl ?_
  refine R_imul e_X12_turned_0.2.2.2.2.2.1 ?_
  refine R_iadd e_X12_turned_0.2.2.2.2.2.2.1 ?_
  obtain ⟨q1, h⟩ := h
  refine R_iald 3598 e_X12_turned_0.2.2.2.2.2.2.2.1 kma_1 q1 ?_
  refine R_aload_n e_X12_turned_0.2.2.2.2.2.2.2.2.1 0 rfl ?_
  refine R_iload_n e_X12_turned_0.2.2.2.2.2.2.2.2.2 1 rfl ?_
  refine R_bipush e_X12_turned_1.1 (by decide) ?_
  refine R_callV (mc := 0) (ms := 0) (mc' := 0) (ms' := 0) (M' := M_X12_of) (d' := 1) (as := [vI l1, vI 7]) (st := [vI (σ 1 (10 + (2 * l2)))]) 12 2 e_X12_turned_1.2.1 (kCVof m_X12_of l_X12_268) rfl (by decide) km_0 (by decide) (by decide) rfl rfl (by show (1 : Nat) ≤ 8; decide) ?_
  refine Run.mono h (fun r2 s3 h => ?_)
  refine R_eqs (st2 := [vI r2, vI (σ 1 (10 + (2 * l2)))]) rfl rfl ?_
  refine R_iadd e_X12_turned_1.2.2.1 ?_
  refine R_bipush e_X12_turned_1.2.2.2.1 (by decide) ?_
  obtain ⟨q4, h⟩ := h
  refine R_irem e_X12_turned_1.2.2.2.2.1 q4 (by decide) ?_
  exact R_ireturn e_X12_turned_1.2.2.2.2.2 rfl h
/-! KiteLandModel.columnOf(II)I -/
theorem e_X12_columnOf_0 : decode cX12_columnOf 0 = .ok (.aload_n 0, 1) ∧ decode cX12_columnOf 1 = .ok (.iload_n 1, 1) ∧ decode cX12_columnOf 2 = .ok (.iload_n 2, 1) ∧ decode cX12_columnOf 3 = .ok (.invokevirtual 277, 3) ∧ decode cX12_columnOf 6 = .ok (.istore_n 3, 1) ∧ decode cX12_columnOf 7 = .ok (.aload_n 0, 1) ∧ decode cX12_columnOf 8 = .ok (.iload_n 1, 1) ∧ decode cX12_columnOf 9 = .ok (.iconst 0, 1) ∧ decode cX12_columnOf 10 = .ok (.invokevirtual 268, 3) ∧ decode cX12_columnOf 13 = .ok (.aload_n 0, 1) := by decide +kernel
theorem e_X12_columnOf_1 : decode cX12_columnOf 14 = .ok (.iload_n 1, 1) ∧ decode cX12_columnOf 15 = .ok (.iload_n 2, 1) ∧ decode cX12_columnOf 16 = .ok (.invokevirtual 280, 3) ∧ decode cX12_columnOf 19 = .ok (.iload_n 3, 1) ∧ decode cX12_columnOf 20 = .ok (.ifCond .le 12, 3) ∧ decode cX12_columnOf 23 = .ok (.iload_n 3, 1) ∧ decode cX12_columnOf 24 = .ok (.iconst 4, 1) ∧ decode cX12_columnOf 25 = .ok (.if_icmp .ge 7, 3) ∧ decode cX12_columnOf 28 = .ok (.iconst 1, 1) ∧ decode cX12_columnOf 29 = .ok (.goto 13, 3) := by decide +kernel
theorem e_X12_columnOf_2 : decode cX12_columnOf 32 = .ok (.iload_n 3, 1) ∧ decode cX12_columnOf 33 = .ok (.iconst 4, 1) ∧ decode cX12_columnOf 34 = .ok (.if_icmp .le 7, 3) ∧ decode cX12_columnOf 37 = .ok (.iconst (-1), 1) ∧ decode cX12_columnOf 38 = .ok (.goto 4, 3) ∧ decode cX12_columnOf 41 = .ok (.iconst 0, 1) ∧ decode cX12_columnOf 42 = .ok (.imul, 1) ∧ decode cX12_columnOf 43 = .ok (.iadd, 1) ∧ decode cX12_columnOf 44 = .ok (.ireturn, 1) := by decide +kernel
theorem S_X12_columnOf {G : Kg} {σ : Kmem} {Q : Int → Kmem → Prop} {l1 l2 : Int}  (h : Run G WM M_X12_turned 2 0 0 [vA G 0, vI l1, vI l2] σ (fun r1 s2 => Run G WM M_X12_of 1 0 0 [vA G 0, vI l1, vI 0] s2 (fun r3 s4 => Run G WM M_X12_farFrom 2 0 0 [vA G 0, vI l1, vI l2] s4 (fun r5 s6 => (rI r1) ∧ ((r1 ≤ 0 → ((r1 ≤ 4 → Q (r3 + (r5 * 0)) s6) ∧ (4 < r1 → Q (r3 + (r5 * (-1))) s6))) ∧ (0 < r1 → ((4 ≤ r1 → ((r1 ≤ 4 → Q (r3 + (r5 * 0)) s6) ∧ (4 < r1 → Q (r3 + (r5 * (-1))) s6))) ∧ (r1 < 4 → Q (r3 + (r5 * 1)) s6)))))))) : Run G WM M_X12_columnOf 3 0 0 [vA G 0, vI l1, vI l2] σ Q := by
  refine Run.of (by decide +kernel) (by show (3 : Nat) ≤ 4; decide) ?_
  show Ex G WM M_X12_columnOf 3 0 0 0 [(0, vA G 0), (1, vI l1), (2, vI l2)] [] σ Q
  refine R_aload_n e_X12_columnOf_0.1 0 rfl ?_
  refine R_iload_n e_X12_columnOf_0.2.1 1 rfl ?_
  refine R_iload_n e_X12_columnOf_0.2.2.1 2 rfl ?_
  refine R_callV (mc := 0) (ms := 0) (mc' := 0) (ms' := 0) (M' := M_X12_turned) (d' := 2) (as := [vI l1, vI l2]) (st := []) 12 2 e_X12_columnOf_0.2.2.2.1 (kCVof m_X12_turned l_X12_277) rfl (by decide) km_0 (by decide) (by decide) rfl rfl (by show (0 : Nat) ≤ 8; decide) ?_
  refine Run.mono h (fun r1 s2 h => ?_)
  refine R_eqs (st2 := [vI r1]) rfl rfl ?_
  refine R_istore_n (ls2 := [(3, vI r1), (0, vA G 0), (1, vI l1), (2, vI l2)]) e_X12_columnOf_0.2.2.2.2.1 (by decide) rfl ?_
  refine R_aload_n e_X12_columnOf_0.2.2.2.2.2.1 1 rfl ?_
  refine R_iload_n e_X12_columnOf_0.2.2.2.2.2.2.1 2 rfl ?_
  refine R_iconst e_X12_columnOf_0.2.2.2.2.2.2.2.1 ?_
  refine R_callV (mc := 0) (ms := 0) (mc' := 0) (ms' := 0) (M' := M_X12_of) (d' := 1) (as := [vI l1, vI 0]) (st := []) 12 2 e_X12_columnOf_0.2.2.2.2.2.2.2.2.1 (kCVof m_X12_of l_X12_268) rfl (by decide) km_0 (by decide) (by decide) rfl rfl (by show (0 : Nat) ≤ 8; decide) ?_
  refine Run.mono h (fun r3 s4 h => ?_)
  refine R_eqs (st2 := [vI r3]) rfl rfl ?_
  refine R_aload_n e_X12_columnOf_0.2.2.2.2.2.2.2.2.2 1 rfl ?_
  refine R_iload_n e_X12_columnOf_1.1 2 rfl ?_
  refine R_iload_n e_X12_columnOf_1.2.1 3 rfl ?_
  refine R_callV (mc := 0) (ms := 0) (mc' := 0) (ms' := 0) (M' := M_X12_farFrom) (d' := 2) (as := [vI l1, vI l2]) (st := [vI r3]) 12 2 e_X12_columnOf_1.2.2.1 (kCVof m_X12_farFrom l_X12_280) rfl (by decide) km_0 (by decide) (by decide) rfl rfl (by show (1 : Nat) ≤ 8; decide) ?_
  refine Run.mono h (fun r5 s6 h => ?_)
  refine R_eqs (st2 := [vI r5, vI r3]) rfl rfl ?_
  refine R_iload_n e_X12_columnOf_1.2.2.2.1 0 rfl ?_
  obtain ⟨q7, h⟩ := h
  refine R_if_le 32 e_X12_columnOf_1.2.2.2.2.1 (by decide) q7  (fun q => ?_) (fun q => ?_)
  · replace h := h.1 q
    refine R_iload_n e_X12_columnOf_2.1 0 rfl ?_
    refine R_iconst e_X12_columnOf_2.2.1 ?_
    refine R_icmp_le 41 e_X12_columnOf_2.2.2.1 (by decide) q7 (by decide) (fun q => ?_) (fun q => ?_)
    · replace h := h.1 q
      refine R_iconst e_X12_columnOf_2.2.2.2.2.2.1 ?_
      refine R_imul e_X12_columnOf_2.2.2.2.2.2.2.1 ?_
      refine R_iadd e_X12_columnOf_2.2.2.2.2.2.2.2.1 ?_
      exact R_ireturn e_X12_columnOf_2.2.2.2.2.2.2.2.2 rfl h
    · replace h := h.2 q
      refine R_iconst e_X12_columnOf_2.2.2.2.1 ?_
      refine R_goto 42 e_X12_columnOf_2.2.2.2.2.1 (by decide) ?_
      refine R_imul e_X12_columnOf_2.2.2.2.2.2.2.1 ?_
      refine R_iadd e_X12_columnOf_2.2.2.2.2.2.2.2.1 ?_
      exact R_ireturn e_X12_columnOf_2.2.2.2.2.2.2.2.2 rfl h
  · replace h := h.2 q
    refine R_iload_n e_X12_columnOf_1.2.2.2.2.2.1 0 rfl ?_
    refine R_iconst e_X12_columnOf_1.2.2.2.2.2.2.1 ?_
    refine R_icmp_ge 32 e_X12_columnOf_1.2.2.2.2.2.2.2.1 (by decide) q7 (by decide) (fun q => ?_) (fun q => ?_)
    · replace h := h.1 q
      refine R_iload_n e_X12_columnOf_2.1 0 rfl ?_
      refine R_iconst e_X12_columnOf_2.2.1 ?_
      refine R_icmp_le 41 e_X12_columnOf_2.2.2.1 (by decide) q7 (by decide) (fun q => ?_) (fun q => ?_)
      · replace h := h.1 q
        refine R_iconst e_X12_columnOf_2.2.2.2.2.2.1 ?_
        refine R_imul e_X12_columnOf_2.2.2.2.2.2.2.1 ?_
        refine R_iadd e_X12_columnOf_2.2.2.2.2.2.2.2.1 ?_
        exact R_ireturn e_X12_columnOf_2.2.2.2.2.2.2.2.2 rfl h
      · replace h := h.2 q
        refine R_iconst e_X12_columnOf_2.2.2.2.1 ?_
        refine R_goto 42 e_X12_columnOf_2.2.2.2.2.1 (by decide) ?_
        refine R_imul e_X12_columnOf_2.2.2.2.2.2.2.1 ?_
        refine R_iadd e_X12_columnOf_2.2.2.2.2.2.2.2.1 ?_
        exact R_ireturn e_X12_columnOf_2.2.2.2.2.2.2.2.2 rfl h
    · replace h := h.2 q
      refine R_iconst e_X12_columnOf_1.2.2.2.2.2.2.2.2.1 ?_
      refine R_goto 42 e_X12_columnOf_1.2.2.2.2.2.2.2.2.2 (by decide) ?_
      refine R_imul e_X12_columnOf_2.2.2.2.2.2.2.1 ?_
      refine R_iadd e_X12_columnOf_2.2.2.2.2.2.2.2.1 ?_
      exact R_ireturn e_X12_columnOf_2.2.2.2.2.2.2.2.2 rfl h
/-! KiteLandModel.rowOf(II)I -/
theorem e_X12_rowOf_0 : decode cX12_rowOf 0 = .ok (.aload_n 0, 1) ∧ decode cX12_rowOf 1 = .ok (.iload_n 1, 1) ∧ decode cX12_rowOf 2 = .ok (.iload_n 2, 1) ∧ decode cX12_rowOf 3 = .ok (.invokevirtual 277, 3) ∧ decode cX12_rowOf 6 = .ok (.istore_n 3, 1) ∧ decode cX12_rowOf 7 = .ok (.aload_n 0, 1) ∧ decode cX12_rowOf 8 = .ok (.iload_n 1, 1) ∧ decode cX12_rowOf 9 = .ok (.iconst 1, 1) ∧ decode cX12_rowOf 10 = .ok (.invokevirtual 268, 3) ∧ decode cX12_rowOf 13 = .ok (.aload_n 0, 1) := by decide +kernel
theorem e_X12_rowOf_1 : decode cX12_rowOf 14 = .ok (.iload_n 1, 1) ∧ decode cX12_rowOf 15 = .ok (.iload_n 2, 1) ∧ decode cX12_rowOf 16 = .ok (.invokevirtual 280, 3) ∧ decode cX12_rowOf 19 = .ok (.iload_n 3, 1) ∧ decode cX12_rowOf 20 = .ok (.iconst 2, 1) ∧ decode cX12_rowOf 21 = .ok (.if_icmp .le 13, 3) ∧ decode cX12_rowOf 24 = .ok (.iload_n 3, 1) ∧ decode cX12_rowOf 25 = .ok (.bipush 6, 2) ∧ decode cX12_rowOf 27 = .ok (.if_icmp .ge 7, 3) ∧ decode cX12_rowOf 30 = .ok (.iconst 1, 1) := by decide +kernel
theorem e_X12_rowOf_2 : decode cX12_rowOf 31 = .ok (.goto 19, 3) ∧ decode cX12_rowOf 34 = .ok (.iload_n 3, 1) ∧ decode cX12_rowOf 35 = .ok (.iconst 2, 1) ∧ decode cX12_rowOf 36 = .ok (.if_icmp .lt 9, 3) ∧ decode cX12_rowOf 39 = .ok (.iload_n 3, 1) ∧ decode cX12_rowOf 40 = .ok (.bipush 7, 2) ∧ decode cX12_rowOf 42 = .ok (.if_icmp .ne 7, 3) ∧ decode cX12_rowOf 45 = .ok (.iconst (-1), 1) ∧ decode cX12_rowOf 46 = .ok (.goto 4, 3) ∧ decode cX12_rowOf 49 = .ok (.iconst 0, 1) := by decide +kernel
theorem e_X12_rowOf_3 : decode cX12_rowOf 50 = .ok (.imul, 1) ∧ decode cX12_rowOf 51 = .ok (.iadd, 1) ∧ decode cX12_rowOf 52 = .ok (.ireturn, 1) := by decide +kernel
theorem S_X12_rowOf {G : Kg} {σ : Kmem} {Q : Int → Kmem → Prop} {l1 l2 : Int}  (h : Run G WM M_X12_turned 2 0 0 [vA G 0, vI l1, vI l2] σ (fun r1 s2 => Run G WM M_X12_of 1 0 0 [vA G 0, vI l1, vI 1] s2 (fun r3 s4 => Run G WM M_X12_farFrom 2 0 0 [vA G 0, vI l1, vI l2] s4 (fun r5 s6 => (rI r1) ∧ ((r1 ≤ 2 → ((r1 < 2 → Q (r3 + (r5 * (-1))) s6) ∧ (2 ≤ r1 → ((r1 ≠ 7 → Q (r3 + (r5 * 0)) s6) ∧ (r1 = 7 → Q (r3 + (r5 * (-1))) s6))))) ∧ (2 < r1 → ((6 ≤ r1 → ((r1 < 2 → Q (r3 + (r5 * (-1))) s6) ∧ (2 ≤ r1 → ((r1 ≠ 7 → Q (r3 + (r5 * 0)) s6) ∧ (r1 = 7 → Q (r3 + (r5 * (-1))) s6))))) ∧ (r1 < 6 → Q (r3 + (r5 * 1)) s6)))))))) : Run G WM M_X12_rowOf 3 0 0 [vA G 0, vI l1, vI l2] σ Q := by
  refine Run.of (by decide +kernel) (by show (3 : Nat) ≤ 4; decide) ?_
  show Ex G WM M_X12_rowOf 3 0 0 0 [(0, vA G 0), (1, vI l1), (2, vI l2)] [] σ Q
  refine R_aload_n e_X12_rowOf_0.1 0 rfl ?_
  refine R_iload_n e_X12_rowOf_0.2.1 1 rfl ?_
  refine R_iload_n e_X12_rowOf_0.2.2.1 2 rfl ?_
  refine R_callV (mc := 0) (ms := 0) (mc' := 0) (ms' := 0) (M' := M_X12_turned) (d' := 2) (as := [vI l1, vI l2]) (st := []) 12 2 e_X12_rowOf_0.2.2.2.1 (kCVof m_X12_turned l_X12_277) rfl (by decide) km_0 (by decide) (by decide) rfl rfl (by show (0 : Nat) ≤ 8; decide) ?_
  refine Run.mono h (fun r1 s2 h => ?_)
  refine R_eqs (st2 := [vI r1]) rfl rfl ?_
  refine R_istore_n (ls2 := [(3, vI r1), (0, vA G 0), (1, vI l1), (2, vI l2)]) e_X12_rowOf_0.2.2.2.2.1 (by decide) rfl ?_
  refine R_aload_n e_X12_rowOf_0.2.2.2.2.2.1 1 rfl ?_
  refine R_iload_n e_X12_rowOf_0.2.2.2.2.2.2.1 2 rfl ?_
  refine R_iconst e_X12_rowOf_0.2.2.2.2.2.2.2.1 ?_
  refine R_callV (mc := 0) (ms := 0) (mc' := 0) (ms' := 0) (M' := M_X12_of) (d' := 1) (as := [vI l1, vI 1]) (st := []) 12 2 e_X12_rowOf_0.2.2.2.2.2.2.2.2.1 (kCVof m_X12_of l_X12_268) rfl (by decide) km_0 (by decide) (by decide) rfl rfl (by show (0 : Nat) ≤ 8; decide) ?_
  refine Run.mono h (fun r3 s4 h => ?_)
  refine R_eqs (st2 := [vI r3]) rfl rfl ?_
  refine R_aload_n e_X12_rowOf_0.2.2.2.2.2.2.2.2.2 1 rfl ?_
  refine R_iload_n e_X12_rowOf_1.1 2 rfl ?_
  refine R_iload_n e_X12_rowOf_1.2.1 3 rfl ?_
  refine R_callV (mc := 0) (ms := 0) (mc' := 0) (ms' := 0) (M' := M_X12_farFrom) (d' := 2) (as := [vI l1, vI l2]) (st := [vI r3]) 12 2 e_X12_rowOf_1.2.2.1 (kCVof m_X12_farFrom l_X12_280) rfl (by decide) km_0 (by decide) (by decide) rfl rfl (by show (1 : Nat) ≤ 8; decide) ?_
  refine Run.mono h (fun r5 s6 h => ?_)
  refine R_eqs (st2 := [vI r5, vI r3]) rfl rfl ?_
  refine R_iload_n e_X12_rowOf_1.2.2.2.1 0 rfl ?_
  refine R_iconst e_X12_rowOf_1.2.2.2.2.1 ?_
  obtain ⟨q7, h⟩ := h
  refine R_icmp_le 34 e_X12_rowOf_1.2.2.2.2.2.1 (by decide) q7 (by decide) (fun q => ?_) (fun q => ?_)
  · replace h := h.1 q
    refine R_iload_n e_X12_rowOf_2.2.1 0 rfl ?_
    refine R_iconst e_X12_rowOf_2.2.2.1 ?_
    refine R_icmp_lt 45 e_X12_rowOf_2.2.2.2.1 (by decide) q7 (by decide) (fun q => ?_) (fun q => ?_)
    · replace h := h.1 q
      refine R_iconst e_X12_rowOf_2.2.2.2.2.2.2.2.1 ?_
      refine R_goto 50 e_X12_rowOf_2.2.2.2.2.2.2.2.2.1 (by decide) ?_
      refine R_imul e_X12_rowOf_3.1 ?_
      refine R_iadd e_X12_rowOf_3.2.1 ?_
      exact R_ireturn e_X12_rowOf_3.2.2 rfl h
    · replace h := h.2 q
      refine R_iload_n e_X12_rowOf_2.2.2.2.2.1 0 rfl ?_
      refine R_bipush e_X12_rowOf_2.2.2.2.2.2.1 (by decide) ?_
      refine R_icmp_ne 49 e_X12_rowOf_2.2.2.2.2.2.2.1 (by decide) q7 (by decide) (fun q => ?_) (fun q => ?_)
      · replace h := h.1 q
        refine R_iconst e_X12_rowOf_2.2.2.2.2.2.2.2.2.2 ?_
        refine R_imul e_X12_rowOf_3.1 ?_
        refine R_iadd e_X12_rowOf_3.2.1 ?_
        exact R_ireturn e_X12_rowOf_3.2.2 rfl h
      · replace h := h.2 q
        refine R_iconst e_X12_rowOf_2.2.2.2.2.2.2.2.1 ?_
        refine R_goto 50 e_X12_rowOf_2.2.2.2.2.2.2.2.2.1 (by decide) ?_
        refine R_imul e_X12_rowOf_3.1 ?_
        refine R_iadd e_X12_rowOf_3.2.1 ?_
        exact R_ireturn e_X12_rowOf_3.2.2 rfl h
  · replace h := h.2 q
    refine R_iload_n e_X12_rowOf_1.2.2.2.2.2.2.1 0 rfl ?_
    refine R_bipush e_X12_rowOf_1.2.2.2.2.2.2.2.1 (by decide) ?_
    refine R_icmp_ge 34 e_X12_rowOf_1.2.2.2.2.2.2.2.2.1 (by decide) q7 (by decide) (fun q => ?_) (fun q => ?_)
    · replace h := h.1 q
      refine R_iload_n e_X12_rowOf_2.2.1 0 rfl ?_
      refine R_iconst e_X12_rowOf_2.2.2.1 ?_
      refine R_icmp_lt 45 e_X12_rowOf_2.2.2.2.1 (by decide) q7 (by decide) (fun q => ?_) (fun q => ?_)
      · replace h := h.1 q
        refine R_iconst e_X12_rowOf_2.2.2.2.2.2.2.2.1 ?_
        refine R_goto 50 e_X12_rowOf_2.2.2.2.2.2.2.2.2.1 (by decide) ?_
        refine R_imul e_X12_rowOf_3.1 ?_
        refine R_iadd e_X12_rowOf_3.2.1 ?_
        exact R_ireturn e_X12_rowOf_3.2.2 rfl h
      · replace h := h.2 q
        refine R_iload_n e_X12_rowOf_2.2.2.2.2.1 0 rfl ?_
        refine R_bipush e_X12_rowOf_2.2.2.2.2.2.1 (by decide) ?_
        refine R_icmp_ne 49 e_X12_rowOf_2.2.2.2.2.2.2.1 (by decide) q7 (by decide) (fun q => ?_) (fun q => ?_)
        · replace h := h.1 q
          refine R_iconst e_X12_rowOf_2.2.2.2.2.2.2.2.2.2 ?_
          refine R_imul e_X12_rowOf_3.1 ?_
          refine R_iadd e_X12_rowOf_3.2.1 ?_
          exact R_ireturn e_X12_rowOf_3.2.2 rfl h
        · replace h := h.2 q
          refine R_iconst e_X12_rowOf_2.2.2.2.2.2.2.2.1 ?_
          refine R_goto 50 e_X12_rowOf_2.2.2.2.2.2.2.2.2.1 (by decide) ?_
          refine R_imul e_X12_rowOf_3.1 ?_
          refine R_iadd e_X12_rowOf_3.2.1 ?_
          exact R_ireturn e_X12_rowOf_3.2.2 rfl h
    · replace h := h.2 q
      refine R_iconst e_X12_rowOf_1.2.2.2.2.2.2.2.2.2 ?_
      refine R_goto 50 e_X12_rowOf_2.1 (by decide) ?_
      refine R_imul e_X12_rowOf_3.1 ?_
      refine R_iadd e_X12_rowOf_3.2.1 ?_
      exact R_ireturn e_X12_rowOf_3.2.2 rfl h
/-! KiteLandModel.doesShade(IIII)Z -/
theorem e_X12_doesShade_0 : decode cX12_doesShade 0 = .ok (.iload 4, 2) ∧ decode cX12_doesShade 2 = .ok (.aload_n 0, 1) ∧ decode cX12_doesShade 3 = .ok (.getfield 7, 3) ∧ decode cX12_doesShade 6 = .ok (.iconst 5, 1) ∧ decode cX12_doesShade 7 = .ok (.iaload, 1) ∧ decode cX12_doesShade 8 = .ok (.if_icmp .ne 18, 3) ∧ decode cX12_doesShade 11 = .ok (.iconst 0, 1) ∧ decode cX12_doesShade 12 = .ok (.aload_n 0, 1) ∧ decode cX12_doesShade 13 = .ok (.iload_n 1, 1) ∧ decode cX12_doesShade 14 = .ok (.iconst 2, 1) := by decide +kernel
theorem e_X12_doesShade_1 : decode cX12_doesShade 15 = .ok (.invokevirtual 268, 3) ∧ decode cX12_doesShade 18 = .ok (.iconst 1, 1) ∧ decode cX12_doesShade 19 = .ok (.isub, 1) ∧ decode cX12_doesShade 20 = .ok (.invokestatic 283, 3) ∧ decode cX12_doesShade 23 = .ok (.goto 9, 3) ∧ decode cX12_doesShade 26 = .ok (.aload_n 0, 1) ∧ decode cX12_doesShade 27 = .ok (.iload_n 1, 1) ∧ decode cX12_doesShade 28 = .ok (.iconst 2, 1) ∧ decode cX12_doesShade 29 = .ok (.invokevirtual 268, 3) ∧ decode cX12_doesShade 32 = .ok (.istore 5, 2) := by decide +kernel
theorem e_X12_doesShade_2 : decode cX12_doesShade 34 = .ok (.aload_n 0, 1) ∧ decode cX12_doesShade 35 = .ok (.iload_n 1, 1) ∧ decode cX12_doesShade 36 = .ok (.iload 4, 2) ∧ decode cX12_doesShade 38 = .ok (.invokevirtual 274, 3) ∧ decode cX12_doesShade 41 = .ok (.ifCond .eq 41, 3) ∧ decode cX12_doesShade 44 = .ok (.aload_n 0, 1) ∧ decode cX12_doesShade 45 = .ok (.iload_n 1, 1) ∧ decode cX12_doesShade 46 = .ok (.iload 4, 2) ∧ decode cX12_doesShade 48 = .ok (.invokevirtual 286, 3) ∧ decode cX12_doesShade 51 = .ok (.iload_n 2, 1) := by decide +kernel
theorem e_X12_doesShade_3 : decode cX12_doesShade 52 = .ok (.isub, 1) ∧ decode cX12_doesShade 53 = .ok (.invokestatic 289, 3) ∧ decode cX12_doesShade 56 = .ok (.iload 5, 2) ∧ decode cX12_doesShade 58 = .ok (.if_icmp .gt 24, 3) ∧ decode cX12_doesShade 61 = .ok (.aload_n 0, 1) ∧ decode cX12_doesShade 62 = .ok (.iload_n 1, 1) ∧ decode cX12_doesShade 63 = .ok (.iload 4, 2) ∧ decode cX12_doesShade 65 = .ok (.invokevirtual 292, 3) ∧ decode cX12_doesShade 68 = .ok (.iload_n 3, 1) ∧ decode cX12_doesShade 69 = .ok (.isub, 1) := by decide +kernel
theorem e_X12_doesShade_4 : decode cX12_doesShade 70 = .ok (.invokestatic 289, 3) ∧ decode cX12_doesShade 73 = .ok (.iload 5, 2) ∧ decode cX12_doesShade 75 = .ok (.if_icmp .gt 7, 3) ∧ decode cX12_doesShade 78 = .ok (.iconst 1, 1) ∧ decode cX12_doesShade 79 = .ok (.goto 4, 3) ∧ decode cX12_doesShade 82 = .ok (.iconst 0, 1) ∧ decode cX12_doesShade 83 = .ok (.ireturn, 1) := by decide +kernel
abbrev E_X12_doesShade_32 (G : Kg) (l1 l2 l3 l4 p0 : Int) (σ : Kmem) (Q : Int → Kmem → Prop) : Prop := Ex G WM M_X12_doesShade 4 0 0 32 [(0, vA G 0), (1, vI l1), (2, vI l2), (3, vI l3), (4, vI l4)] [vI p0] σ Q
theorem S_X12_doesShade {G : Kg} {σ : Kmem} {Q : Int → Kmem → Prop} {l1 l2 l3 l4 : Int}  (h : (rI l4) ∧ (rI (σ 1 5)) ∧ ((l4 ≠ σ 1 5 → Run G WM M_X12_of 1 0 0 [vA G 0, vI l1, vI 2] σ (fun r3 s4 => E_X12_doesShade_32 G l1 l2 l3 l4 r3 s4 Q)) ∧ (l4 = σ 1 5 → Run G WM M_X12_of 1 0 0 [vA G 0, vI l1, vI 2] σ (fun r5 s6 => Run G WM M_J9_max_7cf53 0 0 0 [vI 0, vI (r5 - 1)] s6 (fun r7 s8 => E_X12_doesShade_32 G l1 l2 l3 l4 r7 s8 Q))))) : Run G WM M_X12_doesShade 4 0 0 [vA G 0, vI l1, vI l2, vI l3, vI l4] σ Q := by
  refine Run.of (by decide +kernel) (by show (5 : Nat) ≤ 6; decide) ?_
  show Ex G WM M_X12_doesShade 4 0 0 0 [(0, vA G 0), (1, vI l1), (2, vI l2), (3, vI l3), (4, vI l4)] [] σ Q
  refine R_iload e_X12_doesShade_0.1 4 rfl ?_
  refine R_aload_n e_X12_doesShade_0.2.1 0 rfl ?_
  refine R_getA 12 0 1 e_X12_doesShade_0.2.2.1 f_X12_7 km_0 (fun _ _ => rfl) rm_0_0 (by decide) ?_
  refine R_iconst e_X12_doesShade_0.2.2.2.1 ?_
  refine R_iald 3598 e_X12_doesShade_0.2.2.2.2.1 kma_1 (by decide) ?_
  obtain ⟨q1, h⟩ := h
  obtain ⟨q2, h⟩ := h
  refine R_icmp_ne 26 e_X12_doesShade_0.2.2.2.2.2.1 (by decide) q1 q2 (fun q => ?_) (fun q => ?_)
  · replace h := h.1 q
    refine R_aload_n e_X12_doesShade_1.2.2.2.2.2.1 0 rfl ?_
    refine R_iload_n e_X12_doesShade_1.2.2.2.2.2.2.1 1 rfl ?_
    refine R_iconst e_X12_doesShade_1.2.2.2.2.2.2.2.1 ?_
    refine R_callV (mc := 0) (ms := 0) (mc' := 0) (ms' := 0) (M' := M_X12_of) (d' := 1) (as := [vI l1, vI 2]) (st := []) 12 2 e_X12_doesShade_1.2.2.2.2.2.2.2.2.1 (kCVof m_X12_of l_X12_268) rfl (by decide) km_0 (by decide) (by decide) rfl rfl (by show (0 : Nat) ≤ 8; decide) ?_
    refine Run.mono h (fun r3 s4 h => ?_)
    refine R_eqs (st2 := [vI r3]) rfl rfl ?_
    refine R_ls (ls2 := [(0, vA G 0), (1, vI l1), (2, vI l2), (3, vI l3), (4, vI l4)]) [0, 1, 2, 3, 4] rfl ?_
    exact h
  · replace h := h.2 q
    refine R_iconst e_X12_doesShade_0.2.2.2.2.2.2.1 ?_
    refine R_aload_n e_X12_doesShade_0.2.2.2.2.2.2.2.1 0 rfl ?_
    refine R_iload_n e_X12_doesShade_0.2.2.2.2.2.2.2.2.1 1 rfl ?_
    refine R_iconst e_X12_doesShade_0.2.2.2.2.2.2.2.2.2 ?_
    refine R_callV (mc := 0) (ms := 0) (mc' := 0) (ms' := 0) (M' := M_X12_of) (d' := 1) (as := [vI l1, vI 2]) (st := [vI 0]) 12 2 e_X12_doesShade_1.1 (kCVof m_X12_of l_X12_268) rfl (by decide) km_0 (by decide) (by decide) rfl rfl (by show (1 : Nat) ≤ 8; decide) ?_
    refine Run.mono h (fun r5 s6 h => ?_)
    refine R_eqs (st2 := [vI r5, vI 0]) rfl rfl ?_
    refine R_iconst e_X12_doesShade_1.2.1 ?_
    refine R_isub e_X12_doesShade_1.2.2.1 ?_
    refine R_callS (mc := 0) (ms := 0) (mc' := 0) (ms' := 0) (M' := M_J9_max_7cf53) (d' := 0) (as := [vI 0, vI (r5 - 1)]) (st := []) 2 e_X12_doesShade_1.2.2.2.1 (kCSof m_J9_max_7cf53 l_X12_283) (by decide) (by decide) rfl rfl (by show (0 : Nat) ≤ 8; decide) ?_
    refine Run.mono h (fun r7 s8 h => ?_)
    refine R_eqs (st2 := [vI r7]) rfl rfl ?_
    refine R_goto 32 e_X12_doesShade_1.2.2.2.2.1 (by decide) ?_
    refine R_ls (ls2 := [(0, vA G 0), (1, vI l1), (2, vI l2), (3, vI l3), (4, vI l4)]) [0, 1, 2, 3, 4] rfl ?_
    exact h
theorem S_X12_doesShade_32 {G : Kg} {σ : Kmem} {Q : Int → Kmem → Prop} {l1 l2 l3 l4 p0 : Int}  (h : Run G WM M_X12_isBorne 2 0 0 [vA G 0, vI l1, vI l4] σ (fun r9 s10 => (rI r9) ∧ ((r9 = 0 → Q 0 s10) ∧ (r9 ≠ 0 → Run G WM M_X12_columnOf 3 0 0 [vA G 0, vI l1, vI l4] s10 (fun r12 s13 => Run G WM M_J9_abs_0f7a4 0 0 0 [vI (r12 - l2)] s13 (fun r14 s15 => (rI r14) ∧ (rI p0) ∧ ((p0 < r14 → Q 0 s15) ∧ (r14 ≤ p0 → Run G WM M_X12_rowOf 3 0 0 [vA G 0, vI l1, vI l4] s15 (fun r18 s19 => Run G WM M_J9_abs_0f7a4 0 0 0 [vI (r18 - l3)] s19 (fun r20 s21 => (rI r20) ∧ ((p0 < r20 → Q 0 s21) ∧ (r20 ≤ p0 → Q 1 s21)))))))))))) : E_X12_doesShade_32 G l1 l2 l3 l4 p0 σ Q := by
  refine R_istore (ls2 := [(5, vI p0), (0, vA G 0), (1, vI l1), (2, vI l2), (3, vI l3), (4, vI l4)]) e_X12_doesShade_1.2.2.2.2.2.2.2.2.2 (by decide) rfl ?_
  refine R_aload_n e_X12_doesShade_2.1 1 rfl ?_
  refine R_iload_n e_X12_doesShade_2.2.1 2 rfl ?_
  refine R_iload e_X12_doesShade_2.2.2.1 5 rfl ?_
  refine R_callV (mc := 0) (ms := 0) (mc' := 0) (ms' := 0) (M' := M_X12_isBorne) (d' := 2) (as := [vI l1, vI l4]) (st := []) 12 2 e_X12_doesShade_2.2.2.2.1 (kCVof m_X12_isBorne l_X12_274) rfl (by decide) km_0 (by decide) (by decide) rfl rfl (by show (0 : Nat) ≤ 8; decide) ?_
  refine Run.mono h (fun r9 s10 h => ?_)
  refine R_eqs (st2 := [vI r9]) rfl rfl ?_
  obtain ⟨q11, h⟩ := h
  refine R_if_eq 82 e_X12_doesShade_2.2.2.2.2.1 (by decide) q11  (fun q => ?_) (fun q => ?_)
  · replace h := h.1 q
    refine R_iconst e_X12_doesShade_4.2.2.2.2.2.1 ?_
    exact R_zreturn e_X12_doesShade_4.2.2.2.2.2.2 rfl (Or.inl rfl) h
  · replace h := h.2 q
    refine R_aload_n e_X12_doesShade_2.2.2.2.2.2.1 1 rfl ?_
    refine R_iload_n e_X12_doesShade_2.2.2.2.2.2.2.1 2 rfl ?_
    refine R_iload e_X12_doesShade_2.2.2.2.2.2.2.2.1 5 rfl ?_
    refine R_callV (mc := 0) (ms := 0) (mc' := 0) (ms' := 0) (M' := M_X12_columnOf) (d' := 3) (as := [vI l1, vI l4]) (st := []) 12 2 e_X12_doesShade_2.2.2.2.2.2.2.2.2.1 (kCVof m_X12_columnOf l_X12_286) rfl (by decide) km_0 (by decide) (by decide) rfl rfl (by show (0 : Nat) ≤ 8; decide) ?_
    refine Run.mono h (fun r12 s13 h => ?_)
    refine R_eqs (st2 := [vI r12]) rfl rfl ?_
    refine R_iload_n e_X12_doesShade_2.2.2.2.2.2.2.2.2.2 3 rfl ?_
    refine R_isub e_X12_doesShade_3.1 ?_
    refine R_callS (mc := 0) (ms := 0) (mc' := 0) (ms' := 0) (M' := M_J9_abs_0f7a4) (d' := 0) (as := [vI (r12 - l2)]) (st := []) 1 e_X12_doesShade_3.2.1 (kCSof m_J9_abs_0f7a4 l_X12_289) (by decide) (by decide) rfl rfl (by show (0 : Nat) ≤ 8; decide) ?_
    refine Run.mono h (fun r14 s15 h => ?_)
    refine R_eqs (st2 := [vI r14]) rfl rfl ?_
    refine R_iload e_X12_doesShade_3.2.2.1 0 rfl ?_
    obtain ⟨q16, h⟩ := h
    obtain ⟨q17, h⟩ := h
    refine R_icmp_gt 82 e_X12_doesShade_3.2.2.2.1 (by decide) q16 q17 (fun q => ?_) (fun q => ?_)
    · replace h := h.1 q
      refine R_iconst e_X12_doesShade_4.2.2.2.2.2.1 ?_
      exact R_zreturn e_X12_doesShade_4.2.2.2.2.2.2 rfl (Or.inl rfl) h
    · replace h := h.2 q
      refine R_aload_n e_X12_doesShade_3.2.2.2.2.1 1 rfl ?_
      refine R_iload_n e_X12_doesShade_3.2.2.2.2.2.1 2 rfl ?_
      refine R_iload e_X12_doesShade_3.2.2.2.2.2.2.1 5 rfl ?_
      refine R_callV (mc := 0) (ms := 0) (mc' := 0) (ms' := 0) (M' := M_X12_rowOf) (d' := 3) (as := [vI l1, vI l4]) (st := []) 12 2 e_X12_doesShade_3.2.2.2.2.2.2.2.1 (kCVof m_X12_rowOf l_X12_292) rfl (by decide) km_0 (by decide) (by decide) rfl rfl (by show (0 : Nat) ≤ 8; decide) ?_
      refine Run.mono h (fun r18 s19 h => ?_)
      refine R_eqs (st2 := [vI r18]) rfl rfl ?_
      refine R_iload_n e_X12_doesShade_3.2.2.2.2.2.2.2.2.1 4 rfl ?_
      refine R_isub e_X12_doesShade_3.2.2.2.2.2.2.2.2.2 ?_
      refine R_callS (mc := 0) (ms := 0) (mc' := 0) (ms' := 0) (M' := M_J9_abs_0f7a4) (d' := 0) (as := [vI (r18 - l3)]) (st := []) 1 e_X12_doesShade_4.1 (kCSof m_J9_abs_0f7a4 l_X12_289) (by decide) (by decide) rfl rfl (by show (0 : Nat) ≤ 8; decide) ?_
      refine Run.mono h (fun r20 s21 h => ?_)
      refine R_eqs (st2 := [vI r20]) rfl rfl ?_
      refine R_iload e_X12_doesShade_4.2.1 0 rfl ?_
      obtain ⟨q22, h⟩ := h
      refine R_icmp_gt 82 e_X12_doesShade_4.2.2.1 (by decide) q22 q17 (fun q => ?_) (fun q => ?_)
      · replace h := h.1 q
        refine R_iconst e_X12_doesShade_4.2.2.2.2.2.1 ?_
        exact R_zreturn e_X12_doesShade_4.2.2.2.2.2.2 rfl (Or.inl rfl) h
      · replace h := h.2 q
        refine R_iconst e_X12_doesShade_4.2.2.2.1 ?_
        refine R_goto 83 e_X12_doesShade_4.2.2.2.2.1 (by decide) ?_
        exact R_zreturn e_X12_doesShade_4.2.2.2.2.2.2 rfl (Or.inr rfl) h
/-! KiteLandModel.shadersOf(III)I -/
theorem e_X12_shadersOf_0 : decode cX12_shadersOf 0 = .ok (.iconst 0, 1) ∧ decode cX12_shadersOf 1 = .ok (.istore 4, 2) ∧ decode cX12_shadersOf 3 = .ok (.iconst 0, 1) ∧ decode cX12_shadersOf 4 = .ok (.istore 5, 2) ∧ decode cX12_shadersOf 6 = .ok (.iload 5, 2) ∧ decode cX12_shadersOf 8 = .ok (.aload_n 0, 1) ∧ decode cX12_shadersOf 9 = .ok (.getfield 7, 3) ∧ decode cX12_shadersOf 12 = .ok (.iconst 2, 1) ∧ decode cX12_shadersOf 13 = .ok (.iaload, 1) ∧ decode cX12_shadersOf 14 = .ok (.if_icmp .ge 43, 3) := by decide +kernel
theorem e_X12_shadersOf_1 : decode cX12_shadersOf 17 = .ok (.iload 4, 2) ∧ decode cX12_shadersOf 19 = .ok (.aload_n 0, 1) ∧ decode cX12_shadersOf 20 = .ok (.iload 5, 2) ∧ decode cX12_shadersOf 22 = .ok (.invokevirtual 271, 3) ∧ decode cX12_shadersOf 25 = .ok (.ifCond .ne 22, 3) ∧ decode cX12_shadersOf 28 = .ok (.aload_n 0, 1) ∧ decode cX12_shadersOf 29 = .ok (.iload 5, 2) ∧ decode cX12_shadersOf 31 = .ok (.iload_n 1, 1) ∧ decode cX12_shadersOf 32 = .ok (.iload_n 2, 1) ∧ decode cX12_shadersOf 33 = .ok (.iload_n 3, 1) := by decide +kernel
theorem e_X12_shadersOf_2 : decode cX12_shadersOf 34 = .ok (.invokevirtual 295, 3) ∧ decode cX12_shadersOf 37 = .ok (.ifCond .eq 10, 3) ∧ decode cX12_shadersOf 40 = .ok (.iconst 1, 1) ∧ decode cX12_shadersOf 41 = .ok (.iload 5, 2) ∧ decode cX12_shadersOf 43 = .ok (.ishl, 1) ∧ decode cX12_shadersOf 44 = .ok (.goto 4, 3) ∧ decode cX12_shadersOf 47 = .ok (.iconst 0, 1) ∧ decode cX12_shadersOf 48 = .ok (.ior, 1) ∧ decode cX12_shadersOf 49 = .ok (.istore 4, 2) ∧ decode cX12_shadersOf 51 = .ok (.iinc 5 1, 3) := by decide +kernel
theorem e_X12_shadersOf_3 : decode cX12_shadersOf 54 = .ok (.goto (-48), 3) ∧ decode cX12_shadersOf 57 = .ok (.iload 4, 2) ∧ decode cX12_shadersOf 59 = .ok (.ireturn, 1) := by decide +kernel
abbrev E_X12_shadersOf_6 (G : Kg) (l1 l2 l3 l4 l5 : Int) (σ : Kmem) (Q : Int → Kmem → Prop) : Prop := Ex G WM M_X12_shadersOf 5 0 0 6 [(0, vA G 0), (1, vI l1), (2, vI l2), (3, vI l3), (4, vI l4), (5, vI l5)] [] σ Q
theorem S_X12_shadersOf {G : Kg} {σ : Kmem} {Q : Int → Kmem → Prop} {l1 l2 l3 : Int}  (h : E_X12_shadersOf_6 G l1 l2 l3 0 0 σ Q) : Run G WM M_X12_shadersOf 5 0 0 [vA G 0, vI l1, vI l2, vI l3] σ Q := by
  refine Run.of (by decide +kernel) (by show (4 : Nat) ≤ 6; decide) ?_
  show Ex G WM M_X12_shadersOf 5 0 0 0 [(0, vA G 0), (1, vI l1), (2, vI l2), (3, vI l3)] [] σ Q
  refine R_iconst e_X12_shadersOf_0.1 ?_
  refine R_istore (ls2 := [(4, vI 0), (0, vA G 0), (1, vI l1), (2, vI l2), (3, vI l3)]) e_X12_shadersOf_0.2.1 (by decide) rfl ?_
  refine R_iconst e_X12_shadersOf_0.2.2.1 ?_
  refine R_istore (ls2 := [(5, vI 0), (4, vI 0), (0, vA G 0), (1, vI l1), (2, vI l2), (3, vI l3)]) e_X12_shadersOf_0.2.2.2.1 (by decide) rfl ?_
  refine R_ls (ls2 := [(0, vA G 0), (1, vI l1), (2, vI l2), (3, vI l3), (4, vI 0), (5, vI 0)]) [2, 3, 4, 5, 1, 0] rfl ?_
  exact h
theorem S_X12_shadersOf_6 {G : Kg} {σ : Kmem} {Q : Int → Kmem → Prop} {l1 l2 l3 l4 l5 : Int}  (h : (rI l5) ∧ (rI (σ 1 2)) ∧ ((σ 1 2 ≤ l5 → Q l4 σ) ∧ (l5 < σ 1 2 → Run G WM M_X12_isCut 2 0 0 [vA G 0, vI l5] σ (fun r3 s4 => (rI r3) ∧ ((r3 ≠ 0 → E_X12_shadersOf_6 G l1 l2 l3 (kor l4 0) (l5 + 1) s4 Q) ∧ (r3 = 0 → Run G WM M_X12_doesShade 4 0 0 [vA G 0, vI l5, vI l1, vI l2, vI l3] s4 (fun r6 s7 => (rI r6) ∧ ((r6 = 0 → E_X12_shadersOf_6 G l1 l2 l3 (kor l4 0) (l5 + 1) s7 Q) ∧ (r6 ≠ 0 → E_X12_shadersOf_6 G l1 l2 l3 (kor l4 (kshl 1 l5)) (l5 + 1) s7 Q))))))))) : E_X12_shadersOf_6 G l1 l2 l3 l4 l5 σ Q := by
  refine R_iload e_X12_shadersOf_0.2.2.2.2.1 5 rfl ?_
  refine R_aload_n e_X12_shadersOf_0.2.2.2.2.2.1 0 rfl ?_
  refine R_getA 12 0 1 e_X12_shadersOf_0.2.2.2.2.2.2.1 f_X12_7 km_0 (fun _ _ => rfl) rm_0_0 (by decide) ?_
  refine R_iconst e_X12_shadersOf_0.2.2.2.2.2.2.2.1 ?_
  refine R_iald 3598 e_X12_shadersOf_0.2.2.2.2.2.2.2.2.1 kma_1 (by decide) ?_
  obtain ⟨q1, h⟩ := h
  obtain ⟨q2, h⟩ := h
  refine R_icmp_ge 57 e_X12_shadersOf_0.2.2.2.2.2.2.2.2.2 (by decide) q1 q2 (fun q => ?_) (fun q => ?_)
  · replace h := h.1 q
    refine R_iload e_X12_shadersOf_3.2.1 4 rfl ?_
    exact R_ireturn e_X12_shadersOf_3.2.2 rfl h
  · replace h := h.2 q
    refine R_iload e_X12_shadersOf_1.1 4 rfl ?_
    refine R_aload_n e_X12_shadersOf_1.2.1 0 rfl ?_
    refine R_iload e_X12_shadersOf_1.2.2.1 5 rfl ?_
    refine R_callV (mc := 0) (ms := 0) (mc' := 0) (ms' := 0) (M' := M_X12_isCut) (d' := 2) (as := [vI l5]) (st := [vI l4]) 12 1 e_X12_shadersOf_1.2.2.2.1 (kCVof m_X12_isCut l_X12_271) rfl (by decide) km_0 (by decide) (by decide) rfl rfl (by show (1 : Nat) ≤ 8; decide) ?_
    refine Run.mono h (fun r3 s4 h => ?_)
    refine R_eqs (st2 := [vI r3, vI l4]) rfl rfl ?_
    obtain ⟨q5, h⟩ := h
    refine R_if_ne 47 e_X12_shadersOf_1.2.2.2.2.1 (by decide) q5  (fun q => ?_) (fun q => ?_)
    · replace h := h.1 q
      refine R_iconst e_X12_shadersOf_2.2.2.2.2.2.2.1 ?_
      refine R_ior e_X12_shadersOf_2.2.2.2.2.2.2.2.1 ?_
      refine R_istore (ls2 := [(4, vI (kor l4 0)), (0, vA G 0), (1, vI l1), (2, vI l2), (3, vI l3), (5, vI l5)]) e_X12_shadersOf_2.2.2.2.2.2.2.2.2.1 (by decide) rfl ?_
      refine R_iinc (ls2 := [(5, vI (l5 + 1)), (4, vI (kor l4 0)), (0, vA G 0), (1, vI l1), (2, vI l2), (3, vI l3)]) e_X12_shadersOf_2.2.2.2.2.2.2.2.2.2 5 rfl (by decide) rfl ?_
      refine R_goto 6 e_X12_shadersOf_3.1 (by decide) ?_
      refine R_ls (ls2 := [(0, vA G 0), (1, vI l1), (2, vI l2), (3, vI l3), (4, vI (kor l4 0)), (5, vI (l5 + 1))]) [2, 3, 4, 5, 1, 0] rfl ?_
      exact h
    · replace h := h.2 q
      refine R_aload_n e_X12_shadersOf_1.2.2.2.2.2.1 0 rfl ?_
      refine R_iload e_X12_shadersOf_1.2.2.2.2.2.2.1 5 rfl ?_
      refine R_iload_n e_X12_shadersOf_1.2.2.2.2.2.2.2.1 1 rfl ?_
      refine R_iload_n e_X12_shadersOf_1.2.2.2.2.2.2.2.2.1 2 rfl ?_
      refine R_iload_n e_X12_shadersOf_1.2.2.2.2.2.2.2.2.2 3 rfl ?_
      refine R_callV (mc := 0) (ms := 0) (mc' := 0) (ms' := 0) (M' := M_X12_doesShade) (d' := 4) (as := [vI l5, vI l1, vI l2, vI l3]) (st := [vI l4]) 12 4 e_X12_shadersOf_2.1 (kCVof m_X12_doesShade l_X12_295) rfl (by decide) km_0 (by decide) (by decide) rfl rfl (by show (1 : Nat) ≤ 8; decide) ?_
      refine Run.mono h (fun r6 s7 h => ?_)
      refine R_eqs (st2 := [vI r6, vI l4]) rfl rfl ?_
      obtain ⟨q8, h⟩ := h
      refine R_if_eq 47 e_X12_shadersOf_2.2.1 (by decide) q8  (fun q => ?_) (fun q => ?_)
      · replace h := h.1 q
        refine R_iconst e_X12_shadersOf_2.2.2.2.2.2.2.1 ?_
        refine R_ior e_X12_shadersOf_2.2.2.2.2.2.2.2.1 ?_
        refine R_istore (ls2 := [(4, vI (kor l4 0)), (0, vA G 0), (1, vI l1), (2, vI l2), (3, vI l3), (5, vI l5)]) e_X12_shadersOf_2.2.2.2.2.2.2.2.2.1 (by decide) rfl ?_
        refine R_iinc (ls2 := [(5, vI (l5 + 1)), (4, vI (kor l4 0)), (0, vA G 0), (1, vI l1), (2, vI l2), (3, vI l3)]) e_X12_shadersOf_2.2.2.2.2.2.2.2.2.2 5 rfl (by decide) rfl ?_
        refine R_goto 6 e_X12_shadersOf_3.1 (by decide) ?_
        refine R_ls (ls2 := [(0, vA G 0), (1, vI l1), (2, vI l2), (3, vI l3), (4, vI (kor l4 0)), (5, vI (l5 + 1))]) [2, 3, 4, 5, 1, 0] rfl ?_
        exact h
      · replace h := h.2 q
        refine R_iconst e_X12_shadersOf_2.2.2.1 ?_
        refine R_iload e_X12_shadersOf_2.2.2.2.1 5 rfl ?_
        refine R_ishl e_X12_shadersOf_2.2.2.2.2.1 ?_
        refine R_goto 48 e_X12_shadersOf_2.2.2.2.2.2.1 (by decide) ?_
        refine R_ior e_X12_shadersOf_2.2.2.2.2.2.2.2.1 ?_
        refine R_istore (ls2 := [(4, vI (kor l4 (kshl 1 l5))), (0, vA G 0), (1, vI l1), (2, vI l2), (3, vI l3), (5, vI l5)]) e_X12_shadersOf_2.2.2.2.2.2.2.2.2.1 (by decide) rfl ?_
        refine R_iinc (ls2 := [(5, vI (l5 + 1)), (4, vI (kor l4 (kshl 1 l5))), (0, vA G 0), (1, vI l1), (2, vI l2), (3, vI l3)]) e_X12_shadersOf_2.2.2.2.2.2.2.2.2.2 5 rfl (by decide) rfl ?_
        refine R_goto 6 e_X12_shadersOf_3.1 (by decide) ?_
        refine R_ls (ls2 := [(0, vA G 0), (1, vI l1), (2, vI l2), (3, vI l3), (4, vI (kor l4 (kshl 1 l5))), (5, vI (l5 + 1))]) [2, 3, 4, 5, 1, 0] rfl ?_
        exact h
/-! KiteLandModel.ownerBy(I)I -/
theorem e_X12_ownerBy_0 : decode cX12_ownerBy 0 = .ok (.iconst (-1), 1) ∧ decode cX12_ownerBy 1 = .ok (.istore_n 2, 1) ∧ decode cX12_ownerBy 2 = .ok (.iconst 0, 1) ∧ decode cX12_ownerBy 3 = .ok (.istore_n 3, 1) ∧ decode cX12_ownerBy 4 = .ok (.iload_n 3, 1) ∧ decode cX12_ownerBy 5 = .ok (.aload_n 0, 1) ∧ decode cX12_ownerBy 6 = .ok (.getfield 7, 3) ∧ decode cX12_ownerBy 9 = .ok (.iconst 2, 1) ∧ decode cX12_ownerBy 10 = .ok (.iaload, 1) ∧ decode cX12_ownerBy 11 = .ok (.if_icmp .ge 51, 3) := by decide +kernel
theorem e_X12_ownerBy_1 : decode cX12_ownerBy 14 = .ok (.aload_n 0, 1) ∧ decode cX12_ownerBy 15 = .ok (.iload_n 1, 1) ∧ decode cX12_ownerBy 16 = .ok (.iload_n 3, 1) ∧ decode cX12_ownerBy 17 = .ok (.invokevirtual 299, 3) ∧ decode cX12_ownerBy 20 = .ok (.ifCond .eq 36, 3) ∧ decode cX12_ownerBy 23 = .ok (.iload_n 2, 1) ∧ decode cX12_ownerBy 24 = .ok (.iconst (-1), 1) ∧ decode cX12_ownerBy 25 = .ok (.if_icmp .eq 29, 3) ∧ decode cX12_ownerBy 28 = .ok (.aload_n 0, 1) ∧ decode cX12_ownerBy 29 = .ok (.getfield 7, 3) := by decide +kernel
theorem e_X12_ownerBy_2 : decode cX12_ownerBy 32 = .ok (.bipush 6, 2) ∧ decode cX12_ownerBy 34 = .ok (.iaload, 1) ∧ decode cX12_ownerBy 35 = .ok (.iconst 1, 1) ∧ decode cX12_ownerBy 36 = .ok (.if_icmp .ne 20, 3) ∧ decode cX12_ownerBy 39 = .ok (.aload_n 0, 1) ∧ decode cX12_ownerBy 40 = .ok (.iload_n 3, 1) ∧ decode cX12_ownerBy 41 = .ok (.iconst 2, 1) ∧ decode cX12_ownerBy 42 = .ok (.invokevirtual 268, 3) ∧ decode cX12_ownerBy 45 = .ok (.aload_n 0, 1) ∧ decode cX12_ownerBy 46 = .ok (.iload_n 2, 1) := by decide +kernel
theorem e_X12_ownerBy_3 : decode cX12_ownerBy 47 = .ok (.iconst 2, 1) ∧ decode cX12_ownerBy 48 = .ok (.invokevirtual 268, 3) ∧ decode cX12_ownerBy 51 = .ok (.if_icmp .le 5, 3) ∧ decode cX12_ownerBy 54 = .ok (.iload_n 3, 1) ∧ decode cX12_ownerBy 55 = .ok (.istore_n 2, 1) ∧ decode cX12_ownerBy 56 = .ok (.iinc 3 1, 3) ∧ decode cX12_ownerBy 59 = .ok (.goto (-55), 3) ∧ decode cX12_ownerBy 62 = .ok (.aload_n 0, 1) ∧ decode cX12_ownerBy 63 = .ok (.getfield 7, 3) ∧ decode cX12_ownerBy 66 = .ok (.bipush 6, 2) := by decide +kernel
theorem e_X12_ownerBy_4 : decode cX12_ownerBy 68 = .ok (.iaload, 1) ∧ decode cX12_ownerBy 69 = .ok (.iconst 2, 1) ∧ decode cX12_ownerBy 70 = .ok (.if_icmp .ne 15, 3) ∧ decode cX12_ownerBy 73 = .ok (.iload_n 1, 1) ∧ decode cX12_ownerBy 74 = .ok (.invokestatic 302, 3) ∧ decode cX12_ownerBy 77 = .ok (.iconst 1, 1) ∧ decode cX12_ownerBy 78 = .ok (.if_icmp .eq 7, 3) ∧ decode cX12_ownerBy 81 = .ok (.iconst (-1), 1) ∧ decode cX12_ownerBy 82 = .ok (.goto 4, 3) ∧ decode cX12_ownerBy 85 = .ok (.iload_n 2, 1) := by decide +kernel
theorem e_X12_ownerBy_5 : decode cX12_ownerBy 86 = .ok (.ireturn, 1) := by decide +kernel
abbrev E_X12_ownerBy_4 (G : Kg) (l1 l2 l3 : Int) (σ : Kmem) (Q : Int → Kmem → Prop) : Prop := Ex G WM M_X12_ownerBy 2 0 0 4 [(0, vA G 0), (1, vI l1), (2, vI l2), (3, vI l3)] [] σ Q
theorem S_X12_ownerBy {G : Kg} {σ : Kmem} {Q : Int → Kmem → Prop} {l1 : Int}  (h : E_X12_ownerBy_4 G l1 (-1) 0 σ Q) : Run G WM M_X12_ownerBy 2 0 0 [vA G 0, vI l1] σ Q := by
  refine Run.of (by decide +kernel) (by show (2 : Nat) ≤ 4; decide) ?_
  show Ex G WM M_X12_ownerBy 2 0 0 0 [(0, vA G 0), (1, vI l1)] [] σ Q
  refine R_iconst e_X12_ownerBy_0.1 ?_
  refine R_istore_n (ls2 := [(2, vI (-1)), (0, vA G 0), (1, vI l1)]) e_X12_ownerBy_0.2.1 (by decide) rfl ?_
  refine R_iconst e_X12_ownerBy_0.2.2.1 ?_
  refine R_istore_n (ls2 := [(3, vI 0), (2, vI (-1)), (0, vA G 0), (1, vI l1)]) e_X12_ownerBy_0.2.2.2.1 (by decide) rfl ?_
  refine R_ls (ls2 := [(0, vA G 0), (1, vI l1), (2, vI (-1)), (3, vI 0)]) [2, 3, 1, 0] rfl ?_
  exact h
theorem S_X12_ownerBy_4 {G : Kg} {σ : Kmem} {Q : Int → Kmem → Prop} {l1 l2 l3 : Int}  (h : (rI l3) ∧ (rI (σ 1 2)) ∧ ((σ 1 2 ≤ l3 → (rI (σ 1 6)) ∧ ((σ 1 6 ≠ 2 → Q l2 σ) ∧ (σ 1 6 = 2 → Run G WM M_X12_bits 0 0 0 [vI l1] σ (fun r4 s5 => (rI r4) ∧ ((r4 = 1 → Q l2 s5) ∧ (r4 ≠ 1 → Q (-1) s5)))))) ∧ (l3 < σ 1 2 → Run G WM M_X12_isIn 0 0 0 [vA G 0, vI l1, vI l3] σ (fun r7 s8 => (rI r7) ∧ ((r7 = 0 → E_X12_ownerBy_4 G l1 l2 (l3 + 1) s8 Q) ∧ (r7 ≠ 0 → (rI l2) ∧ ((l2 = -1 → E_X12_ownerBy_4 G l1 l3 (l3 + 1) s8 Q) ∧ (l2 ≠ -1 → (rI (s8 1 6)) ∧ ((s8 1 6 ≠ 1 → E_X12_ownerBy_4 G l1 l2 (l3 + 1) s8 Q) ∧ (s8 1 6 = 1 → Run G WM M_X12_of 1 0 0 [vA G 0, vI l3, vI 2] s8 (fun r12 s13 => Run G WM M_X12_of 1 0 0 [vA G 0, vI l2, vI 2] s13 (fun r14 s15 => (rI r12) ∧ (rI r14) ∧ ((r12 ≤ r14 → E_X12_ownerBy_4 G l1 l2 (l3 + 1) s15 Q) ∧ (r14 < r12 → E_X12_ownerBy_4 G l1 l3 (l3 + 1) s15 Q)))))))))))))) : E_X12_ownerBy_4 G l1 l2 l3 σ Q := by
  refine R_iload_n e_X12_ownerBy_0.2.2.2.2.1 3 rfl ?_
  refine R_aload_n e_X12_ownerBy_0.2.2.2.2.2.1 0 rfl ?_
  refine R_getA 12 0 1 e_X12_ownerBy_0.2.2.2.2.2.2.1 f_X12_7 km_0 (fun _ _ => rfl) rm_0_0 (by decide) ?_
  refine R_iconst e_X12_ownerBy_0.2.2.2.2.2.2.2.1 ?_
  refine R_iald 3598 e_X12_ownerBy_0.2.2.2.2.2.2.2.2.1 kma_1 (by decide) ?_
  obtain ⟨q1, h⟩ := h
  obtain ⟨q2, h⟩ := h
  refine R_icmp_ge 62 e_X12_ownerBy_0.2.2.2.2.2.2.2.2.2 (by decide) q1 q2 (fun q => ?_) (fun q => ?_)
  · replace h := h.1 q
    refine R_aload_n e_X12_ownerBy_3.2.2.2.2.2.2.2.1 0 rfl ?_
    refine R_getA 12 0 1 e_X12_ownerBy_3.2.2.2.2.2.2.2.2.1 f_X12_7 km_0 (fun _ _ => rfl) rm_0_0 (by decide) ?_
    refine R_bipush e_X12_ownerBy_3.2.2.2.2.2.2.2.2.2 (by decide) ?_
    refine R_iald 3598 e_X12_ownerBy_4.1 kma_1 (by decide) ?_
    refine R_iconst e_X12_ownerBy_4.2.1 ?_
    obtain ⟨q3, h⟩ := h
    refine R_icmp_ne 85 e_X12_ownerBy_4.2.2.1 (by decide) q3 (by decide) (fun q => ?_) (fun q => ?_)
    · replace h := h.1 q
      refine R_iload_n e_X12_ownerBy_4.2.2.2.2.2.2.2.2.2 2 rfl ?_
      exact R_ireturn e_X12_ownerBy_5 rfl h
    · replace h := h.2 q
      refine R_iload_n e_X12_ownerBy_4.2.2.2.1 1 rfl ?_
      refine R_callS (mc := 0) (ms := 0) (mc' := 0) (ms' := 0) (M' := M_X12_bits) (d' := 0) (as := [vI l1]) (st := []) 1 e_X12_ownerBy_4.2.2.2.2.1 (kCSof m_X12_bits l_X12_302) (by decide) (by decide) rfl rfl (by show (0 : Nat) ≤ 8; decide) ?_
      refine Run.mono h (fun r4 s5 h => ?_)
      refine R_eqs (st2 := [vI r4]) rfl rfl ?_
      refine R_iconst e_X12_ownerBy_4.2.2.2.2.2.1 ?_
      obtain ⟨q6, h⟩ := h
      refine R_icmp_eq 85 e_X12_ownerBy_4.2.2.2.2.2.2.1 (by decide) q6 (by decide) (fun q => ?_) (fun q => ?_)
      · replace h := h.1 q
        refine R_iload_n e_X12_ownerBy_4.2.2.2.2.2.2.2.2.2 2 rfl ?_
        exact R_ireturn e_X12_ownerBy_5 rfl h
      · replace h := h.2 q
        refine R_iconst e_X12_ownerBy_4.2.2.2.2.2.2.2.1 ?_
        refine R_goto 86 e_X12_ownerBy_4.2.2.2.2.2.2.2.2.1 (by decide) ?_
        exact R_ireturn e_X12_ownerBy_5 rfl h
  · replace h := h.2 q
    refine R_aload_n e_X12_ownerBy_1.1 0 rfl ?_
    refine R_iload_n e_X12_ownerBy_1.2.1 1 rfl ?_
    refine R_iload_n e_X12_ownerBy_1.2.2.1 3 rfl ?_
    refine R_callV (mc := 0) (ms := 0) (mc' := 0) (ms' := 0) (M' := M_X12_isIn) (d' := 0) (as := [vI l1, vI l3]) (st := []) 12 2 e_X12_ownerBy_1.2.2.2.1 (kCVof m_X12_isIn l_X12_299) rfl (by decide) km_0 (by decide) (by decide) rfl rfl (by show (0 : Nat) ≤ 8; decide) ?_
    refine Run.mono h (fun r7 s8 h => ?_)
    refine R_eqs (st2 := [vI r7]) rfl rfl ?_
    obtain ⟨q9, h⟩ := h
    refine R_if_eq 56 e_X12_ownerBy_1.2.2.2.2.1 (by decide) q9  (fun q => ?_) (fun q => ?_)
    · replace h := h.1 q
      refine R_iinc (ls2 := [(3, vI (l3 + 1)), (0, vA G 0), (1, vI l1), (2, vI l2)]) e_X12_ownerBy_3.2.2.2.2.2.1 3 rfl (by decide) rfl ?_
      refine R_goto 4 e_X12_ownerBy_3.2.2.2.2.2.2.1 (by decide) ?_
      refine R_ls (ls2 := [(0, vA G 0), (1, vI l1), (2, vI l2), (3, vI (l3 + 1))]) [1, 2, 3, 0] rfl ?_
      exact h
    · replace h := h.2 q
      refine R_iload_n e_X12_ownerBy_1.2.2.2.2.2.1 2 rfl ?_
      refine R_iconst e_X12_ownerBy_1.2.2.2.2.2.2.1 ?_
      obtain ⟨q10, h⟩ := h
      refine R_icmp_eq 54 e_X12_ownerBy_1.2.2.2.2.2.2.2.1 (by decide) q10 (by decide) (fun q => ?_) (fun q => ?_)
      · replace h := h.1 q
        refine R_iload_n e_X12_ownerBy_3.2.2.2.1 3 rfl ?_
        refine R_istore_n (ls2 := [(2, vI l3), (0, vA G 0), (1, vI l1), (3, vI l3)]) e_X12_ownerBy_3.2.2.2.2.1 (by decide) rfl ?_
        refine R_iinc (ls2 := [(3, vI (l3 + 1)), (2, vI l3), (0, vA G 0), (1, vI l1)]) e_X12_ownerBy_3.2.2.2.2.2.1 3 rfl (by decide) rfl ?_
        refine R_goto 4 e_X12_ownerBy_3.2.2.2.2.2.2.1 (by decide) ?_
        refine R_ls (ls2 := [(0, vA G 0), (1, vI l1), (2, vI l3), (3, vI (l3 + 1))]) [2, 3, 1, 0] rfl ?_
        exact h
      · replace h := h.2 q
        refine R_aload_n e_X12_ownerBy_1.2.2.2.2.2.2.2.2.1 0 rfl ?_
        refine R_getA 12 0 1 e_X12_ownerBy_1.2.2.2.2.2.2.2.2.2 f_X12_7 km_0 (fun _ _ => rfl) rm_0_0 (by decide) ?_
        refine R_bipush e_X12_ownerBy_2.1 (by decide) ?_
        refine R_iald 3598 e_X12_ownerBy_2.2.1 kma_1 (by decide) ?_
        refine R_iconst e_X12_ownerBy_2.2.2.1 ?_
        obtain ⟨q11, h⟩ := h
        refine R_icmp_ne 56 e_X12_ownerBy_2.2.2.2.1 (by decide) q11 (by decide) (fun q => ?_) (fun q => ?_)
        · replace h := h.1 q
          refine R_iinc (ls2 := [(3, vI (l3 + 1)), (0, vA G 0), (1, vI l1), (2, vI l2)]) e_X12_ownerBy_3.2.2.2.2.2.1 3 rfl (by decide) rfl ?_
          refine R_goto 4 e_X12_ownerBy_3.2.2.2.2.2.2.1 (by decide) ?_
          refine R_ls (ls2 := [(0, vA G 0), (1, vI l1), (2, vI l2), (3, vI (l3 + 1))]) [1, 2, 3, 0] rfl ?_
          exact h
        · replace h := h.2 q
          refine R_aload_n e_X12_ownerBy_2.2.2.2.2.1 0 rfl ?_
          refine R_iload_n e_X12_ownerBy_2.2.2.2.2.2.1 3 rfl ?_
          refine R_iconst e_X12_ownerBy_2.2.2.2.2.2.2.1 ?_
          refine R_callV (mc := 0) (ms := 0) (mc' := 0) (ms' := 0) (M' := M_X12_of) (d' := 1) (as := [vI l3, vI 2]) (st := []) 12 2 e_X12_ownerBy_2.2.2.2.2.2.2.2.1 (kCVof m_X12_of l_X12_268) rfl (by decide) km_0 (by decide) (by decide) rfl rfl (by show (0 : Nat) ≤ 8; decide) ?_
          refine Run.mono h (fun r12 s13 h => ?_)
          refine R_eqs (st2 := [vI r12]) rfl rfl ?_
          refine R_aload_n e_X12_ownerBy_2.2.2.2.2.2.2.2.2.1 0 rfl ?_
          refine R_iload_n e_X12_ownerBy_2.2.2.2.2.2.2.2.2.2 2 rfl ?_
          refine R_iconst e_X12_ownerBy_3.1 ?_
          refine R_callV (mc := 0) (ms := 0) (mc' := 0) (ms' := 0) (M' := M_X12_of) (d' := 1) (as := [vI l2, vI 2]) (st := [vI r12]) 12 2 e_X12_ownerBy_3.2.1 (kCVof m_X12_of l_X12_268) rfl (by decide) km_0 (by decide) (by decide) rfl rfl (by show (1 : Nat) ≤ 8; decide) ?_
          refine Run.mono h (fun r14 s15 h => ?_)
          refine R_eqs (st2 := [vI r14, vI r12]) rfl rfl ?_
          obtain ⟨q16, h⟩ := h
          obtain ⟨q17, h⟩ := h
          refine R_icmp_le 56 e_X12_ownerBy_3.2.2.1 (by decide) q16 q17 (fun q => ?_) (fun q => ?_)
          · replace h := h.1 q
            refine R_iinc (ls2 := [(3, vI (l3 + 1)), (0, vA G 0), (1, vI l1), (2, vI l2)]) e_X12_ownerBy_3.2.2.2.2.2.1 3 rfl (by decide) rfl ?_
            refine R_goto 4 e_X12_ownerBy_3.2.2.2.2.2.2.1 (by decide) ?_
            refine R_ls (ls2 := [(0, vA G 0), (1, vI l1), (2, vI l2), (3, vI (l3 + 1))]) [1, 2, 3, 0] rfl ?_
            exact h
          · replace h := h.2 q
            refine R_iload_n e_X12_ownerBy_3.2.2.2.1 3 rfl ?_
            refine R_istore_n (ls2 := [(2, vI l3), (0, vA G 0), (1, vI l1), (3, vI l3)]) e_X12_ownerBy_3.2.2.2.2.1 (by decide) rfl ?_
            refine R_iinc (ls2 := [(3, vI (l3 + 1)), (2, vI l3), (0, vA G 0), (1, vI l1)]) e_X12_ownerBy_3.2.2.2.2.2.1 3 rfl (by decide) rfl ?_
            refine R_goto 4 e_X12_ownerBy_3.2.2.2.2.2.2.1 (by decide) ?_
            refine R_ls (ls2 := [(0, vA G 0), (1, vI l1), (2, vI l3), (3, vI (l3 + 1))]) [2, 3, 1, 0] rfl ?_
            exact h
/-! KiteLandModel.ownerOf(III)I -/
theorem e_X12_ownerOf_0 : decode cX12_ownerOf 0 = .ok (.aload_n 0, 1) ∧ decode cX12_ownerOf 1 = .ok (.aload_n 0, 1) ∧ decode cX12_ownerOf 2 = .ok (.iload_n 1, 1) ∧ decode cX12_ownerOf 3 = .ok (.iload_n 2, 1) ∧ decode cX12_ownerOf 4 = .ok (.iload_n 3, 1) ∧ decode cX12_ownerOf 5 = .ok (.invokevirtual 305, 3) ∧ decode cX12_ownerOf 8 = .ok (.invokevirtual 309, 3) ∧ decode cX12_ownerOf 11 = .ok (.ireturn, 1) := by decide +kernel
theorem S_X12_ownerOf {G : Kg} {σ : Kmem} {Q : Int → Kmem → Prop} {l1 l2 l3 : Int}  (h : Run G WM M_X12_shadersOf 5 0 0 [vA G 0, vI l1, vI l2, vI l3] σ (fun r1 s2 => Run G WM M_X12_ownerBy 2 0 0 [vA G 0, vI r1] s2 (fun r3 s4 => Q r3 s4))) : Run G WM M_X12_ownerOf 6 0 0 [vA G 0, vI l1, vI l2, vI l3] σ Q := by
  refine Run.of (by decide +kernel) (by show (4 : Nat) ≤ 4; decide) ?_
  show Ex G WM M_X12_ownerOf 6 0 0 0 [(0, vA G 0), (1, vI l1), (2, vI l2), (3, vI l3)] [] σ Q
  refine R_aload_n e_X12_ownerOf_0.1 0 rfl ?_
  refine R_aload_n e_X12_ownerOf_0.2.1 0 rfl ?_
  refine R_iload_n e_X12_ownerOf_0.2.2.1 1 rfl ?_
  refine R_iload_n e_X12_ownerOf_0.2.2.2.1 2 rfl ?_
  refine R_iload_n e_X12_ownerOf_0.2.2.2.2.1 3 rfl ?_
  refine R_callV (mc := 0) (ms := 0) (mc' := 0) (ms' := 0) (M' := M_X12_shadersOf) (d' := 5) (as := [vI l1, vI l2, vI l3]) (st := [vA G 0]) 12 3 e_X12_ownerOf_0.2.2.2.2.2.1 (kCVof m_X12_shadersOf l_X12_305) rfl (by decide) km_0 (by decide) (by decide) rfl rfl (by show (1 : Nat) ≤ 8; decide) ?_
  refine Run.mono h (fun r1 s2 h => ?_)
  refine R_eqs (st2 := [vI r1, vA G 0]) rfl rfl ?_
  refine R_callV (mc := 0) (ms := 0) (mc' := 0) (ms' := 0) (M' := M_X12_ownerBy) (d' := 2) (as := [vI r1]) (st := []) 12 1 e_X12_ownerOf_0.2.2.2.2.2.2.1 (kCVof m_X12_ownerBy l_X12_309) rfl (by decide) km_0 (by decide) (by decide) rfl rfl (by show (0 : Nat) ≤ 8; decide) ?_
  refine Run.mono h (fun r3 s4 h => ?_)
  refine R_eqs (st2 := [vI r3]) rfl rfl ?_
  exact R_ireturn e_X12_ownerOf_0.2.2.2.2.2.2.2 rfl h
/-! KiteLandModel.estateOf(II)I -/
theorem e_X12_estateOf_0 : decode cX12_estateOf 0 = .ok (.iconst 0, 1) ∧ decode cX12_estateOf 1 = .ok (.istore_n 3, 1) ∧ decode cX12_estateOf 2 = .ok (.iconst 0, 1) ∧ decode cX12_estateOf 3 = .ok (.istore 4, 2) ∧ decode cX12_estateOf 5 = .ok (.iload 4, 2) ∧ decode cX12_estateOf 7 = .ok (.aload_n 0, 1) ∧ decode cX12_estateOf 8 = .ok (.getfield 7, 3) ∧ decode cX12_estateOf 11 = .ok (.iconst 0, 1) ∧ decode cX12_estateOf 12 = .ok (.iaload, 1) ∧ decode cX12_estateOf 13 = .ok (.if_icmp .ge 50, 3) := by decide +kernel
theorem e_X12_estateOf_1 : decode cX12_estateOf 16 = .ok (.iconst 0, 1) ∧ decode cX12_estateOf 17 = .ok (.istore 5, 2) ∧ decode cX12_estateOf 19 = .ok (.iload 5, 2) ∧ decode cX12_estateOf 21 = .ok (.aload_n 0, 1) ∧ decode cX12_estateOf 22 = .ok (.getfield 7, 3) ∧ decode cX12_estateOf 25 = .ok (.iconst 1, 1) ∧ decode cX12_estateOf 26 = .ok (.iaload, 1) ∧ decode cX12_estateOf 27 = .ok (.if_icmp .ge 30, 3) ∧ decode cX12_estateOf 30 = .ok (.iload_n 3, 1) ∧ decode cX12_estateOf 31 = .ok (.aload_n 0, 1) := by decide +kernel
theorem e_X12_estateOf_2 : decode cX12_estateOf 32 = .ok (.iload 4, 2) ∧ decode cX12_estateOf 34 = .ok (.iload 5, 2) ∧ decode cX12_estateOf 36 = .ok (.iload_n 2, 1) ∧ decode cX12_estateOf 37 = .ok (.invokevirtual 312, 3) ∧ decode cX12_estateOf 40 = .ok (.iload_n 1, 1) ∧ decode cX12_estateOf 41 = .ok (.if_icmp .ne 7, 3) ∧ decode cX12_estateOf 44 = .ok (.iconst 1, 1) ∧ decode cX12_estateOf 45 = .ok (.goto 4, 3) ∧ decode cX12_estateOf 48 = .ok (.iconst 0, 1) ∧ decode cX12_estateOf 49 = .ok (.iadd, 1) := by decide +kernel
theorem e_X12_estateOf_3 : decode cX12_estateOf 50 = .ok (.istore_n 3, 1) ∧ decode cX12_estateOf 51 = .ok (.iinc 5 1, 3) ∧ decode cX12_estateOf 54 = .ok (.goto (-35), 3) ∧ decode cX12_estateOf 57 = .ok (.iinc 4 1, 3) ∧ decode cX12_estateOf 60 = .ok (.goto (-55), 3) ∧ decode cX12_estateOf 63 = .ok (.iload_n 3, 1) ∧ decode cX12_estateOf 64 = .ok (.ireturn, 1) := by decide +kernel
abbrev E_X12_estateOf_5 (G : Kg) (l1 l2 l3 l4 : Int) (σ : Kmem) (Q : Int → Kmem → Prop) : Prop := Ex G WM M_X12_estateOf 7 0 0 5 [(0, vA G 0), (1, vI l1), (2, vI l2), (3, vI l3), (4, vI l4)] [] σ Q
abbrev E_X12_estateOf_19 (G : Kg) (l1 l2 l3 l4 l5 : Int) (σ : Kmem) (Q : Int → Kmem → Prop) : Prop := Ex G WM M_X12_estateOf 7 0 0 19 [(0, vA G 0), (1, vI l1), (2, vI l2), (3, vI l3), (4, vI l4), (5, vI l5)] [] σ Q
theorem S_X12_estateOf {G : Kg} {σ : Kmem} {Q : Int → Kmem → Prop} {l1 l2 : Int}  (h : E_X12_estateOf_5 G l1 l2 0 0 σ Q) : Run G WM M_X12_estateOf 7 0 0 [vA G 0, vI l1, vI l2] σ Q := by
  refine Run.of (by decide +kernel) (by show (3 : Nat) ≤ 6; decide) ?_
  show Ex G WM M_X12_estateOf 7 0 0 0 [(0, vA G 0), (1, vI l1), (2, vI l2)] [] σ Q
  refine R_iconst e_X12_estateOf_0.1 ?_
  refine R_istore_n (ls2 := [(3, vI 0), (0, vA G 0), (1, vI l1), (2, vI l2)]) e_X12_estateOf_0.2.1 (by decide) rfl ?_
  refine R_iconst e_X12_estateOf_0.2.2.1 ?_
  refine R_istore (ls2 := [(4, vI 0), (3, vI 0), (0, vA G 0), (1, vI l1), (2, vI l2)]) e_X12_estateOf_0.2.2.2.1 (by decide) rfl ?_
  refine R_ls (ls2 := [(0, vA G 0), (1, vI l1), (2, vI l2), (3, vI 0), (4, vI 0)]) [2, 3, 4, 1, 0] rfl ?_
  exact h
theorem S_X12_estateOf_5 {G : Kg} {σ : Kmem} {Q : Int → Kmem → Prop} {l1 l2 l3 l4 : Int}  (h : (rI l4) ∧ (rI (σ 1 0)) ∧ ((σ 1 0 ≤ l4 → Q l3 σ) ∧ (l4 < σ 1 0 → E_X12_estateOf_19 G l1 l2 l3 l4 0 σ Q))) : E_X12_estateOf_5 G l1 l2 l3 l4 σ Q := by
  refine R_iload e_X12_estateOf_0.2.2.2.2.1 4 rfl ?_
  refine R_aload_n e_X12_estateOf_0.2.2.2.2.2.1 0 rfl ?_
  refine R_getA 12 0 1 e_X12_estateOf_0.2.2.2.2.2.2.1 f_X12_7 km_0 (fun _ _ => rfl) rm_0_0 (by decide) ?_
  refine R_iconst e_X12_estateOf_0.2.2.2.2.2.2.2.1 ?_
  refine R_iald 3598 e_X12_estateOf_0.2.2.2.2.2.2.2.2.1 kma_1 (by decide) ?_
  obtain ⟨q1, h⟩ := h
  obtain ⟨q2, h⟩ := h
  refine R_icmp_ge 63 e_X12_estateOf_0.2.2.2.2.2.2.2.2.2 (by decide) q1 q2 (fun q => ?_) (fun q => ?_)
  · replace h := h.1 q
    refine R_iload_n e_X12_estateOf_3.2.2.2.2.2.1 3 rfl ?_
    exact R_ireturn e_X12_estateOf_3.2.2.2.2.2.2 rfl h
  · replace h := h.2 q
    refine R_iconst e_X12_estateOf_1.1 ?_
    refine R_istore (ls2 := [(5, vI 0), (0, vA G 0), (1, vI l1), (2, vI l2), (3, vI l3), (4, vI l4)]) e_X12_estateOf_1.2.1 (by decide) rfl ?_
    refine R_ls (ls2 := [(0, vA G 0), (1, vI l1), (2, vI l2), (3, vI l3), (4, vI l4), (5, vI 0)]) [1, 2, 3, 4, 5, 0] rfl ?_
    exact h
theorem S_X12_estateOf_19 {G : Kg} {σ : Kmem} {Q : Int → Kmem → Prop} {l1 l2 l3 l4 l5 : Int}  (h : (rI l5) ∧ (rI (σ 1 1)) ∧ ((σ 1 1 ≤ l5 → E_X12_estateOf_5 G l1 l2 l3 (l4 + 1) σ Q) ∧ (l5 < σ 1 1 → Run G WM M_X12_ownerOf 6 0 0 [vA G 0, vI l4, vI l5, vI l2] σ (fun r5 s6 => (rI r5) ∧ (rI l1) ∧ ((r5 ≠ l1 → E_X12_estateOf_19 G l1 l2 (l3 + 0) l4 (l5 + 1) s6 Q) ∧ (r5 = l1 → E_X12_estateOf_19 G l1 l2 (l3 + 1) l4 (l5 + 1) s6 Q)))))) : E_X12_estateOf_19 G l1 l2 l3 l4 l5 σ Q := by
  refine R_iload e_X12_estateOf_1.2.2.1 5 rfl ?_
  refine R_aload_n e_X12_estateOf_1.2.2.2.1 0 rfl ?_
  refine R_getA 12 0 1 e_X12_estateOf_1.2.2.2.2.1 f_X12_7 km_0 (fun _ _ => rfl) rm_0_0 (by decide) ?_
  refine R_iconst e_X12_estateOf_1.2.2.2.2.2.1 ?_
  refine R_iald 3598 e_X12_estateOf_1.2.2.2.2.2.2.1 kma_1 (by decide) ?_
  obtain ⟨q3, h⟩ := h
  obtain ⟨q4, h⟩ := h
  refine R_icmp_ge 57 e_X12_estateOf_1.2.2.2.2.2.2.2.1 (by decide) q3 q4 (fun q => ?_) (fun q => ?_)
  · replace h := h.1 q
    refine R_iinc (ls2 := [(4, vI (l4 + 1)), (0, vA G 0), (1, vI l1), (2, vI l2), (3, vI l3), (5, vI l5)]) e_X12_estateOf_3.2.2.2.1 4 rfl (by decide) rfl ?_
    refine R_goto 5 e_X12_estateOf_3.2.2.2.2.1 (by decide) ?_
    refine R_ls (ls2 := [(0, vA G 0), (1, vI l1), (2, vI l2), (3, vI l3), (4, vI (l4 + 1))]) [1, 2, 3, 4, 0] rfl ?_
    exact h
  · replace h := h.2 q
    refine R_iload_n e_X12_estateOf_1.2.2.2.2.2.2.2.2.1 3 rfl ?_
    refine R_aload_n e_X12_estateOf_1.2.2.2.2.2.2.2.2.2 0 rfl ?_
    refine R_iload e_X12_estateOf_2.1 4 rfl ?_
    refine R_iload e_X12_estateOf_2.2.1 5 rfl ?_
    refine R_iload_n e_X12_estateOf_2.2.2.1 2 rfl ?_
    refine R_callV (mc := 0) (ms := 0) (mc' := 0) (ms' := 0) (M' := M_X12_ownerOf) (d' := 6) (as := [vI l4, vI l5, vI l2]) (st := [vI l3]) 12 3 e_X12_estateOf_2.2.2.2.1 (kCVof m_X12_ownerOf l_X12_312) rfl (by decide) km_0 (by decide) (by decide) rfl rfl (by show (1 : Nat) ≤ 8; decide) ?_
    refine Run.mono h (fun r5 s6 h => ?_)
    refine R_eqs (st2 := [vI r5, vI l3]) rfl rfl ?_
    refine R_iload_n e_X12_estateOf_2.2.2.2.2.1 1 rfl ?_
    obtain ⟨q7, h⟩ := h
    obtain ⟨q8, h⟩ := h
    refine R_icmp_ne 48 e_X12_estateOf_2.2.2.2.2.2.1 (by decide) q7 q8 (fun q => ?_) (fun q => ?_)
    · replace h := h.1 q
      refine R_iconst e_X12_estateOf_2.2.2.2.2.2.2.2.2.1 ?_
      refine R_iadd e_X12_estateOf_2.2.2.2.2.2.2.2.2.2 ?_
      refine R_istore_n (ls2 := [(3, vI (l3 + 0)), (0, vA G 0), (1, vI l1), (2, vI l2), (4, vI l4), (5, vI l5)]) e_X12_estateOf_3.1 (by decide) rfl ?_
      refine R_iinc (ls2 := [(5, vI (l5 + 1)), (3, vI (l3 + 0)), (0, vA G 0), (1, vI l1), (2, vI l2), (4, vI l4)]) e_X12_estateOf_3.2.1 5 rfl (by decide) rfl ?_
      refine R_goto 19 e_X12_estateOf_3.2.2.1 (by decide) ?_
      refine R_ls (ls2 := [(0, vA G 0), (1, vI l1), (2, vI l2), (3, vI (l3 + 0)), (4, vI l4), (5, vI (l5 + 1))]) [2, 3, 4, 1, 5, 0] rfl ?_
      exact h
    · replace h := h.2 q
      refine R_iconst e_X12_estateOf_2.2.2.2.2.2.2.1 ?_
      refine R_goto 49 e_X12_estateOf_2.2.2.2.2.2.2.2.1 (by decide) ?_
      refine R_iadd e_X12_estateOf_2.2.2.2.2.2.2.2.2.2 ?_
      refine R_istore_n (ls2 := [(3, vI (l3 + 1)), (0, vA G 0), (1, vI l1), (2, vI l2), (4, vI l4), (5, vI l5)]) e_X12_estateOf_3.1 (by decide) rfl ?_
      refine R_iinc (ls2 := [(5, vI (l5 + 1)), (3, vI (l3 + 1)), (0, vA G 0), (1, vI l1), (2, vI l2), (4, vI l4)]) e_X12_estateOf_3.2.1 5 rfl (by decide) rfl ?_
      refine R_goto 19 e_X12_estateOf_3.2.2.1 (by decide) ?_
      refine R_ls (ls2 := [(0, vA G 0), (1, vI l1), (2, vI l2), (3, vI (l3 + 1)), (4, vI l4), (5, vI (l5 + 1))]) [2, 3, 4, 1, 5, 0] rfl ?_
      exact h
/-! KiteLandModel.fields()I -/
theorem e_X12_fields_0 : decode cX12_fields 0 = .ok (.aload_n 0, 1) ∧ decode cX12_fields 1 = .ok (.getfield 7, 3) ∧ decode cX12_fields 4 = .ok (.iconst 0, 1) ∧ decode cX12_fields 5 = .ok (.iaload, 1) ∧ decode cX12_fields 6 = .ok (.aload_n 0, 1) ∧ decode cX12_fields 7 = .ok (.getfield 7, 3) ∧ decode cX12_fields 10 = .ok (.iconst 1, 1) ∧ decode cX12_fields 11 = .ok (.iaload, 1) ∧ decode cX12_fields 12 = .ok (.imul, 1) ∧ decode cX12_fields 13 = .ok (.ireturn, 1) := by decide +kernel
theorem S_X12_fields {G : Kg} {σ : Kmem} {Q : Int → Kmem → Prop}  (h : Q ((σ 1 0) * (σ 1 1)) σ) : Run G WM M_X12_fields 0 0 0 [vA G 0] σ Q := by
  refine Run.of (by decide +kernel) (by show (1 : Nat) ≤ 1; decide) ?_
  show Ex G WM M_X12_fields 0 0 0 0 [(0, vA G 0)] [] σ Q
  refine R_aload_n e_X12_fields_0.1 0 rfl ?_
  refine R_getA 12 0 1 e_X12_fields_0.2.1 f_X12_7 km_0 (fun _ _ => rfl) rm_0_0 (by decide) ?_
  refine R_iconst e_X12_fields_0.2.2.1 ?_
  refine R_iald 3598 e_X12_fields_0.2.2.2.1 kma_1 (by decide) ?_
  refine R_aload_n e_X12_fields_0.2.2.2.2.1 0 rfl ?_
  refine R_getA 12 0 1 e_X12_fields_0.2.2.2.2.2.1 f_X12_7 km_0 (fun _ _ => rfl) rm_0_0 (by decide) ?_
  refine R_iconst e_X12_fields_0.2.2.2.2.2.2.1 ?_
  refine R_iald 3598 e_X12_fields_0.2.2.2.2.2.2.2.1 kma_1 (by decide) ?_
  refine R_imul e_X12_fields_0.2.2.2.2.2.2.2.2.1 ?_
  exact R_ireturn e_X12_fields_0.2.2.2.2.2.2.2.2.2 rfl h
/-! KiteLandModel.side(IIIIII)I -/
theorem e_X12_side_0 : decode cX12_side 0 = .ok (.iload_n 2, 1) ∧ decode cX12_side 1 = .ok (.iload_n 0, 1) ∧ decode cX12_side 2 = .ok (.isub, 1) ∧ decode cX12_side 3 = .ok (.iload 5, 2) ∧ decode cX12_side 5 = .ok (.iload_n 1, 1) ∧ decode cX12_side 6 = .ok (.isub, 1) ∧ decode cX12_side 7 = .ok (.imul, 1) ∧ decode cX12_side 8 = .ok (.iload_n 3, 1) ∧ decode cX12_side 9 = .ok (.iload_n 1, 1) ∧ decode cX12_side 10 = .ok (.isub, 1) := by decide +kernel
theorem e_X12_side_1 : decode cX12_side 11 = .ok (.iload 4, 2) ∧ decode cX12_side 13 = .ok (.iload_n 0, 1) ∧ decode cX12_side 14 = .ok (.isub, 1) ∧ decode cX12_side 15 = .ok (.imul, 1) ∧ decode cX12_side 16 = .ok (.isub, 1) ∧ decode cX12_side 17 = .ok (.istore 6, 2) ∧ decode cX12_side 19 = .ok (.iload 6, 2) ∧ decode cX12_side 21 = .ok (.ifCond .le 7, 3) ∧ decode cX12_side 24 = .ok (.iconst 1, 1) ∧ decode cX12_side 25 = .ok (.goto 13, 3) := by decide +kernel
theorem e_X12_side_2 : decode cX12_side 28 = .ok (.iload 6, 2) ∧ decode cX12_side 30 = .ok (.ifCond .ge 7, 3) ∧ decode cX12_side 33 = .ok (.iconst (-1), 1) ∧ decode cX12_side 34 = .ok (.goto 4, 3) ∧ decode cX12_side 37 = .ok (.iconst 0, 1) ∧ decode cX12_side 38 = .ok (.ireturn, 1) := by decide +kernel
theorem S_X12_side {G : Kg} {σ : Kmem} {Q : Int → Kmem → Prop} {l0 l1 l2 l3 l4 l5 : Int}  (h : (rI (((l2 - l0) * (l5 - l1)) - ((l3 - l1) * (l4 - l0)))) ∧ ((((l2 - l0) * (l5 - l1)) - ((l3 - l1) * (l4 - l0)) ≤ 0 → ((0 ≤ ((l2 - l0) * (l5 - l1)) - ((l3 - l1) * (l4 - l0)) → Q 0 σ) ∧ (((l2 - l0) * (l5 - l1)) - ((l3 - l1) * (l4 - l0)) < 0 → Q (-1) σ))) ∧ (0 < ((l2 - l0) * (l5 - l1)) - ((l3 - l1) * (l4 - l0)) → Q 1 σ))) : Run G WM M_X12_side 0 0 0 [vI l0, vI l1, vI l2, vI l3, vI l4, vI l5] σ Q := by
  refine Run.of (by decide +kernel) (by show (6 : Nat) ≤ 7; decide) ?_
  show Ex G WM M_X12_side 0 0 0 0 [(0, vI l0), (1, vI l1), (2, vI l2), (3, vI l3), (4, vI l4), (5, vI l5)] [] σ Q
  refine R_iload_n e_X12_side_0.1 2 rfl ?_
  refine R_iload_n e_X12_side_0.2.1 0 rfl ?_
  refine R_isub e_X12_side_0.2.2.1 ?_
  refine R_iload e_X12_side_0.2.2.2.1 5 rfl ?_
  refine R_iload_n e_X12_side_0.2.2.2.2.1 1 rfl ?_
  refine R_isub e_X12_side_0.2.2.2.2.2.1 ?_
  refine R_imul e_X12_side_0.2.2.2.2.2.2.1 ?_
  refine R_iload_n e_X12_side_0.2.2.2.2.2.2.2.1 3 rfl ?_
  refine R_iload_n e_X12_side_0.2.2.2.2.2.2.2.2.1 1 rfl ?_
  refine R_isub e_X12_side_0.2.2.2.2.2.2.2.2.2 ?_
  refine R_iload e_X12_side_1.1 4 rfl ?_
  refine R_iload_n e_X12_side_1.2.1 0 rfl ?_
  refine R_isub e_X12_side_1.2.2.1 ?_
  refine R_imul e_X12_side_1.2.2.2.1 ?_
  refine R_isub e_X12_side_1.2.2.2.2.1 ?_
  refine R_istore (ls2 := [(6, vI (((l2 - l0) * (l5 - l1)) - ((l3 - l1) * (l4 - l0)))), (0, vI l0), (1, vI l1), (2, vI l2), (3, vI l3), (4, vI l4), (5, vI l5)]) e_X12_side_1.2.2.2.2.2.1 (by decide) rfl ?_
  refine R_iload e_X12_side_1.2.2.2.2.2.2.1 0 rfl ?_
  obtain ⟨q1, h⟩ := h
  refine R_if_le 28 e_X12_side_1.2.2.2.2.2.2.2.1 (by decide) q1  (fun q => ?_) (fun q => ?_)
  · replace h := h.1 q
    refine R_iload e_X12_side_2.1 0 rfl ?_
    refine R_if_ge 37 e_X12_side_2.2.1 (by decide) q1  (fun q => ?_) (fun q => ?_)
    · replace h := h.1 q
      refine R_iconst e_X12_side_2.2.2.2.2.1 ?_
      exact R_ireturn e_X12_side_2.2.2.2.2.2 rfl h
    · replace h := h.2 q
      refine R_iconst e_X12_side_2.2.2.1 ?_
      refine R_goto 38 e_X12_side_2.2.2.2.1 (by decide) ?_
      exact R_ireturn e_X12_side_2.2.2.2.2.2 rfl h
  · replace h := h.2 q
    refine R_iconst e_X12_side_1.2.2.2.2.2.2.2.2.1 ?_
    refine R_goto 38 e_X12_side_1.2.2.2.2.2.2.2.2.2 (by decide) ?_
    exact R_ireturn e_X12_side_2.2.2.2.2.2 rfl h
/-! KiteLandModel.parts(III)Z -/
theorem e_X12_parts_0 : decode cX12_parts 0 = .ok (.aload_n 0, 1) ∧ decode cX12_parts 1 = .ok (.iload_n 1, 1) ∧ decode cX12_parts 2 = .ok (.iconst 0, 1) ∧ decode cX12_parts 3 = .ok (.invokevirtual 268, 3) ∧ decode cX12_parts 6 = .ok (.aload_n 0, 1) ∧ decode cX12_parts 7 = .ok (.iload_n 1, 1) ∧ decode cX12_parts 8 = .ok (.iconst 1, 1) ∧ decode cX12_parts 9 = .ok (.invokevirtual 268, 3) ∧ decode cX12_parts 12 = .ok (.aload_n 0, 1) ∧ decode cX12_parts 13 = .ok (.iload_n 1, 1) := by decide +kernel
theorem e_X12_parts_1 : decode cX12_parts 14 = .ok (.iload_n 3, 1) ∧ decode cX12_parts 15 = .ok (.invokevirtual 286, 3) ∧ decode cX12_parts 18 = .ok (.aload_n 0, 1) ∧ decode cX12_parts 19 = .ok (.iload_n 1, 1) ∧ decode cX12_parts 20 = .ok (.iload_n 3, 1) ∧ decode cX12_parts 21 = .ok (.invokevirtual 292, 3) ∧ decode cX12_parts 24 = .ok (.aload_n 0, 1) ∧ decode cX12_parts 25 = .ok (.iload_n 2, 1) ∧ decode cX12_parts 26 = .ok (.iconst 0, 1) ∧ decode cX12_parts 27 = .ok (.invokevirtual 268, 3) := by decide +kernel
theorem e_X12_parts_2 : decode cX12_parts 30 = .ok (.aload_n 0, 1) ∧ decode cX12_parts 31 = .ok (.iload_n 2, 1) ∧ decode cX12_parts 32 = .ok (.iconst 1, 1) ∧ decode cX12_parts 33 = .ok (.invokevirtual 268, 3) ∧ decode cX12_parts 36 = .ok (.invokestatic 315, 3) ∧ decode cX12_parts 39 = .ok (.istore 4, 2) ∧ decode cX12_parts 41 = .ok (.iload 4, 2) ∧ decode cX12_parts 43 = .ok (.aload_n 0, 1) ∧ decode cX12_parts 44 = .ok (.iload_n 1, 1) ∧ decode cX12_parts 45 = .ok (.iconst 0, 1) := by decide +kernel
theorem e_X12_parts_3 : decode cX12_parts 46 = .ok (.invokevirtual 268, 3) ∧ decode cX12_parts 49 = .ok (.aload_n 0, 1) ∧ decode cX12_parts 50 = .ok (.iload_n 1, 1) ∧ decode cX12_parts 51 = .ok (.iconst 1, 1) ∧ decode cX12_parts 52 = .ok (.invokevirtual 268, 3) ∧ decode cX12_parts 55 = .ok (.aload_n 0, 1) ∧ decode cX12_parts 56 = .ok (.iload_n 1, 1) ∧ decode cX12_parts 57 = .ok (.iload_n 3, 1) ∧ decode cX12_parts 58 = .ok (.invokevirtual 286, 3) ∧ decode cX12_parts 61 = .ok (.aload_n 0, 1) := by decide +kernel
theorem e_X12_parts_4 : decode cX12_parts 62 = .ok (.iload_n 1, 1) ∧ decode cX12_parts 63 = .ok (.iload_n 3, 1) ∧ decode cX12_parts 64 = .ok (.invokevirtual 292, 3) ∧ decode cX12_parts 67 = .ok (.aload_n 0, 1) ∧ decode cX12_parts 68 = .ok (.iload_n 2, 1) ∧ decode cX12_parts 69 = .ok (.iload_n 3, 1) ∧ decode cX12_parts 70 = .ok (.invokevirtual 286, 3) ∧ decode cX12_parts 73 = .ok (.aload_n 0, 1) ∧ decode cX12_parts 74 = .ok (.iload_n 2, 1) ∧ decode cX12_parts 75 = .ok (.iload_n 3, 1) := by decide +kernel
theorem e_X12_parts_5 : decode cX12_parts 76 = .ok (.invokevirtual 292, 3) ∧ decode cX12_parts 79 = .ok (.invokestatic 315, 3) ∧ decode cX12_parts 82 = .ok (.imul, 1) ∧ decode cX12_parts 83 = .ok (.ifCond .ge 7, 3) ∧ decode cX12_parts 86 = .ok (.iconst 1, 1) ∧ decode cX12_parts 87 = .ok (.goto 4, 3) ∧ decode cX12_parts 90 = .ok (.iconst 0, 1) ∧ decode cX12_parts 91 = .ok (.ireturn, 1) := by decide +kernel
theorem S_X12_parts {G : Kg} {σ : Kmem} {Q : Int → Kmem → Prop} {l1 l2 l3 : Int}  (h : Run G WM M_X12_of 1 0 0 [vA G 0, vI l1, vI 0] σ (fun r1 s2 => Run G WM M_X12_of 1 0 0 [vA G 0, vI l1, vI 1] s2 (fun r3 s4 => Run G WM M_X12_columnOf 3 0 0 [vA G 0, vI l1, vI l3] s4 (fun r5 s6 => Run G WM M_X12_rowOf 3 0 0 [vA G 0, vI l1, vI l3] s6 (fun r7 s8 => Run G WM M_X12_of 1 0 0 [vA G 0, vI l2, vI 0] s8 (fun r9 s10 => Run G WM M_X12_of 1 0 0 [vA G 0, vI l2, vI 1] s10 (fun r11 s12 => Run G WM M_X12_side 0 0 0 [vI r1, vI r3, vI r5, vI r7, vI r9, vI r11] s12 (fun r13 s14 => Run G WM M_X12_of 1 0 0 [vA G 0, vI l1, vI 0] s14 (fun r15 s16 => Run G WM M_X12_of 1 0 0 [vA G 0, vI l1, vI 1] s16 (fun r17 s18 => Run G WM M_X12_columnOf 3 0 0 [vA G 0, vI l1, vI l3] s18 (fun r19 s20 => Run G WM M_X12_rowOf 3 0 0 [vA G 0, vI l1, vI l3] s20 (fun r21 s22 => Run G WM M_X12_columnOf 3 0 0 [vA G 0, vI l2, vI l3] s22 (fun r23 s24 => Run G WM M_X12_rowOf 3 0 0 [vA G 0, vI l2, vI l3] s24 (fun r25 s26 => Run G WM M_X12_side 0 0 0 [vI r15, vI r17, vI r19, vI r21, vI r23, vI r25] s26 (fun r27 s28 => (rI (r13 * r27)) ∧ ((0 ≤ r13 * r27 → Q 0 s28) ∧ (r13 * r27 < 0 → Q 1 s28))))))))))))))))) : Run G WM M_X12_parts 4 0 0 [vA G 0, vI l1, vI l2, vI l3] σ Q := by
  refine Run.of (by decide +kernel) (by show (4 : Nat) ≤ 5; decide) ?_
  show Ex G WM M_X12_parts 4 0 0 0 [(0, vA G 0), (1, vI l1), (2, vI l2), (3, vI l3)] [] σ Q
  refine R_aload_n e_X12_parts_0.1 0 rfl ?_
  refine R_iload_n e_X12_parts_0.2.1 1 rfl ?_
  refine R_iconst e_X12_parts_0.2.2.1 ?_
  refine R_callV (mc := 0) (ms := 0) (mc' := 0) (ms' := 0) (M' := M_X12_of) (d' := 1) (as := [vI l1, vI 0]) (st := []) 12 2 e_X12_parts_0.2.2.2.1 (kCVof m_X12_of l_X12_268) rfl (by decide) km_0 (by decide) (by decide) rfl rfl (by show (0 : Nat) ≤ 8; decide) ?_
  refine Run.mono h (fun r1 s2 h => ?_)
  refine R_eqs (st2 := [vI r1]) rfl rfl ?_
  refine R_aload_n e_X12_parts_0.2.2.2.2.1 0 rfl ?_
  refine R_iload_n e_X12_parts_0.2.2.2.2.2.1 1 rfl ?_
  refine R_iconst e_X12_parts_0.2.2.2.2.2.2.1 ?_
  refine R_callV (mc := 0) (ms := 0) (mc' := 0) (ms' := 0) (M' := M_X12_of) (d' := 1) (as := [vI l1, vI 1]) (st := [vI r1]) 12 2 e_X12_parts_0.2.2.2.2.2.2.2.1 (kCVof m_X12_of l_X12_268) rfl (by decide) km_0 (by decide) (by decide) rfl rfl (by show (1 : Nat) ≤ 8; decide) ?_
  refine Run.mono h (fun r3 s4 h => ?_)
  refine R_eqs (st2 := [vI r3, vI r1]) rfl rfl ?_
  refine R_aload_n e_X12_parts_0.2.2.2.2.2.2.2.2.1 0 rfl ?_
  refine R_iload_n e_X12_parts_0.2.2.2.2.2.2.2.2.2 1 rfl ?_
  refine R_iload_n e_X12_parts_1.1 3 rfl ?_
  refine R_callV (mc := 0) (ms := 0) (mc' := 0) (ms' := 0) (M' := M_X12_columnOf) (d' := 3) (as := [vI l1, vI l3]) (st := [vI r3, vI r1]) 12 2 e_X12_parts_1.2.1 (kCVof m_X12_columnOf l_X12_286) rfl (by decide) km_0 (by decide) (by decide) rfl rfl (by show (2 : Nat) ≤ 8; decide) ?_
  refine Run.mono h (fun r5 s6 h => ?_)
  refine R_eqs (st2 := [vI r5, vI r3, vI r1]) rfl rfl ?_
  refine R_aload_n e_X12_parts_1.2.2.1 0 rfl ?_
  refine R_iload_n e_X12_parts_1.2.2.2.1 1 rfl ?_
  refine R_iload_n e_X12_parts_1.2.2.2.2.1 3 rfl ?_
  refine R_callV (mc := 0) (ms := 0) (mc' := 0) (ms' := 0) (M' := M_X12_rowOf) (d' := 3) (as := [vI l1, vI l3]) (st := [vI r5, vI r3, vI r1]) 12 2 e_X12_parts_1.2.2.2.2.2.1 (kCVof m_X12_rowOf l_X12_292) rfl (by decide) km_0 (by decide) (by decide) rfl rfl (by show (3 : Nat) ≤ 8; decide) ?_
  refine Run.mono h (fun r7 s8 h => ?_)
  refine R_eqs (st2 := [vI r7, vI r5, vI r3, vI r1]) rfl rfl ?_
  refine R_aload_n e_X12_parts_1.2.2.2.2.2.2.1 0 rfl ?_
  refine R_iload_n e_X12_parts_1.2.2.2.2.2.2.2.1 2 rfl ?_
  refine R_iconst e_X12_parts_1.2.2.2.2.2.2.2.2.1 ?_
  refine R_callV (mc := 0) (ms := 0) (mc' := 0) (ms' := 0) (M' := M_X12_of) (d' := 1) (as := [vI l2, vI 0]) (st := [vI r7, vI r5, vI r3, vI r1]) 12 2 e_X12_parts_1.2.2.2.2.2.2.2.2.2 (kCVof m_X12_of l_X12_268) rfl (by decide) km_0 (by decide) (by decide) rfl rfl (by show (4 : Nat) ≤ 8; decide) ?_
  refine Run.mono h (fun r9 s10 h => ?_)
  refine R_eqs (st2 := [vI r9, vI r7, vI r5, vI r3, vI r1]) rfl rfl ?_
  refine R_aload_n e_X12_parts_2.1 0 rfl ?_
  refine R_iload_n e_X12_parts_2.2.1 2 rfl ?_
  refine R_iconst e_X12_parts_2.2.2.1 ?_
  refine R_callV (mc := 0) (ms := 0) (mc' := 0) (ms' := 0) (M' := M_X12_of) (d' := 1) (as := [vI l2, vI 1]) (st := [vI r9, vI r7, vI r5, vI r3, vI r1]) 12 2 e_X12_parts_2.2.2.2.1 (kCVof m_X12_of l_X12_268) rfl (by decide) km_0 (by decide) (by decide) rfl rfl (by show (5 : Nat) ≤ 8; decide) ?_
  refine Run.mono h (fun r11 s12 h => ?_)
  refine R_eqs (st2 := [vI r11, vI r9, vI r7, vI r5, vI r3, vI r1]) rfl rfl ?_
  refine R_callS (mc := 0) (ms := 0) (mc' := 0) (ms' := 0) (M' := M_X12_side) (d' := 0) (as := [vI r1, vI r3, vI r5, vI r7, vI r9, vI r11]) (st := []) 6 e_X12_parts_2.2.2.2.2.1 (kCSof m_X12_side l_X12_315) (by decide) (by decide) rfl rfl (by show (0 : Nat) ≤ 8; decide) ?_
  refine Run.mono h (fun r13 s14 h => ?_)
  refine R_eqs (st2 := [vI r13]) rfl rfl ?_
  refine R_istore (ls2 := [(4, vI r13), (0, vA G 0), (1, vI l1), (2, vI l2), (3, vI l3)]) e_X12_parts_2.2.2.2.2.2.1 (by decide) rfl ?_
  refine R_iload e_X12_parts_2.2.2.2.2.2.2.1 0 rfl ?_
  refine R_aload_n e_X12_parts_2.2.2.2.2.2.2.2.1 1 rfl ?_
  refine R_iload_n e_X12_parts_2.2.2.2.2.2.2.2.2.1 2 rfl ?_
  refine R_iconst e_X12_parts_2.2.2.2.2.2.2.2.2.2 ?_
  refine R_callV (mc := 0) (ms := 0) (mc' := 0) (ms' := 0) (M' := M_X12_of) (d' := 1) (as := [vI l1, vI 0]) (st := [vI r13]) 12 2 e_X12_parts_3.1 (kCVof m_X12_of l_X12_268) rfl (by decide) km_0 (by decide) (by decide) rfl rfl (by show (1 : Nat) ≤ 8; decide) ?_
  refine Run.mono h (fun r15 s16 h => ?_)
  refine R_eqs (st2 := [vI r15, vI r13]) rfl rfl ?_
  refine R_aload_n e_X12_parts_3.2.1 1 rfl ?_
  refine R_iload_n e_X12_parts_3.2.2.1 2 rfl ?_
  refine R_iconst e_X12_parts_3.2.2.2.1 ?_
  refine R_callV (mc := 0) (ms := 0) (mc' := 0) (ms' := 0) (M' := M_X12_of) (d' := 1) (as := [vI l1, vI 1]) (st := [vI r15, vI r13]) 12 2 e_X12_parts_3.2.2.2.2.1 (kCVof m_X12_of l_X12_268) rfl (by decide) km_0 (by decide) (by decide) rfl rfl (by show (2 : Nat) ≤ 8; decide) ?_
  refine Run.mono h (fun r17 s18 h => ?_)
  refine R_eqs (st2 := [vI r17, vI r15, vI r13]) rfl rfl ?_
  refine R_aload_n e_X12_parts_3.2.2.2.2.2.1 1 rfl ?_
  refine R_iload_n e_X12_parts_3.2.2.2.2.2.2.1 2 rfl ?_
  refine R_iload_n e_X12_parts_3.2.2.2.2.2.2.2.1 4 rfl ?_
  refine R_callV (mc := 0) (ms := 0) (mc' := 0) (ms' := 0) (M' := M_X12_columnOf) (d' := 3) (as := [vI l1, vI l3]) (st := [vI r17, vI r15, vI r13]) 12 2 e_X12_parts_3.2.2.2.2.2.2.2.2.1 (kCVof m_X12_columnOf l_X12_286) rfl (by decide) km_0 (by decide) (by decide) rfl rfl (by show (3 : Nat) ≤ 8; decide) ?_
  refine Run.mono h (fun r19 s20 h => ?_)
  refine R_eqs (st2 := [vI r19, vI r17, vI r15, vI r13]) rfl rfl ?_
  refine R_aload_n e_X12_parts_3.2.2.2.2.2.2.2.2.2 1 rfl ?_
  refine R_iload_n e_X12_parts_4.1 2 rfl ?_
  refine R_iload_n e_X12_parts_4.2.1 4 rfl ?_
  refine R_callV (mc := 0) (ms := 0) (mc' := 0) (ms' := 0) (M' := M_X12_rowOf) (d' := 3) (as := [vI l1, vI l3]) (st := [vI r19, vI r17, vI r15, vI r13]) 12 2 e_X12_parts_4.2.2.1 (kCVof m_X12_rowOf l_X12_292) rfl (by decide) km_0 (by decide) (by decide) rfl rfl (by show (4 : Nat) ≤ 8; decide) ?_
  refine Run.mono h (fun r21 s22 h => ?_)
  refine R_eqs (st2 := [vI r21, vI r19, vI r17, vI r15, vI r13]) rfl rfl ?_
  refine R_aload_n e_X12_parts_4.2.2.2.1 1 rfl ?_
  refine R_iload_n e_X12_parts_4.2.2.2.2.1 3 rfl ?_
  refine R_iload_n e_X12_parts_4.2.2.2.2.2.1 4 rfl ?_
  refine R_callV (mc := 0) (ms := 0) (mc' := 0) (ms' := 0) (M' := M_X12_columnOf) (d' := 3) (as := [vI l2, vI l3]) (st := [vI r21, vI r19, vI r17, vI r15, vI r13]) 12 2 e_X12_parts_4.2.2.2.2.2.2.1 (kCVof m_X12_columnOf l_X12_286) rfl (by decide) km_0 (by decide) (by decide) rfl rfl (by show (5 : Nat) ≤ 8; decide) ?_
  refine Run.mono h (fun r23 s24 h => ?_)
  refine R_eqs (st2 := [vI r23, vI r21, vI r19, vI r17, vI r15, vI r13]) rfl rfl ?_
  refine R_aload_n e_X12_parts_4.2.2.2.2.2.2.2.1 1 rfl ?_
  refine R_iload_n e_X12_parts_4.2.2.2.2.2.2.2.2.1 3 rfl ?_
  refine R_iload_n e_X12_parts_4.2.2.2.2.2.2.2.2.2 4 rfl ?_
  refine R_callV (mc := 0) (ms := 0) (mc' := 0) (ms' := 0) (M' := M_X12_rowOf) (d' := 3) (as := [vI l2, vI l3]) (st := [vI r23, vI r21, vI r19, vI r17, vI r15, vI r13]) 12 2 e_X12_parts_5.1 (kCVof m_X12_rowOf l_X12_292) rfl (by decide) km_0 (by decide) (by decide) rfl rfl (by show (6 : Nat) ≤ 8; decide) ?_
  refine Run.mono h (fun r25 s26 h => ?_)
  refine R_eqs (st2 := [vI r25, vI r23, vI r21, vI r19, vI r17, vI r15, vI r13]) rfl rfl ?_
  refine R_callS (mc := 0) (ms := 0) (mc' := 0) (ms' := 0) (M' := M_X12_side) (d' := 0) (as := [vI r15, vI r17, vI r19, vI r21, vI r23, vI r25]) (st := [vI r13]) 6 e_X12_parts_5.2.1 (kCSof m_X12_side l_X12_315) (by decide) (by decide) rfl rfl (by show (1 : Nat) ≤ 8; decide) ?_
  refine Run.mono h (fun r27 s28 h => ?_)
  refine R_eqs (st2 := [vI r27, vI r13]) rfl rfl ?_
  refine R_imul e_X12_parts_5.2.2.1 ?_
  obtain ⟨q29, h⟩ := h
  refine R_if_ge 90 e_X12_parts_5.2.2.2.1 (by decide) q29  (fun q => ?_) (fun q => ?_)
  · replace h := h.1 q
    refine R_iconst e_X12_parts_5.2.2.2.2.2.2.1 ?_
    exact R_zreturn e_X12_parts_5.2.2.2.2.2.2.2 rfl (Or.inl rfl) h
  · replace h := h.2 q
    refine R_iconst e_X12_parts_5.2.2.2.2.1 ?_
    refine R_goto 91 e_X12_parts_5.2.2.2.2.2.1 (by decide) ?_
    exact R_zreturn e_X12_parts_5.2.2.2.2.2.2.2 rfl (Or.inr rfl) h
/-! KiteLandModel.doCross(III)Z -/
theorem e_X12_doCross_0 : decode cX12_doCross 0 = .ok (.aload_n 0, 1) ∧ decode cX12_doCross 1 = .ok (.iload_n 1, 1) ∧ decode cX12_doCross 2 = .ok (.iload_n 3, 1) ∧ decode cX12_doCross 3 = .ok (.invokevirtual 319, 3) ∧ decode cX12_doCross 6 = .ok (.ifCond .eq 36, 3) ∧ decode cX12_doCross 9 = .ok (.aload_n 0, 1) ∧ decode cX12_doCross 10 = .ok (.iload_n 2, 1) ∧ decode cX12_doCross 11 = .ok (.iload_n 3, 1) ∧ decode cX12_doCross 12 = .ok (.invokevirtual 319, 3) ∧ decode cX12_doCross 15 = .ok (.ifCond .eq 27, 3) := by decide +kernel
theorem e_X12_doCross_1 : decode cX12_doCross 18 = .ok (.aload_n 0, 1) ∧ decode cX12_doCross 19 = .ok (.iload_n 1, 1) ∧ decode cX12_doCross 20 = .ok (.iload_n 2, 1) ∧ decode cX12_doCross 21 = .ok (.iload_n 3, 1) ∧ decode cX12_doCross 22 = .ok (.invokevirtual 322, 3) ∧ decode cX12_doCross 25 = .ok (.ifCond .eq 17, 3) ∧ decode cX12_doCross 28 = .ok (.aload_n 0, 1) ∧ decode cX12_doCross 29 = .ok (.iload_n 2, 1) ∧ decode cX12_doCross 30 = .ok (.iload_n 1, 1) ∧ decode cX12_doCross 31 = .ok (.iload_n 3, 1) := by decide +kernel
theorem e_X12_doCross_2 : decode cX12_doCross 32 = .ok (.invokevirtual 322, 3) ∧ decode cX12_doCross 35 = .ok (.ifCond .eq 7, 3) ∧ decode cX12_doCross 38 = .ok (.iconst 1, 1) ∧ decode cX12_doCross 39 = .ok (.goto 4, 3) ∧ decode cX12_doCross 42 = .ok (.iconst 0, 1) ∧ decode cX12_doCross 43 = .ok (.ireturn, 1) := by decide +kernel
theorem S_X12_doCross {G : Kg} {σ : Kmem} {Q : Int → Kmem → Prop} {l1 l2 l3 : Int}  (h : Run G WM M_X12_isUp 3 0 0 [vA G 0, vI l1, vI l3] σ (fun r1 s2 => (rI r1) ∧ ((r1 = 0 → Q 0 s2) ∧ (r1 ≠ 0 → Run G WM M_X12_isUp 3 0 0 [vA G 0, vI l2, vI l3] s2 (fun r4 s5 => (rI r4) ∧ ((r4 = 0 → Q 0 s5) ∧ (r4 ≠ 0 → Run G WM M_X12_parts 4 0 0 [vA G 0, vI l1, vI l2, vI l3] s5 (fun r7 s8 => (rI r7) ∧ ((r7 = 0 → Q 0 s8) ∧ (r7 ≠ 0 → Run G WM M_X12_parts 4 0 0 [vA G 0, vI l2, vI l1, vI l3] s8 (fun r10 s11 => (rI r10) ∧ ((r10 = 0 → Q 0 s11) ∧ (r10 ≠ 0 → Q 1 s11))))))))))))) : Run G WM M_X12_doCross 5 0 0 [vA G 0, vI l1, vI l2, vI l3] σ Q := by
  refine Run.of (by decide +kernel) (by show (4 : Nat) ≤ 4; decide) ?_
  show Ex G WM M_X12_doCross 5 0 0 0 [(0, vA G 0), (1, vI l1), (2, vI l2), (3, vI l3)] [] σ Q
  refine R_aload_n e_X12_doCross_0.1 0 rfl ?_
  refine R_iload_n e_X12_doCross_0.2.1 1 rfl ?_
  refine R_iload_n e_X12_doCross_0.2.2.1 3 rfl ?_
  refine R_callV (mc := 0) (ms := 0) (mc' := 0) (ms' := 0) (M' := M_X12_isUp) (d' := 3) (as := [vI l1, vI l3]) (st := []) 12 2 e_X12_doCross_0.2.2.2.1 (kCVof m_X12_isUp l_X12_319) rfl (by decide) km_0 (by decide) (by decide) rfl rfl (by show (0 : Nat) ≤ 8; decide) ?_
  refine Run.mono h (fun r1 s2 h => ?_)
  refine R_eqs (st2 := [vI r1]) rfl rfl ?_
  obtain ⟨q3, h⟩ := h
  refine R_if_eq 42 e_X12_doCross_0.2.2.2.2.1 (by decide) q3  (fun q => ?_) (fun q => ?_)
  · replace h := h.1 q
    refine R_iconst e_X12_doCross_2.2.2.2.2.1 ?_
    exact R_zreturn e_X12_doCross_2.2.2.2.2.2 rfl (Or.inl rfl) h
  · replace h := h.2 q
    refine R_aload_n e_X12_doCross_0.2.2.2.2.2.1 0 rfl ?_
    refine R_iload_n e_X12_doCross_0.2.2.2.2.2.2.1 2 rfl ?_
    refine R_iload_n e_X12_doCross_0.2.2.2.2.2.2.2.1 3 rfl ?_
    refine R_callV (mc := 0) (ms := 0) (mc' := 0) (ms' := 0) (M' := M_X12_isUp) (d' := 3) (as := [vI l2, vI l3]) (st := []) 12 2 e_X12_doCross_0.2.2.2.2.2.2.2.2.1 (kCVof m_X12_isUp l_X12_319) rfl (by decide) km_0 (by decide) (by decide) rfl rfl (by show (0 : Nat) ≤ 8; decide) ?_
    refine Run.mono h (fun r4 s5 h => ?_)
    refine R_eqs (st2 := [vI r4]) rfl rfl ?_
    obtain ⟨q6, h⟩ := h
    refine R_if_eq 42 e_X12_doCross_0.2.2.2.2.2.2.2.2.2 (by decide) q6  (fun q => ?_) (fun q => ?_)
    · replace h := h.1 q
      refine R_iconst e_X12_doCross_2.2.2.2.2.1 ?_
      exact R_zreturn e_X12_doCross_2.2.2.2.2.2 rfl (Or.inl rfl) h
    · replace h := h.2 q
      refine R_aload_n e_X12_doCross_1.1 0 rfl ?_
      refine R_iload_n e_X12_doCross_1.2.1 1 rfl ?_
      refine R_iload_n e_X12_doCross_1.2.2.1 2 rfl ?_
      refine R_iload_n e_X12_doCross_1.2.2.2.1 3 rfl ?_
      refine R_callV (mc := 0) (ms := 0) (mc' := 0) (ms' := 0) (M' := M_X12_parts) (d' := 4) (as := [vI l1, vI l2, vI l3]) (st := []) 12 3 e_X12_doCross_1.2.2.2.2.1 (kCVof m_X12_parts l_X12_322) rfl (by decide) km_0 (by decide) (by decide) rfl rfl (by show (0 : Nat) ≤ 8; decide) ?_
      refine Run.mono h (fun r7 s8 h => ?_)
      refine R_eqs (st2 := [vI r7]) rfl rfl ?_
      obtain ⟨q9, h⟩ := h
      refine R_if_eq 42 e_X12_doCross_1.2.2.2.2.2.1 (by decide) q9  (fun q => ?_) (fun q => ?_)
      · replace h := h.1 q
        refine R_iconst e_X12_doCross_2.2.2.2.2.1 ?_
        exact R_zreturn e_X12_doCross_2.2.2.2.2.2 rfl (Or.inl rfl) h
      · replace h := h.2 q
        refine R_aload_n e_X12_doCross_1.2.2.2.2.2.2.1 0 rfl ?_
        refine R_iload_n e_X12_doCross_1.2.2.2.2.2.2.2.1 2 rfl ?_
        refine R_iload_n e_X12_doCross_1.2.2.2.2.2.2.2.2.1 1 rfl ?_
        refine R_iload_n e_X12_doCross_1.2.2.2.2.2.2.2.2.2 3 rfl ?_
        refine R_callV (mc := 0) (ms := 0) (mc' := 0) (ms' := 0) (M' := M_X12_parts) (d' := 4) (as := [vI l2, vI l1, vI l3]) (st := []) 12 3 e_X12_doCross_2.1 (kCVof m_X12_parts l_X12_322) rfl (by decide) km_0 (by decide) (by decide) rfl rfl (by show (0 : Nat) ≤ 8; decide) ?_
        refine Run.mono h (fun r10 s11 h => ?_)
        refine R_eqs (st2 := [vI r10]) rfl rfl ?_
        obtain ⟨q12, h⟩ := h
        refine R_if_eq 42 e_X12_doCross_2.2.1 (by decide) q12  (fun q => ?_) (fun q => ?_)
        · replace h := h.1 q
          refine R_iconst e_X12_doCross_2.2.2.2.2.1 ?_
          exact R_zreturn e_X12_doCross_2.2.2.2.2.2 rfl (Or.inl rfl) h
        · replace h := h.2 q
          refine R_iconst e_X12_doCross_2.2.2.1 ?_
          refine R_goto 43 e_X12_doCross_2.2.2.2.1 (by decide) ?_
          exact R_zreturn e_X12_doCross_2.2.2.2.2.2 rfl (Or.inr rfl) h
/-! KiteLandModel.doomedNow()I -/
theorem e_X12_doomedNow_0 : decode cX12_doomedNow 0 = .ok (.iconst 0, 1) ∧ decode cX12_doomedNow 1 = .ok (.istore_n 1, 1) ∧ decode cX12_doomedNow 2 = .ok (.iconst 0, 1) ∧ decode cX12_doomedNow 3 = .ok (.istore_n 2, 1) ∧ decode cX12_doomedNow 4 = .ok (.iload_n 2, 1) ∧ decode cX12_doomedNow 5 = .ok (.aload_n 0, 1) ∧ decode cX12_doomedNow 6 = .ok (.getfield 7, 3) ∧ decode cX12_doomedNow 9 = .ok (.iconst 2, 1) ∧ decode cX12_doomedNow 10 = .ok (.iaload, 1) ∧ decode cX12_doomedNow 11 = .ok (.if_icmp .ge 70, 3) := by decide +kernel
theorem e_X12_doomedNow_1 : decode cX12_doomedNow 14 = .ok (.iconst 0, 1) ∧ decode cX12_doomedNow 15 = .ok (.istore_n 3, 1) ∧ decode cX12_doomedNow 16 = .ok (.iload_n 3, 1) ∧ decode cX12_doomedNow 17 = .ok (.aload_n 0, 1) ∧ decode cX12_doomedNow 18 = .ok (.getfield 7, 3) ∧ decode cX12_doomedNow 21 = .ok (.iconst 2, 1) ∧ decode cX12_doomedNow 22 = .ok (.iaload, 1) ∧ decode cX12_doomedNow 23 = .ok (.if_icmp .ge 52, 3) ∧ decode cX12_doomedNow 26 = .ok (.iload_n 1, 1) ∧ decode cX12_doomedNow 27 = .ok (.iload_n 2, 1) := by decide +kernel
theorem e_X12_doomedNow_2 : decode cX12_doomedNow 28 = .ok (.iload_n 3, 1) ∧ decode cX12_doomedNow 29 = .ok (.if_icmp .eq 37, 3) ∧ decode cX12_doomedNow 32 = .ok (.aload_n 0, 1) ∧ decode cX12_doomedNow 33 = .ok (.iload_n 2, 1) ∧ decode cX12_doomedNow 34 = .ok (.iload_n 3, 1) ∧ decode cX12_doomedNow 35 = .ok (.aload_n 0, 1) ∧ decode cX12_doomedNow 36 = .ok (.invokevirtual 325, 3) ∧ decode cX12_doomedNow 39 = .ok (.invokevirtual 328, 3) ∧ decode cX12_doomedNow 42 = .ok (.ifCond .eq 24, 3) ∧ decode cX12_doomedNow 45 = .ok (.aload_n 0, 1) := by decide +kernel
theorem e_X12_doomedNow_3 : decode cX12_doomedNow 46 = .ok (.iload_n 2, 1) ∧ decode cX12_doomedNow 47 = .ok (.iconst 3, 1) ∧ decode cX12_doomedNow 48 = .ok (.invokevirtual 268, 3) ∧ decode cX12_doomedNow 51 = .ok (.aload_n 0, 1) ∧ decode cX12_doomedNow 52 = .ok (.iload_n 3, 1) ∧ decode cX12_doomedNow 53 = .ok (.iconst 3, 1) ∧ decode cX12_doomedNow 54 = .ok (.invokevirtual 268, 3) ∧ decode cX12_doomedNow 57 = .ok (.if_icmp .gt 9, 3) ∧ decode cX12_doomedNow 60 = .ok (.iconst 1, 1) ∧ decode cX12_doomedNow 61 = .ok (.iload_n 2, 1) := by decide +kernel
theorem e_X12_doomedNow_4 : decode cX12_doomedNow 62 = .ok (.ishl, 1) ∧ decode cX12_doomedNow 63 = .ok (.goto 4, 3) ∧ decode cX12_doomedNow 66 = .ok (.iconst 0, 1) ∧ decode cX12_doomedNow 67 = .ok (.ior, 1) ∧ decode cX12_doomedNow 68 = .ok (.istore_n 1, 1) ∧ decode cX12_doomedNow 69 = .ok (.iinc 3 1, 3) ∧ decode cX12_doomedNow 72 = .ok (.goto (-56), 3) ∧ decode cX12_doomedNow 75 = .ok (.iinc 2 1, 3) ∧ decode cX12_doomedNow 78 = .ok (.goto (-74), 3) ∧ decode cX12_doomedNow 81 = .ok (.iload_n 1, 1) := by decide +kernel
theorem e_X12_doomedNow_5 : decode cX12_doomedNow 82 = .ok (.ireturn, 1) := by decide +kernel
abbrev E_X12_doomedNow_4 (G : Kg) (l1 l2 : Int) (σ : Kmem) (Q : Int → Kmem → Prop) : Prop := Ex G WM M_X12_doomedNow 6 0 0 4 [(0, vA G 0), (1, vI l1), (2, vI l2)] [] σ Q
abbrev E_X12_doomedNow_16 (G : Kg) (l1 l2 l3 : Int) (σ : Kmem) (Q : Int → Kmem → Prop) : Prop := Ex G WM M_X12_doomedNow 6 0 0 16 [(0, vA G 0), (1, vI l1), (2, vI l2), (3, vI l3)] [] σ Q
theorem S_X12_doomedNow {G : Kg} {σ : Kmem} {Q : Int → Kmem → Prop}  (h : E_X12_doomedNow_4 G 0 0 σ Q) : Run G WM M_X12_doomedNow 6 0 0 [vA G 0] σ Q := by
  refine Run.of (by decide +kernel) (by show (1 : Nat) ≤ 4; decide) ?_
  show Ex G WM M_X12_doomedNow 6 0 0 0 [(0, vA G 0)] [] σ Q
  refine R_iconst e_X12_doomedNow_0.1 ?_
  refine R_istore_n (ls2 := [(1, vI 0), (0, vA G 0)]) e_X12_doomedNow_0.2.1 (by decide) rfl ?_
  refine R_iconst e_X12_doomedNow_0.2.2.1 ?_
  refine R_istore_n (ls2 := [(2, vI 0), (1, vI 0), (0, vA G 0)]) e_X12_doomedNow_0.2.2.2.1 (by decide) rfl ?_
  refine R_ls (ls2 := [(0, vA G 0), (1, vI 0), (2, vI 0)]) [2, 1, 0] rfl ?_
  exact h
theorem S_X12_doomedNow_4 {G : Kg} {σ : Kmem} {Q : Int → Kmem → Prop} {l1 l2 : Int}  (h : (rI l2) ∧ (rI (σ 1 2)) ∧ ((σ 1 2 ≤ l2 → Q l1 σ) ∧ (l2 < σ 1 2 → E_X12_doomedNow_16 G l1 l2 0 σ Q))) : E_X12_doomedNow_4 G l1 l2 σ Q := by
  refine R_iload_n e_X12_doomedNow_0.2.2.2.2.1 2 rfl ?_
  refine R_aload_n e_X12_doomedNow_0.2.2.2.2.2.1 0 rfl ?_
  refine R_getA 12 0 1 e_X12_doomedNow_0.2.2.2.2.2.2.1 f_X12_7 km_0 (fun _ _ => rfl) rm_0_0 (by decide) ?_
  refine R_iconst e_X12_doomedNow_0.2.2.2.2.2.2.2.1 ?_
  refine R_iald 3598 e_X12_doomedNow_0.2.2.2.2.2.2.2.2.1 kma_1 (by decide) ?_
  obtain ⟨q1, h⟩ := h
  obtain ⟨q2, h⟩ := h
  refine R_icmp_ge 81 e_X12_doomedNow_0.2.2.2.2.2.2.2.2.2 (by decide) q1 q2 (fun q => ?_) (fun q => ?_)
  · replace h := h.1 q
    refine R_iload_n e_X12_doomedNow_4.2.2.2.2.2.2.2.2.2 1 rfl ?_
    exact R_ireturn e_X12_doomedNow_5 rfl h
  · replace h := h.2 q
    refine R_iconst e_X12_doomedNow_1.1 ?_
    refine R_istore_n (ls2 := [(3, vI 0), (0, vA G 0), (1, vI l1), (2, vI l2)]) e_X12_doomedNow_1.2.1 (by decide) rfl ?_
    refine R_ls (ls2 := [(0, vA G 0), (1, vI l1), (2, vI l2), (3, vI 0)]) [1, 2, 3, 0] rfl ?_
    exact h
theorem S_X12_doomedNow_16 {G : Kg} {σ : Kmem} {Q : Int → Kmem → Prop} {l1 l2 l3 : Int}  (h : (rI l3) ∧ (rI (σ 1 2)) ∧ ((σ 1 2 ≤ l3 → E_X12_doomedNow_4 G l1 (l2 + 1) σ Q) ∧ (l3 < σ 1 2 → (rI l2) ∧ ((l2 = l3 → E_X12_doomedNow_16 G (kor l1 0) l2 (l3 + 1) σ Q) ∧ (l2 ≠ l3 → Run G WM M_X12_now 0 0 0 [vA G 0] σ (fun r6 s7 => Run G WM M_X12_doCross 5 0 0 [vA G 0, vI l2, vI l3, vI r6] s7 (fun r8 s9 => (rI r8) ∧ ((r8 = 0 → E_X12_doomedNow_16 G (kor l1 0) l2 (l3 + 1) s9 Q) ∧ (r8 ≠ 0 → Run G WM M_X12_of 1 0 0 [vA G 0, vI l2, vI 3] s9 (fun r11 s12 => Run G WM M_X12_of 1 0 0 [vA G 0, vI l3, vI 3] s12 (fun r13 s14 => (rI r11) ∧ (rI r13) ∧ ((r13 < r11 → E_X12_doomedNow_16 G (kor l1 0) l2 (l3 + 1) s14 Q) ∧ (r11 ≤ r13 → E_X12_doomedNow_16 G (kor l1 (kshl 1 l2)) l2 (l3 + 1) s14 Q))))))))))))) : E_X12_doomedNow_16 G l1 l2 l3 σ Q := by
  refine R_iload_n e_X12_doomedNow_1.2.2.1 3 rfl ?_
  refine R_aload_n e_X12_doomedNow_1.2.2.2.1 0 rfl ?_
  refine R_getA 12 0 1 e_X12_doomedNow_1.2.2.2.2.1 f_X12_7 km_0 (fun _ _ => rfl) rm_0_0 (by decide) ?_
  refine R_iconst e_X12_doomedNow_1.2.2.2.2.2.1 ?_
  refine R_iald 3598 e_X12_doomedNow_1.2.2.2.2.2.2.1 kma_1 (by decide) ?_
  obtain ⟨q3, h⟩ := h
  obtain ⟨q4, h⟩ := h
  refine R_icmp_ge 75 e_X12_doomedNow_1.2.2.2.2.2.2.2.1 (by decide) q3 q4 (fun q => ?_) (fun q => ?_)
  · replace h := h.1 q
    refine R_iinc (ls2 := [(2, vI (l2 + 1)), (0, vA G 0), (1, vI l1), (3, vI l3)]) e_X12_doomedNow_4.2.2.2.2.2.2.2.1 2 rfl (by decide) rfl ?_
    refine R_goto 4 e_X12_doomedNow_4.2.2.2.2.2.2.2.2.1 (by decide) ?_
    refine R_ls (ls2 := [(0, vA G 0), (1, vI l1), (2, vI (l2 + 1))]) [1, 2, 0] rfl ?_
    exact h
  · replace h := h.2 q
    refine R_iload_n e_X12_doomedNow_1.2.2.2.2.2.2.2.2.1 1 rfl ?_
    refine R_iload_n e_X12_doomedNow_1.2.2.2.2.2.2.2.2.2 2 rfl ?_
    refine R_iload_n e_X12_doomedNow_2.1 3 rfl ?_
    obtain ⟨q5, h⟩ := h
    refine R_icmp_eq 66 e_X12_doomedNow_2.2.1 (by decide) q5 q3 (fun q => ?_) (fun q => ?_)
    · replace h := h.1 q
      refine R_iconst e_X12_doomedNow_4.2.2.1 ?_
      refine R_ior e_X12_doomedNow_4.2.2.2.1 ?_
      refine R_istore_n (ls2 := [(1, vI (kor l1 0)), (0, vA G 0), (2, vI l2), (3, vI l3)]) e_X12_doomedNow_4.2.2.2.2.1 (by decide) rfl ?_
      refine R_iinc (ls2 := [(3, vI (l3 + 1)), (1, vI (kor l1 0)), (0, vA G 0), (2, vI l2)]) e_X12_doomedNow_4.2.2.2.2.2.1 3 rfl (by decide) rfl ?_
      refine R_goto 16 e_X12_doomedNow_4.2.2.2.2.2.2.1 (by decide) ?_
      refine R_ls (ls2 := [(0, vA G 0), (1, vI (kor l1 0)), (2, vI l2), (3, vI (l3 + 1))]) [2, 1, 3, 0] rfl ?_
      exact h
    · replace h := h.2 q
      refine R_aload_n e_X12_doomedNow_2.2.2.1 0 rfl ?_
      refine R_iload_n e_X12_doomedNow_2.2.2.2.1 2 rfl ?_
      refine R_iload_n e_X12_doomedNow_2.2.2.2.2.1 3 rfl ?_
      refine R_aload_n e_X12_doomedNow_2.2.2.2.2.2.1 0 rfl ?_
      refine R_callV (mc := 0) (ms := 0) (mc' := 0) (ms' := 0) (M' := M_X12_now) (d' := 0) (as := []) (st := [vI l3, vI l2, vA G 0, vI l1]) 12 0 e_X12_doomedNow_2.2.2.2.2.2.2.1 (kCVof m_X12_now l_X12_325) rfl (by decide) km_0 (by decide) (by decide) rfl rfl (by show (4 : Nat) ≤ 8; decide) ?_
      refine Run.mono h (fun r6 s7 h => ?_)
      refine R_eqs (st2 := [vI r6, vI l3, vI l2, vA G 0, vI l1]) rfl rfl ?_
      refine R_callV (mc := 0) (ms := 0) (mc' := 0) (ms' := 0) (M' := M_X12_doCross) (d' := 5) (as := [vI l2, vI l3, vI r6]) (st := [vI l1]) 12 3 e_X12_doomedNow_2.2.2.2.2.2.2.2.1 (kCVof m_X12_doCross l_X12_328) rfl (by decide) km_0 (by decide) (by decide) rfl rfl (by show (1 : Nat) ≤ 8; decide) ?_
      refine Run.mono h (fun r8 s9 h => ?_)
      refine R_eqs (st2 := [vI r8, vI l1]) rfl rfl ?_
      obtain ⟨q10, h⟩ := h
      refine R_if_eq 66 e_X12_doomedNow_2.2.2.2.2.2.2.2.2.1 (by decide) q10  (fun q => ?_) (fun q => ?_)
      · replace h := h.1 q
        refine R_iconst e_X12_doomedNow_4.2.2.1 ?_
        refine R_ior e_X12_doomedNow_4.2.2.2.1 ?_
        refine R_istore_n (ls2 := [(1, vI (kor l1 0)), (0, vA G 0), (2, vI l2), (3, vI l3)]) e_X12_doomedNow_4.2.2.2.2.1 (by decide) rfl ?_
        refine R_iinc (ls2 := [(3, vI (l3 + 1)), (1, vI (kor l1 0)), (0, vA G 0), (2, vI l2)]) e_X12_doomedNow_4.2.2.2.2.2.1 3 rfl (by decide) rfl ?_
        refine R_goto 16 e_X12_doomedNow_4.2.2.2.2.2.2.1 (by decide) ?_
        refine R_ls (ls2 := [(0, vA G 0), (1, vI (kor l1 0)), (2, vI l2), (3, vI (l3 + 1))]) [2, 1, 3, 0] rfl ?_
        exact h
      · replace h := h.2 q
        refine R_aload_n e_X12_doomedNow_2.2.2.2.2.2.2.2.2.2 0 rfl ?_
        refine R_iload_n e_X12_doomedNow_3.1 2 rfl ?_
        refine R_iconst e_X12_doomedNow_3.2.1 ?_
        refine R_callV (mc := 0) (ms := 0) (mc' := 0) (ms' := 0) (M' := M_X12_of) (d' := 1) (as := [vI l2, vI 3]) (st := [vI l1]) 12 2 e_X12_doomedNow_3.2.2.1 (kCVof m_X12_of l_X12_268) rfl (by decide) km_0 (by decide) (by decide) rfl rfl (by show (1 : Nat) ≤ 8; decide) ?_
        refine Run.mono h (fun r11 s12 h => ?_)
        refine R_eqs (st2 := [vI r11, vI l1]) rfl rfl ?_
        refine R_aload_n e_X12_doomedNow_3.2.2.2.1 0 rfl ?_
        refine R_iload_n e_X12_doomedNow_3.2.2.2.2.1 3 rfl ?_
        refine R_iconst e_X12_doomedNow_3.2.2.2.2.2.1 ?_
        refine R_callV (mc := 0) (ms := 0) (mc' := 0) (ms' := 0) (M' := M_X12_of) (d' := 1) (as := [vI l3, vI 3]) (st := [vI r11, vI l1]) 12 2 e_X12_doomedNow_3.2.2.2.2.2.2.1 (kCVof m_X12_of l_X12_268) rfl (by decide) km_0 (by decide) (by decide) rfl rfl (by show (2 : Nat) ≤ 8; decide) ?_
        refine Run.mono h (fun r13 s14 h => ?_)
        refine R_eqs (st2 := [vI r13, vI r11, vI l1]) rfl rfl ?_
        obtain ⟨q15, h⟩ := h
        obtain ⟨q16, h⟩ := h
        refine R_icmp_gt 66 e_X12_doomedNow_3.2.2.2.2.2.2.2.1 (by decide) q15 q16 (fun q => ?_) (fun q => ?_)
        · replace h := h.1 q
          refine R_iconst e_X12_doomedNow_4.2.2.1 ?_
          refine R_ior e_X12_doomedNow_4.2.2.2.1 ?_
          refine R_istore_n (ls2 := [(1, vI (kor l1 0)), (0, vA G 0), (2, vI l2), (3, vI l3)]) e_X12_doomedNow_4.2.2.2.2.1 (by decide) rfl ?_
          refine R_iinc (ls2 := [(3, vI (l3 + 1)), (1, vI (kor l1 0)), (0, vA G 0), (2, vI l2)]) e_X12_doomedNow_4.2.2.2.2.2.1 3 rfl (by decide) rfl ?_
          refine R_goto 16 e_X12_doomedNow_4.2.2.2.2.2.2.1 (by decide) ?_
          refine R_ls (ls2 := [(0, vA G 0), (1, vI (kor l1 0)), (2, vI l2), (3, vI (l3 + 1))]) [2, 1, 3, 0] rfl ?_
          exact h
        · replace h := h.2 q
          refine R_iconst e_X12_doomedNow_3.2.2.2.2.2.2.2.2.1 ?_
          refine R_iload_n e_X12_doomedNow_3.2.2.2.2.2.2.2.2.2 2 rfl ?_
          refine R_ishl e_X12_doomedNow_4.1 ?_
          refine R_goto 67 e_X12_doomedNow_4.2.1 (by decide) ?_
          refine R_ior e_X12_doomedNow_4.2.2.2.1 ?_
          refine R_istore_n (ls2 := [(1, vI (kor l1 (kshl 1 l2))), (0, vA G 0), (2, vI l2), (3, vI l3)]) e_X12_doomedNow_4.2.2.2.2.1 (by decide) rfl ?_
          refine R_iinc (ls2 := [(3, vI (l3 + 1)), (1, vI (kor l1 (kshl 1 l2))), (0, vA G 0), (2, vI l2)]) e_X12_doomedNow_4.2.2.2.2.2.1 3 rfl (by decide) rfl ?_
          refine R_goto 16 e_X12_doomedNow_4.2.2.2.2.2.2.1 (by decide) ?_
          refine R_ls (ls2 := [(0, vA G 0), (1, vI (kor l1 (kshl 1 l2))), (2, vI l2), (3, vI (l3 + 1))]) [2, 1, 3, 0] rfl ?_
          exact h
/-! KiteLandModel.setOf(I)I -/
theorem e_X12_setOf_0 : decode cX12_setOf 0 = .ok (.iconst 0, 1) ∧ decode cX12_setOf 1 = .ok (.istore_n 2, 1) ∧ decode cX12_setOf 2 = .ok (.iconst 0, 1) ∧ decode cX12_setOf 3 = .ok (.istore_n 3, 1) ∧ decode cX12_setOf 4 = .ok (.iload_n 3, 1) ∧ decode cX12_setOf 5 = .ok (.aload_n 0, 1) ∧ decode cX12_setOf 6 = .ok (.getfield 7, 3) ∧ decode cX12_setOf 9 = .ok (.iconst 2, 1) ∧ decode cX12_setOf 10 = .ok (.iaload, 1) ∧ decode cX12_setOf 11 = .ok (.if_icmp .ge 51, 3) := by decide +kernel
theorem e_X12_setOf_1 : decode cX12_setOf 14 = .ok (.iload_n 1, 1) ∧ decode cX12_setOf 15 = .ok (.iconst 2, 1) ∧ decode cX12_setOf 16 = .ok (.if_icmp .ge 46, 3) ∧ decode cX12_setOf 19 = .ok (.iload_n 2, 1) ∧ decode cX12_setOf 20 = .ok (.iload_n 1, 1) ∧ decode cX12_setOf 21 = .ok (.ifCond .ne 18, 3) ∧ decode cX12_setOf 24 = .ok (.aload_n 0, 1) ∧ decode cX12_setOf 25 = .ok (.iload_n 3, 1) ∧ decode cX12_setOf 26 = .ok (.aload_n 0, 1) ∧ decode cX12_setOf 27 = .ok (.invokevirtual 325, 3) := by decide +kernel
theorem e_X12_setOf_2 : decode cX12_setOf 30 = .ok (.invokevirtual 319, 3) ∧ decode cX12_setOf 33 = .ok (.ifCond .eq 20, 3) ∧ decode cX12_setOf 36 = .ok (.goto 11, 3) ∧ decode cX12_setOf 39 = .ok (.aload_n 0, 1) ∧ decode cX12_setOf 40 = .ok (.iload_n 3, 1) ∧ decode cX12_setOf 41 = .ok (.invokevirtual 271, 3) ∧ decode cX12_setOf 44 = .ok (.ifCond .eq 9, 3) ∧ decode cX12_setOf 47 = .ok (.iconst 1, 1) ∧ decode cX12_setOf 48 = .ok (.iload_n 3, 1) ∧ decode cX12_setOf 49 = .ok (.ishl, 1) := by decide +kernel
theorem e_X12_setOf_3 : decode cX12_setOf 50 = .ok (.goto 4, 3) ∧ decode cX12_setOf 53 = .ok (.iconst 0, 1) ∧ decode cX12_setOf 54 = .ok (.ior, 1) ∧ decode cX12_setOf 55 = .ok (.istore_n 2, 1) ∧ decode cX12_setOf 56 = .ok (.iinc 3 1, 3) ∧ decode cX12_setOf 59 = .ok (.goto (-55), 3) ∧ decode cX12_setOf 62 = .ok (.iconst 0, 1) ∧ decode cX12_setOf 63 = .ok (.istore_n 3, 1) ∧ decode cX12_setOf 64 = .ok (.iload_n 3, 1) ∧ decode cX12_setOf 65 = .ok (.aload_n 0, 1) := by decide +kernel
theorem e_X12_setOf_4 : decode cX12_setOf 66 = .ok (.getfield 7, 3) ∧ decode cX12_setOf 69 = .ok (.iconst 3, 1) ∧ decode cX12_setOf 70 = .ok (.iaload, 1) ∧ decode cX12_setOf 71 = .ok (.if_icmp .ge 32, 3) ∧ decode cX12_setOf 74 = .ok (.iload_n 1, 1) ∧ decode cX12_setOf 75 = .ok (.iconst 2, 1) ∧ decode cX12_setOf 76 = .ok (.if_icmp .ne 27, 3) ∧ decode cX12_setOf 79 = .ok (.iload_n 2, 1) ∧ decode cX12_setOf 80 = .ok (.aload_n 0, 1) ∧ decode cX12_setOf 81 = .ok (.iload_n 3, 1) := by decide +kernel
theorem e_X12_setOf_5 : decode cX12_setOf 82 = .ok (.invokevirtual 331, 3) ∧ decode cX12_setOf 85 = .ok (.ifCond .eq 9, 3) ∧ decode cX12_setOf 88 = .ok (.iconst 1, 1) ∧ decode cX12_setOf 89 = .ok (.iload_n 3, 1) ∧ decode cX12_setOf 90 = .ok (.ishl, 1) ∧ decode cX12_setOf 91 = .ok (.goto 4, 3) ∧ decode cX12_setOf 94 = .ok (.iconst 0, 1) ∧ decode cX12_setOf 95 = .ok (.ior, 1) ∧ decode cX12_setOf 96 = .ok (.istore_n 2, 1) ∧ decode cX12_setOf 97 = .ok (.iinc 3 1, 3) := by decide +kernel
theorem e_X12_setOf_6 : decode cX12_setOf 100 = .ok (.goto (-36), 3) ∧ decode cX12_setOf 103 = .ok (.iload_n 2, 1) ∧ decode cX12_setOf 104 = .ok (.ireturn, 1) := by decide +kernel
abbrev E_X12_setOf_4 (G : Kg) (l1 l2 l3 : Int) (σ : Kmem) (Q : Int → Kmem → Prop) : Prop := Ex G WM M_X12_setOf 4 0 0 4 [(0, vA G 0), (1, vI l1), (2, vI l2), (3, vI l3)] [] σ Q
abbrev E_X12_setOf_64 (G : Kg) (l1 l2 l3 : Int) (σ : Kmem) (Q : Int → Kmem → Prop) : Prop := Ex G WM M_X12_setOf 4 0 0 64 [(0, vA G 0), (1, vI l1), (2, vI l2), (3, vI l3)] [] σ Q
theorem S_X12_setOf {G : Kg} {σ : Kmem} {Q : Int → Kmem → Prop} {l1 : Int}  (h : E_X12_setOf_4 G l1 0 0 σ Q) : Run G WM M_X12_setOf 4 0 0 [vA G 0, vI l1] σ Q := by
  refine Run.of (by decide +kernel) (by show (2 : Nat) ≤ 4; decide) ?_
  show Ex G WM M_X12_setOf 4 0 0 0 [(0, vA G 0), (1, vI l1)] [] σ Q
  refine R_iconst e_X12_setOf_0.1 ?_
  refine R_istore_n (ls2 := [(2, vI 0), (0, vA G 0), (1, vI l1)]) e_X12_setOf_0.2.1 (by decide) rfl ?_
  refine R_iconst e_X12_setOf_0.2.2.1 ?_
  refine R_istore_n (ls2 := [(3, vI 0), (2, vI 0), (0, vA G 0), (1, vI l1)]) e_X12_setOf_0.2.2.2.1 (by decide) rfl ?_
  refine R_ls (ls2 := [(0, vA G 0), (1, vI l1), (2, vI 0), (3, vI 0)]) [2, 3, 1, 0] rfl ?_
  exact h
theorem S_X12_setOf_4 {G : Kg} {σ : Kmem} {Q : Int → Kmem → Prop} {l1 l2 l3 : Int}  (h : (rI l3) ∧ (rI (σ 1 2)) ∧ ((σ 1 2 ≤ l3 → E_X12_setOf_64 G l1 l2 0 σ Q) ∧ (l3 < σ 1 2 → (rI l1) ∧ ((2 ≤ l1 → E_X12_setOf_64 G l1 l2 0 σ Q) ∧ (l1 < 2 → ((l1 ≠ 0 → Run G WM M_X12_isCut 2 0 0 [vA G 0, vI l3] σ (fun r4 s5 => (rI r4) ∧ ((r4 = 0 → E_X12_setOf_4 G l1 (kor l2 0) (l3 + 1) s5 Q) ∧ (r4 ≠ 0 → E_X12_setOf_4 G l1 (kor l2 (kshl 1 l3)) (l3 + 1) s5 Q)))) ∧ (l1 = 0 → Run G WM M_X12_now 0 0 0 [vA G 0] σ (fun r7 s8 => Run G WM M_X12_isUp 3 0 0 [vA G 0, vI l3, vI r7] s8 (fun r9 s10 => (rI r9) ∧ ((r9 = 0 → E_X12_setOf_4 G l1 (kor l2 0) (l3 + 1) s10 Q) ∧ (r9 ≠ 0 → E_X12_setOf_4 G l1 (kor l2 (kshl 1 l3)) (l3 + 1) s10 Q))))))))))) : E_X12_setOf_4 G l1 l2 l3 σ Q := by
  refine R_iload_n e_X12_setOf_0.2.2.2.2.1 3 rfl ?_
  refine R_aload_n e_X12_setOf_0.2.2.2.2.2.1 0 rfl ?_
  refine R_getA 12 0 1 e_X12_setOf_0.2.2.2.2.2.2.1 f_X12_7 km_0 (fun _ _ => rfl) rm_0_0 (by decide) ?_
  refine R_iconst e_X12_setOf_0.2.2.2.2.2.2.2.1 ?_
  refine R_iald 3598 e_X12_setOf_0.2.2.2.2.2.2.2.2.1 kma_1 (by decide) ?_
  obtain ⟨q1, h⟩ := h
  obtain ⟨q2, h⟩ := h
  refine R_icmp_ge 62 e_X12_setOf_0.2.2.2.2.2.2.2.2.2 (by decide) q1 q2 (fun q => ?_) (fun q => ?_)
  · replace h := h.1 q
    refine R_iconst e_X12_setOf_3.2.2.2.2.2.2.1 ?_
    refine R_istore_n (ls2 := [(3, vI 0), (0, vA G 0), (1, vI l1), (2, vI l2)]) e_X12_setOf_3.2.2.2.2.2.2.2.1 (by decide) rfl ?_
    refine R_ls (ls2 := [(0, vA G 0), (1, vI l1), (2, vI l2), (3, vI 0)]) [1, 2, 3, 0] rfl ?_
    exact h
  · replace h := h.2 q
    refine R_iload_n e_X12_setOf_1.1 1 rfl ?_
    refine R_iconst e_X12_setOf_1.2.1 ?_
    obtain ⟨q3, h⟩ := h
    refine R_icmp_ge 62 e_X12_setOf_1.2.2.1 (by decide) q3 (by decide) (fun q => ?_) (fun q => ?_)
    · replace h := h.1 q
      refine R_iconst e_X12_setOf_3.2.2.2.2.2.2.1 ?_
      refine R_istore_n (ls2 := [(3, vI 0), (0, vA G 0), (1, vI l1), (2, vI l2)]) e_X12_setOf_3.2.2.2.2.2.2.2.1 (by decide) rfl ?_
      refine R_ls (ls2 := [(0, vA G 0), (1, vI l1), (2, vI l2), (3, vI 0)]) [1, 2, 3, 0] rfl ?_
      exact h
    · replace h := h.2 q
      refine R_iload_n e_X12_setOf_1.2.2.2.1 2 rfl ?_
      refine R_iload_n e_X12_setOf_1.2.2.2.2.1 1 rfl ?_
      refine R_if_ne 39 e_X12_setOf_1.2.2.2.2.2.1 (by decide) q3  (fun q => ?_) (fun q => ?_)
      · replace h := h.1 q
        refine R_aload_n e_X12_setOf_2.2.2.2.1 0 rfl ?_
        refine R_iload_n e_X12_setOf_2.2.2.2.2.1 3 rfl ?_
        refine R_callV (mc := 0) (ms := 0) (mc' := 0) (ms' := 0) (M' := M_X12_isCut) (d' := 2) (as := [vI l3]) (st := [vI l2]) 12 1 e_X12_setOf_2.2.2.2.2.2.1 (kCVof m_X12_isCut l_X12_271) rfl (by decide) km_0 (by decide) (by decide) rfl rfl (by show (1 : Nat) ≤ 8; decide) ?_
        refine Run.mono h (fun r4 s5 h => ?_)
        refine R_eqs (st2 := [vI r4, vI l2]) rfl rfl ?_
        obtain ⟨q6, h⟩ := h
        refine R_if_eq 53 e_X12_setOf_2.2.2.2.2.2.2.1 (by decide) q6  (fun q => ?_) (fun q => ?_)
        · replace h := h.1 q
          refine R_iconst e_X12_setOf_3.2.1 ?_
          refine R_ior e_X12_setOf_3.2.2.1 ?_
          refine R_istore_n (ls2 := [(2, vI (kor l2 0)), (0, vA G 0), (1, vI l1), (3, vI l3)]) e_X12_setOf_3.2.2.2.1 (by decide) rfl ?_
          refine R_iinc (ls2 := [(3, vI (l3 + 1)), (2, vI (kor l2 0)), (0, vA G 0), (1, vI l1)]) e_X12_setOf_3.2.2.2.2.1 3 rfl (by decide) rfl ?_
          refine R_goto 4 e_X12_setOf_3.2.2.2.2.2.1 (by decide) ?_
          refine R_ls (ls2 := [(0, vA G 0), (1, vI l1), (2, vI (kor l2 0)), (3, vI (l3 + 1))]) [2, 3, 1, 0] rfl ?_
          exact h
        · replace h := h.2 q
          refine R_iconst e_X12_setOf_2.2.2.2.2.2.2.2.1 ?_
          refine R_iload_n e_X12_setOf_2.2.2.2.2.2.2.2.2.1 3 rfl ?_
          refine R_ishl e_X12_setOf_2.2.2.2.2.2.2.2.2.2 ?_
          refine R_goto 54 e_X12_setOf_3.1 (by decide) ?_
          refine R_ior e_X12_setOf_3.2.2.1 ?_
          refine R_istore_n (ls2 := [(2, vI (kor l2 (kshl 1 l3))), (0, vA G 0), (1, vI l1), (3, vI l3)]) e_X12_setOf_3.2.2.2.1 (by decide) rfl ?_
          refine R_iinc (ls2 := [(3, vI (l3 + 1)), (2, vI (kor l2 (kshl 1 l3))), (0, vA G 0), (1, vI l1)]) e_X12_setOf_3.2.2.2.2.1 3 rfl (by decide) rfl ?_
          refine R_goto 4 e_X12_setOf_3.2.2.2.2.2.1 (by decide) ?_
          refine R_ls (ls2 := [(0, vA G 0), (1, vI l1), (2, vI (kor l2 (kshl 1 l3))), (3, vI (l3 + 1))]) [2, 3, 1, 0] rfl ?_
          exact h
      · replace h := h.2 q
        refine R_aload_n e_X12_setOf_1.2.2.2.2.2.2.1 0 rfl ?_
        refine R_iload_n e_X12_setOf_1.2.2.2.2.2.2.2.1 3 rfl ?_
        refine R_aload_n e_X12_setOf_1.2.2.2.2.2.2.2.2.1 0 rfl ?_
        refine R_callV (mc := 0) (ms := 0) (mc' := 0) (ms' := 0) (M' := M_X12_now) (d' := 0) (as := []) (st := [vI l3, vA G 0, vI l2]) 12 0 e_X12_setOf_1.2.2.2.2.2.2.2.2.2 (kCVof m_X12_now l_X12_325) rfl (by decide) km_0 (by decide) (by decide) rfl rfl (by show (3 : Nat) ≤ 8; decide) ?_
        refine Run.mono h (fun r7 s8 h => ?_)
        refine R_eqs (st2 := [vI r7, vI l3, vA G 0, vI l2]) rfl rfl ?_
        refine R_callV (mc := 0) (ms := 0) (mc' := 0) (ms' := 0) (M' := M_X12_isUp) (d' := 3) (as := [vI l3, vI r7]) (st := [vI l2]) 12 2 e_X12_setOf_2.1 (kCVof m_X12_isUp l_X12_319) rfl (by decide) km_0 (by decide) (by decide) rfl rfl (by show (1 : Nat) ≤ 8; decide) ?_
        refine Run.mono h (fun r9 s10 h => ?_)
        refine R_eqs (st2 := [vI r9, vI l2]) rfl rfl ?_
        obtain ⟨q11, h⟩ := h
        refine R_if_eq 53 e_X12_setOf_2.2.1 (by decide) q11  (fun q => ?_) (fun q => ?_)
        · replace h := h.1 q
          refine R_iconst e_X12_setOf_3.2.1 ?_
          refine R_ior e_X12_setOf_3.2.2.1 ?_
          refine R_istore_n (ls2 := [(2, vI (kor l2 0)), (0, vA G 0), (1, vI l1), (3, vI l3)]) e_X12_setOf_3.2.2.2.1 (by decide) rfl ?_
          refine R_iinc (ls2 := [(3, vI (l3 + 1)), (2, vI (kor l2 0)), (0, vA G 0), (1, vI l1)]) e_X12_setOf_3.2.2.2.2.1 3 rfl (by decide) rfl ?_
          refine R_goto 4 e_X12_setOf_3.2.2.2.2.2.1 (by decide) ?_
          refine R_ls (ls2 := [(0, vA G 0), (1, vI l1), (2, vI (kor l2 0)), (3, vI (l3 + 1))]) [2, 3, 1, 0] rfl ?_
          exact h
        · replace h := h.2 q
          refine R_goto 47 e_X12_setOf_2.2.2.1 (by decide) ?_
          refine R_iconst e_X12_setOf_2.2.2.2.2.2.2.2.1 ?_
          refine R_iload_n e_X12_setOf_2.2.2.2.2.2.2.2.2.1 3 rfl ?_
          refine R_ishl e_X12_setOf_2.2.2.2.2.2.2.2.2.2 ?_
          refine R_goto 54 e_X12_setOf_3.1 (by decide) ?_
          refine R_ior e_X12_setOf_3.2.2.1 ?_
          refine R_istore_n (ls2 := [(2, vI (kor l2 (kshl 1 l3))), (0, vA G 0), (1, vI l1), (3, vI l3)]) e_X12_setOf_3.2.2.2.1 (by decide) rfl ?_
          refine R_iinc (ls2 := [(3, vI (l3 + 1)), (2, vI (kor l2 (kshl 1 l3))), (0, vA G 0), (1, vI l1)]) e_X12_setOf_3.2.2.2.2.1 3 rfl (by decide) rfl ?_
          refine R_goto 4 e_X12_setOf_3.2.2.2.2.2.1 (by decide) ?_
          refine R_ls (ls2 := [(0, vA G 0), (1, vI l1), (2, vI (kor l2 (kshl 1 l3))), (3, vI (l3 + 1))]) [2, 3, 1, 0] rfl ?_
          exact h
theorem S_X12_setOf_64 {G : Kg} {σ : Kmem} {Q : Int → Kmem → Prop} {l1 l2 l3 : Int}  (h : (rI l3) ∧ (rI (σ 1 3)) ∧ ((σ 1 3 ≤ l3 → Q l2 σ) ∧ (l3 < σ 1 3 → (rI l1) ∧ ((l1 ≠ 2 → Q l2 σ) ∧ (l1 = 2 → Run G WM M_X12_isRipe 1 0 0 [vA G 0, vI l3] σ (fun r15 s16 => (rI r15) ∧ ((r15 = 0 → E_X12_setOf_64 G l1 (kor l2 0) (l3 + 1) s16 Q) ∧ (r15 ≠ 0 → E_X12_setOf_64 G l1 (kor l2 (kshl 1 l3)) (l3 + 1) s16 Q)))))))) : E_X12_setOf_64 G l1 l2 l3 σ Q := by
  refine R_iload_n e_X12_setOf_3.2.2.2.2.2.2.2.2.1 3 rfl ?_
  refine R_aload_n e_X12_setOf_3.2.2.2.2.2.2.2.2.2 0 rfl ?_
  refine R_getA 12 0 1 e_X12_setOf_4.1 f_X12_7 km_0 (fun _ _ => rfl) rm_0_0 (by decide) ?_
  refine R_iconst e_X12_setOf_4.2.1 ?_
  refine R_iald 3598 e_X12_setOf_4.2.2.1 kma_1 (by decide) ?_
  obtain ⟨q12, h⟩ := h
  obtain ⟨q13, h⟩ := h
  refine R_icmp_ge 103 e_X12_setOf_4.2.2.2.1 (by decide) q12 q13 (fun q => ?_) (fun q => ?_)
  · replace h := h.1 q
    refine R_iload_n e_X12_setOf_6.2.1 2 rfl ?_
    exact R_ireturn e_X12_setOf_6.2.2 rfl h
  · replace h := h.2 q
    refine R_iload_n e_X12_setOf_4.2.2.2.2.1 1 rfl ?_
    refine R_iconst e_X12_setOf_4.2.2.2.2.2.1 ?_
    obtain ⟨q14, h⟩ := h
    refine R_icmp_ne 103 e_X12_setOf_4.2.2.2.2.2.2.1 (by decide) q14 (by decide) (fun q => ?_) (fun q => ?_)
    · replace h := h.1 q
      refine R_iload_n e_X12_setOf_6.2.1 2 rfl ?_
      exact R_ireturn e_X12_setOf_6.2.2 rfl h
    · replace h := h.2 q
      refine R_iload_n e_X12_setOf_4.2.2.2.2.2.2.2.1 2 rfl ?_
      refine R_aload_n e_X12_setOf_4.2.2.2.2.2.2.2.2.1 0 rfl ?_
      refine R_iload_n e_X12_setOf_4.2.2.2.2.2.2.2.2.2 3 rfl ?_
      refine R_callV (mc := 0) (ms := 0) (mc' := 0) (ms' := 0) (M' := M_X12_isRipe) (d' := 1) (as := [vI l3]) (st := [vI l2]) 12 1 e_X12_setOf_5.1 (kCVof m_X12_isRipe l_X12_331) rfl (by decide) km_0 (by decide) (by decide) rfl rfl (by show (1 : Nat) ≤ 8; decide) ?_
      refine Run.mono h (fun r15 s16 h => ?_)
      refine R_eqs (st2 := [vI r15, vI l2]) rfl rfl ?_
      obtain ⟨q17, h⟩ := h
      refine R_if_eq 94 e_X12_setOf_5.2.1 (by decide) q17  (fun q => ?_) (fun q => ?_)
      · replace h := h.1 q
        refine R_iconst e_X12_setOf_5.2.2.2.2.2.2.1 ?_
        refine R_ior e_X12_setOf_5.2.2.2.2.2.2.2.1 ?_
        refine R_istore_n (ls2 := [(2, vI (kor l2 0)), (0, vA G 0), (1, vI l1), (3, vI l3)]) e_X12_setOf_5.2.2.2.2.2.2.2.2.1 (by decide) rfl ?_
        refine R_iinc (ls2 := [(3, vI (l3 + 1)), (2, vI (kor l2 0)), (0, vA G 0), (1, vI l1)]) e_X12_setOf_5.2.2.2.2.2.2.2.2.2 3 rfl (by decide) rfl ?_
        refine R_goto 64 e_X12_setOf_6.1 (by decide) ?_
        refine R_ls (ls2 := [(0, vA G 0), (1, vI l1), (2, vI (kor l2 0)), (3, vI (l3 + 1))]) [2, 3, 1, 0] rfl ?_
        exact h
      · replace h := h.2 q
        refine R_iconst e_X12_setOf_5.2.2.1 ?_
        refine R_iload_n e_X12_setOf_5.2.2.2.1 3 rfl ?_
        refine R_ishl e_X12_setOf_5.2.2.2.2.1 ?_
        refine R_goto 95 e_X12_setOf_5.2.2.2.2.2.1 (by decide) ?_
        refine R_ior e_X12_setOf_5.2.2.2.2.2.2.2.1 ?_
        refine R_istore_n (ls2 := [(2, vI (kor l2 (kshl 1 l3))), (0, vA G 0), (1, vI l1), (3, vI l3)]) e_X12_setOf_5.2.2.2.2.2.2.2.2.1 (by decide) rfl ?_
        refine R_iinc (ls2 := [(3, vI (l3 + 1)), (2, vI (kor l2 (kshl 1 l3))), (0, vA G 0), (1, vI l1)]) e_X12_setOf_5.2.2.2.2.2.2.2.2.2 3 rfl (by decide) rfl ?_
        refine R_goto 64 e_X12_setOf_6.1 (by decide) ?_
        refine R_ls (ls2 := [(0, vA G 0), (1, vI l1), (2, vI (kor l2 (kshl 1 l3))), (3, vI (l3 + 1))]) [2, 3, 1, 0] rfl ?_
        exact h
/-! KiteLandModel.isRipe(I)Z -/
theorem e_X12_isRipe_0 : decode cX12_isRipe 0 = .ok (.aload_n 0, 1) ∧ decode cX12_isRipe 1 = .ok (.getfield 7, 3) ∧ decode cX12_isRipe 4 = .ok (.iload_n 1, 1) ∧ decode cX12_isRipe 5 = .ok (.invokestatic 334, 3) ∧ decode cX12_isRipe 8 = .ok (.iconst 3, 1) ∧ decode cX12_isRipe 9 = .ok (.iadd, 1) ∧ decode cX12_isRipe 10 = .ok (.iaload, 1) ∧ decode cX12_isRipe 11 = .ok (.aload_n 0, 1) ∧ decode cX12_isRipe 12 = .ok (.getfield 7, 3) ∧ decode cX12_isRipe 15 = .ok (.iload_n 1, 1) := by decide +kernel
theorem e_X12_isRipe_1 : decode cX12_isRipe 16 = .ok (.invokestatic 334, 3) ∧ decode cX12_isRipe 19 = .ok (.iconst 2, 1) ∧ decode cX12_isRipe 20 = .ok (.iadd, 1) ∧ decode cX12_isRipe 21 = .ok (.iaload, 1) ∧ decode cX12_isRipe 22 = .ok (.if_icmp .lt 7, 3) ∧ decode cX12_isRipe 25 = .ok (.iconst 1, 1) ∧ decode cX12_isRipe 26 = .ok (.goto 4, 3) ∧ decode cX12_isRipe 29 = .ok (.iconst 0, 1) ∧ decode cX12_isRipe 30 = .ok (.ireturn, 1) := by decide +kernel
theorem S_X12_isRipe {G : Kg} {σ : Kmem} {Q : Int → Kmem → Prop} {l1 : Int}  (h : Run G WM M_X12_cropRow 0 0 0 [vI l1] σ (fun r1 s2 => (0 ≤ r1 + 3 ∧ r1 + 3 < 3598) ∧ Run G WM M_X12_cropRow 0 0 0 [vI l1] s2 (fun r4 s5 => (0 ≤ r4 + 2 ∧ r4 + 2 < 3598) ∧ (rI (s2 1 (r1 + 3))) ∧ (rI (s5 1 (r4 + 2))) ∧ ((s2 1 (r1 + 3) < s5 1 (r4 + 2) → Q 0 s5) ∧ (s5 1 (r4 + 2) ≤ s2 1 (r1 + 3) → Q 1 s5))))) : Run G WM M_X12_isRipe 1 0 0 [vA G 0, vI l1] σ Q := by
  refine Run.of (by decide +kernel) (by show (2 : Nat) ≤ 2; decide) ?_
  show Ex G WM M_X12_isRipe 1 0 0 0 [(0, vA G 0), (1, vI l1)] [] σ Q
  refine R_aload_n e_X12_isRipe_0.1 0 rfl ?_
  refine R_getA 12 0 1 e_X12_isRipe_0.2.1 f_X12_7 km_0 (fun _ _ => rfl) rm_0_0 (by decide) ?_
  refine R_iload_n e_X12_isRipe_0.2.2.1 1 rfl ?_
  refine R_callS (mc := 0) (ms := 0) (mc' := 0) (ms' := 0) (M' := M_X12_cropRow) (d' := 0) (as := [vI l1]) (st := [vA G 1]) 1 e_X12_isRipe_0.2.2.2.1 (kCSof m_X12_cropRow l_X12_334) (by decide) (by decide) rfl rfl (by show (1 : Nat) ≤ 8; decide) ?_
  refine Run.mono h (fun r1 s2 h => ?_)
  refine R_eqs (st2 := [vI r1, vA G 1]) rfl rfl ?_
  refine R_iconst e_X12_isRipe_0.2.2.2.2.1 ?_
  refine R_iadd e_X12_isRipe_0.2.2.2.2.2.1 ?_
  obtain ⟨q3, h⟩ := h
  refine R_iald 3598 e_X12_isRipe_0.2.2.2.2.2.2.1 kma_1 q3 ?_
  refine R_aload_n e_X12_isRipe_0.2.2.2.2.2.2.2.1 0 rfl ?_
  refine R_getA 12 0 1 e_X12_isRipe_0.2.2.2.2.2.2.2.2.1 f_X12_7 km_0 (fun _ _ => rfl) rm_0_0 (by decide) ?_
  refine R_iload_n e_X12_isRipe_0.2.2.2.2.2.2.2.2.2 1 rfl ?_
  refine R_callS (mc := 0) (ms := 0) (mc' := 0) (ms' := 0) (M' := M_X12_cropRow) (d' := 0) (as := [vI l1]) (st := [vA G 1, vI (s2 1 (r1 + 3))]) 1 e_X12_isRipe_1.1 (kCSof m_X12_cropRow l_X12_334) (by decide) (by decide) rfl rfl (by show (2 : Nat) ≤ 8; decide) ?_
  refine Run.mono h (fun r4 s5 h => ?_)
  refine R_eqs (st2 := [vI r4, vA G 1, vI (s2 1 (r1 + 3))]) rfl rfl ?_
  refine R_iconst e_X12_isRipe_1.2.1 ?_
  refine R_iadd e_X12_isRipe_1.2.2.1 ?_
  obtain ⟨q6, h⟩ := h
  refine R_iald 3598 e_X12_isRipe_1.2.2.2.1 kma_1 q6 ?_
  obtain ⟨q7, h⟩ := h
  obtain ⟨q8, h⟩ := h
  refine R_icmp_lt 29 e_X12_isRipe_1.2.2.2.2.1 (by decide) q7 q8 (fun q => ?_) (fun q => ?_)
  · replace h := h.1 q
    refine R_iconst e_X12_isRipe_1.2.2.2.2.2.2.2.1 ?_
    exact R_zreturn e_X12_isRipe_1.2.2.2.2.2.2.2.2 rfl (Or.inl rfl) h
  · replace h := h.2 q
    refine R_iconst e_X12_isRipe_1.2.2.2.2.2.1 ?_
    refine R_goto 30 e_X12_isRipe_1.2.2.2.2.2.2.1 (by decide) ?_
    exact R_zreturn e_X12_isRipe_1.2.2.2.2.2.2.2.2 rfl (Or.inr rfl) h
/-! KiteLandModel.told(I)I -/
theorem e_X12_told_0 : decode cX12_told 0 = .ok (.iload_n 1, 1) ∧ decode cX12_told 1 = .ok (.ifCond .lt 9, 3) ∧ decode cX12_told 4 = .ok (.iload_n 1, 1) ∧ decode cX12_told 5 = .ok (.bipush 10, 2) ∧ decode cX12_told 7 = .ok (.if_icmp .le 11, 3) ∧ decode cX12_told 10 = .ok (.aload_n 0, 1) ∧ decode cX12_told 11 = .ok (.iconst 1, 1) ∧ decode cX12_told 12 = .ok (.invokevirtual 93, 3) ∧ decode cX12_told 15 = .ok (.goto 30, 3) ∧ decode cX12_told 18 = .ok (.aload_n 0, 1) := by decide +kernel
theorem e_X12_told_1 : decode cX12_told 19 = .ok (.iload_n 1, 1) ∧ decode cX12_told 20 = .ok (.bipush 8, 2) ∧ decode cX12_told 22 = .ok (.if_icmp .ge 12, 3) ∧ decode cX12_told 25 = .ok (.aload_n 0, 1) ∧ decode cX12_told 26 = .ok (.getfield 7, 3) ∧ decode cX12_told 29 = .ok (.iload_n 1, 1) ∧ decode cX12_told 30 = .ok (.iaload, 1) ∧ decode cX12_told 31 = .ok (.goto 11, 3) ∧ decode cX12_told 34 = .ok (.aload_n 0, 1) ∧ decode cX12_told 35 = .ok (.iload_n 1, 1) := by decide +kernel
theorem e_X12_told_2 : decode cX12_told 36 = .ok (.bipush 8, 2) ∧ decode cX12_told 38 = .ok (.isub, 1) ∧ decode cX12_told 39 = .ok (.invokevirtual 337, 3) ∧ decode cX12_told 42 = .ok (.invokevirtual 97, 3) ∧ decode cX12_told 45 = .ok (.ireturn, 1) := by decide +kernel
theorem S_X12_told {G : Kg} {σ : Kmem} {Q : Int → Kmem → Prop} {l1 : Int}  (h : (rI l1) ∧ ((l1 < 0 → Run G WM M_X12_refuse 0 0 0 [vA G 0, vI 1] σ (fun r2 s3 => Q r2 s3)) ∧ (0 ≤ l1 → ((l1 ≤ 10 → ((8 ≤ l1 → Run G WM M_X12_setOf 4 0 0 [vA G 0, vI (l1 - 8)] σ (fun r4 s5 => Run G WM M_X12_gives 0 0 0 [vA G 0, vI r4] s5 (fun r6 s7 => Q r6 s7))) ∧ (l1 < 8 → (0 ≤ l1 ∧ l1 < 3598) ∧ Run G WM M_X12_gives 0 0 0 [vA G 0, vI (σ 1 l1)] σ (fun r9 s10 => Q r9 s10)))) ∧ (10 < l1 → Run G WM M_X12_refuse 0 0 0 [vA G 0, vI 1] σ (fun r11 s12 => Q r11 s12)))))) : Run G WM M_X12_told 5 0 0 [vA G 0, vI l1] σ Q := by
  refine Run.of (by decide +kernel) (by show (2 : Nat) ≤ 2; decide) ?_
  show Ex G WM M_X12_told 5 0 0 0 [(0, vA G 0), (1, vI l1)] [] σ Q
  refine R_iload_n e_X12_told_0.1 1 rfl ?_
  obtain ⟨q1, h⟩ := h
  refine R_if_lt 10 e_X12_told_0.2.1 (by decide) q1  (fun q => ?_) (fun q => ?_)
  · replace h := h.1 q
    refine R_aload_n e_X12_told_0.2.2.2.2.2.1 0 rfl ?_
    refine R_iconst e_X12_told_0.2.2.2.2.2.2.1 ?_
    refine R_callV (mc := 0) (ms := 0) (mc' := 0) (ms' := 0) (M' := M_X12_refuse) (d' := 0) (as := [vI 1]) (st := []) 12 1 e_X12_told_0.2.2.2.2.2.2.2.1 (kCVof m_X12_refuse l_X12_93) rfl (by decide) km_0 (by decide) (by decide) rfl rfl (by show (0 : Nat) ≤ 8; decide) ?_
    refine Run.mono h (fun r2 s3 h => ?_)
    refine R_eqs (st2 := [vI r2]) rfl rfl ?_
    refine R_goto 45 e_X12_told_0.2.2.2.2.2.2.2.2.1 (by decide) ?_
    exact R_ireturn e_X12_told_2.2.2.2.2 rfl h
  · replace h := h.2 q
    refine R_iload_n e_X12_told_0.2.2.1 1 rfl ?_
    refine R_bipush e_X12_told_0.2.2.2.1 (by decide) ?_
    refine R_icmp_le 18 e_X12_told_0.2.2.2.2.1 (by decide) q1 (by decide) (fun q => ?_) (fun q => ?_)
    · replace h := h.1 q
      refine R_aload_n e_X12_told_0.2.2.2.2.2.2.2.2.2 0 rfl ?_
      refine R_iload_n e_X12_told_1.1 1 rfl ?_
      refine R_bipush e_X12_told_1.2.1 (by decide) ?_
      refine R_icmp_ge 34 e_X12_told_1.2.2.1 (by decide) q1 (by decide) (fun q => ?_) (fun q => ?_)
      · replace h := h.1 q
        refine R_aload_n e_X12_told_1.2.2.2.2.2.2.2.2.1 0 rfl ?_
        refine R_iload_n e_X12_told_1.2.2.2.2.2.2.2.2.2 1 rfl ?_
        refine R_bipush e_X12_told_2.1 (by decide) ?_
        refine R_isub e_X12_told_2.2.1 ?_
        refine R_callV (mc := 0) (ms := 0) (mc' := 0) (ms' := 0) (M' := M_X12_setOf) (d' := 4) (as := [vI (l1 - 8)]) (st := [vA G 0]) 12 1 e_X12_told_2.2.2.1 (kCVof m_X12_setOf l_X12_337) rfl (by decide) km_0 (by decide) (by decide) rfl rfl (by show (1 : Nat) ≤ 8; decide) ?_
        refine Run.mono h (fun r4 s5 h => ?_)
        refine R_eqs (st2 := [vI r4, vA G 0]) rfl rfl ?_
        refine R_callV (mc := 0) (ms := 0) (mc' := 0) (ms' := 0) (M' := M_X12_gives) (d' := 0) (as := [vI r4]) (st := []) 12 1 e_X12_told_2.2.2.2.1 (kCVof m_X12_gives l_X12_97) rfl (by decide) km_0 (by decide) (by decide) rfl rfl (by show (0 : Nat) ≤ 8; decide) ?_
        refine Run.mono h (fun r6 s7 h => ?_)
        refine R_eqs (st2 := [vI r6]) rfl rfl ?_
        exact R_ireturn e_X12_told_2.2.2.2.2 rfl h
      · replace h := h.2 q
        refine R_aload_n e_X12_told_1.2.2.2.1 0 rfl ?_
        refine R_getA 12 0 1 e_X12_told_1.2.2.2.2.1 f_X12_7 km_0 (fun _ _ => rfl) rm_0_0 (by decide) ?_
        refine R_iload_n e_X12_told_1.2.2.2.2.2.1 1 rfl ?_
        obtain ⟨q8, h⟩ := h
        refine R_iald 3598 e_X12_told_1.2.2.2.2.2.2.1 kma_1 q8 ?_
        refine R_goto 42 e_X12_told_1.2.2.2.2.2.2.2.1 (by decide) ?_
        refine R_callV (mc := 0) (ms := 0) (mc' := 0) (ms' := 0) (M' := M_X12_gives) (d' := 0) (as := [vI (σ 1 l1)]) (st := []) 12 1 e_X12_told_2.2.2.2.1 (kCVof m_X12_gives l_X12_97) rfl (by decide) km_0 (by decide) (by decide) rfl rfl (by show (0 : Nat) ≤ 8; decide) ?_
        refine Run.mono h (fun r9 s10 h => ?_)
        refine R_eqs (st2 := [vI r9]) rfl rfl ?_
        exact R_ireturn e_X12_told_2.2.2.2.2 rfl h
    · replace h := h.2 q
      refine R_aload_n e_X12_told_0.2.2.2.2.2.1 0 rfl ?_
      refine R_iconst e_X12_told_0.2.2.2.2.2.2.1 ?_
      refine R_callV (mc := 0) (ms := 0) (mc' := 0) (ms' := 0) (M' := M_X12_refuse) (d' := 0) (as := [vI 1]) (st := []) 12 1 e_X12_told_0.2.2.2.2.2.2.2.1 (kCVof m_X12_refuse l_X12_93) rfl (by decide) km_0 (by decide) (by decide) rfl rfl (by show (0 : Nat) ≤ 8; decide) ?_
      refine Run.mono h (fun r11 s12 h => ?_)
      refine R_eqs (st2 := [vI r11]) rfl rfl ?_
      refine R_goto 45 e_X12_told_0.2.2.2.2.2.2.2.2.1 (by decide) ?_
      exact R_ireturn e_X12_told_2.2.2.2.2 rfl h
/-! KiteLandModel.wind(II)I -/
theorem e_X12_wind_0 : decode cX12_wind 0 = .ok (.iload_n 1, 1) ∧ decode cX12_wind 1 = .ok (.invokestatic 340, 3) ∧ decode cX12_wind 4 = .ok (.ifCond .eq 32, 3) ∧ decode cX12_wind 7 = .ok (.iload_n 2, 1) ∧ decode cX12_wind 8 = .ok (.ifCond .lt 28, 3) ∧ decode cX12_wind 11 = .ok (.iload_n 2, 1) ∧ decode cX12_wind 12 = .ok (.iconst 1, 1) ∧ decode cX12_wind 13 = .ok (.if_icmp .gt 23, 3) ∧ decode cX12_wind 16 = .ok (.aload_n 0, 1) ∧ decode cX12_wind 17 = .ok (.aload_n 0, 1) := by decide +kernel
theorem e_X12_wind_1 : decode cX12_wind 18 = .ok (.getfield 7, 3) ∧ decode cX12_wind 21 = .ok (.bipush 10, 2) ∧ decode cX12_wind 23 = .ok (.iconst 2, 1) ∧ decode cX12_wind 24 = .ok (.iload_n 1, 1) ∧ decode cX12_wind 25 = .ok (.imul, 1) ∧ decode cX12_wind 26 = .ok (.iadd, 1) ∧ decode cX12_wind 27 = .ok (.iload_n 2, 1) ∧ decode cX12_wind 28 = .ok (.iadd, 1) ∧ decode cX12_wind 29 = .ok (.iaload, 1) ∧ decode cX12_wind 30 = .ok (.invokevirtual 97, 3) := by decide +kernel
theorem e_X12_wind_2 : decode cX12_wind 33 = .ok (.goto 8, 3) ∧ decode cX12_wind 36 = .ok (.aload_n 0, 1) ∧ decode cX12_wind 37 = .ok (.iconst 1, 1) ∧ decode cX12_wind 38 = .ok (.invokevirtual 93, 3) ∧ decode cX12_wind 41 = .ok (.ireturn, 1) := by decide +kernel
theorem S_X12_wind {G : Kg} {σ : Kmem} {Q : Int → Kmem → Prop} {l1 l2 : Int}  (h : Run G WM M_X12_isHour 0 0 0 [vI l1] σ (fun r1 s2 => (rI r1) ∧ ((r1 = 0 → Run G WM M_X12_refuse 0 0 0 [vA G 0, vI 1] s2 (fun r4 s5 => Q r4 s5)) ∧ (r1 ≠ 0 → (rI l2) ∧ ((l2 < 0 → Run G WM M_X12_refuse 0 0 0 [vA G 0, vI 1] s2 (fun r7 s8 => Q r7 s8)) ∧ (0 ≤ l2 → ((1 < l2 → Run G WM M_X12_refuse 0 0 0 [vA G 0, vI 1] s2 (fun r9 s10 => Q r9 s10)) ∧ (l2 ≤ 1 → (0 ≤ (10 + (2 * l1)) + l2 ∧ (10 + (2 * l1)) + l2 < 3598) ∧ Run G WM M_X12_gives 0 0 0 [vA G 0, vI (s2 1 ((10 + (2 * l1)) + l2))] s2 (fun r12 s13 => Q r12 s13))))))))) : Run G WM M_X12_wind 1 0 0 [vA G 0, vI l1, vI l2] σ Q := by
  refine Run.of (by decide +kernel) (by show (3 : Nat) ≤ 3; decide) ?_
  show Ex G WM M_X12_wind 1 0 0 0 [(0, vA G 0), (1, vI l1), (2, vI l2)] [] σ Q
  refine R_iload_n e_X12_wind_0.1 1 rfl ?_
  refine R_callS (mc := 0) (ms := 0) (mc' := 0) (ms' := 0) (M' := M_X12_isHour) (d' := 0) (as := [vI l1]) (st := []) 1 e_X12_wind_0.2.1 (kCSof m_X12_isHour l_X12_340) (by decide) (by decide) rfl rfl (by show (0 : Nat) ≤ 8; decide) ?_
  refine Run.mono h (fun r1 s2 h => ?_)
  refine R_eqs (st2 := [vI r1]) rfl rfl ?_
  obtain ⟨q3, h⟩ := h
  refine R_if_eq 36 e_X12_wind_0.2.2.1 (by decide) q3  (fun q => ?_) (fun q => ?_)
  · replace h := h.1 q
    refine R_aload_n e_X12_wind_2.2.1 0 rfl ?_
    refine R_iconst e_X12_wind_2.2.2.1 ?_
    refine R_callV (mc := 0) (ms := 0) (mc' := 0) (ms' := 0) (M' := M_X12_refuse) (d' := 0) (as := [vI 1]) (st := []) 12 1 e_X12_wind_2.2.2.2.1 (kCVof m_X12_refuse l_X12_93) rfl (by decide) km_0 (by decide) (by decide) rfl rfl (by show (0 : Nat) ≤ 8; decide) ?_
    refine Run.mono h (fun r4 s5 h => ?_)
    refine R_eqs (st2 := [vI r4]) rfl rfl ?_
    exact R_ireturn e_X12_wind_2.2.2.2.2 rfl h
  · replace h := h.2 q
    refine R_iload_n e_X12_wind_0.2.2.2.1 2 rfl ?_
    obtain ⟨q6, h⟩ := h
    refine R_if_lt 36 e_X12_wind_0.2.2.2.2.1 (by decide) q6  (fun q => ?_) (fun q => ?_)
    · replace h := h.1 q
      refine R_aload_n e_X12_wind_2.2.1 0 rfl ?_
      refine R_iconst e_X12_wind_2.2.2.1 ?_
      refine R_callV (mc := 0) (ms := 0) (mc' := 0) (ms' := 0) (M' := M_X12_refuse) (d' := 0) (as := [vI 1]) (st := []) 12 1 e_X12_wind_2.2.2.2.1 (kCVof m_X12_refuse l_X12_93) rfl (by decide) km_0 (by decide) (by decide) rfl rfl (by show (0 : Nat) ≤ 8; decide) ?_
      refine Run.mono h (fun r7 s8 h => ?_)
      refine R_eqs (st2 := [vI r7]) rfl rfl ?_
      exact R_ireturn e_X12_wind_2.2.2.2.2 rfl h
    · replace h := h.2 q
      refine R_iload_n e_X12_wind_0.2.2.2.2.2.1 2 rfl ?_
      refine R_iconst e_X12_wind_0.2.2.2.2.2.2.1 ?_
      refine R_icmp_gt 36 e_X12_wind_0.2.2.2.2.2.2.2.1 (by decide) q6 (by decide) (fun q => ?_) (fun q => ?_)
      · replace h := h.1 q
        refine R_aload_n e_X12_wind_2.2.1 0 rfl ?_
        refine R_iconst e_X12_wind_2.2.2.1 ?_
        refine R_callV (mc := 0) (ms := 0) (mc' := 0) (ms' := 0) (M' := M_X12_refuse) (d' := 0) (as := [vI 1]) (st := []) 12 1 e_X12_wind_2.2.2.2.1 (kCVof m_X12_refuse l_X12_93) rfl (by decide) km_0 (by decide) (by decide) rfl rfl (by show (0 : Nat) ≤ 8; decide) ?_
        refine Run.mono h (fun r9 s10 h => ?_)
        refine R_eqs (st2 := [vI r9]) rfl rfl ?_
        exact R_ireturn e_X12_wind_2.2.2.2.2 rfl h
      · replace h := h.2 q
        refine R_aload_n e_X12_wind_0.2.2.2.2.2.2.2.2.1 0 rfl ?_
        refine R_aload_n e_X12_wind_0.2.2.2.2.2.2.2.2.2 0 rfl ?_
        refine R_getA 12 0 1 e_X12_wind_1.1 f_X12_7 km_0 (fun _ _ => rfl) rm_0_0 (by decide) ?_
        refine R_bipush e_X12_wind_1.2.1 (by decide) ?_
        refine R_iconst e_X12_wind_1.2.2.1 ?_
        refine R_iload_n e_X12_wind_1.2.2.2.1 1 rfl ?_
        refine R_imul e_X12_wind_1.2.2.2.2.1 ?_
        refine R_iadd e_X12_wind_1.2.2.2.2.2.1 ?_
        refine R_iload_n e_X12_wind_1.2.2.2.2.2.2.1 2 rfl ?_
        refine R_iadd e_X12_wind_1.2.2.2.2.2.2.2.1 ?_
        obtain ⟨q11, h⟩ := h
        refine R_iald 3598 e_X12_wind_1.2.2.2.2.2.2.2.2.1 kma_1 q11 ?_
        refine R_callV (mc := 0) (ms := 0) (mc' := 0) (ms' := 0) (M' := M_X12_gives) (d' := 0) (as := [vI (s2 1 ((10 + (2 * l1)) + l2))]) (st := []) 12 1 e_X12_wind_1.2.2.2.2.2.2.2.2.2 (kCVof m_X12_gives l_X12_97) rfl (by decide) km_0 (by decide) (by decide) rfl rfl (by show (0 : Nat) ≤ 8; decide) ?_
        refine Run.mono h (fun r12 s13 h => ?_)
        refine R_eqs (st2 := [vI r12]) rfl rfl ?_
        refine R_goto 41 e_X12_wind_2.1 (by decide) ?_
        exact R_ireturn e_X12_wind_2.2.2.2.2 rfl h
/-! KiteLandModel.kite(II)I -/
theorem e_X12_kite_0 : decode cX12_kite 0 = .ok (.aload_n 0, 1) ∧ decode cX12_kite 1 = .ok (.iload_n 1, 1) ∧ decode cX12_kite 2 = .ok (.invokevirtual 343, 3) ∧ decode cX12_kite 5 = .ok (.ifCond .eq 26, 3) ∧ decode cX12_kite 8 = .ok (.iload_n 2, 1) ∧ decode cX12_kite 9 = .ok (.ifCond .lt 22, 3) ∧ decode cX12_kite 12 = .ok (.iload_n 2, 1) ∧ decode cX12_kite 13 = .ok (.bipush 7, 2) ∧ decode cX12_kite 15 = .ok (.if_icmp .gt 16, 3) ∧ decode cX12_kite 18 = .ok (.aload_n 0, 1) := by decide +kernel
theorem e_X12_kite_1 : decode cX12_kite 19 = .ok (.aload_n 0, 1) ∧ decode cX12_kite 20 = .ok (.iload_n 1, 1) ∧ decode cX12_kite 21 = .ok (.iload_n 2, 1) ∧ decode cX12_kite 22 = .ok (.invokevirtual 268, 3) ∧ decode cX12_kite 25 = .ok (.invokevirtual 97, 3) ∧ decode cX12_kite 28 = .ok (.goto 8, 3) ∧ decode cX12_kite 31 = .ok (.aload_n 0, 1) ∧ decode cX12_kite 32 = .ok (.iconst 1, 1) ∧ decode cX12_kite 33 = .ok (.invokevirtual 93, 3) ∧ decode cX12_kite 36 = .ok (.ireturn, 1) := by decide +kernel
theorem S_X12_kite {G : Kg} {σ : Kmem} {Q : Int → Kmem → Prop} {l1 l2 : Int}  (h : Run G WM M_X12_isKite 0 0 0 [vA G 0, vI l1] σ (fun r1 s2 => (rI r1) ∧ ((r1 = 0 → Run G WM M_X12_refuse 0 0 0 [vA G 0, vI 1] s2 (fun r4 s5 => Q r4 s5)) ∧ (r1 ≠ 0 → (rI l2) ∧ ((l2 < 0 → Run G WM M_X12_refuse 0 0 0 [vA G 0, vI 1] s2 (fun r7 s8 => Q r7 s8)) ∧ (0 ≤ l2 → ((7 < l2 → Run G WM M_X12_refuse 0 0 0 [vA G 0, vI 1] s2 (fun r9 s10 => Q r9 s10)) ∧ (l2 ≤ 7 → Run G WM M_X12_of 1 0 0 [vA G 0, vI l1, vI l2] s2 (fun r11 s12 => Run G WM M_X12_gives 0 0 0 [vA G 0, vI r11] s12 (fun r13 s14 => Q r13 s14)))))))))) : Run G WM M_X12_kite 2 0 0 [vA G 0, vI l1, vI l2] σ Q := by
  refine Run.of (by decide +kernel) (by show (3 : Nat) ≤ 3; decide) ?_
  show Ex G WM M_X12_kite 2 0 0 0 [(0, vA G 0), (1, vI l1), (2, vI l2)] [] σ Q
  refine R_aload_n e_X12_kite_0.1 0 rfl ?_
  refine R_iload_n e_X12_kite_0.2.1 1 rfl ?_
  refine R_callV (mc := 0) (ms := 0) (mc' := 0) (ms' := 0) (M' := M_X12_isKite) (d' := 0) (as := [vI l1]) (st := []) 12 1 e_X12_kite_0.2.2.1 (kCVof m_X12_isKite l_X12_343) rfl (by decide) km_0 (by decide) (by decide) rfl rfl (by show (0 : Nat) ≤ 8; decide) ?_
  refine Run.mono h (fun r1 s2 h => ?_)
  refine R_eqs (st2 := [vI r1]) rfl rfl ?_
  obtain ⟨q3, h⟩ := h
  refine R_if_eq 31 e_X12_kite_0.2.2.2.1 (by decide) q3  (fun q => ?_) (fun q => ?_)
  · replace h := h.1 q
    refine R_aload_n e_X12_kite_1.2.2.2.2.2.2.1 0 rfl ?_
    refine R_iconst e_X12_kite_1.2.2.2.2.2.2.2.1 ?_
    refine R_callV (mc := 0) (ms := 0) (mc' := 0) (ms' := 0) (M' := M_X12_refuse) (d' := 0) (as := [vI 1]) (st := []) 12 1 e_X12_kite_1.2.2.2.2.2.2.2.2.1 (kCVof m_X12_refuse l_X12_93) rfl (by decide) km_0 (by decide) (by decide) rfl rfl (by show (0 : Nat) ≤ 8; decide) ?_
    refine Run.mono h (fun r4 s5 h => ?_)
    refine R_eqs (st2 := [vI r4]) rfl rfl ?_
    exact R_ireturn e_X12_kite_1.2.2.2.2.2.2.2.2.2 rfl h
  · replace h := h.2 q
    refine R_iload_n e_X12_kite_0.2.2.2.2.1 2 rfl ?_
    obtain ⟨q6, h⟩ := h
    refine R_if_lt 31 e_X12_kite_0.2.2.2.2.2.1 (by decide) q6  (fun q => ?_) (fun q => ?_)
    · replace h := h.1 q
      refine R_aload_n e_X12_kite_1.2.2.2.2.2.2.1 0 rfl ?_
      refine R_iconst e_X12_kite_1.2.2.2.2.2.2.2.1 ?_
      refine R_callV (mc := 0) (ms := 0) (mc' := 0) (ms' := 0) (M' := M_X12_refuse) (d' := 0) (as := [vI 1]) (st := []) 12 1 e_X12_kite_1.2.2.2.2.2.2.2.2.1 (kCVof m_X12_refuse l_X12_93) rfl (by decide) km_0 (by decide) (by decide) rfl rfl (by show (0 : Nat) ≤ 8; decide) ?_
      refine Run.mono h (fun r7 s8 h => ?_)
      refine R_eqs (st2 := [vI r7]) rfl rfl ?_
      exact R_ireturn e_X12_kite_1.2.2.2.2.2.2.2.2.2 rfl h
    · replace h := h.2 q
      refine R_iload_n e_X12_kite_0.2.2.2.2.2.2.1 2 rfl ?_
      refine R_bipush e_X12_kite_0.2.2.2.2.2.2.2.1 (by decide) ?_
      refine R_icmp_gt 31 e_X12_kite_0.2.2.2.2.2.2.2.2.1 (by decide) q6 (by decide) (fun q => ?_) (fun q => ?_)
      · replace h := h.1 q
        refine R_aload_n e_X12_kite_1.2.2.2.2.2.2.1 0 rfl ?_
        refine R_iconst e_X12_kite_1.2.2.2.2.2.2.2.1 ?_
        refine R_callV (mc := 0) (ms := 0) (mc' := 0) (ms' := 0) (M' := M_X12_refuse) (d' := 0) (as := [vI 1]) (st := []) 12 1 e_X12_kite_1.2.2.2.2.2.2.2.2.1 (kCVof m_X12_refuse l_X12_93) rfl (by decide) km_0 (by decide) (by decide) rfl rfl (by show (0 : Nat) ≤ 8; decide) ?_
        refine Run.mono h (fun r9 s10 h => ?_)
        refine R_eqs (st2 := [vI r9]) rfl rfl ?_
        exact R_ireturn e_X12_kite_1.2.2.2.2.2.2.2.2.2 rfl h
      · replace h := h.2 q
        refine R_aload_n e_X12_kite_0.2.2.2.2.2.2.2.2.2 0 rfl ?_
        refine R_aload_n e_X12_kite_1.1 0 rfl ?_
        refine R_iload_n e_X12_kite_1.2.1 1 rfl ?_
        refine R_iload_n e_X12_kite_1.2.2.1 2 rfl ?_
        refine R_callV (mc := 0) (ms := 0) (mc' := 0) (ms' := 0) (M' := M_X12_of) (d' := 1) (as := [vI l1, vI l2]) (st := [vA G 0]) 12 2 e_X12_kite_1.2.2.2.1 (kCVof m_X12_of l_X12_268) rfl (by decide) km_0 (by decide) (by decide) rfl rfl (by show (1 : Nat) ≤ 8; decide) ?_
        refine Run.mono h (fun r11 s12 h => ?_)
        refine R_eqs (st2 := [vI r11, vA G 0]) rfl rfl ?_
        refine R_callV (mc := 0) (ms := 0) (mc' := 0) (ms' := 0) (M' := M_X12_gives) (d' := 0) (as := [vI r11]) (st := []) 12 1 e_X12_kite_1.2.2.2.2.1 (kCVof m_X12_gives l_X12_97) rfl (by decide) km_0 (by decide) (by decide) rfl rfl (by show (0 : Nat) ≤ 8; decide) ?_
        refine Run.mono h (fun r13 s14 h => ?_)
        refine R_eqs (st2 := [vI r13]) rfl rfl ?_
        refine R_goto 36 e_X12_kite_1.2.2.2.2.2.1 (by decide) ?_
        exact R_ireturn e_X12_kite_1.2.2.2.2.2.2.2.2.2 rfl h
/-! KiteLandModel.crop(II)I -/
theorem e_X12_crop_0 : decode cX12_crop 0 = .ok (.aload_n 0, 1) ∧ decode cX12_crop 1 = .ok (.iload_n 1, 1) ∧ decode cX12_crop 2 = .ok (.invokevirtual 346, 3) ∧ decode cX12_crop 5 = .ok (.ifCond .eq 30, 3) ∧ decode cX12_crop 8 = .ok (.iload_n 2, 1) ∧ decode cX12_crop 9 = .ok (.ifCond .lt 26, 3) ∧ decode cX12_crop 12 = .ok (.iload_n 2, 1) ∧ decode cX12_crop 13 = .ok (.iconst 3, 1) ∧ decode cX12_crop 14 = .ok (.if_icmp .gt 21, 3) ∧ decode cX12_crop 17 = .ok (.aload_n 0, 1) := by decide +kernel
theorem e_X12_crop_1 : decode cX12_crop 18 = .ok (.aload_n 0, 1) ∧ decode cX12_crop 19 = .ok (.getfield 7, 3) ∧ decode cX12_crop 22 = .ok (.iload_n 1, 1) ∧ decode cX12_crop 23 = .ok (.invokestatic 334, 3) ∧ decode cX12_crop 26 = .ok (.iload_n 2, 1) ∧ decode cX12_crop 27 = .ok (.iadd, 1) ∧ decode cX12_crop 28 = .ok (.iaload, 1) ∧ decode cX12_crop 29 = .ok (.invokevirtual 97, 3) ∧ decode cX12_crop 32 = .ok (.goto 8, 3) ∧ decode cX12_crop 35 = .ok (.aload_n 0, 1) := by decide +kernel
theorem e_X12_crop_2 : decode cX12_crop 36 = .ok (.iconst 1, 1) ∧ decode cX12_crop 37 = .ok (.invokevirtual 93, 3) ∧ decode cX12_crop 40 = .ok (.ireturn, 1) := by decide +kernel
theorem S_X12_crop {G : Kg} {σ : Kmem} {Q : Int → Kmem → Prop} {l1 l2 : Int}  (h : Run G WM M_X12_isCrop 0 0 0 [vA G 0, vI l1] σ (fun r1 s2 => (rI r1) ∧ ((r1 = 0 → Run G WM M_X12_refuse 0 0 0 [vA G 0, vI 1] s2 (fun r4 s5 => Q r4 s5)) ∧ (r1 ≠ 0 → (rI l2) ∧ ((l2 < 0 → Run G WM M_X12_refuse 0 0 0 [vA G 0, vI 1] s2 (fun r7 s8 => Q r7 s8)) ∧ (0 ≤ l2 → ((3 < l2 → Run G WM M_X12_refuse 0 0 0 [vA G 0, vI 1] s2 (fun r9 s10 => Q r9 s10)) ∧ (l2 ≤ 3 → Run G WM M_X12_cropRow 0 0 0 [vI l1] s2 (fun r11 s12 => (0 ≤ r11 + l2 ∧ r11 + l2 < 3598) ∧ Run G WM M_X12_gives 0 0 0 [vA G 0, vI (s12 1 (r11 + l2))] s12 (fun r14 s15 => Q r14 s15)))))))))) : Run G WM M_X12_crop 1 0 0 [vA G 0, vI l1, vI l2] σ Q := by
  refine Run.of (by decide +kernel) (by show (3 : Nat) ≤ 3; decide) ?_
  show Ex G WM M_X12_crop 1 0 0 0 [(0, vA G 0), (1, vI l1), (2, vI l2)] [] σ Q
  refine R_aload_n e_X12_crop_0.1 0 rfl ?_
  refine R_iload_n e_X12_crop_0.2.1 1 rfl ?_
  refine R_callV (mc := 0) (ms := 0) (mc' := 0) (ms' := 0) (M' := M_X12_isCrop) (d' := 0) (as := [vI l1]) (st := []) 12 1 e_X12_crop_0.2.2.1 (kCVof m_X12_isCrop l_X12_346) rfl (by decide) km_0 (by decide) (by decide) rfl rfl (by show (0 : Nat) ≤ 8; decide) ?_
  refine Run.mono h (fun r1 s2 h => ?_)
  refine R_eqs (st2 := [vI r1]) rfl rfl ?_
  obtain ⟨q3, h⟩ := h
  refine R_if_eq 35 e_X12_crop_0.2.2.2.1 (by decide) q3  (fun q => ?_) (fun q => ?_)
  · replace h := h.1 q
    refine R_aload_n e_X12_crop_1.2.2.2.2.2.2.2.2.2 0 rfl ?_
    refine R_iconst e_X12_crop_2.1 ?_
    refine R_callV (mc := 0) (ms := 0) (mc' := 0) (ms' := 0) (M' := M_X12_refuse) (d' := 0) (as := [vI 1]) (st := []) 12 1 e_X12_crop_2.2.1 (kCVof m_X12_refuse l_X12_93) rfl (by decide) km_0 (by decide) (by decide) rfl rfl (by show (0 : Nat) ≤ 8; decide) ?_
    refine Run.mono h (fun r4 s5 h => ?_)
    refine R_eqs (st2 := [vI r4]) rfl rfl ?_
    exact R_ireturn e_X12_crop_2.2.2 rfl h
  · replace h := h.2 q
    refine R_iload_n e_X12_crop_0.2.2.2.2.1 2 rfl ?_
    obtain ⟨q6, h⟩ := h
    refine R_if_lt 35 e_X12_crop_0.2.2.2.2.2.1 (by decide) q6  (fun q => ?_) (fun q => ?_)
    · replace h := h.1 q
      refine R_aload_n e_X12_crop_1.2.2.2.2.2.2.2.2.2 0 rfl ?_
      refine R_iconst e_X12_crop_2.1 ?_
      refine R_callV (mc := 0) (ms := 0) (mc' := 0) (ms' := 0) (M' := M_X12_refuse) (d' := 0) (as := [vI 1]) (st := []) 12 1 e_X12_crop_2.2.1 (kCVof m_X12_refuse l_X12_93) rfl (by decide) km_0 (by decide) (by decide) rfl rfl (by show (0 : Nat) ≤ 8; decide) ?_
      refine Run.mono h (fun r7 s8 h => ?_)
      refine R_eqs (st2 := [vI r7]) rfl rfl ?_
      exact R_ireturn e_X12_crop_2.2.2 rfl h
    · replace h := h.2 q
      refine R_iload_n e_X12_crop_0.2.2.2.2.2.2.1 2 rfl ?_
      refine R_iconst e_X12_crop_0.2.2.2.2.2.2.2.1 ?_
      refine R_icmp_gt 35 e_X12_crop_0.2.2.2.2.2.2.2.2.1 (by decide) q6 (by decide) (fun q => ?_) (fun q => ?_)
      · replace h := h.1 q
        refine R_aload_n e_X12_crop_1.2.2.2.2.2.2.2.2.2 0 rfl ?_
        refine R_iconst e_X12_crop_2.1 ?_
        refine R_callV (mc := 0) (ms := 0) (mc' := 0) (ms' := 0) (M' := M_X12_refuse) (d' := 0) (as := [vI 1]) (st := []) 12 1 e_X12_crop_2.2.1 (kCVof m_X12_refuse l_X12_93) rfl (by decide) km_0 (by decide) (by decide) rfl rfl (by show (0 : Nat) ≤ 8; decide) ?_
        refine Run.mono h (fun r9 s10 h => ?_)
        refine R_eqs (st2 := [vI r9]) rfl rfl ?_
        exact R_ireturn e_X12_crop_2.2.2 rfl h
      · replace h := h.2 q
        refine R_aload_n e_X12_crop_0.2.2.2.2.2.2.2.2.2 0 rfl ?_
        refine R_aload_n e_X12_crop_1.1 0 rfl ?_
        refine R_getA 12 0 1 e_X12_crop_1.2.1 f_X12_7 km_0 (fun _ _ => rfl) rm_0_0 (by decide) ?_
        refine R_iload_n e_X12_crop_1.2.2.1 1 rfl ?_
        refine R_callS (mc := 0) (ms := 0) (mc' := 0) (ms' := 0) (M' := M_X12_cropRow) (d' := 0) (as := [vI l1]) (st := [vA G 1, vA G 0]) 1 e_X12_crop_1.2.2.2.1 (kCSof m_X12_cropRow l_X12_334) (by decide) (by decide) rfl rfl (by show (2 : Nat) ≤ 8; decide) ?_
        refine Run.mono h (fun r11 s12 h => ?_)
        refine R_eqs (st2 := [vI r11, vA G 1, vA G 0]) rfl rfl ?_
        refine R_iload_n e_X12_crop_1.2.2.2.2.1 2 rfl ?_
        refine R_iadd e_X12_crop_1.2.2.2.2.2.1 ?_
        obtain ⟨q13, h⟩ := h
        refine R_iald 3598 e_X12_crop_1.2.2.2.2.2.2.1 kma_1 q13 ?_
        refine R_callV (mc := 0) (ms := 0) (mc' := 0) (ms' := 0) (M' := M_X12_gives) (d' := 0) (as := [vI (s12 1 (r11 + l2))]) (st := []) 12 1 e_X12_crop_1.2.2.2.2.2.2.2.1 (kCVof m_X12_gives l_X12_97) rfl (by decide) km_0 (by decide) (by decide) rfl rfl (by show (0 : Nat) ≤ 8; decide) ?_
        refine Run.mono h (fun r14 s15 h => ?_)
        refine R_eqs (st2 := [vI r14]) rfl rfl ?_
        refine R_goto 40 e_X12_crop_1.2.2.2.2.2.2.2.2.1 (by decide) ?_
        exact R_ireturn e_X12_crop_2.2.2 rfl h
/-! KiteLandModel.tenant(II)I -/
theorem e_X12_tenant_0 : decode cX12_tenant 0 = .ok (.aload_n 0, 1) ∧ decode cX12_tenant 1 = .ok (.iload_n 1, 1) ∧ decode cX12_tenant 2 = .ok (.invokevirtual 349, 3) ∧ decode cX12_tenant 5 = .ok (.ifCond .eq 30, 3) ∧ decode cX12_tenant 8 = .ok (.iload_n 2, 1) ∧ decode cX12_tenant 9 = .ok (.ifCond .lt 26, 3) ∧ decode cX12_tenant 12 = .ok (.iload_n 2, 1) ∧ decode cX12_tenant 13 = .ok (.iconst 4, 1) ∧ decode cX12_tenant 14 = .ok (.if_icmp .gt 21, 3) ∧ decode cX12_tenant 17 = .ok (.aload_n 0, 1) := by decide +kernel
theorem e_X12_tenant_1 : decode cX12_tenant 18 = .ok (.aload_n 0, 1) ∧ decode cX12_tenant 19 = .ok (.getfield 7, 3) ∧ decode cX12_tenant 22 = .ok (.iload_n 1, 1) ∧ decode cX12_tenant 23 = .ok (.invokestatic 352, 3) ∧ decode cX12_tenant 26 = .ok (.iload_n 2, 1) ∧ decode cX12_tenant 27 = .ok (.iadd, 1) ∧ decode cX12_tenant 28 = .ok (.iaload, 1) ∧ decode cX12_tenant 29 = .ok (.invokevirtual 97, 3) ∧ decode cX12_tenant 32 = .ok (.goto 8, 3) ∧ decode cX12_tenant 35 = .ok (.aload_n 0, 1) := by decide +kernel
theorem e_X12_tenant_2 : decode cX12_tenant 36 = .ok (.iconst 1, 1) ∧ decode cX12_tenant 37 = .ok (.invokevirtual 93, 3) ∧ decode cX12_tenant 40 = .ok (.ireturn, 1) := by decide +kernel
theorem S_X12_tenant {G : Kg} {σ : Kmem} {Q : Int → Kmem → Prop} {l1 l2 : Int}  (h : Run G WM M_X12_isTenant 0 0 0 [vA G 0, vI l1] σ (fun r1 s2 => (rI r1) ∧ ((r1 = 0 → Run G WM M_X12_refuse 0 0 0 [vA G 0, vI 1] s2 (fun r4 s5 => Q r4 s5)) ∧ (r1 ≠ 0 → (rI l2) ∧ ((l2 < 0 → Run G WM M_X12_refuse 0 0 0 [vA G 0, vI 1] s2 (fun r7 s8 => Q r7 s8)) ∧ (0 ≤ l2 → ((4 < l2 → Run G WM M_X12_refuse 0 0 0 [vA G 0, vI 1] s2 (fun r9 s10 => Q r9 s10)) ∧ (l2 ≤ 4 → Run G WM M_X12_tenantRow 0 0 0 [vI l1] s2 (fun r11 s12 => (0 ≤ r11 + l2 ∧ r11 + l2 < 3598) ∧ Run G WM M_X12_gives 0 0 0 [vA G 0, vI (s12 1 (r11 + l2))] s12 (fun r14 s15 => Q r14 s15)))))))))) : Run G WM M_X12_tenant 1 0 0 [vA G 0, vI l1, vI l2] σ Q := by
  refine Run.of (by decide +kernel) (by show (3 : Nat) ≤ 3; decide) ?_
  show Ex G WM M_X12_tenant 1 0 0 0 [(0, vA G 0), (1, vI l1), (2, vI l2)] [] σ Q
  refine R_aload_n e_X12_tenant_0.1 0 rfl ?_
  refine R_iload_n e_X12_tenant_0.2.1 1 rfl ?_
  refine R_callV (mc := 0) (ms := 0) (mc' := 0) (ms' := 0) (M' := M_X12_isTenant) (d' := 0) (as := [vI l1]) (st := []) 12 1 e_X12_tenant_0.2.2.1 (kCVof m_X12_isTenant l_X12_349) rfl (by decide) km_0 (by decide) (by decide) rfl rfl (by show (0 : Nat) ≤ 8; decide) ?_
  refine Run.mono h (fun r1 s2 h => ?_)
  refine R_eqs (st2 := [vI r1]) rfl rfl ?_
  obtain ⟨q3, h⟩ := h
  refine R_if_eq 35 e_X12_tenant_0.2.2.2.1 (by decide) q3  (fun q => ?_) (fun q => ?_)
  · replace h := h.1 q
    refine R_aload_n e_X12_tenant_1.2.2.2.2.2.2.2.2.2 0 rfl ?_
    refine R_iconst e_X12_tenant_2.1 ?_
    refine R_callV (mc := 0) (ms := 0) (mc' := 0) (ms' := 0) (M' := M_X12_refuse) (d' := 0) (as := [vI 1]) (st := []) 12 1 e_X12_tenant_2.2.1 (kCVof m_X12_refuse l_X12_93) rfl (by decide) km_0 (by decide) (by decide) rfl rfl (by show (0 : Nat) ≤ 8; decide) ?_
    refine Run.mono h (fun r4 s5 h => ?_)
    refine R_eqs (st2 := [vI r4]) rfl rfl ?_
    exact R_ireturn e_X12_tenant_2.2.2 rfl h
  · replace h := h.2 q
    refine R_iload_n e_X12_tenant_0.2.2.2.2.1 2 rfl ?_
    obtain ⟨q6, h⟩ := h
    refine R_if_lt 35 e_X12_tenant_0.2.2.2.2.2.1 (by decide) q6  (fun q => ?_) (fun q => ?_)
    · replace h := h.1 q
      refine R_aload_n e_X12_tenant_1.2.2.2.2.2.2.2.2.2 0 rfl ?_
      refine R_iconst e_X12_tenant_2.1 ?_
      refine R_callV (mc := 0) (ms := 0) (mc' := 0) (ms' := 0) (M' := M_X12_refuse) (d' := 0) (as := [vI 1]) (st := []) 12 1 e_X12_tenant_2.2.1 (kCVof m_X12_refuse l_X12_93) rfl (by decide) km_0 (by decide) (by decide) rfl rfl (by show (0 : Nat) ≤ 8; decide) ?_
      refine Run.mono h (fun r7 s8 h => ?_)
      refine R_eqs (st2 := [vI r7]) rfl rfl ?_
      exact R_ireturn e_X12_tenant_2.2.2 rfl h
    · replace h := h.2 q
      refine R_iload_n e_X12_tenant_0.2.2.2.2.2.2.1 2 rfl ?_
      refine R_iconst e_X12_tenant_0.2.2.2.2.2.2.2.1 ?_
      refine R_icmp_gt 35 e_X12_tenant_0.2.2.2.2.2.2.2.2.1 (by decide) q6 (by decide) (fun q => ?_) (fun q => ?_)
      · replace h := h.1 q
        refine R_aload_n e_X12_tenant_1.2.2.2.2.2.2.2.2.2 0 rfl ?_
        refine R_iconst e_X12_tenant_2.1 ?_
        refine R_callV (mc := 0) (ms := 0) (mc' := 0) (ms' := 0) (M' := M_X12_refuse) (d' := 0) (as := [vI 1]) (st := []) 12 1 e_X12_tenant_2.2.1 (kCVof m_X12_refuse l_X12_93) rfl (by decide) km_0 (by decide) (by decide) rfl rfl (by show (0 : Nat) ≤ 8; decide) ?_
        refine Run.mono h (fun r9 s10 h => ?_)
        refine R_eqs (st2 := [vI r9]) rfl rfl ?_
        exact R_ireturn e_X12_tenant_2.2.2 rfl h
      · replace h := h.2 q
        refine R_aload_n e_X12_tenant_0.2.2.2.2.2.2.2.2.2 0 rfl ?_
        refine R_aload_n e_X12_tenant_1.1 0 rfl ?_
        refine R_getA 12 0 1 e_X12_tenant_1.2.1 f_X12_7 km_0 (fun _ _ => rfl) rm_0_0 (by decide) ?_
        refine R_iload_n e_X12_tenant_1.2.2.1 1 rfl ?_
        refine R_callS (mc := 0) (ms := 0) (mc' := 0) (ms' := 0) (M' := M_X12_tenantRow) (d' := 0) (as := [vI l1]) (st := [vA G 1, vA G 0]) 1 e_X12_tenant_1.2.2.2.1 (kCSof m_X12_tenantRow l_X12_352) (by decide) (by decide) rfl rfl (by show (2 : Nat) ≤ 8; decide) ?_
        refine Run.mono h (fun r11 s12 h => ?_)
        refine R_eqs (st2 := [vI r11, vA G 1, vA G 0]) rfl rfl ?_
        refine R_iload_n e_X12_tenant_1.2.2.2.2.1 2 rfl ?_
        refine R_iadd e_X12_tenant_1.2.2.2.2.2.1 ?_
        obtain ⟨q13, h⟩ := h
        refine R_iald 3598 e_X12_tenant_1.2.2.2.2.2.2.1 kma_1 q13 ?_
        refine R_callV (mc := 0) (ms := 0) (mc' := 0) (ms' := 0) (M' := M_X12_gives) (d' := 0) (as := [vI (s12 1 (r11 + l2))]) (st := []) 12 1 e_X12_tenant_1.2.2.2.2.2.2.2.1 (kCVof m_X12_gives l_X12_97) rfl (by decide) km_0 (by decide) (by decide) rfl rfl (by show (0 : Nat) ≤ 8; decide) ?_
        refine Run.mono h (fun r14 s15 h => ?_)
        refine R_eqs (st2 := [vI r14]) rfl rfl ?_
        refine R_goto 40 e_X12_tenant_1.2.2.2.2.2.2.2.2.1 (by decide) ?_
        exact R_ireturn e_X12_tenant_2.2.2 rfl h
/-! KiteLandModel.stands(III)I -/
theorem e_X12_stands_0 : decode cX12_stands 0 = .ok (.aload_n 0, 1) ∧ decode cX12_stands 1 = .ok (.iload_n 1, 1) ∧ decode cX12_stands 2 = .ok (.invokevirtual 343, 3) ∧ decode cX12_stands 5 = .ok (.ifCond .eq 19, 3) ∧ decode cX12_stands 8 = .ok (.iload_n 2, 1) ∧ decode cX12_stands 9 = .ok (.invokestatic 340, 3) ∧ decode cX12_stands 12 = .ok (.ifCond .eq 12, 3) ∧ decode cX12_stands 15 = .ok (.iload_n 3, 1) ∧ decode cX12_stands 16 = .ok (.ifCond .lt 8, 3) ∧ decode cX12_stands 19 = .ok (.iload_n 3, 1) := by decide +kernel
theorem e_X12_stands_1 : decode cX12_stands 20 = .ok (.iconst 1, 1) ∧ decode cX12_stands 21 = .ok (.if_icmp .le 9, 3) ∧ decode cX12_stands 24 = .ok (.aload_n 0, 1) ∧ decode cX12_stands 25 = .ok (.iconst 1, 1) ∧ decode cX12_stands 26 = .ok (.invokevirtual 93, 3) ∧ decode cX12_stands 29 = .ok (.ireturn, 1) ∧ decode cX12_stands 30 = .ok (.aload_n 0, 1) ∧ decode cX12_stands 31 = .ok (.iload_n 1, 1) ∧ decode cX12_stands 32 = .ok (.iload_n 2, 1) ∧ decode cX12_stands 33 = .ok (.invokevirtual 319, 3) := by decide +kernel
theorem e_X12_stands_2 : decode cX12_stands 36 = .ok (.ifCond .ne 12, 3) ∧ decode cX12_stands 39 = .ok (.aload_n 0, 1) ∧ decode cX12_stands 40 = .ok (.bipush 6, 2) ∧ decode cX12_stands 42 = .ok (.invokevirtual 93, 3) ∧ decode cX12_stands 45 = .ok (.goto 26, 3) ∧ decode cX12_stands 48 = .ok (.aload_n 0, 1) ∧ decode cX12_stands 49 = .ok (.iload_n 3, 1) ∧ decode cX12_stands 50 = .ok (.ifCond .ne 12, 3) ∧ decode cX12_stands 53 = .ok (.aload_n 0, 1) ∧ decode cX12_stands 54 = .ok (.iload_n 1, 1) := by decide +kernel
theorem e_X12_stands_3 : decode cX12_stands 55 = .ok (.iload_n 2, 1) ∧ decode cX12_stands 56 = .ok (.invokevirtual 286, 3) ∧ decode cX12_stands 59 = .ok (.goto 9, 3) ∧ decode cX12_stands 62 = .ok (.aload_n 0, 1) ∧ decode cX12_stands 63 = .ok (.iload_n 1, 1) ∧ decode cX12_stands 64 = .ok (.iload_n 2, 1) ∧ decode cX12_stands 65 = .ok (.invokevirtual 292, 3) ∧ decode cX12_stands 68 = .ok (.invokevirtual 97, 3) ∧ decode cX12_stands 71 = .ok (.ireturn, 1) := by decide +kernel
theorem S_X12_stands {G : Kg} {σ : Kmem} {Q : Int → Kmem → Prop} {l1 l2 l3 : Int}  (h : Run G WM M_X12_isKite 0 0 0 [vA G 0, vI l1] σ (fun r1 s2 => (rI r1) ∧ ((r1 = 0 → Run G WM M_X12_refuse 0 0 0 [vA G 0, vI 1] s2 (fun r4 s5 => Q r4 s5)) ∧ (r1 ≠ 0 → Run G WM M_X12_isHour 0 0 0 [vI l2] s2 (fun r6 s7 => (rI r6) ∧ ((r6 = 0 → Run G WM M_X12_refuse 0 0 0 [vA G 0, vI 1] s7 (fun r9 s10 => Q r9 s10)) ∧ (r6 ≠ 0 → (rI l3) ∧ ((l3 < 0 → Run G WM M_X12_refuse 0 0 0 [vA G 0, vI 1] s7 (fun r12 s13 => Q r12 s13)) ∧ (0 ≤ l3 → ((l3 ≤ 1 → Run G WM M_X12_isUp 3 0 0 [vA G 0, vI l1, vI l2] s7 (fun r14 s15 => (rI r14) ∧ ((r14 ≠ 0 → ((l3 ≠ 0 → Run G WM M_X12_rowOf 3 0 0 [vA G 0, vI l1, vI l2] s15 (fun r17 s18 => Run G WM M_X12_gives 0 0 0 [vA G 0, vI r17] s18 (fun r19 s20 => Q r19 s20))) ∧ (l3 = 0 → Run G WM M_X12_columnOf 3 0 0 [vA G 0, vI l1, vI l2] s15 (fun r21 s22 => Run G WM M_X12_gives 0 0 0 [vA G 0, vI r21] s22 (fun r23 s24 => Q r23 s24))))) ∧ (r14 = 0 → Run G WM M_X12_refuse 0 0 0 [vA G 0, vI 6] s15 (fun r25 s26 => Q r25 s26))))) ∧ (1 < l3 → Run G WM M_X12_refuse 0 0 0 [vA G 0, vI 1] s7 (fun r27 s28 => Q r27 s28)))))))))))) : Run G WM M_X12_stands 4 0 0 [vA G 0, vI l1, vI l2, vI l3] σ Q := by
  refine Run.of (by decide +kernel) (by show (4 : Nat) ≤ 4; decide) ?_
  show Ex G WM M_X12_stands 4 0 0 0 [(0, vA G 0), (1, vI l1), (2, vI l2), (3, vI l3)] [] σ Q
  refine R_aload_n e_X12_stands_0.1 0 rfl ?_
  refine R_iload_n e_X12_stands_0.2.1 1 rfl ?_
  refine R_callV (mc := 0) (ms := 0) (mc' := 0) (ms' := 0) (M' := M_X12_isKite) (d' := 0) (as := [vI l1]) (st := []) 12 1 e_X12_stands_0.2.2.1 (kCVof m_X12_isKite l_X12_343) rfl (by decide) km_0 (by decide) (by decide) rfl rfl (by show (0 : Nat) ≤ 8; decide) ?_
  refine Run.mono h (fun r1 s2 h => ?_)
  refine R_eqs (st2 := [vI r1]) rfl rfl ?_
  obtain ⟨q3, h⟩ := h
  refine R_if_eq 24 e_X12_stands_0.2.2.2.1 (by decide) q3  (fun q => ?_) (fun q => ?_)
  · replace h := h.1 q
    refine R_aload_n e_X12_stands_1.2.2.1 0 rfl ?_
    refine R_iconst e_X12_stands_1.2.2.2.1 ?_
    refine R_callV (mc := 0) (ms := 0) (mc' := 0) (ms' := 0) (M' := M_X12_refuse) (d' := 0) (as := [vI 1]) (st := []) 12 1 e_X12_stands_1.2.2.2.2.1 (kCVof m_X12_refuse l_X12_93) rfl (by decide) km_0 (by decide) (by decide) rfl rfl (by show (0 : Nat) ≤ 8; decide) ?_
    refine Run.mono h (fun r4 s5 h => ?_)
    refine R_eqs (st2 := [vI r4]) rfl rfl ?_
    exact R_ireturn e_X12_stands_1.2.2.2.2.2.1 rfl h
  · replace h := h.2 q
    refine R_iload_n e_X12_stands_0.2.2.2.2.1 2 rfl ?_
    refine R_callS (mc := 0) (ms := 0) (mc' := 0) (ms' := 0) (M' := M_X12_isHour) (d' := 0) (as := [vI l2]) (st := []) 1 e_X12_stands_0.2.2.2.2.2.1 (kCSof m_X12_isHour l_X12_340) (by decide) (by decide) rfl rfl (by show (0 : Nat) ≤ 8; decide) ?_
    refine Run.mono h (fun r6 s7 h => ?_)
    refine R_eqs (st2 := [vI r6]) rfl rfl ?_
    obtain ⟨q8, h⟩ := h
    refine R_if_eq 24 e_X12_stands_0.2.2.2.2.2.2.1 (by decide) q8  (fun q => ?_) (fun q => ?_)
    · replace h := h.1 q
      refine R_aload_n e_X12_stands_1.2.2.1 0 rfl ?_
      refine R_iconst e_X12_stands_1.2.2.2.1 ?_
      refine R_callV (mc := 0) (ms := 0) (mc' := 0) (ms' := 0) (M' := M_X12_refuse) (d' := 0) (as := [vI 1]) (st := []) 12 1 e_X12_stands_1.2.2.2.2.1 (kCVof m_X12_refuse l_X12_93) rfl (by decide) km_0 (by decide) (by decide) rfl rfl (by show (0 : Nat) ≤ 8; decide) ?_
      refine Run.mono h (fun r9 s10 h => ?_)
      refine R_eqs (st2 := [vI r9]) rfl rfl ?_
      exact R_ireturn e_X12_stands_1.2.2.2.2.2.1 rfl h
    · replace h := h.2 q
      refine R_iload_n e_X12_stands_0.2.2.2.2.2.2.2.1 3 rfl ?_
      obtain ⟨q11, h⟩ := h
      refine R_if_lt 24 e_X12_stands_0.2.2.2.2.2.2.2.2.1 (by decide) q11  (fun q => ?_) (fun q => ?_)
      · replace h := h.1 q
        refine R_aload_n e_X12_stands_1.2.2.1 0 rfl ?_
        refine R_iconst e_X12_stands_1.2.2.2.1 ?_
        refine R_callV (mc := 0) (ms := 0) (mc' := 0) (ms' := 0) (M' := M_X12_refuse) (d' := 0) (as := [vI 1]) (st := []) 12 1 e_X12_stands_1.2.2.2.2.1 (kCVof m_X12_refuse l_X12_93) rfl (by decide) km_0 (by decide) (by decide) rfl rfl (by show (0 : Nat) ≤ 8; decide) ?_
        refine Run.mono h (fun r12 s13 h => ?_)
        refine R_eqs (st2 := [vI r12]) rfl rfl ?_
        exact R_ireturn e_X12_stands_1.2.2.2.2.2.1 rfl h
      · replace h := h.2 q
        refine R_iload_n e_X12_stands_0.2.2.2.2.2.2.2.2.2 3 rfl ?_
        refine R_iconst e_X12_stands_1.1 ?_
        refine R_icmp_le 30 e_X12_stands_1.2.1 (by decide) q11 (by decide) (fun q => ?_) (fun q => ?_)
        · replace h := h.1 q
          refine R_aload_n e_X12_stands_1.2.2.2.2.2.2.1 0 rfl ?_
          refine R_iload_n e_X12_stands_1.2.2.2.2.2.2.2.1 1 rfl ?_
          refine R_iload_n e_X12_stands_1.2.2.2.2.2.2.2.2.1 2 rfl ?_
          refine R_callV (mc := 0) (ms := 0) (mc' := 0) (ms' := 0) (M' := M_X12_isUp) (d' := 3) (as := [vI l1, vI l2]) (st := []) 12 2 e_X12_stands_1.2.2.2.2.2.2.2.2.2 (kCVof m_X12_isUp l_X12_319) rfl (by decide) km_0 (by decide) (by decide) rfl rfl (by show (0 : Nat) ≤ 8; decide) ?_
          refine Run.mono h (fun r14 s15 h => ?_)
          refine R_eqs (st2 := [vI r14]) rfl rfl ?_
          obtain ⟨q16, h⟩ := h
          refine R_if_ne 48 e_X12_stands_2.1 (by decide) q16  (fun q => ?_) (fun q => ?_)
          · replace h := h.1 q
            refine R_aload_n e_X12_stands_2.2.2.2.2.2.1 0 rfl ?_
            refine R_iload_n e_X12_stands_2.2.2.2.2.2.2.1 3 rfl ?_
            refine R_if_ne 62 e_X12_stands_2.2.2.2.2.2.2.2.1 (by decide) q11  (fun q => ?_) (fun q => ?_)
            · replace h := h.1 q
              refine R_aload_n e_X12_stands_3.2.2.2.1 0 rfl ?_
              refine R_iload_n e_X12_stands_3.2.2.2.2.1 1 rfl ?_
              refine R_iload_n e_X12_stands_3.2.2.2.2.2.1 2 rfl ?_
              refine R_callV (mc := 0) (ms := 0) (mc' := 0) (ms' := 0) (M' := M_X12_rowOf) (d' := 3) (as := [vI l1, vI l2]) (st := [vA G 0]) 12 2 e_X12_stands_3.2.2.2.2.2.2.1 (kCVof m_X12_rowOf l_X12_292) rfl (by decide) km_0 (by decide) (by decide) rfl rfl (by show (1 : Nat) ≤ 8; decide) ?_
              refine Run.mono h (fun r17 s18 h => ?_)
              refine R_eqs (st2 := [vI r17, vA G 0]) rfl rfl ?_
              refine R_callV (mc := 0) (ms := 0) (mc' := 0) (ms' := 0) (M' := M_X12_gives) (d' := 0) (as := [vI r17]) (st := []) 12 1 e_X12_stands_3.2.2.2.2.2.2.2.1 (kCVof m_X12_gives l_X12_97) rfl (by decide) km_0 (by decide) (by decide) rfl rfl (by show (0 : Nat) ≤ 8; decide) ?_
              refine Run.mono h (fun r19 s20 h => ?_)
              refine R_eqs (st2 := [vI r19]) rfl rfl ?_
              exact R_ireturn e_X12_stands_3.2.2.2.2.2.2.2.2 rfl h
            · replace h := h.2 q
              refine R_aload_n e_X12_stands_2.2.2.2.2.2.2.2.2.1 0 rfl ?_
              refine R_iload_n e_X12_stands_2.2.2.2.2.2.2.2.2.2 1 rfl ?_
              refine R_iload_n e_X12_stands_3.1 2 rfl ?_
              refine R_callV (mc := 0) (ms := 0) (mc' := 0) (ms' := 0) (M' := M_X12_columnOf) (d' := 3) (as := [vI l1, vI l2]) (st := [vA G 0]) 12 2 e_X12_stands_3.2.1 (kCVof m_X12_columnOf l_X12_286) rfl (by decide) km_0 (by decide) (by decide) rfl rfl (by show (1 : Nat) ≤ 8; decide) ?_
              refine Run.mono h (fun r21 s22 h => ?_)
              refine R_eqs (st2 := [vI r21, vA G 0]) rfl rfl ?_
              refine R_goto 68 e_X12_stands_3.2.2.1 (by decide) ?_
              refine R_callV (mc := 0) (ms := 0) (mc' := 0) (ms' := 0) (M' := M_X12_gives) (d' := 0) (as := [vI r21]) (st := []) 12 1 e_X12_stands_3.2.2.2.2.2.2.2.1 (kCVof m_X12_gives l_X12_97) rfl (by decide) km_0 (by decide) (by decide) rfl rfl (by show (0 : Nat) ≤ 8; decide) ?_
              refine Run.mono h (fun r23 s24 h => ?_)
              refine R_eqs (st2 := [vI r23]) rfl rfl ?_
              exact R_ireturn e_X12_stands_3.2.2.2.2.2.2.2.2 rfl h
          · replace h := h.2 q
            refine R_aload_n e_X12_stands_2.2.1 0 rfl ?_
            refine R_bipush e_X12_stands_2.2.2.1 (by decide) ?_
            refine R_callV (mc := 0) (ms := 0) (mc' := 0) (ms' := 0) (M' := M_X12_refuse) (d' := 0) (as := [vI 6]) (st := []) 12 1 e_X12_stands_2.2.2.2.1 (kCVof m_X12_refuse l_X12_93) rfl (by decide) km_0 (by decide) (by decide) rfl rfl (by show (0 : Nat) ≤ 8; decide) ?_
            refine Run.mono h (fun r25 s26 h => ?_)
            refine R_eqs (st2 := [vI r25]) rfl rfl ?_
            refine R_goto 71 e_X12_stands_2.2.2.2.2.1 (by decide) ?_
            exact R_ireturn e_X12_stands_3.2.2.2.2.2.2.2.2 rfl h
        · replace h := h.2 q
          refine R_aload_n e_X12_stands_1.2.2.1 0 rfl ?_
          refine R_iconst e_X12_stands_1.2.2.2.1 ?_
          refine R_callV (mc := 0) (ms := 0) (mc' := 0) (ms' := 0) (M' := M_X12_refuse) (d' := 0) (as := [vI 1]) (st := []) 12 1 e_X12_stands_1.2.2.2.2.1 (kCVof m_X12_refuse l_X12_93) rfl (by decide) km_0 (by decide) (by decide) rfl rfl (by show (0 : Nat) ≤ 8; decide) ?_
          refine Run.mono h (fun r27 s28 h => ?_)
          refine R_eqs (st2 := [vI r27]) rfl rfl ?_
          exact R_ireturn e_X12_stands_1.2.2.2.2.2.1 rfl h
/-! KiteLandModel.owner(III)I -/
theorem e_X12_owner_0 : decode cX12_owner 0 = .ok (.aload_n 0, 1) ∧ decode cX12_owner 1 = .ok (.iload_n 1, 1) ∧ decode cX12_owner 2 = .ok (.iload_n 2, 1) ∧ decode cX12_owner 3 = .ok (.invokevirtual 355, 3) ∧ decode cX12_owner 6 = .ok (.ifCond .eq 24, 3) ∧ decode cX12_owner 9 = .ok (.iload_n 3, 1) ∧ decode cX12_owner 10 = .ok (.invokestatic 340, 3) ∧ decode cX12_owner 13 = .ok (.ifCond .eq 17, 3) ∧ decode cX12_owner 16 = .ok (.aload_n 0, 1) ∧ decode cX12_owner 17 = .ok (.aload_n 0, 1) := by decide +kernel
theorem e_X12_owner_1 : decode cX12_owner 18 = .ok (.iload_n 1, 1) ∧ decode cX12_owner 19 = .ok (.iload_n 2, 1) ∧ decode cX12_owner 20 = .ok (.iload_n 3, 1) ∧ decode cX12_owner 21 = .ok (.invokevirtual 312, 3) ∧ decode cX12_owner 24 = .ok (.invokevirtual 358, 3) ∧ decode cX12_owner 27 = .ok (.goto 8, 3) ∧ decode cX12_owner 30 = .ok (.aload_n 0, 1) ∧ decode cX12_owner 31 = .ok (.iconst 1, 1) ∧ decode cX12_owner 32 = .ok (.invokevirtual 93, 3) ∧ decode cX12_owner 35 = .ok (.ireturn, 1) := by decide +kernel
theorem S_X12_owner {G : Kg} {σ : Kmem} {Q : Int → Kmem → Prop} {l1 l2 l3 : Int}  (h : Run G WM M_X12_isField 0 0 0 [vA G 0, vI l1, vI l2] σ (fun r1 s2 => (rI r1) ∧ ((r1 = 0 → Run G WM M_X12_refuse 0 0 0 [vA G 0, vI 1] s2 (fun r4 s5 => Q r4 s5)) ∧ (r1 ≠ 0 → Run G WM M_X12_isHour 0 0 0 [vI l3] s2 (fun r6 s7 => (rI r6) ∧ ((r6 = 0 → Run G WM M_X12_refuse 0 0 0 [vA G 0, vI 1] s7 (fun r9 s10 => Q r9 s10)) ∧ (r6 ≠ 0 → Run G WM M_X12_ownerOf 6 0 0 [vA G 0, vI l1, vI l2, vI l3] s7 (fun r11 s12 => Run G WM M_X12_orNone 1 0 0 [vA G 0, vI r11] s12 (fun r13 s14 => Q r13 s14))))))))) : Run G WM M_X12_owner 7 0 0 [vA G 0, vI l1, vI l2, vI l3] σ Q := by
  refine Run.of (by decide +kernel) (by show (4 : Nat) ≤ 4; decide) ?_
  show Ex G WM M_X12_owner 7 0 0 0 [(0, vA G 0), (1, vI l1), (2, vI l2), (3, vI l3)] [] σ Q
  refine R_aload_n e_X12_owner_0.1 0 rfl ?_
  refine R_iload_n e_X12_owner_0.2.1 1 rfl ?_
  refine R_iload_n e_X12_owner_0.2.2.1 2 rfl ?_
  refine R_callV (mc := 0) (ms := 0) (mc' := 0) (ms' := 0) (M' := M_X12_isField) (d' := 0) (as := [vI l1, vI l2]) (st := []) 12 2 e_X12_owner_0.2.2.2.1 (kCVof m_X12_isField l_X12_355) rfl (by decide) km_0 (by decide) (by decide) rfl rfl (by show (0 : Nat) ≤ 8; decide) ?_
  refine Run.mono h (fun r1 s2 h => ?_)
  refine R_eqs (st2 := [vI r1]) rfl rfl ?_
  obtain ⟨q3, h⟩ := h
  refine R_if_eq 30 e_X12_owner_0.2.2.2.2.1 (by decide) q3  (fun q => ?_) (fun q => ?_)
  · replace h := h.1 q
    refine R_aload_n e_X12_owner_1.2.2.2.2.2.2.1 0 rfl ?_
    refine R_iconst e_X12_owner_1.2.2.2.2.2.2.2.1 ?_
    refine R_callV (mc := 0) (ms := 0) (mc' := 0) (ms' := 0) (M' := M_X12_refuse) (d' := 0) (as := [vI 1]) (st := []) 12 1 e_X12_owner_1.2.2.2.2.2.2.2.2.1 (kCVof m_X12_refuse l_X12_93) rfl (by decide) km_0 (by decide) (by decide) rfl rfl (by show (0 : Nat) ≤ 8; decide) ?_
    refine Run.mono h (fun r4 s5 h => ?_)
    refine R_eqs (st2 := [vI r4]) rfl rfl ?_
    exact R_ireturn e_X12_owner_1.2.2.2.2.2.2.2.2.2 rfl h
  · replace h := h.2 q
    refine R_iload_n e_X12_owner_0.2.2.2.2.2.1 3 rfl ?_
    refine R_callS (mc := 0) (ms := 0) (mc' := 0) (ms' := 0) (M' := M_X12_isHour) (d' := 0) (as := [vI l3]) (st := []) 1 e_X12_owner_0.2.2.2.2.2.2.1 (kCSof m_X12_isHour l_X12_340) (by decide) (by decide) rfl rfl (by show (0 : Nat) ≤ 8; decide) ?_
    refine Run.mono h (fun r6 s7 h => ?_)
    refine R_eqs (st2 := [vI r6]) rfl rfl ?_
    obtain ⟨q8, h⟩ := h
    refine R_if_eq 30 e_X12_owner_0.2.2.2.2.2.2.2.1 (by decide) q8  (fun q => ?_) (fun q => ?_)
    · replace h := h.1 q
      refine R_aload_n e_X12_owner_1.2.2.2.2.2.2.1 0 rfl ?_
      refine R_iconst e_X12_owner_1.2.2.2.2.2.2.2.1 ?_
      refine R_callV (mc := 0) (ms := 0) (mc' := 0) (ms' := 0) (M' := M_X12_refuse) (d' := 0) (as := [vI 1]) (st := []) 12 1 e_X12_owner_1.2.2.2.2.2.2.2.2.1 (kCVof m_X12_refuse l_X12_93) rfl (by decide) km_0 (by decide) (by decide) rfl rfl (by show (0 : Nat) ≤ 8; decide) ?_
      refine Run.mono h (fun r9 s10 h => ?_)
      refine R_eqs (st2 := [vI r9]) rfl rfl ?_
      exact R_ireturn e_X12_owner_1.2.2.2.2.2.2.2.2.2 rfl h
    · replace h := h.2 q
      refine R_aload_n e_X12_owner_0.2.2.2.2.2.2.2.2.1 0 rfl ?_
      refine R_aload_n e_X12_owner_0.2.2.2.2.2.2.2.2.2 0 rfl ?_
      refine R_iload_n e_X12_owner_1.1 1 rfl ?_
      refine R_iload_n e_X12_owner_1.2.1 2 rfl ?_
      refine R_iload_n e_X12_owner_1.2.2.1 3 rfl ?_
      refine R_callV (mc := 0) (ms := 0) (mc' := 0) (ms' := 0) (M' := M_X12_ownerOf) (d' := 6) (as := [vI l1, vI l2, vI l3]) (st := [vA G 0]) 12 3 e_X12_owner_1.2.2.2.1 (kCVof m_X12_ownerOf l_X12_312) rfl (by decide) km_0 (by decide) (by decide) rfl rfl (by show (1 : Nat) ≤ 8; decide) ?_
      refine Run.mono h (fun r11 s12 h => ?_)
      refine R_eqs (st2 := [vI r11, vA G 0]) rfl rfl ?_
      refine R_callV (mc := 0) (ms := 0) (mc' := 0) (ms' := 0) (M' := M_X12_orNone) (d' := 1) (as := [vI r11]) (st := []) 12 1 e_X12_owner_1.2.2.2.2.1 (kCVof m_X12_orNone l_X12_358) rfl (by decide) km_0 (by decide) (by decide) rfl rfl (by show (0 : Nat) ≤ 8; decide) ?_
      refine Run.mono h (fun r13 s14 h => ?_)
      refine R_eqs (st2 := [vI r13]) rfl rfl ?_
      refine R_goto 35 e_X12_owner_1.2.2.2.2.2.1 (by decide) ?_
      exact R_ireturn e_X12_owner_1.2.2.2.2.2.2.2.2.2 rfl h
/-! KiteLandModel.shaders(III)I -/
theorem e_X12_shaders_0 : decode cX12_shaders 0 = .ok (.aload_n 0, 1) ∧ decode cX12_shaders 1 = .ok (.iload_n 1, 1) ∧ decode cX12_shaders 2 = .ok (.iload_n 2, 1) ∧ decode cX12_shaders 3 = .ok (.invokevirtual 355, 3) ∧ decode cX12_shaders 6 = .ok (.ifCond .eq 24, 3) ∧ decode cX12_shaders 9 = .ok (.iload_n 3, 1) ∧ decode cX12_shaders 10 = .ok (.invokestatic 340, 3) ∧ decode cX12_shaders 13 = .ok (.ifCond .eq 17, 3) ∧ decode cX12_shaders 16 = .ok (.aload_n 0, 1) ∧ decode cX12_shaders 17 = .ok (.aload_n 0, 1) := by decide +kernel
theorem e_X12_shaders_1 : decode cX12_shaders 18 = .ok (.iload_n 1, 1) ∧ decode cX12_shaders 19 = .ok (.iload_n 2, 1) ∧ decode cX12_shaders 20 = .ok (.iload_n 3, 1) ∧ decode cX12_shaders 21 = .ok (.invokevirtual 305, 3) ∧ decode cX12_shaders 24 = .ok (.invokevirtual 97, 3) ∧ decode cX12_shaders 27 = .ok (.goto 8, 3) ∧ decode cX12_shaders 30 = .ok (.aload_n 0, 1) ∧ decode cX12_shaders 31 = .ok (.iconst 1, 1) ∧ decode cX12_shaders 32 = .ok (.invokevirtual 93, 3) ∧ decode cX12_shaders 35 = .ok (.ireturn, 1) := by decide +kernel
theorem S_X12_shaders {G : Kg} {σ : Kmem} {Q : Int → Kmem → Prop} {l1 l2 l3 : Int}  (h : Run G WM M_X12_isField 0 0 0 [vA G 0, vI l1, vI l2] σ (fun r1 s2 => (rI r1) ∧ ((r1 = 0 → Run G WM M_X12_refuse 0 0 0 [vA G 0, vI 1] s2 (fun r4 s5 => Q r4 s5)) ∧ (r1 ≠ 0 → Run G WM M_X12_isHour 0 0 0 [vI l3] s2 (fun r6 s7 => (rI r6) ∧ ((r6 = 0 → Run G WM M_X12_refuse 0 0 0 [vA G 0, vI 1] s7 (fun r9 s10 => Q r9 s10)) ∧ (r6 ≠ 0 → Run G WM M_X12_shadersOf 5 0 0 [vA G 0, vI l1, vI l2, vI l3] s7 (fun r11 s12 => Run G WM M_X12_gives 0 0 0 [vA G 0, vI r11] s12 (fun r13 s14 => Q r13 s14))))))))) : Run G WM M_X12_shaders 6 0 0 [vA G 0, vI l1, vI l2, vI l3] σ Q := by
  refine Run.of (by decide +kernel) (by show (4 : Nat) ≤ 4; decide) ?_
  show Ex G WM M_X12_shaders 6 0 0 0 [(0, vA G 0), (1, vI l1), (2, vI l2), (3, vI l3)] [] σ Q
  refine R_aload_n e_X12_shaders_0.1 0 rfl ?_
  refine R_iload_n e_X12_shaders_0.2.1 1 rfl ?_
  refine R_iload_n e_X12_shaders_0.2.2.1 2 rfl ?_
  refine R_callV (mc := 0) (ms := 0) (mc' := 0) (ms' := 0) (M' := M_X12_isField) (d' := 0) (as := [vI l1, vI l2]) (st := []) 12 2 e_X12_shaders_0.2.2.2.1 (kCVof m_X12_isField l_X12_355) rfl (by decide) km_0 (by decide) (by decide) rfl rfl (by show (0 : Nat) ≤ 8; decide) ?_
  refine Run.mono h (fun r1 s2 h => ?_)
  refine R_eqs (st2 := [vI r1]) rfl rfl ?_
  obtain ⟨q3, h⟩ := h
  refine R_if_eq 30 e_X12_shaders_0.2.2.2.2.1 (by decide) q3  (fun q => ?_) (fun q => ?_)
  · replace h := h.1 q
    refine R_aload_n e_X12_shaders_1.2.2.2.2.2.2.1 0 rfl ?_
    refine R_iconst e_X12_shaders_1.2.2.2.2.2.2.2.1 ?_
    refine R_callV (mc := 0) (ms := 0) (mc' := 0) (ms' := 0) (M' := M_X12_refuse) (d' := 0) (as := [vI 1]) (st := []) 12 1 e_X12_shaders_1.2.2.2.2.2.2.2.2.1 (kCVof m_X12_refuse l_X12_93) rfl (by decide) km_0 (by decide) (by decide) rfl rfl (by show (0 : Nat) ≤ 8; decide) ?_
    refine Run.mono h (fun r4 s5 h => ?_)
    refine R_eqs (st2 := [vI r4]) rfl rfl ?_
    exact R_ireturn e_X12_shaders_1.2.2.2.2.2.2.2.2.2 rfl h
  · replace h := h.2 q
    refine R_iload_n e_X12_shaders_0.2.2.2.2.2.1 3 rfl ?_
    refine R_callS (mc := 0) (ms := 0) (mc' := 0) (ms' := 0) (M' := M_X12_isHour) (d' := 0) (as := [vI l3]) (st := []) 1 e_X12_shaders_0.2.2.2.2.2.2.1 (kCSof m_X12_isHour l_X12_340) (by decide) (by decide) rfl rfl (by show (0 : Nat) ≤ 8; decide) ?_
    refine Run.mono h (fun r6 s7 h => ?_)
    refine R_eqs (st2 := [vI r6]) rfl rfl ?_
    obtain ⟨q8, h⟩ := h
    refine R_if_eq 30 e_X12_shaders_0.2.2.2.2.2.2.2.1 (by decide) q8  (fun q => ?_) (fun q => ?_)
    · replace h := h.1 q
      refine R_aload_n e_X12_shaders_1.2.2.2.2.2.2.1 0 rfl ?_
      refine R_iconst e_X12_shaders_1.2.2.2.2.2.2.2.1 ?_
      refine R_callV (mc := 0) (ms := 0) (mc' := 0) (ms' := 0) (M' := M_X12_refuse) (d' := 0) (as := [vI 1]) (st := []) 12 1 e_X12_shaders_1.2.2.2.2.2.2.2.2.1 (kCVof m_X12_refuse l_X12_93) rfl (by decide) km_0 (by decide) (by decide) rfl rfl (by show (0 : Nat) ≤ 8; decide) ?_
      refine Run.mono h (fun r9 s10 h => ?_)
      refine R_eqs (st2 := [vI r9]) rfl rfl ?_
      exact R_ireturn e_X12_shaders_1.2.2.2.2.2.2.2.2.2 rfl h
    · replace h := h.2 q
      refine R_aload_n e_X12_shaders_0.2.2.2.2.2.2.2.2.1 0 rfl ?_
      refine R_aload_n e_X12_shaders_0.2.2.2.2.2.2.2.2.2 0 rfl ?_
      refine R_iload_n e_X12_shaders_1.1 1 rfl ?_
      refine R_iload_n e_X12_shaders_1.2.1 2 rfl ?_
      refine R_iload_n e_X12_shaders_1.2.2.1 3 rfl ?_
      refine R_callV (mc := 0) (ms := 0) (mc' := 0) (ms' := 0) (M' := M_X12_shadersOf) (d' := 5) (as := [vI l1, vI l2, vI l3]) (st := [vA G 0]) 12 3 e_X12_shaders_1.2.2.2.1 (kCVof m_X12_shadersOf l_X12_305) rfl (by decide) km_0 (by decide) (by decide) rfl rfl (by show (1 : Nat) ≤ 8; decide) ?_
      refine Run.mono h (fun r11 s12 h => ?_)
      refine R_eqs (st2 := [vI r11, vA G 0]) rfl rfl ?_
      refine R_callV (mc := 0) (ms := 0) (mc' := 0) (ms' := 0) (M' := M_X12_gives) (d' := 0) (as := [vI r11]) (st := []) 12 1 e_X12_shaders_1.2.2.2.2.1 (kCVof m_X12_gives l_X12_97) rfl (by decide) km_0 (by decide) (by decide) rfl rfl (by show (0 : Nat) ≤ 8; decide) ?_
      refine Run.mono h (fun r13 s14 h => ?_)
      refine R_eqs (st2 := [vI r13]) rfl rfl ?_
      refine R_goto 35 e_X12_shaders_1.2.2.2.2.2.1 (by decide) ?_
      exact R_ireturn e_X12_shaders_1.2.2.2.2.2.2.2.2.2 rfl h
/-! KiteLandModel.estate(II)I -/
theorem e_X12_estate_0 : decode cX12_estate 0 = .ok (.aload_n 0, 1) ∧ decode cX12_estate 1 = .ok (.iload_n 1, 1) ∧ decode cX12_estate 2 = .ok (.invokevirtual 343, 3) ∧ decode cX12_estate 5 = .ok (.ifCond .eq 23, 3) ∧ decode cX12_estate 8 = .ok (.iload_n 2, 1) ∧ decode cX12_estate 9 = .ok (.invokestatic 340, 3) ∧ decode cX12_estate 12 = .ok (.ifCond .eq 16, 3) ∧ decode cX12_estate 15 = .ok (.aload_n 0, 1) ∧ decode cX12_estate 16 = .ok (.aload_n 0, 1) ∧ decode cX12_estate 17 = .ok (.iload_n 1, 1) := by decide +kernel
theorem e_X12_estate_1 : decode cX12_estate 18 = .ok (.iload_n 2, 1) ∧ decode cX12_estate 19 = .ok (.invokevirtual 361, 3) ∧ decode cX12_estate 22 = .ok (.invokevirtual 97, 3) ∧ decode cX12_estate 25 = .ok (.goto 8, 3) ∧ decode cX12_estate 28 = .ok (.aload_n 0, 1) ∧ decode cX12_estate 29 = .ok (.iconst 1, 1) ∧ decode cX12_estate 30 = .ok (.invokevirtual 93, 3) ∧ decode cX12_estate 33 = .ok (.ireturn, 1) := by decide +kernel
theorem S_X12_estate {G : Kg} {σ : Kmem} {Q : Int → Kmem → Prop} {l1 l2 : Int}  (h : Run G WM M_X12_isKite 0 0 0 [vA G 0, vI l1] σ (fun r1 s2 => (rI r1) ∧ ((r1 = 0 → Run G WM M_X12_refuse 0 0 0 [vA G 0, vI 1] s2 (fun r4 s5 => Q r4 s5)) ∧ (r1 ≠ 0 → Run G WM M_X12_isHour 0 0 0 [vI l2] s2 (fun r6 s7 => (rI r6) ∧ ((r6 = 0 → Run G WM M_X12_refuse 0 0 0 [vA G 0, vI 1] s7 (fun r9 s10 => Q r9 s10)) ∧ (r6 ≠ 0 → Run G WM M_X12_estateOf 7 0 0 [vA G 0, vI l1, vI l2] s7 (fun r11 s12 => Run G WM M_X12_gives 0 0 0 [vA G 0, vI r11] s12 (fun r13 s14 => Q r13 s14))))))))) : Run G WM M_X12_estate 8 0 0 [vA G 0, vI l1, vI l2] σ Q := by
  refine Run.of (by decide +kernel) (by show (3 : Nat) ≤ 3; decide) ?_
  show Ex G WM M_X12_estate 8 0 0 0 [(0, vA G 0), (1, vI l1), (2, vI l2)] [] σ Q
  refine R_aload_n e_X12_estate_0.1 0 rfl ?_
  refine R_iload_n e_X12_estate_0.2.1 1 rfl ?_
  refine R_callV (mc := 0) (ms := 0) (mc' := 0) (ms' := 0) (M' := M_X12_isKite) (d' := 0) (as := [vI l1]) (st := []) 12 1 e_X12_estate_0.2.2.1 (kCVof m_X12_isKite l_X12_343) rfl (by decide) km_0 (by decide) (by decide) rfl rfl (by show (0 : Nat) ≤ 8; decide) ?_
  refine Run.mono h (fun r1 s2 h => ?_)
  refine R_eqs (st2 := [vI r1]) rfl rfl ?_
  obtain ⟨q3, h⟩ := h
  refine R_if_eq 28 e_X12_estate_0.2.2.2.1 (by decide) q3  (fun q => ?_) (fun q => ?_)
  · replace h := h.1 q
    refine R_aload_n e_X12_estate_1.2.2.2.2.1 0 rfl ?_
    refine R_iconst e_X12_estate_1.2.2.2.2.2.1 ?_
    refine R_callV (mc := 0) (ms := 0) (mc' := 0) (ms' := 0) (M' := M_X12_refuse) (d' := 0) (as := [vI 1]) (st := []) 12 1 e_X12_estate_1.2.2.2.2.2.2.1 (kCVof m_X12_refuse l_X12_93) rfl (by decide) km_0 (by decide) (by decide) rfl rfl (by show (0 : Nat) ≤ 8; decide) ?_
    refine Run.mono h (fun r4 s5 h => ?_)
    refine R_eqs (st2 := [vI r4]) rfl rfl ?_
    exact R_ireturn e_X12_estate_1.2.2.2.2.2.2.2 rfl h
  · replace h := h.2 q
    refine R_iload_n e_X12_estate_0.2.2.2.2.1 2 rfl ?_
    refine R_callS (mc := 0) (ms := 0) (mc' := 0) (ms' := 0) (M' := M_X12_isHour) (d' := 0) (as := [vI l2]) (st := []) 1 e_X12_estate_0.2.2.2.2.2.1 (kCSof m_X12_isHour l_X12_340) (by decide) (by decide) rfl rfl (by show (0 : Nat) ≤ 8; decide) ?_
    refine Run.mono h (fun r6 s7 h => ?_)
    refine R_eqs (st2 := [vI r6]) rfl rfl ?_
    obtain ⟨q8, h⟩ := h
    refine R_if_eq 28 e_X12_estate_0.2.2.2.2.2.2.1 (by decide) q8  (fun q => ?_) (fun q => ?_)
    · replace h := h.1 q
      refine R_aload_n e_X12_estate_1.2.2.2.2.1 0 rfl ?_
      refine R_iconst e_X12_estate_1.2.2.2.2.2.1 ?_
      refine R_callV (mc := 0) (ms := 0) (mc' := 0) (ms' := 0) (M' := M_X12_refuse) (d' := 0) (as := [vI 1]) (st := []) 12 1 e_X12_estate_1.2.2.2.2.2.2.1 (kCVof m_X12_refuse l_X12_93) rfl (by decide) km_0 (by decide) (by decide) rfl rfl (by show (0 : Nat) ≤ 8; decide) ?_
      refine Run.mono h (fun r9 s10 h => ?_)
      refine R_eqs (st2 := [vI r9]) rfl rfl ?_
      exact R_ireturn e_X12_estate_1.2.2.2.2.2.2.2 rfl h
    · replace h := h.2 q
      refine R_aload_n e_X12_estate_0.2.2.2.2.2.2.2.1 0 rfl ?_
      refine R_aload_n e_X12_estate_0.2.2.2.2.2.2.2.2.1 0 rfl ?_
      refine R_iload_n e_X12_estate_0.2.2.2.2.2.2.2.2.2 1 rfl ?_
      refine R_iload_n e_X12_estate_1.1 2 rfl ?_
      refine R_callV (mc := 0) (ms := 0) (mc' := 0) (ms' := 0) (M' := M_X12_estateOf) (d' := 7) (as := [vI l1, vI l2]) (st := [vA G 0]) 12 2 e_X12_estate_1.2.1 (kCVof m_X12_estateOf l_X12_361) rfl (by decide) km_0 (by decide) (by decide) rfl rfl (by show (1 : Nat) ≤ 8; decide) ?_
      refine Run.mono h (fun r11 s12 h => ?_)
      refine R_eqs (st2 := [vI r11, vA G 0]) rfl rfl ?_
      refine R_callV (mc := 0) (ms := 0) (mc' := 0) (ms' := 0) (M' := M_X12_gives) (d' := 0) (as := [vI r11]) (st := []) 12 1 e_X12_estate_1.2.2.1 (kCVof m_X12_gives l_X12_97) rfl (by decide) km_0 (by decide) (by decide) rfl rfl (by show (0 : Nat) ≤ 8; decide) ?_
      refine Run.mono h (fun r13 s14 h => ?_)
      refine R_eqs (st2 := [vI r13]) rfl rfl ?_
      refine R_goto 33 e_X12_estate_1.2.2.2.1 (by decide) ?_
      exact R_ireturn e_X12_estate_1.2.2.2.2.2.2.2 rfl h
/-! KiteLandModel.nobodys(I)I -/
theorem e_X12_nobodys_0 : decode cX12_nobodys 0 = .ok (.iload_n 1, 1) ∧ decode cX12_nobodys 1 = .ok (.invokestatic 340, 3) ∧ decode cX12_nobodys 4 = .ok (.ifCond .eq 16, 3) ∧ decode cX12_nobodys 7 = .ok (.aload_n 0, 1) ∧ decode cX12_nobodys 8 = .ok (.aload_n 0, 1) ∧ decode cX12_nobodys 9 = .ok (.iconst (-1), 1) ∧ decode cX12_nobodys 10 = .ok (.iload_n 1, 1) ∧ decode cX12_nobodys 11 = .ok (.invokevirtual 361, 3) ∧ decode cX12_nobodys 14 = .ok (.invokevirtual 97, 3) ∧ decode cX12_nobodys 17 = .ok (.goto 8, 3) := by decide +kernel
theorem e_X12_nobodys_1 : decode cX12_nobodys 20 = .ok (.aload_n 0, 1) ∧ decode cX12_nobodys 21 = .ok (.iconst 1, 1) ∧ decode cX12_nobodys 22 = .ok (.invokevirtual 93, 3) ∧ decode cX12_nobodys 25 = .ok (.ireturn, 1) := by decide +kernel
theorem S_X12_nobodys {G : Kg} {σ : Kmem} {Q : Int → Kmem → Prop} {l1 : Int}  (h : Run G WM M_X12_isHour 0 0 0 [vI l1] σ (fun r1 s2 => (rI r1) ∧ ((r1 = 0 → Run G WM M_X12_refuse 0 0 0 [vA G 0, vI 1] s2 (fun r4 s5 => Q r4 s5)) ∧ (r1 ≠ 0 → Run G WM M_X12_estateOf 7 0 0 [vA G 0, vI (-1), vI l1] s2 (fun r6 s7 => Run G WM M_X12_gives 0 0 0 [vA G 0, vI r6] s7 (fun r8 s9 => Q r8 s9)))))) : Run G WM M_X12_nobodys 8 0 0 [vA G 0, vI l1] σ Q := by
  refine Run.of (by decide +kernel) (by show (2 : Nat) ≤ 2; decide) ?_
  show Ex G WM M_X12_nobodys 8 0 0 0 [(0, vA G 0), (1, vI l1)] [] σ Q
  refine R_iload_n e_X12_nobodys_0.1 1 rfl ?_
  refine R_callS (mc := 0) (ms := 0) (mc' := 0) (ms' := 0) (M' := M_X12_isHour) (d' := 0) (as := [vI l1]) (st := []) 1 e_X12_nobodys_0.2.1 (kCSof m_X12_isHour l_X12_340) (by decide) (by decide) rfl rfl (by show (0 : Nat) ≤ 8; decide) ?_
  refine Run.mono h (fun r1 s2 h => ?_)
  refine R_eqs (st2 := [vI r1]) rfl rfl ?_
  obtain ⟨q3, h⟩ := h
  refine R_if_eq 20 e_X12_nobodys_0.2.2.1 (by decide) q3  (fun q => ?_) (fun q => ?_)
  · replace h := h.1 q
    refine R_aload_n e_X12_nobodys_1.1 0 rfl ?_
    refine R_iconst e_X12_nobodys_1.2.1 ?_
    refine R_callV (mc := 0) (ms := 0) (mc' := 0) (ms' := 0) (M' := M_X12_refuse) (d' := 0) (as := [vI 1]) (st := []) 12 1 e_X12_nobodys_1.2.2.1 (kCVof m_X12_refuse l_X12_93) rfl (by decide) km_0 (by decide) (by decide) rfl rfl (by show (0 : Nat) ≤ 8; decide) ?_
    refine Run.mono h (fun r4 s5 h => ?_)
    refine R_eqs (st2 := [vI r4]) rfl rfl ?_
    exact R_ireturn e_X12_nobodys_1.2.2.2 rfl h
  · replace h := h.2 q
    refine R_aload_n e_X12_nobodys_0.2.2.2.1 0 rfl ?_
    refine R_aload_n e_X12_nobodys_0.2.2.2.2.1 0 rfl ?_
    refine R_iconst e_X12_nobodys_0.2.2.2.2.2.1 ?_
    refine R_iload_n e_X12_nobodys_0.2.2.2.2.2.2.1 1 rfl ?_
    refine R_callV (mc := 0) (ms := 0) (mc' := 0) (ms' := 0) (M' := M_X12_estateOf) (d' := 7) (as := [vI (-1), vI l1]) (st := [vA G 0]) 12 2 e_X12_nobodys_0.2.2.2.2.2.2.2.1 (kCVof m_X12_estateOf l_X12_361) rfl (by decide) km_0 (by decide) (by decide) rfl rfl (by show (1 : Nat) ≤ 8; decide) ?_
    refine Run.mono h (fun r6 s7 h => ?_)
    refine R_eqs (st2 := [vI r6, vA G 0]) rfl rfl ?_
    refine R_callV (mc := 0) (ms := 0) (mc' := 0) (ms' := 0) (M' := M_X12_gives) (d' := 0) (as := [vI r6]) (st := []) 12 1 e_X12_nobodys_0.2.2.2.2.2.2.2.2.1 (kCVof m_X12_gives l_X12_97) rfl (by decide) km_0 (by decide) (by decide) rfl rfl (by show (0 : Nat) ≤ 8; decide) ?_
    refine Run.mono h (fun r8 s9 h => ?_)
    refine R_eqs (st2 := [vI r8]) rfl rfl ?_
    refine R_goto 25 e_X12_nobodys_0.2.2.2.2.2.2.2.2.2 (by decide) ?_
    exact R_ireturn e_X12_nobodys_1.2.2.2 rfl h
/-! KiteLandModel.disputed(I)I -/
theorem e_X12_disputed_0 : decode cX12_disputed 0 = .ok (.iload_n 1, 1) ∧ decode cX12_disputed 1 = .ok (.invokestatic 340, 3) ∧ decode cX12_disputed 4 = .ok (.ifCond .ne 9, 3) ∧ decode cX12_disputed 7 = .ok (.aload_n 0, 1) ∧ decode cX12_disputed 8 = .ok (.iconst 1, 1) ∧ decode cX12_disputed 9 = .ok (.invokevirtual 93, 3) ∧ decode cX12_disputed 12 = .ok (.ireturn, 1) ∧ decode cX12_disputed 13 = .ok (.iconst 0, 1) ∧ decode cX12_disputed 14 = .ok (.istore_n 2, 1) ∧ decode cX12_disputed 15 = .ok (.iconst 0, 1) := by decide +kernel
theorem e_X12_disputed_1 : decode cX12_disputed 16 = .ok (.istore_n 3, 1) ∧ decode cX12_disputed 17 = .ok (.iload_n 3, 1) ∧ decode cX12_disputed 18 = .ok (.aload_n 0, 1) ∧ decode cX12_disputed 19 = .ok (.getfield 7, 3) ∧ decode cX12_disputed 22 = .ok (.iconst 0, 1) ∧ decode cX12_disputed 23 = .ok (.iaload, 1) ∧ decode cX12_disputed 24 = .ok (.if_icmp .ge 52, 3) ∧ decode cX12_disputed 27 = .ok (.iconst 0, 1) ∧ decode cX12_disputed 28 = .ok (.istore 4, 2) ∧ decode cX12_disputed 30 = .ok (.iload 4, 2) := by decide +kernel
theorem e_X12_disputed_2 : decode cX12_disputed 32 = .ok (.aload_n 0, 1) ∧ decode cX12_disputed 33 = .ok (.getfield 7, 3) ∧ decode cX12_disputed 36 = .ok (.iconst 1, 1) ∧ decode cX12_disputed 37 = .ok (.iaload, 1) ∧ decode cX12_disputed 38 = .ok (.if_icmp .ge 32, 3) ∧ decode cX12_disputed 41 = .ok (.iload_n 2, 1) ∧ decode cX12_disputed 42 = .ok (.aload_n 0, 1) ∧ decode cX12_disputed 43 = .ok (.iload_n 3, 1) ∧ decode cX12_disputed 44 = .ok (.iload 4, 2) ∧ decode cX12_disputed 46 = .ok (.iload_n 1, 1) := by decide +kernel
theorem e_X12_disputed_3 : decode cX12_disputed 47 = .ok (.invokevirtual 305, 3) ∧ decode cX12_disputed 50 = .ok (.invokestatic 302, 3) ∧ decode cX12_disputed 53 = .ok (.iconst 1, 1) ∧ decode cX12_disputed 54 = .ok (.if_icmp .le 7, 3) ∧ decode cX12_disputed 57 = .ok (.iconst 1, 1) ∧ decode cX12_disputed 58 = .ok (.goto 4, 3) ∧ decode cX12_disputed 61 = .ok (.iconst 0, 1) ∧ decode cX12_disputed 62 = .ok (.iadd, 1) ∧ decode cX12_disputed 63 = .ok (.istore_n 2, 1) ∧ decode cX12_disputed 64 = .ok (.iinc 4 1, 3) := by decide +kernel
theorem e_X12_disputed_4 : decode cX12_disputed 67 = .ok (.goto (-37), 3) ∧ decode cX12_disputed 70 = .ok (.iinc 3 1, 3) ∧ decode cX12_disputed 73 = .ok (.goto (-56), 3) ∧ decode cX12_disputed 76 = .ok (.aload_n 0, 1) ∧ decode cX12_disputed 77 = .ok (.iload_n 2, 1) ∧ decode cX12_disputed 78 = .ok (.invokevirtual 97, 3) ∧ decode cX12_disputed 81 = .ok (.ireturn, 1) := by decide +kernel
abbrev E_X12_disputed_17 (G : Kg) (l1 l2 l3 : Int) (σ : Kmem) (Q : Int → Kmem → Prop) : Prop := Ex G WM M_X12_disputed 6 0 0 17 [(0, vA G 0), (1, vI l1), (2, vI l2), (3, vI l3)] [] σ Q
abbrev E_X12_disputed_30 (G : Kg) (l1 l2 l3 l4 : Int) (σ : Kmem) (Q : Int → Kmem → Prop) : Prop := Ex G WM M_X12_disputed 6 0 0 30 [(0, vA G 0), (1, vI l1), (2, vI l2), (3, vI l3), (4, vI l4)] [] σ Q
theorem S_X12_disputed {G : Kg} {σ : Kmem} {Q : Int → Kmem → Prop} {l1 : Int}  (h : Run G WM M_X12_isHour 0 0 0 [vI l1] σ (fun r1 s2 => (rI r1) ∧ ((r1 ≠ 0 → E_X12_disputed_17 G l1 0 0 s2 Q) ∧ (r1 = 0 → Run G WM M_X12_refuse 0 0 0 [vA G 0, vI 1] s2 (fun r4 s5 => Q r4 s5))))) : Run G WM M_X12_disputed 6 0 0 [vA G 0, vI l1] σ Q := by
  refine Run.of (by decide +kernel) (by show (2 : Nat) ≤ 5; decide) ?_
  show Ex G WM M_X12_disputed 6 0 0 0 [(0, vA G 0), (1, vI l1)] [] σ Q
  refine R_iload_n e_X12_disputed_0.1 1 rfl ?_
  refine R_callS (mc := 0) (ms := 0) (mc' := 0) (ms' := 0) (M' := M_X12_isHour) (d' := 0) (as := [vI l1]) (st := []) 1 e_X12_disputed_0.2.1 (kCSof m_X12_isHour l_X12_340) (by decide) (by decide) rfl rfl (by show (0 : Nat) ≤ 8; decide) ?_
  refine Run.mono h (fun r1 s2 h => ?_)
  refine R_eqs (st2 := [vI r1]) rfl rfl ?_
  obtain ⟨q3, h⟩ := h
  refine R_if_ne 13 e_X12_disputed_0.2.2.1 (by decide) q3  (fun q => ?_) (fun q => ?_)
  · replace h := h.1 q
    refine R_iconst e_X12_disputed_0.2.2.2.2.2.2.2.1 ?_
    refine R_istore_n (ls2 := [(2, vI 0), (0, vA G 0), (1, vI l1)]) e_X12_disputed_0.2.2.2.2.2.2.2.2.1 (by decide) rfl ?_
    refine R_iconst e_X12_disputed_0.2.2.2.2.2.2.2.2.2 ?_
    refine R_istore_n (ls2 := [(3, vI 0), (2, vI 0), (0, vA G 0), (1, vI l1)]) e_X12_disputed_1.1 (by decide) rfl ?_
    refine R_ls (ls2 := [(0, vA G 0), (1, vI l1), (2, vI 0), (3, vI 0)]) [2, 3, 1, 0] rfl ?_
    exact h
  · replace h := h.2 q
    refine R_aload_n e_X12_disputed_0.2.2.2.1 0 rfl ?_
    refine R_iconst e_X12_disputed_0.2.2.2.2.1 ?_
    refine R_callV (mc := 0) (ms := 0) (mc' := 0) (ms' := 0) (M' := M_X12_refuse) (d' := 0) (as := [vI 1]) (st := []) 12 1 e_X12_disputed_0.2.2.2.2.2.1 (kCVof m_X12_refuse l_X12_93) rfl (by decide) km_0 (by decide) (by decide) rfl rfl (by show (0 : Nat) ≤ 8; decide) ?_
    refine Run.mono h (fun r4 s5 h => ?_)
    refine R_eqs (st2 := [vI r4]) rfl rfl ?_
    exact R_ireturn e_X12_disputed_0.2.2.2.2.2.2.1 rfl h
theorem S_X12_disputed_17 {G : Kg} {σ : Kmem} {Q : Int → Kmem → Prop} {l1 l2 l3 : Int}  (h : (rI l3) ∧ (rI (σ 1 0)) ∧ ((σ 1 0 ≤ l3 → Run G WM M_X12_gives 0 0 0 [vA G 0, vI l2] σ (fun r8 s9 => Q r8 s9)) ∧ (l3 < σ 1 0 → E_X12_disputed_30 G l1 l2 l3 0 σ Q))) : E_X12_disputed_17 G l1 l2 l3 σ Q := by
  refine R_iload_n e_X12_disputed_1.2.1 3 rfl ?_
  refine R_aload_n e_X12_disputed_1.2.2.1 0 rfl ?_
  refine R_getA 12 0 1 e_X12_disputed_1.2.2.2.1 f_X12_7 km_0 (fun _ _ => rfl) rm_0_0 (by decide) ?_
  refine R_iconst e_X12_disputed_1.2.2.2.2.1 ?_
  refine R_iald 3598 e_X12_disputed_1.2.2.2.2.2.1 kma_1 (by decide) ?_
  obtain ⟨q6, h⟩ := h
  obtain ⟨q7, h⟩ := h
  refine R_icmp_ge 76 e_X12_disputed_1.2.2.2.2.2.2.1 (by decide) q6 q7 (fun q => ?_) (fun q => ?_)
  · replace h := h.1 q
    refine R_aload_n e_X12_disputed_4.2.2.2.1 0 rfl ?_
    refine R_iload_n e_X12_disputed_4.2.2.2.2.1 2 rfl ?_
    refine R_callV (mc := 0) (ms := 0) (mc' := 0) (ms' := 0) (M' := M_X12_gives) (d' := 0) (as := [vI l2]) (st := []) 12 1 e_X12_disputed_4.2.2.2.2.2.1 (kCVof m_X12_gives l_X12_97) rfl (by decide) km_0 (by decide) (by decide) rfl rfl (by show (0 : Nat) ≤ 8; decide) ?_
    refine Run.mono h (fun r8 s9 h => ?_)
    refine R_eqs (st2 := [vI r8]) rfl rfl ?_
    exact R_ireturn e_X12_disputed_4.2.2.2.2.2.2 rfl h
  · replace h := h.2 q
    refine R_iconst e_X12_disputed_1.2.2.2.2.2.2.2.1 ?_
    refine R_istore (ls2 := [(4, vI 0), (0, vA G 0), (1, vI l1), (2, vI l2), (3, vI l3)]) e_X12_disputed_1.2.2.2.2.2.2.2.2.1 (by decide) rfl ?_
    refine R_ls (ls2 := [(0, vA G 0), (1, vI l1), (2, vI l2), (3, vI l3), (4, vI 0)]) [1, 2, 3, 4, 0] rfl ?_
    exact h
theorem S_X12_disputed_30 {G : Kg} {σ : Kmem} {Q : Int → Kmem → Prop} {l1 l2 l3 l4 : Int}  (h : (rI l4) ∧ (rI (σ 1 1)) ∧ ((σ 1 1 ≤ l4 → E_X12_disputed_17 G l1 l2 (l3 + 1) σ Q) ∧ (l4 < σ 1 1 → Run G WM M_X12_shadersOf 5 0 0 [vA G 0, vI l3, vI l4, vI l1] σ (fun r12 s13 => Run G WM M_X12_bits 0 0 0 [vI r12] s13 (fun r14 s15 => (rI r14) ∧ ((r14 ≤ 1 → E_X12_disputed_30 G l1 (l2 + 0) l3 (l4 + 1) s15 Q) ∧ (1 < r14 → E_X12_disputed_30 G l1 (l2 + 1) l3 (l4 + 1) s15 Q))))))) : E_X12_disputed_30 G l1 l2 l3 l4 σ Q := by
  refine R_iload e_X12_disputed_1.2.2.2.2.2.2.2.2.2 4 rfl ?_
  refine R_aload_n e_X12_disputed_2.1 0 rfl ?_
  refine R_getA 12 0 1 e_X12_disputed_2.2.1 f_X12_7 km_0 (fun _ _ => rfl) rm_0_0 (by decide) ?_
  refine R_iconst e_X12_disputed_2.2.2.1 ?_
  refine R_iald 3598 e_X12_disputed_2.2.2.2.1 kma_1 (by decide) ?_
  obtain ⟨q10, h⟩ := h
  obtain ⟨q11, h⟩ := h
  refine R_icmp_ge 70 e_X12_disputed_2.2.2.2.2.1 (by decide) q10 q11 (fun q => ?_) (fun q => ?_)
  · replace h := h.1 q
    refine R_iinc (ls2 := [(3, vI (l3 + 1)), (0, vA G 0), (1, vI l1), (2, vI l2), (4, vI l4)]) e_X12_disputed_4.2.1 3 rfl (by decide) rfl ?_
    refine R_goto 17 e_X12_disputed_4.2.2.1 (by decide) ?_
    refine R_ls (ls2 := [(0, vA G 0), (1, vI l1), (2, vI l2), (3, vI (l3 + 1))]) [1, 2, 3, 0] rfl ?_
    exact h
  · replace h := h.2 q
    refine R_iload_n e_X12_disputed_2.2.2.2.2.2.1 2 rfl ?_
    refine R_aload_n e_X12_disputed_2.2.2.2.2.2.2.1 0 rfl ?_
    refine R_iload_n e_X12_disputed_2.2.2.2.2.2.2.2.1 3 rfl ?_
    refine R_iload e_X12_disputed_2.2.2.2.2.2.2.2.2.1 4 rfl ?_
    refine R_iload_n e_X12_disputed_2.2.2.2.2.2.2.2.2.2 1 rfl ?_
    refine R_callV (mc := 0) (ms := 0) (mc' := 0) (ms' := 0) (M' := M_X12_shadersOf) (d' := 5) (as := [vI l3, vI l4, vI l1]) (st := [vI l2]) 12 3 e_X12_disputed_3.1 (kCVof m_X12_shadersOf l_X12_305) rfl (by decide) km_0 (by decide) (by decide) rfl rfl (by show (1 : Nat) ≤ 8; decide) ?_
    refine Run.mono h (fun r12 s13 h => ?_)
    refine R_eqs (st2 := [vI r12, vI l2]) rfl rfl ?_
    refine R_callS (mc := 0) (ms := 0) (mc' := 0) (ms' := 0) (M' := M_X12_bits) (d' := 0) (as := [vI r12]) (st := [vI l2]) 1 e_X12_disputed_3.2.1 (kCSof m_X12_bits l_X12_302) (by decide) (by decide) rfl rfl (by show (1 : Nat) ≤ 8; decide) ?_
    refine Run.mono h (fun r14 s15 h => ?_)
    refine R_eqs (st2 := [vI r14, vI l2]) rfl rfl ?_
    refine R_iconst e_X12_disputed_3.2.2.1 ?_
    obtain ⟨q16, h⟩ := h
    refine R_icmp_le 61 e_X12_disputed_3.2.2.2.1 (by decide) q16 (by decide) (fun q => ?_) (fun q => ?_)
    · replace h := h.1 q
      refine R_iconst e_X12_disputed_3.2.2.2.2.2.2.1 ?_
      refine R_iadd e_X12_disputed_3.2.2.2.2.2.2.2.1 ?_
      refine R_istore_n (ls2 := [(2, vI (l2 + 0)), (0, vA G 0), (1, vI l1), (3, vI l3), (4, vI l4)]) e_X12_disputed_3.2.2.2.2.2.2.2.2.1 (by decide) rfl ?_
      refine R_iinc (ls2 := [(4, vI (l4 + 1)), (2, vI (l2 + 0)), (0, vA G 0), (1, vI l1), (3, vI l3)]) e_X12_disputed_3.2.2.2.2.2.2.2.2.2 4 rfl (by decide) rfl ?_
      refine R_goto 30 e_X12_disputed_4.1 (by decide) ?_
      refine R_ls (ls2 := [(0, vA G 0), (1, vI l1), (2, vI (l2 + 0)), (3, vI l3), (4, vI (l4 + 1))]) [2, 3, 1, 4, 0] rfl ?_
      exact h
    · replace h := h.2 q
      refine R_iconst e_X12_disputed_3.2.2.2.2.1 ?_
      refine R_goto 62 e_X12_disputed_3.2.2.2.2.2.1 (by decide) ?_
      refine R_iadd e_X12_disputed_3.2.2.2.2.2.2.2.1 ?_
      refine R_istore_n (ls2 := [(2, vI (l2 + 1)), (0, vA G 0), (1, vI l1), (3, vI l3), (4, vI l4)]) e_X12_disputed_3.2.2.2.2.2.2.2.2.1 (by decide) rfl ?_
      refine R_iinc (ls2 := [(4, vI (l4 + 1)), (2, vI (l2 + 1)), (0, vA G 0), (1, vI l1), (3, vI l3)]) e_X12_disputed_3.2.2.2.2.2.2.2.2.2 4 rfl (by decide) rfl ?_
      refine R_goto 30 e_X12_disputed_4.1 (by decide) ?_
      refine R_ls (ls2 := [(0, vA G 0), (1, vI l1), (2, vI (l2 + 1)), (3, vI l3), (4, vI (l4 + 1))]) [2, 3, 1, 4, 0] rfl ?_
      exact h
/-! KiteLandModel.areTwo(II)Z -/
theorem e_X12_areTwo_0 : decode cX12_areTwo 0 = .ok (.aload_n 0, 1) ∧ decode cX12_areTwo 1 = .ok (.iload_n 1, 1) ∧ decode cX12_areTwo 2 = .ok (.invokevirtual 343, 3) ∧ decode cX12_areTwo 5 = .ok (.ifCond .eq 20, 3) ∧ decode cX12_areTwo 8 = .ok (.aload_n 0, 1) ∧ decode cX12_areTwo 9 = .ok (.iload_n 2, 1) ∧ decode cX12_areTwo 10 = .ok (.invokevirtual 343, 3) ∧ decode cX12_areTwo 13 = .ok (.ifCond .eq 12, 3) ∧ decode cX12_areTwo 16 = .ok (.iload_n 1, 1) ∧ decode cX12_areTwo 17 = .ok (.iload_n 2, 1) := by decide +kernel
theorem e_X12_areTwo_1 : decode cX12_areTwo 18 = .ok (.if_icmp .eq 7, 3) ∧ decode cX12_areTwo 21 = .ok (.iconst 1, 1) ∧ decode cX12_areTwo 22 = .ok (.goto 4, 3) ∧ decode cX12_areTwo 25 = .ok (.iconst 0, 1) ∧ decode cX12_areTwo 26 = .ok (.ireturn, 1) := by decide +kernel
theorem S_X12_areTwo {G : Kg} {σ : Kmem} {Q : Int → Kmem → Prop} {l1 l2 : Int}  (h : Run G WM M_X12_isKite 0 0 0 [vA G 0, vI l1] σ (fun r1 s2 => (rI r1) ∧ ((r1 = 0 → Q 0 s2) ∧ (r1 ≠ 0 → Run G WM M_X12_isKite 0 0 0 [vA G 0, vI l2] s2 (fun r4 s5 => (rI r4) ∧ ((r4 = 0 → Q 0 s5) ∧ (r4 ≠ 0 → (rI l1) ∧ (rI l2) ∧ ((l1 = l2 → Q 0 s5) ∧ (l1 ≠ l2 → Q 1 s5))))))))) : Run G WM M_X12_areTwo 1 0 0 [vA G 0, vI l1, vI l2] σ Q := by
  refine Run.of (by decide +kernel) (by show (3 : Nat) ≤ 3; decide) ?_
  show Ex G WM M_X12_areTwo 1 0 0 0 [(0, vA G 0), (1, vI l1), (2, vI l2)] [] σ Q
  refine R_aload_n e_X12_areTwo_0.1 0 rfl ?_
  refine R_iload_n e_X12_areTwo_0.2.1 1 rfl ?_
  refine R_callV (mc := 0) (ms := 0) (mc' := 0) (ms' := 0) (M' := M_X12_isKite) (d' := 0) (as := [vI l1]) (st := []) 12 1 e_X12_areTwo_0.2.2.1 (kCVof m_X12_isKite l_X12_343) rfl (by decide) km_0 (by decide) (by decide) rfl rfl (by show (0 : Nat) ≤ 8; decide) ?_
  refine Run.mono h (fun r1 s2 h => ?_)
  refine R_eqs (st2 := [vI r1]) rfl rfl ?_
  obtain ⟨q3, h⟩ := h
  refine R_if_eq 25 e_X12_areTwo_0.2.2.2.1 (by decide) q3  (fun q => ?_) (fun q => ?_)
  · replace h := h.1 q
    refine R_iconst e_X12_areTwo_1.2.2.2.1 ?_
    exact R_zreturn e_X12_areTwo_1.2.2.2.2 rfl (Or.inl rfl) h
  · replace h := h.2 q
    refine R_aload_n e_X12_areTwo_0.2.2.2.2.1 0 rfl ?_
    refine R_iload_n e_X12_areTwo_0.2.2.2.2.2.1 2 rfl ?_
    refine R_callV (mc := 0) (ms := 0) (mc' := 0) (ms' := 0) (M' := M_X12_isKite) (d' := 0) (as := [vI l2]) (st := []) 12 1 e_X12_areTwo_0.2.2.2.2.2.2.1 (kCVof m_X12_isKite l_X12_343) rfl (by decide) km_0 (by decide) (by decide) rfl rfl (by show (0 : Nat) ≤ 8; decide) ?_
    refine Run.mono h (fun r4 s5 h => ?_)
    refine R_eqs (st2 := [vI r4]) rfl rfl ?_
    obtain ⟨q6, h⟩ := h
    refine R_if_eq 25 e_X12_areTwo_0.2.2.2.2.2.2.2.1 (by decide) q6  (fun q => ?_) (fun q => ?_)
    · replace h := h.1 q
      refine R_iconst e_X12_areTwo_1.2.2.2.1 ?_
      exact R_zreturn e_X12_areTwo_1.2.2.2.2 rfl (Or.inl rfl) h
    · replace h := h.2 q
      refine R_iload_n e_X12_areTwo_0.2.2.2.2.2.2.2.2.1 1 rfl ?_
      refine R_iload_n e_X12_areTwo_0.2.2.2.2.2.2.2.2.2 2 rfl ?_
      obtain ⟨q7, h⟩ := h
      obtain ⟨q8, h⟩ := h
      refine R_icmp_eq 25 e_X12_areTwo_1.1 (by decide) q7 q8 (fun q => ?_) (fun q => ?_)
      · replace h := h.1 q
        refine R_iconst e_X12_areTwo_1.2.2.2.1 ?_
        exact R_zreturn e_X12_areTwo_1.2.2.2.2 rfl (Or.inl rfl) h
      · replace h := h.2 q
        refine R_iconst e_X12_areTwo_1.2.1 ?_
        refine R_goto 26 e_X12_areTwo_1.2.2.1 (by decide) ?_
        exact R_zreturn e_X12_areTwo_1.2.2.2.2 rfl (Or.inr rfl) h
/-! KiteLandModel.crosses(III)I -/
theorem e_X12_crosses_0 : decode cX12_crosses 0 = .ok (.aload_n 0, 1) ∧ decode cX12_crosses 1 = .ok (.iload_n 1, 1) ∧ decode cX12_crosses 2 = .ok (.iload_n 2, 1) ∧ decode cX12_crosses 3 = .ok (.invokevirtual 364, 3) ∧ decode cX12_crosses 6 = .ok (.ifCond .eq 32, 3) ∧ decode cX12_crosses 9 = .ok (.iload_n 3, 1) ∧ decode cX12_crosses 10 = .ok (.invokestatic 340, 3) ∧ decode cX12_crosses 13 = .ok (.ifCond .eq 25, 3) ∧ decode cX12_crosses 16 = .ok (.aload_n 0, 1) ∧ decode cX12_crosses 17 = .ok (.aload_n 0, 1) := by decide +kernel
theorem e_X12_crosses_1 : decode cX12_crosses 18 = .ok (.iload_n 1, 1) ∧ decode cX12_crosses 19 = .ok (.iload_n 2, 1) ∧ decode cX12_crosses 20 = .ok (.iload_n 3, 1) ∧ decode cX12_crosses 21 = .ok (.invokevirtual 328, 3) ∧ decode cX12_crosses 24 = .ok (.ifCond .eq 7, 3) ∧ decode cX12_crosses 27 = .ok (.iconst 1, 1) ∧ decode cX12_crosses 28 = .ok (.goto 4, 3) ∧ decode cX12_crosses 31 = .ok (.iconst 0, 1) ∧ decode cX12_crosses 32 = .ok (.invokevirtual 97, 3) ∧ decode cX12_crosses 35 = .ok (.goto 8, 3) := by decide +kernel
theorem e_X12_crosses_2 : decode cX12_crosses 38 = .ok (.aload_n 0, 1) ∧ decode cX12_crosses 39 = .ok (.iconst 1, 1) ∧ decode cX12_crosses 40 = .ok (.invokevirtual 93, 3) ∧ decode cX12_crosses 43 = .ok (.ireturn, 1) := by decide +kernel
theorem S_X12_crosses {G : Kg} {σ : Kmem} {Q : Int → Kmem → Prop} {l1 l2 l3 : Int}  (h : Run G WM M_X12_areTwo 1 0 0 [vA G 0, vI l1, vI l2] σ (fun r1 s2 => (rI r1) ∧ ((r1 = 0 → Run G WM M_X12_refuse 0 0 0 [vA G 0, vI 1] s2 (fun r4 s5 => Q r4 s5)) ∧ (r1 ≠ 0 → Run G WM M_X12_isHour 0 0 0 [vI l3] s2 (fun r6 s7 => (rI r6) ∧ ((r6 = 0 → Run G WM M_X12_refuse 0 0 0 [vA G 0, vI 1] s7 (fun r9 s10 => Q r9 s10)) ∧ (r6 ≠ 0 → Run G WM M_X12_doCross 5 0 0 [vA G 0, vI l1, vI l2, vI l3] s7 (fun r11 s12 => (rI r11) ∧ ((r11 = 0 → Run G WM M_X12_gives 0 0 0 [vA G 0, vI 0] s12 (fun r14 s15 => Q r14 s15)) ∧ (r11 ≠ 0 → Run G WM M_X12_gives 0 0 0 [vA G 0, vI 1] s12 (fun r16 s17 => Q r16 s17))))))))))) : Run G WM M_X12_crosses 6 0 0 [vA G 0, vI l1, vI l2, vI l3] σ Q := by
  refine Run.of (by decide +kernel) (by show (4 : Nat) ≤ 4; decide) ?_
  show Ex G WM M_X12_crosses 6 0 0 0 [(0, vA G 0), (1, vI l1), (2, vI l2), (3, vI l3)] [] σ Q
  refine R_aload_n e_X12_crosses_0.1 0 rfl ?_
  refine R_iload_n e_X12_crosses_0.2.1 1 rfl ?_
  refine R_iload_n e_X12_crosses_0.2.2.1 2 rfl ?_
  refine R_callV (mc := 0) (ms := 0) (mc' := 0) (ms' := 0) (M' := M_X12_areTwo) (d' := 1) (as := [vI l1, vI l2]) (st := []) 12 2 e_X12_crosses_0.2.2.2.1 (kCVof m_X12_areTwo l_X12_364) rfl (by decide) km_0 (by decide) (by decide) rfl rfl (by show (0 : Nat) ≤ 8; decide) ?_
  refine Run.mono h (fun r1 s2 h => ?_)
  refine R_eqs (st2 := [vI r1]) rfl rfl ?_
  obtain ⟨q3, h⟩ := h
  refine R_if_eq 38 e_X12_crosses_0.2.2.2.2.1 (by decide) q3  (fun q => ?_) (fun q => ?_)
  · replace h := h.1 q
    refine R_aload_n e_X12_crosses_2.1 0 rfl ?_
    refine R_iconst e_X12_crosses_2.2.1 ?_
    refine R_callV (mc := 0) (ms := 0) (mc' := 0) (ms' := 0) (M' := M_X12_refuse) (d' := 0) (as := [vI 1]) (st := []) 12 1 e_X12_crosses_2.2.2.1 (kCVof m_X12_refuse l_X12_93) rfl (by decide) km_0 (by decide) (by decide) rfl rfl (by show (0 : Nat) ≤ 8; decide) ?_
    refine Run.mono h (fun r4 s5 h => ?_)
    refine R_eqs (st2 := [vI r4]) rfl rfl ?_
    exact R_ireturn e_X12_crosses_2.2.2.2 rfl h
  · replace h := h.2 q
    refine R_iload_n e_X12_crosses_0.2.2.2.2.2.1 3 rfl ?_
    refine R_callS (mc := 0) (ms := 0) (mc' := 0) (ms' := 0) (M' := M_X12_isHour) (d' := 0) (as := [vI l3]) (st := []) 1 e_X12_crosses_0.2.2.2.2.2.2.1 (kCSof m_X12_isHour l_X12_340) (by decide) (by decide) rfl rfl (by show (0 : Nat) ≤ 8; decide) ?_
    refine Run.mono h (fun r6 s7 h => ?_)
    refine R_eqs (st2 := [vI r6]) rfl rfl ?_
    obtain ⟨q8, h⟩ := h
    refine R_if_eq 38 e_X12_crosses_0.2.2.2.2.2.2.2.1 (by decide) q8  (fun q => ?_) (fun q => ?_)
    · replace h := h.1 q
      refine R_aload_n e_X12_crosses_2.1 0 rfl ?_
      refine R_iconst e_X12_crosses_2.2.1 ?_
      refine R_callV (mc := 0) (ms := 0) (mc' := 0) (ms' := 0) (M' := M_X12_refuse) (d' := 0) (as := [vI 1]) (st := []) 12 1 e_X12_crosses_2.2.2.1 (kCVof m_X12_refuse l_X12_93) rfl (by decide) km_0 (by decide) (by decide) rfl rfl (by show (0 : Nat) ≤ 8; decide) ?_
      refine Run.mono h (fun r9 s10 h => ?_)
      refine R_eqs (st2 := [vI r9]) rfl rfl ?_
      exact R_ireturn e_X12_crosses_2.2.2.2 rfl h
    · replace h := h.2 q
      refine R_aload_n e_X12_crosses_0.2.2.2.2.2.2.2.2.1 0 rfl ?_
      refine R_aload_n e_X12_crosses_0.2.2.2.2.2.2.2.2.2 0 rfl ?_
      refine R_iload_n e_X12_crosses_1.1 1 rfl ?_
      refine R_iload_n e_X12_crosses_1.2.1 2 rfl ?_
      refine R_iload_n e_X12_crosses_1.2.2.1 3 rfl ?_
      refine R_callV (mc := 0) (ms := 0) (mc' := 0) (ms' := 0) (M' := M_X12_doCross) (d' := 5) (as := [vI l1, vI l2, vI l3]) (st := [vA G 0]) 12 3 e_X12_crosses_1.2.2.2.1 (kCVof m_X12_doCross l_X12_328) rfl (by decide) km_0 (by decide) (by decide) rfl rfl (by show (1 : Nat) ≤ 8; decide) ?_
      refine Run.mono h (fun r11 s12 h => ?_)
      refine R_eqs (st2 := [vI r11, vA G 0]) rfl rfl ?_
      obtain ⟨q13, h⟩ := h
      refine R_if_eq 31 e_X12_crosses_1.2.2.2.2.1 (by decide) q13  (fun q => ?_) (fun q => ?_)
      · replace h := h.1 q
        refine R_iconst e_X12_crosses_1.2.2.2.2.2.2.2.1 ?_
        refine R_callV (mc := 0) (ms := 0) (mc' := 0) (ms' := 0) (M' := M_X12_gives) (d' := 0) (as := [vI 0]) (st := []) 12 1 e_X12_crosses_1.2.2.2.2.2.2.2.2.1 (kCVof m_X12_gives l_X12_97) rfl (by decide) km_0 (by decide) (by decide) rfl rfl (by show (0 : Nat) ≤ 8; decide) ?_
        refine Run.mono h (fun r14 s15 h => ?_)
        refine R_eqs (st2 := [vI r14]) rfl rfl ?_
        refine R_goto 43 e_X12_crosses_1.2.2.2.2.2.2.2.2.2 (by decide) ?_
        exact R_ireturn e_X12_crosses_2.2.2.2 rfl h
      · replace h := h.2 q
        refine R_iconst e_X12_crosses_1.2.2.2.2.2.1 ?_
        refine R_goto 32 e_X12_crosses_1.2.2.2.2.2.2.1 (by decide) ?_
        refine R_callV (mc := 0) (ms := 0) (mc' := 0) (ms' := 0) (M' := M_X12_gives) (d' := 0) (as := [vI 1]) (st := []) 12 1 e_X12_crosses_1.2.2.2.2.2.2.2.2.1 (kCVof m_X12_gives l_X12_97) rfl (by decide) km_0 (by decide) (by decide) rfl rfl (by show (0 : Nat) ≤ 8; decide) ?_
        refine Run.mono h (fun r16 s17 h => ?_)
        refine R_eqs (st2 := [vI r16]) rfl rfl ?_
        refine R_goto 43 e_X12_crosses_1.2.2.2.2.2.2.2.2.2 (by decide) ?_
        exact R_ireturn e_X12_crosses_2.2.2.2 rfl h
/-! KiteLandModel.doomed()I -/
theorem e_X12_doomed_0 : decode cX12_doomed 0 = .ok (.aload_n 0, 1) ∧ decode cX12_doomed 1 = .ok (.aload_n 0, 1) ∧ decode cX12_doomed 2 = .ok (.invokevirtual 367, 3) ∧ decode cX12_doomed 5 = .ok (.invokevirtual 97, 3) ∧ decode cX12_doomed 8 = .ok (.ireturn, 1) := by decide +kernel
theorem S_X12_doomed {G : Kg} {σ : Kmem} {Q : Int → Kmem → Prop}  (h : Run G WM M_X12_doomedNow 6 0 0 [vA G 0] σ (fun r1 s2 => Run G WM M_X12_gives 0 0 0 [vA G 0, vI r1] s2 (fun r3 s4 => Q r3 s4))) : Run G WM M_X12_doomed 7 0 0 [vA G 0] σ Q := by
  refine Run.of (by decide +kernel) (by show (1 : Nat) ≤ 1; decide) ?_
  show Ex G WM M_X12_doomed 7 0 0 0 [(0, vA G 0)] [] σ Q
  refine R_aload_n e_X12_doomed_0.1 0 rfl ?_
  refine R_aload_n e_X12_doomed_0.2.1 0 rfl ?_
  refine R_callV (mc := 0) (ms := 0) (mc' := 0) (ms' := 0) (M' := M_X12_doomedNow) (d' := 6) (as := []) (st := [vA G 0]) 12 0 e_X12_doomed_0.2.2.1 (kCVof m_X12_doomedNow l_X12_367) rfl (by decide) km_0 (by decide) (by decide) rfl rfl (by show (1 : Nat) ≤ 8; decide) ?_
  refine Run.mono h (fun r1 s2 h => ?_)
  refine R_eqs (st2 := [vI r1, vA G 0]) rfl rfl ?_
  refine R_callV (mc := 0) (ms := 0) (mc' := 0) (ms' := 0) (M' := M_X12_gives) (d' := 0) (as := [vI r1]) (st := []) 12 1 e_X12_doomed_0.2.2.2.1 (kCVof m_X12_gives l_X12_97) rfl (by decide) km_0 (by decide) (by decide) rfl rfl (by show (0 : Nat) ≤ 8; decide) ?_
  refine Run.mono h (fun r3 s4 h => ?_)
  refine R_eqs (st2 := [vI r3]) rfl rfl ?_
  exact R_ireturn e_X12_doomed_0.2.2.2.2 rfl h
/-! KiteLandModel.lulls(I)I -/
theorem e_X12_lulls_0 : decode cX12_lulls 0 = .ok (.aload_n 0, 1) ∧ decode cX12_lulls 1 = .ok (.iload_n 1, 1) ∧ decode cX12_lulls 2 = .ok (.invokevirtual 343, 3) ∧ decode cX12_lulls 5 = .ok (.ifCond .ne 9, 3) ∧ decode cX12_lulls 8 = .ok (.aload_n 0, 1) ∧ decode cX12_lulls 9 = .ok (.iconst 1, 1) ∧ decode cX12_lulls 10 = .ok (.invokevirtual 93, 3) ∧ decode cX12_lulls 13 = .ok (.ireturn, 1) ∧ decode cX12_lulls 14 = .ok (.iconst 0, 1) ∧ decode cX12_lulls 15 = .ok (.istore_n 2, 1) := by decide +kernel
theorem e_X12_lulls_1 : decode cX12_lulls 16 = .ok (.iconst 0, 1) ∧ decode cX12_lulls 17 = .ok (.istore_n 3, 1) ∧ decode cX12_lulls 18 = .ok (.iload_n 3, 1) ∧ decode cX12_lulls 19 = .ok (.bipush 12, 2) ∧ decode cX12_lulls 21 = .ok (.if_icmp .ge 28, 3) ∧ decode cX12_lulls 24 = .ok (.iload_n 2, 1) ∧ decode cX12_lulls 25 = .ok (.aload_n 0, 1) ∧ decode cX12_lulls 26 = .ok (.iload_n 1, 1) ∧ decode cX12_lulls 27 = .ok (.iload_n 3, 1) ∧ decode cX12_lulls 28 = .ok (.invokevirtual 274, 3) := by decide +kernel
theorem e_X12_lulls_2 : decode cX12_lulls 31 = .ok (.ifCond .eq 7, 3) ∧ decode cX12_lulls 34 = .ok (.iconst 0, 1) ∧ decode cX12_lulls 35 = .ok (.goto 6, 3) ∧ decode cX12_lulls 38 = .ok (.iconst 1, 1) ∧ decode cX12_lulls 39 = .ok (.iload_n 3, 1) ∧ decode cX12_lulls 40 = .ok (.ishl, 1) ∧ decode cX12_lulls 41 = .ok (.ior, 1) ∧ decode cX12_lulls 42 = .ok (.istore_n 2, 1) ∧ decode cX12_lulls 43 = .ok (.iinc 3 1, 3) ∧ decode cX12_lulls 46 = .ok (.goto (-28), 3) := by decide +kernel
theorem e_X12_lulls_3 : decode cX12_lulls 49 = .ok (.aload_n 0, 1) ∧ decode cX12_lulls 50 = .ok (.iload_n 2, 1) ∧ decode cX12_lulls 51 = .ok (.invokevirtual 97, 3) ∧ decode cX12_lulls 54 = .ok (.ireturn, 1) := by decide +kernel
abbrev E_X12_lulls_18 (G : Kg) (l1 l2 l3 : Int) (σ : Kmem) (Q : Int → Kmem → Prop) : Prop := Ex G WM M_X12_lulls 3 0 0 18 [(0, vA G 0), (1, vI l1), (2, vI l2), (3, vI l3)] [] σ Q
theorem S_X12_lulls {G : Kg} {σ : Kmem} {Q : Int → Kmem → Prop} {l1 : Int}  (h : Run G WM M_X12_isKite 0 0 0 [vA G 0, vI l1] σ (fun r1 s2 => (rI r1) ∧ ((r1 ≠ 0 → E_X12_lulls_18 G l1 0 0 s2 Q) ∧ (r1 = 0 → Run G WM M_X12_refuse 0 0 0 [vA G 0, vI 1] s2 (fun r4 s5 => Q r4 s5))))) : Run G WM M_X12_lulls 3 0 0 [vA G 0, vI l1] σ Q := by
  refine Run.of (by decide +kernel) (by show (2 : Nat) ≤ 4; decide) ?_
  show Ex G WM M_X12_lulls 3 0 0 0 [(0, vA G 0), (1, vI l1)] [] σ Q
  refine R_aload_n e_X12_lulls_0.1 0 rfl ?_
  refine R_iload_n e_X12_lulls_0.2.1 1 rfl ?_
  refine R_callV (mc := 0) (ms := 0) (mc' := 0) (ms' := 0) (M' := M_X12_isKite) (d' := 0) (as := [vI l1]) (st := []) 12 1 e_X12_lulls_0.2.2.1 (kCVof m_X12_isKite l_X12_343) rfl (by decide) km_0 (by decide) (by decide) rfl rfl (by show (0 : Nat) ≤ 8; decide) ?_
  refine Run.mono h (fun r1 s2 h => ?_)
  refine R_eqs (st2 := [vI r1]) rfl rfl ?_
  obtain ⟨q3, h⟩ := h
  refine R_if_ne 14 e_X12_lulls_0.2.2.2.1 (by decide) q3  (fun q => ?_) (fun q => ?_)
  · replace h := h.1 q
    refine R_iconst e_X12_lulls_0.2.2.2.2.2.2.2.2.1 ?_
    refine R_istore_n (ls2 := [(2, vI 0), (0, vA G 0), (1, vI l1)]) e_X12_lulls_0.2.2.2.2.2.2.2.2.2 (by decide) rfl ?_
    refine R_iconst e_X12_lulls_1.1 ?_
    refine R_istore_n (ls2 := [(3, vI 0), (2, vI 0), (0, vA G 0), (1, vI l1)]) e_X12_lulls_1.2.1 (by decide) rfl ?_
    refine R_ls (ls2 := [(0, vA G 0), (1, vI l1), (2, vI 0), (3, vI 0)]) [2, 3, 1, 0] rfl ?_
    exact h
  · replace h := h.2 q
    refine R_aload_n e_X12_lulls_0.2.2.2.2.1 0 rfl ?_
    refine R_iconst e_X12_lulls_0.2.2.2.2.2.1 ?_
    refine R_callV (mc := 0) (ms := 0) (mc' := 0) (ms' := 0) (M' := M_X12_refuse) (d' := 0) (as := [vI 1]) (st := []) 12 1 e_X12_lulls_0.2.2.2.2.2.2.1 (kCVof m_X12_refuse l_X12_93) rfl (by decide) km_0 (by decide) (by decide) rfl rfl (by show (0 : Nat) ≤ 8; decide) ?_
    refine Run.mono h (fun r4 s5 h => ?_)
    refine R_eqs (st2 := [vI r4]) rfl rfl ?_
    exact R_ireturn e_X12_lulls_0.2.2.2.2.2.2.2.1 rfl h
theorem S_X12_lulls_18 {G : Kg} {σ : Kmem} {Q : Int → Kmem → Prop} {l1 l2 l3 : Int}  (h : (rI l3) ∧ ((12 ≤ l3 → Run G WM M_X12_gives 0 0 0 [vA G 0, vI l2] σ (fun r7 s8 => Q r7 s8)) ∧ (l3 < 12 → Run G WM M_X12_isBorne 2 0 0 [vA G 0, vI l1, vI l3] σ (fun r9 s10 => (rI r9) ∧ ((r9 = 0 → E_X12_lulls_18 G l1 (kor l2 (kshl 1 l3)) (l3 + 1) s10 Q) ∧ (r9 ≠ 0 → E_X12_lulls_18 G l1 (kor l2 0) (l3 + 1) s10 Q)))))) : E_X12_lulls_18 G l1 l2 l3 σ Q := by
  refine R_iload_n e_X12_lulls_1.2.2.1 3 rfl ?_
  refine R_bipush e_X12_lulls_1.2.2.2.1 (by decide) ?_
  obtain ⟨q6, h⟩ := h
  refine R_icmp_ge 49 e_X12_lulls_1.2.2.2.2.1 (by decide) q6 (by decide) (fun q => ?_) (fun q => ?_)
  · replace h := h.1 q
    refine R_aload_n e_X12_lulls_3.1 0 rfl ?_
    refine R_iload_n e_X12_lulls_3.2.1 2 rfl ?_
    refine R_callV (mc := 0) (ms := 0) (mc' := 0) (ms' := 0) (M' := M_X12_gives) (d' := 0) (as := [vI l2]) (st := []) 12 1 e_X12_lulls_3.2.2.1 (kCVof m_X12_gives l_X12_97) rfl (by decide) km_0 (by decide) (by decide) rfl rfl (by show (0 : Nat) ≤ 8; decide) ?_
    refine Run.mono h (fun r7 s8 h => ?_)
    refine R_eqs (st2 := [vI r7]) rfl rfl ?_
    exact R_ireturn e_X12_lulls_3.2.2.2 rfl h
  · replace h := h.2 q
    refine R_iload_n e_X12_lulls_1.2.2.2.2.2.1 2 rfl ?_
    refine R_aload_n e_X12_lulls_1.2.2.2.2.2.2.1 0 rfl ?_
    refine R_iload_n e_X12_lulls_1.2.2.2.2.2.2.2.1 1 rfl ?_
    refine R_iload_n e_X12_lulls_1.2.2.2.2.2.2.2.2.1 3 rfl ?_
    refine R_callV (mc := 0) (ms := 0) (mc' := 0) (ms' := 0) (M' := M_X12_isBorne) (d' := 2) (as := [vI l1, vI l3]) (st := [vI l2]) 12 2 e_X12_lulls_1.2.2.2.2.2.2.2.2.2 (kCVof m_X12_isBorne l_X12_274) rfl (by decide) km_0 (by decide) (by decide) rfl rfl (by show (1 : Nat) ≤ 8; decide) ?_
    refine Run.mono h (fun r9 s10 h => ?_)
    refine R_eqs (st2 := [vI r9, vI l2]) rfl rfl ?_
    obtain ⟨q11, h⟩ := h
    refine R_if_eq 38 e_X12_lulls_2.1 (by decide) q11  (fun q => ?_) (fun q => ?_)
    · replace h := h.1 q
      refine R_iconst e_X12_lulls_2.2.2.2.1 ?_
      refine R_iload_n e_X12_lulls_2.2.2.2.2.1 3 rfl ?_
      refine R_ishl e_X12_lulls_2.2.2.2.2.2.1 ?_
      refine R_ior e_X12_lulls_2.2.2.2.2.2.2.1 ?_
      refine R_istore_n (ls2 := [(2, vI (kor l2 (kshl 1 l3))), (0, vA G 0), (1, vI l1), (3, vI l3)]) e_X12_lulls_2.2.2.2.2.2.2.2.1 (by decide) rfl ?_
      refine R_iinc (ls2 := [(3, vI (l3 + 1)), (2, vI (kor l2 (kshl 1 l3))), (0, vA G 0), (1, vI l1)]) e_X12_lulls_2.2.2.2.2.2.2.2.2.1 3 rfl (by decide) rfl ?_
      refine R_goto 18 e_X12_lulls_2.2.2.2.2.2.2.2.2.2 (by decide) ?_
      refine R_ls (ls2 := [(0, vA G 0), (1, vI l1), (2, vI (kor l2 (kshl 1 l3))), (3, vI (l3 + 1))]) [2, 3, 1, 0] rfl ?_
      exact h
    · replace h := h.2 q
      refine R_iconst e_X12_lulls_2.2.1 ?_
      refine R_goto 41 e_X12_lulls_2.2.2.1 (by decide) ?_
      refine R_ior e_X12_lulls_2.2.2.2.2.2.2.1 ?_
      refine R_istore_n (ls2 := [(2, vI (kor l2 0)), (0, vA G 0), (1, vI l1), (3, vI l3)]) e_X12_lulls_2.2.2.2.2.2.2.2.1 (by decide) rfl ?_
      refine R_iinc (ls2 := [(3, vI (l3 + 1)), (2, vI (kor l2 0)), (0, vA G 0), (1, vI l1)]) e_X12_lulls_2.2.2.2.2.2.2.2.2.1 3 rfl (by decide) rfl ?_
      refine R_goto 18 e_X12_lulls_2.2.2.2.2.2.2.2.2.2 (by decide) ?_
      refine R_ls (ls2 := [(0, vA G 0), (1, vI l1), (2, vI (kor l2 0)), (3, vI (l3 + 1))]) [2, 3, 1, 0] rfl ?_
      exact h
/-! KiteLandModel.busiest()I -/
theorem e_X12_busiest_0 : decode cX12_busiest 0 = .ok (.iconst (-1), 1) ∧ decode cX12_busiest 1 = .ok (.istore_n 1, 1) ∧ decode cX12_busiest 2 = .ok (.iconst 0, 1) ∧ decode cX12_busiest 3 = .ok (.istore_n 2, 1) ∧ decode cX12_busiest 4 = .ok (.iload_n 2, 1) ∧ decode cX12_busiest 5 = .ok (.bipush 12, 2) ∧ decode cX12_busiest 7 = .ok (.if_icmp .ge 38, 3) ∧ decode cX12_busiest 10 = .ok (.aload_n 0, 1) ∧ decode cX12_busiest 11 = .ok (.invokevirtual 370, 3) ∧ decode cX12_busiest 14 = .ok (.ifCond .le 31, 3) := by decide +kernel
theorem e_X12_busiest_1 : decode cX12_busiest 17 = .ok (.iload_n 1, 1) ∧ decode cX12_busiest 18 = .ok (.iconst (-1), 1) ∧ decode cX12_busiest 19 = .ok (.if_icmp .eq 18, 3) ∧ decode cX12_busiest 22 = .ok (.aload_n 0, 1) ∧ decode cX12_busiest 23 = .ok (.iconst (-1), 1) ∧ decode cX12_busiest 24 = .ok (.iload_n 2, 1) ∧ decode cX12_busiest 25 = .ok (.invokevirtual 361, 3) ∧ decode cX12_busiest 28 = .ok (.aload_n 0, 1) ∧ decode cX12_busiest 29 = .ok (.iconst (-1), 1) ∧ decode cX12_busiest 30 = .ok (.iload_n 1, 1) := by decide +kernel
theorem e_X12_busiest_2 : decode cX12_busiest 31 = .ok (.invokevirtual 361, 3) ∧ decode cX12_busiest 34 = .ok (.if_icmp .ge 5, 3) ∧ decode cX12_busiest 37 = .ok (.iload_n 2, 1) ∧ decode cX12_busiest 38 = .ok (.istore_n 1, 1) ∧ decode cX12_busiest 39 = .ok (.iinc 2 1, 3) ∧ decode cX12_busiest 42 = .ok (.goto (-38), 3) ∧ decode cX12_busiest 45 = .ok (.aload_n 0, 1) ∧ decode cX12_busiest 46 = .ok (.iload_n 1, 1) ∧ decode cX12_busiest 47 = .ok (.invokevirtual 358, 3) ∧ decode cX12_busiest 50 = .ok (.ireturn, 1) := by decide +kernel
abbrev E_X12_busiest_4 (G : Kg) (l1 l2 : Int) (σ : Kmem) (Q : Int → Kmem → Prop) : Prop := Ex G WM M_X12_busiest 8 0 0 4 [(0, vA G 0), (1, vI l1), (2, vI l2)] [] σ Q
theorem S_X12_busiest {G : Kg} {σ : Kmem} {Q : Int → Kmem → Prop}  (h : E_X12_busiest_4 G (-1) 0 σ Q) : Run G WM M_X12_busiest 8 0 0 [vA G 0] σ Q := by
  refine Run.of (by decide +kernel) (by show (1 : Nat) ≤ 3; decide) ?_
  show Ex G WM M_X12_busiest 8 0 0 0 [(0, vA G 0)] [] σ Q
  refine R_iconst e_X12_busiest_0.1 ?_
  refine R_istore_n (ls2 := [(1, vI (-1)), (0, vA G 0)]) e_X12_busiest_0.2.1 (by decide) rfl ?_
  refine R_iconst e_X12_busiest_0.2.2.1 ?_
  refine R_istore_n (ls2 := [(2, vI 0), (1, vI (-1)), (0, vA G 0)]) e_X12_busiest_0.2.2.2.1 (by decide) rfl ?_
  refine R_ls (ls2 := [(0, vA G 0), (1, vI (-1)), (2, vI 0)]) [2, 1, 0] rfl ?_
  exact h
theorem S_X12_busiest_4 {G : Kg} {σ : Kmem} {Q : Int → Kmem → Prop} {l1 l2 : Int}  (h : (rI l2) ∧ ((12 ≤ l2 → Run G WM M_X12_orNone 1 0 0 [vA G 0, vI l1] σ (fun r2 s3 => Q r2 s3)) ∧ (l2 < 12 → Run G WM M_X12_fields 0 0 0 [vA G 0] σ (fun r4 s5 => (rI r4) ∧ ((r4 ≤ 0 → Run G WM M_X12_orNone 1 0 0 [vA G 0, vI l1] s5 (fun r7 s8 => Q r7 s8)) ∧ (0 < r4 → (rI l1) ∧ ((l1 = -1 → E_X12_busiest_4 G l2 (l2 + 1) s5 Q) ∧ (l1 ≠ -1 → Run G WM M_X12_estateOf 7 0 0 [vA G 0, vI (-1), vI l2] s5 (fun r10 s11 => Run G WM M_X12_estateOf 7 0 0 [vA G 0, vI (-1), vI l1] s11 (fun r12 s13 => (rI r10) ∧ (rI r12) ∧ ((r12 ≤ r10 → E_X12_busiest_4 G l1 (l2 + 1) s13 Q) ∧ (r10 < r12 → E_X12_busiest_4 G l2 (l2 + 1) s13 Q)))))))))))) : E_X12_busiest_4 G l1 l2 σ Q := by
  refine R_iload_n e_X12_busiest_0.2.2.2.2.1 2 rfl ?_
  refine R_bipush e_X12_busiest_0.2.2.2.2.2.1 (by decide) ?_
  obtain ⟨q1, h⟩ := h
  refine R_icmp_ge 45 e_X12_busiest_0.2.2.2.2.2.2.1 (by decide) q1 (by decide) (fun q => ?_) (fun q => ?_)
  · replace h := h.1 q
    refine R_aload_n e_X12_busiest_2.2.2.2.2.2.2.1 0 rfl ?_
    refine R_iload_n e_X12_busiest_2.2.2.2.2.2.2.2.1 1 rfl ?_
    refine R_callV (mc := 0) (ms := 0) (mc' := 0) (ms' := 0) (M' := M_X12_orNone) (d' := 1) (as := [vI l1]) (st := []) 12 1 e_X12_busiest_2.2.2.2.2.2.2.2.2.1 (kCVof m_X12_orNone l_X12_358) rfl (by decide) km_0 (by decide) (by decide) rfl rfl (by show (0 : Nat) ≤ 8; decide) ?_
    refine Run.mono h (fun r2 s3 h => ?_)
    refine R_eqs (st2 := [vI r2]) rfl rfl ?_
    exact R_ireturn e_X12_busiest_2.2.2.2.2.2.2.2.2.2 rfl h
  · replace h := h.2 q
    refine R_aload_n e_X12_busiest_0.2.2.2.2.2.2.2.1 0 rfl ?_
    refine R_callV (mc := 0) (ms := 0) (mc' := 0) (ms' := 0) (M' := M_X12_fields) (d' := 0) (as := []) (st := []) 12 0 e_X12_busiest_0.2.2.2.2.2.2.2.2.1 (kCVof m_X12_fields l_X12_370) rfl (by decide) km_0 (by decide) (by decide) rfl rfl (by show (0 : Nat) ≤ 8; decide) ?_
    refine Run.mono h (fun r4 s5 h => ?_)
    refine R_eqs (st2 := [vI r4]) rfl rfl ?_
    obtain ⟨q6, h⟩ := h
    refine R_if_le 45 e_X12_busiest_0.2.2.2.2.2.2.2.2.2 (by decide) q6  (fun q => ?_) (fun q => ?_)
    · replace h := h.1 q
      refine R_aload_n e_X12_busiest_2.2.2.2.2.2.2.1 0 rfl ?_
      refine R_iload_n e_X12_busiest_2.2.2.2.2.2.2.2.1 1 rfl ?_
      refine R_callV (mc := 0) (ms := 0) (mc' := 0) (ms' := 0) (M' := M_X12_orNone) (d' := 1) (as := [vI l1]) (st := []) 12 1 e_X12_busiest_2.2.2.2.2.2.2.2.2.1 (kCVof m_X12_orNone l_X12_358) rfl (by decide) km_0 (by decide) (by decide) rfl rfl (by show (0 : Nat) ≤ 8; decide) ?_
      refine Run.mono h (fun r7 s8 h => ?_)
      refine R_eqs (st2 := [vI r7]) rfl rfl ?_
      exact R_ireturn e_X12_busiest_2.2.2.2.2.2.2.2.2.2 rfl h
    · replace h := h.2 q
      refine R_iload_n e_X12_busiest_1.1 1 rfl ?_
      refine R_iconst e_X12_busiest_1.2.1 ?_
      obtain ⟨q9, h⟩ := h
      refine R_icmp_eq 37 e_X12_busiest_1.2.2.1 (by decide) q9 (by decide) (fun q => ?_) (fun q => ?_)
      · replace h := h.1 q
        refine R_iload_n e_X12_busiest_2.2.2.1 2 rfl ?_
        refine R_istore_n (ls2 := [(1, vI l2), (0, vA G 0), (2, vI l2)]) e_X12_busiest_2.2.2.2.1 (by decide) rfl ?_
        refine R_iinc (ls2 := [(2, vI (l2 + 1)), (1, vI l2), (0, vA G 0)]) e_X12_busiest_2.2.2.2.2.1 2 rfl (by decide) rfl ?_
        refine R_goto 4 e_X12_busiest_2.2.2.2.2.2.1 (by decide) ?_
        refine R_ls (ls2 := [(0, vA G 0), (1, vI l2), (2, vI (l2 + 1))]) [2, 1, 0] rfl ?_
        exact h
      · replace h := h.2 q
        refine R_aload_n e_X12_busiest_1.2.2.2.1 0 rfl ?_
        refine R_iconst e_X12_busiest_1.2.2.2.2.1 ?_
        refine R_iload_n e_X12_busiest_1.2.2.2.2.2.1 2 rfl ?_
        refine R_callV (mc := 0) (ms := 0) (mc' := 0) (ms' := 0) (M' := M_X12_estateOf) (d' := 7) (as := [vI (-1), vI l2]) (st := []) 12 2 e_X12_busiest_1.2.2.2.2.2.2.1 (kCVof m_X12_estateOf l_X12_361) rfl (by decide) km_0 (by decide) (by decide) rfl rfl (by show (0 : Nat) ≤ 8; decide) ?_
        refine Run.mono h (fun r10 s11 h => ?_)
        refine R_eqs (st2 := [vI r10]) rfl rfl ?_
        refine R_aload_n e_X12_busiest_1.2.2.2.2.2.2.2.1 0 rfl ?_
        refine R_iconst e_X12_busiest_1.2.2.2.2.2.2.2.2.1 ?_
        refine R_iload_n e_X12_busiest_1.2.2.2.2.2.2.2.2.2 1 rfl ?_
        refine R_callV (mc := 0) (ms := 0) (mc' := 0) (ms' := 0) (M' := M_X12_estateOf) (d' := 7) (as := [vI (-1), vI l1]) (st := [vI r10]) 12 2 e_X12_busiest_2.1 (kCVof m_X12_estateOf l_X12_361) rfl (by decide) km_0 (by decide) (by decide) rfl rfl (by show (1 : Nat) ≤ 8; decide) ?_
        refine Run.mono h (fun r12 s13 h => ?_)
        refine R_eqs (st2 := [vI r12, vI r10]) rfl rfl ?_
        obtain ⟨q14, h⟩ := h
        obtain ⟨q15, h⟩ := h
        refine R_icmp_ge 39 e_X12_busiest_2.2.1 (by decide) q14 q15 (fun q => ?_) (fun q => ?_)
        · replace h := h.1 q
          refine R_iinc (ls2 := [(2, vI (l2 + 1)), (0, vA G 0), (1, vI l1)]) e_X12_busiest_2.2.2.2.2.1 2 rfl (by decide) rfl ?_
          refine R_goto 4 e_X12_busiest_2.2.2.2.2.2.1 (by decide) ?_
          refine R_ls (ls2 := [(0, vA G 0), (1, vI l1), (2, vI (l2 + 1))]) [1, 2, 0] rfl ?_
          exact h
        · replace h := h.2 q
          refine R_iload_n e_X12_busiest_2.2.2.1 2 rfl ?_
          refine R_istore_n (ls2 := [(1, vI l2), (0, vA G 0), (2, vI l2)]) e_X12_busiest_2.2.2.2.1 (by decide) rfl ?_
          refine R_iinc (ls2 := [(2, vI (l2 + 1)), (1, vI l2), (0, vA G 0)]) e_X12_busiest_2.2.2.2.2.1 2 rfl (by decide) rfl ?_
          refine R_goto 4 e_X12_busiest_2.2.2.2.2.2.1 (by decide) ?_
          refine R_ls (ls2 := [(0, vA G 0), (1, vI l2), (2, vI (l2 + 1))]) [2, 1, 0] rfl ?_
          exact h
/-! KiteLandModel.greatest()I -/
theorem e_X12_greatest_0 : decode cX12_greatest 0 = .ok (.iconst (-1), 1) ∧ decode cX12_greatest 1 = .ok (.istore_n 1, 1) ∧ decode cX12_greatest 2 = .ok (.iconst 0, 1) ∧ decode cX12_greatest 3 = .ok (.istore_n 2, 1) ∧ decode cX12_greatest 4 = .ok (.iload_n 2, 1) ∧ decode cX12_greatest 5 = .ok (.aload_n 0, 1) ∧ decode cX12_greatest 6 = .ok (.getfield 7, 3) ∧ decode cX12_greatest 9 = .ok (.iconst 2, 1) ∧ decode cX12_greatest 10 = .ok (.iaload, 1) ∧ decode cX12_greatest 11 = .ok (.if_icmp .ge 41, 3) := by decide +kernel
theorem e_X12_greatest_1 : decode cX12_greatest 14 = .ok (.aload_n 0, 1) ∧ decode cX12_greatest 15 = .ok (.iload_n 2, 1) ∧ decode cX12_greatest 16 = .ok (.aload_n 0, 1) ∧ decode cX12_greatest 17 = .ok (.invokevirtual 325, 3) ∧ decode cX12_greatest 20 = .ok (.invokevirtual 361, 3) ∧ decode cX12_greatest 23 = .ok (.iload_n 1, 1) ∧ decode cX12_greatest 24 = .ok (.iconst (-1), 1) ∧ decode cX12_greatest 25 = .ok (.if_icmp .ne 7, 3) ∧ decode cX12_greatest 28 = .ok (.iconst 0, 1) ∧ decode cX12_greatest 29 = .ok (.goto 12, 3) := by decide +kernel
theorem e_X12_greatest_2 : decode cX12_greatest 32 = .ok (.aload_n 0, 1) ∧ decode cX12_greatest 33 = .ok (.iload_n 1, 1) ∧ decode cX12_greatest 34 = .ok (.aload_n 0, 1) ∧ decode cX12_greatest 35 = .ok (.invokevirtual 325, 3) ∧ decode cX12_greatest 38 = .ok (.invokevirtual 361, 3) ∧ decode cX12_greatest 41 = .ok (.if_icmp .le 5, 3) ∧ decode cX12_greatest 44 = .ok (.iload_n 2, 1) ∧ decode cX12_greatest 45 = .ok (.istore_n 1, 1) ∧ decode cX12_greatest 46 = .ok (.iinc 2 1, 3) ∧ decode cX12_greatest 49 = .ok (.goto (-45), 3) := by decide +kernel
theorem e_X12_greatest_3 : decode cX12_greatest 52 = .ok (.aload_n 0, 1) ∧ decode cX12_greatest 53 = .ok (.iload_n 1, 1) ∧ decode cX12_greatest 54 = .ok (.invokevirtual 358, 3) ∧ decode cX12_greatest 57 = .ok (.ireturn, 1) := by decide +kernel
abbrev E_X12_greatest_4 (G : Kg) (l1 l2 : Int) (σ : Kmem) (Q : Int → Kmem → Prop) : Prop := Ex G WM M_X12_greatest 8 0 0 4 [(0, vA G 0), (1, vI l1), (2, vI l2)] [] σ Q
theorem S_X12_greatest {G : Kg} {σ : Kmem} {Q : Int → Kmem → Prop}  (h : E_X12_greatest_4 G (-1) 0 σ Q) : Run G WM M_X12_greatest 8 0 0 [vA G 0] σ Q := by
  refine Run.of (by decide +kernel) (by show (1 : Nat) ≤ 3; decide) ?_
  show Ex G WM M_X12_greatest 8 0 0 0 [(0, vA G 0)] [] σ Q
  refine R_iconst e_X12_greatest_0.1 ?_
  refine R_istore_n (ls2 := [(1, vI (-1)), (0, vA G 0)]) e_X12_greatest_0.2.1 (by decide) rfl ?_
  refine R_iconst e_X12_greatest_0.2.2.1 ?_
  refine R_istore_n (ls2 := [(2, vI 0), (1, vI (-1)), (0, vA G 0)]) e_X12_greatest_0.2.2.2.1 (by decide) rfl ?_
  refine R_ls (ls2 := [(0, vA G 0), (1, vI (-1)), (2, vI 0)]) [2, 1, 0] rfl ?_
  exact h
theorem S_X12_greatest_4 {G : Kg} {σ : Kmem} {Q : Int → Kmem → Prop} {l1 l2 : Int}  (h : (rI l2) ∧ (rI (σ 1 2)) ∧ ((σ 1 2 ≤ l2 → Run G WM M_X12_orNone 1 0 0 [vA G 0, vI l1] σ (fun r3 s4 => Q r3 s4)) ∧ (l2 < σ 1 2 → Run G WM M_X12_now 0 0 0 [vA G 0] σ (fun r5 s6 => Run G WM M_X12_estateOf 7 0 0 [vA G 0, vI l2, vI r5] s6 (fun r7 s8 => (rI l1) ∧ ((l1 ≠ -1 → Run G WM M_X12_now 0 0 0 [vA G 0] s8 (fun r10 s11 => Run G WM M_X12_estateOf 7 0 0 [vA G 0, vI l1, vI r10] s11 (fun r12 s13 => (rI r7) ∧ (rI r12) ∧ ((r7 ≤ r12 → E_X12_greatest_4 G l1 (l2 + 1) s13 Q) ∧ (r12 < r7 → E_X12_greatest_4 G l2 (l2 + 1) s13 Q))))) ∧ (l1 = -1 → (rI r7) ∧ ((r7 ≤ 0 → E_X12_greatest_4 G l1 (l2 + 1) s8 Q) ∧ (0 < r7 → E_X12_greatest_4 G l2 (l2 + 1) s8 Q))))))))) : E_X12_greatest_4 G l1 l2 σ Q := by
  refine R_iload_n e_X12_greatest_0.2.2.2.2.1 2 rfl ?_
  refine R_aload_n e_X12_greatest_0.2.2.2.2.2.1 0 rfl ?_
  refine R_getA 12 0 1 e_X12_greatest_0.2.2.2.2.2.2.1 f_X12_7 km_0 (fun _ _ => rfl) rm_0_0 (by decide) ?_
  refine R_iconst e_X12_greatest_0.2.2.2.2.2.2.2.1 ?_
  refine R_iald 3598 e_X12_greatest_0.2.2.2.2.2.2.2.2.1 kma_1 (by decide) ?_
  obtain ⟨q1, h⟩ := h
  obtain ⟨q2, h⟩ := h
  refine R_icmp_ge 52 e_X12_greatest_0.2.2.2.2.2.2.2.2.2 (by decide) q1 q2 (fun q => ?_) (fun q => ?_)
  · replace h := h.1 q
    refine R_aload_n e_X12_greatest_3.1 0 rfl ?_
    refine R_iload_n e_X12_greatest_3.2.1 1 rfl ?_
    refine R_callV (mc := 0) (ms := 0) (mc' := 0) (ms' := 0) (M' := M_X12_orNone) (d' := 1) (as := [vI l1]) (st := []) 12 1 e_X12_greatest_3.2.2.1 (kCVof m_X12_orNone l_X12_358) rfl (by decide) km_0 (by decide) (by decide) rfl rfl (by show (0 : Nat) ≤ 8; decide) ?_
    refine Run.mono h (fun r3 s4 h => ?_)
    refine R_eqs (st2 := [vI r3]) rfl rfl ?_
    exact R_ireturn e_X12_greatest_3.2.2.2 rfl h
  · replace h := h.2 q
    refine R_aload_n e_X12_greatest_1.1 0 rfl ?_
    refine R_iload_n e_X12_greatest_1.2.1 2 rfl ?_
    refine R_aload_n e_X12_greatest_1.2.2.1 0 rfl ?_
    refine R_callV (mc := 0) (ms := 0) (mc' := 0) (ms' := 0) (M' := M_X12_now) (d' := 0) (as := []) (st := [vI l2, vA G 0]) 12 0 e_X12_greatest_1.2.2.2.1 (kCVof m_X12_now l_X12_325) rfl (by decide) km_0 (by decide) (by decide) rfl rfl (by show (2 : Nat) ≤ 8; decide) ?_
    refine Run.mono h (fun r5 s6 h => ?_)
    refine R_eqs (st2 := [vI r5, vI l2, vA G 0]) rfl rfl ?_
    refine R_callV (mc := 0) (ms := 0) (mc' := 0) (ms' := 0) (M' := M_X12_estateOf) (d' := 7) (as := [vI l2, vI r5]) (st := []) 12 2 e_X12_greatest_1.2.2.2.2.1 (kCVof m_X12_estateOf l_X12_361) rfl (by decide) km_0 (by decide) (by decide) rfl rfl (by show (0 : Nat) ≤ 8; decide) ?_
    refine Run.mono h (fun r7 s8 h => ?_)
    refine R_eqs (st2 := [vI r7]) rfl rfl ?_
    refine R_iload_n e_X12_greatest_1.2.2.2.2.2.1 1 rfl ?_
    refine R_iconst e_X12_greatest_1.2.2.2.2.2.2.1 ?_
    obtain ⟨q9, h⟩ := h
    refine R_icmp_ne 32 e_X12_greatest_1.2.2.2.2.2.2.2.1 (by decide) q9 (by decide) (fun q => ?_) (fun q => ?_)
    · replace h := h.1 q
      refine R_aload_n e_X12_greatest_2.1 0 rfl ?_
      refine R_iload_n e_X12_greatest_2.2.1 1 rfl ?_
      refine R_aload_n e_X12_greatest_2.2.2.1 0 rfl ?_
      refine R_callV (mc := 0) (ms := 0) (mc' := 0) (ms' := 0) (M' := M_X12_now) (d' := 0) (as := []) (st := [vI l1, vA G 0, vI r7]) 12 0 e_X12_greatest_2.2.2.2.1 (kCVof m_X12_now l_X12_325) rfl (by decide) km_0 (by decide) (by decide) rfl rfl (by show (3 : Nat) ≤ 8; decide) ?_
      refine Run.mono h (fun r10 s11 h => ?_)
      refine R_eqs (st2 := [vI r10, vI l1, vA G 0, vI r7]) rfl rfl ?_
      refine R_callV (mc := 0) (ms := 0) (mc' := 0) (ms' := 0) (M' := M_X12_estateOf) (d' := 7) (as := [vI l1, vI r10]) (st := [vI r7]) 12 2 e_X12_greatest_2.2.2.2.2.1 (kCVof m_X12_estateOf l_X12_361) rfl (by decide) km_0 (by decide) (by decide) rfl rfl (by show (1 : Nat) ≤ 8; decide) ?_
      refine Run.mono h (fun r12 s13 h => ?_)
      refine R_eqs (st2 := [vI r12, vI r7]) rfl rfl ?_
      obtain ⟨q14, h⟩ := h
      obtain ⟨q15, h⟩ := h
      refine R_icmp_le 46 e_X12_greatest_2.2.2.2.2.2.1 (by decide) q14 q15 (fun q => ?_) (fun q => ?_)
      · replace h := h.1 q
        refine R_iinc (ls2 := [(2, vI (l2 + 1)), (0, vA G 0), (1, vI l1)]) e_X12_greatest_2.2.2.2.2.2.2.2.2.1 2 rfl (by decide) rfl ?_
        refine R_goto 4 e_X12_greatest_2.2.2.2.2.2.2.2.2.2 (by decide) ?_
        refine R_ls (ls2 := [(0, vA G 0), (1, vI l1), (2, vI (l2 + 1))]) [1, 2, 0] rfl ?_
        exact h
      · replace h := h.2 q
        refine R_iload_n e_X12_greatest_2.2.2.2.2.2.2.1 2 rfl ?_
        refine R_istore_n (ls2 := [(1, vI l2), (0, vA G 0), (2, vI l2)]) e_X12_greatest_2.2.2.2.2.2.2.2.1 (by decide) rfl ?_
        refine R_iinc (ls2 := [(2, vI (l2 + 1)), (1, vI l2), (0, vA G 0)]) e_X12_greatest_2.2.2.2.2.2.2.2.2.1 2 rfl (by decide) rfl ?_
        refine R_goto 4 e_X12_greatest_2.2.2.2.2.2.2.2.2.2 (by decide) ?_
        refine R_ls (ls2 := [(0, vA G 0), (1, vI l2), (2, vI (l2 + 1))]) [2, 1, 0] rfl ?_
        exact h
    · replace h := h.2 q
      refine R_iconst e_X12_greatest_1.2.2.2.2.2.2.2.2.1 ?_
      refine R_goto 41 e_X12_greatest_1.2.2.2.2.2.2.2.2.2 (by decide) ?_
      obtain ⟨q16, h⟩ := h
      refine R_icmp_le 46 e_X12_greatest_2.2.2.2.2.2.1 (by decide) q16 (by decide) (fun q => ?_) (fun q => ?_)
      · replace h := h.1 q
        refine R_iinc (ls2 := [(2, vI (l2 + 1)), (0, vA G 0), (1, vI l1)]) e_X12_greatest_2.2.2.2.2.2.2.2.2.1 2 rfl (by decide) rfl ?_
        refine R_goto 4 e_X12_greatest_2.2.2.2.2.2.2.2.2.2 (by decide) ?_
        refine R_ls (ls2 := [(0, vA G 0), (1, vI l1), (2, vI (l2 + 1))]) [1, 2, 0] rfl ?_
        exact h
      · replace h := h.2 q
        refine R_iload_n e_X12_greatest_2.2.2.2.2.2.2.1 2 rfl ?_
        refine R_istore_n (ls2 := [(1, vI l2), (0, vA G 0), (2, vI l2)]) e_X12_greatest_2.2.2.2.2.2.2.2.1 (by decide) rfl ?_
        refine R_iinc (ls2 := [(2, vI (l2 + 1)), (1, vI l2), (0, vA G 0)]) e_X12_greatest_2.2.2.2.2.2.2.2.2.1 2 rfl (by decide) rfl ?_
        refine R_goto 4 e_X12_greatest_2.2.2.2.2.2.2.2.2.2 (by decide) ?_
        refine R_ls (ls2 := [(0, vA G 0), (1, vI l2), (2, vI (l2 + 1))]) [2, 1, 0] rfl ?_
        exact h
/-! KiteLandModel.earns(II)V -/
theorem e_X12_earns_0 : decode cX12_earns 0 = .ok (.aload_n 0, 1) ∧ decode cX12_earns 1 = .ok (.getfield 7, 3) ∧ decode cX12_earns 4 = .ok (.iload_n 1, 1) ∧ decode cX12_earns 5 = .ok (.invokestatic 265, 3) ∧ decode cX12_earns 8 = .ok (.iconst 5, 1) ∧ decode cX12_earns 9 = .ok (.iadd, 1) ∧ decode cX12_earns 10 = .ok (.sipush 9999, 3) ∧ decode cX12_earns 13 = .ok (.aload_n 0, 1) ∧ decode cX12_earns 14 = .ok (.iload_n 1, 1) ∧ decode cX12_earns 15 = .ok (.iconst 5, 1) := by decide +kernel
theorem e_X12_earns_1 : decode cX12_earns 16 = .ok (.invokevirtual 268, 3) ∧ decode cX12_earns 19 = .ok (.iload_n 2, 1) ∧ decode cX12_earns 20 = .ok (.iadd, 1) ∧ decode cX12_earns 21 = .ok (.invokestatic 148, 3) ∧ decode cX12_earns 24 = .ok (.iastore, 1) ∧ decode cX12_earns 25 = .ok (.return_, 1) := by decide +kernel
theorem S_X12_earns {G : Kg} {σ : Kmem} {Q : Int → Kmem → Prop} {l1 l2 : Int}  (h : Run G WM M_X12_kiteRow 0 0 0 [vI l1] σ (fun r1 s2 => Run G WM M_X12_of 1 0 0 [vA G 0, vI l1, vI 5] s2 (fun r3 s4 => Run G WM M_J9_min_7cf53 0 0 0 [vI 9999, vI (r3 + l2)] s4 (fun r5 s6 => (0 ≤ r1 + 5 ∧ r1 + 5 < 3598) ∧ Q 0 (kup s6 1 (r1 + 5) r5))))) : Run G WM M_X12_earns 2 0 0 [vA G 0, vI l1, vI l2] σ Q := by
  refine Run.of (by decide +kernel) (by show (3 : Nat) ≤ 3; decide) ?_
  show Ex G WM M_X12_earns 2 0 0 0 [(0, vA G 0), (1, vI l1), (2, vI l2)] [] σ Q
  refine R_aload_n e_X12_earns_0.1 0 rfl ?_
  refine R_getA 12 0 1 e_X12_earns_0.2.1 f_X12_7 km_0 (fun _ _ => rfl) rm_0_0 (by decide) ?_
  refine R_iload_n e_X12_earns_0.2.2.1 1 rfl ?_
  refine R_callS (mc := 0) (ms := 0) (mc' := 0) (ms' := 0) (M' := M_X12_kiteRow) (d' := 0) (as := [vI l1]) (st := [vA G 1]) 1 e_X12_earns_0.2.2.2.1 (kCSof m_X12_kiteRow l_X12_265) (by decide) (by decide) rfl rfl (by show (1 : Nat) ≤ 8; decide) ?_
  refine Run.mono h (fun r1 s2 h => ?_)
  refine R_eqs (st2 := [vI r1, vA G 1]) rfl rfl ?_
  refine R_iconst e_X12_earns_0.2.2.2.2.1 ?_
  refine R_iadd e_X12_earns_0.2.2.2.2.2.1 ?_
  refine R_sipush e_X12_earns_0.2.2.2.2.2.2.1 (by decide) ?_
  refine R_aload_n e_X12_earns_0.2.2.2.2.2.2.2.1 0 rfl ?_
  refine R_iload_n e_X12_earns_0.2.2.2.2.2.2.2.2.1 1 rfl ?_
  refine R_iconst e_X12_earns_0.2.2.2.2.2.2.2.2.2 ?_
  refine R_callV (mc := 0) (ms := 0) (mc' := 0) (ms' := 0) (M' := M_X12_of) (d' := 1) (as := [vI l1, vI 5]) (st := [vI 9999, vI (r1 + 5), vA G 1]) 12 2 e_X12_earns_1.1 (kCVof m_X12_of l_X12_268) rfl (by decide) km_0 (by decide) (by decide) rfl rfl (by show (3 : Nat) ≤ 8; decide) ?_
  refine Run.mono h (fun r3 s4 h => ?_)
  refine R_eqs (st2 := [vI r3, vI 9999, vI (r1 + 5), vA G 1]) rfl rfl ?_
  refine R_iload_n e_X12_earns_1.2.1 2 rfl ?_
  refine R_iadd e_X12_earns_1.2.2.1 ?_
  refine R_callS (mc := 0) (ms := 0) (mc' := 0) (ms' := 0) (M' := M_J9_min_7cf53) (d' := 0) (as := [vI 9999, vI (r3 + l2)]) (st := [vI (r1 + 5), vA G 1]) 2 e_X12_earns_1.2.2.2.1 (kCSof m_J9_min_7cf53 l_X12_148) (by decide) (by decide) rfl rfl (by show (2 : Nat) ≤ 8; decide) ?_
  refine Run.mono h (fun r5 s6 h => ?_)
  refine R_eqs (st2 := [vI r5, vI (r1 + 5), vA G 1]) rfl rfl ?_
  obtain ⟨q7, h⟩ := h
  refine R_iast 3598 WM_ok e_X12_earns_1.2.2.2.2.1 kma_1 q7 ?_
  exact R_return e_X12_earns_1.2.2.2.2.2 rfl h
/-! KiteLandModel.nears(III)V -/
theorem e_X12_nears_0 : decode cX12_nears 0 = .ok (.iload_n 1, 1) ∧ decode cX12_nears 1 = .ok (.invokestatic 352, 3) ∧ decode cX12_nears 4 = .ok (.istore 4, 2) ∧ decode cX12_nears 6 = .ok (.aload_n 0, 1) ∧ decode cX12_nears 7 = .ok (.getfield 7, 3) ∧ decode cX12_nears 10 = .ok (.iload 4, 2) ∧ decode cX12_nears 12 = .ok (.iaload, 1) ∧ decode cX12_nears 13 = .ok (.iload_n 2, 1) ∧ decode cX12_nears 14 = .ok (.if_icmp .eq 32, 3) ∧ decode cX12_nears 17 = .ok (.aload_n 0, 1) := by decide +kernel
theorem e_X12_nears_1 : decode cX12_nears 18 = .ok (.getfield 7, 3) ∧ decode cX12_nears 21 = .ok (.iload 4, 2) ∧ decode cX12_nears 23 = .ok (.dup2, 1) ∧ decode cX12_nears 24 = .ok (.iaload, 1) ∧ decode cX12_nears 25 = .ok (.aload_n 0, 1) ∧ decode cX12_nears 26 = .ok (.getfield 7, 3) ∧ decode cX12_nears 29 = .ok (.iload 4, 2) ∧ decode cX12_nears 31 = .ok (.iaload, 1) ∧ decode cX12_nears 32 = .ok (.iload_n 2, 1) ∧ decode cX12_nears 33 = .ok (.if_icmp .ge 7, 3) := by decide +kernel
theorem e_X12_nears_2 : decode cX12_nears 36 = .ok (.iconst 1, 1) ∧ decode cX12_nears 37 = .ok (.goto 4, 3) ∧ decode cX12_nears 40 = .ok (.iconst (-1), 1) ∧ decode cX12_nears 41 = .ok (.iadd, 1) ∧ decode cX12_nears 42 = .ok (.iastore, 1) ∧ decode cX12_nears 43 = .ok (.goto 33, 3) ∧ decode cX12_nears 46 = .ok (.aload_n 0, 1) ∧ decode cX12_nears 47 = .ok (.getfield 7, 3) ∧ decode cX12_nears 50 = .ok (.iload 4, 2) ∧ decode cX12_nears 52 = .ok (.iconst 1, 1) := by decide +kernel
theorem e_X12_nears_3 : decode cX12_nears 53 = .ok (.iadd, 1) ∧ decode cX12_nears 54 = .ok (.dup2, 1) ∧ decode cX12_nears 55 = .ok (.iaload, 1) ∧ decode cX12_nears 56 = .ok (.aload_n 0, 1) ∧ decode cX12_nears 57 = .ok (.getfield 7, 3) ∧ decode cX12_nears 60 = .ok (.iload 4, 2) ∧ decode cX12_nears 62 = .ok (.iconst 1, 1) ∧ decode cX12_nears 63 = .ok (.iadd, 1) ∧ decode cX12_nears 64 = .ok (.iaload, 1) ∧ decode cX12_nears 65 = .ok (.iload_n 3, 1) := by decide +kernel
theorem e_X12_nears_4 : decode cX12_nears 66 = .ok (.if_icmp .ge 7, 3) ∧ decode cX12_nears 69 = .ok (.iconst 1, 1) ∧ decode cX12_nears 70 = .ok (.goto 4, 3) ∧ decode cX12_nears 73 = .ok (.iconst (-1), 1) ∧ decode cX12_nears 74 = .ok (.iadd, 1) ∧ decode cX12_nears 75 = .ok (.iastore, 1) ∧ decode cX12_nears 76 = .ok (.return_, 1) := by decide +kernel
theorem S_X12_nears {G : Kg} {σ : Kmem} {Q : Int → Kmem → Prop} {l1 l2 l3 : Int}  (h : Run G WM M_X12_tenantRow 0 0 0 [vI l1] σ (fun r1 s2 => (0 ≤ r1 ∧ r1 < 3598) ∧ (rI (s2 1 r1)) ∧ (rI l2) ∧ ((s2 1 r1 = l2 → (0 ≤ r1 + 1 ∧ r1 + 1 < 3598) ∧ (0 ≤ r1 + 1 ∧ r1 + 1 < 3598) ∧ (rI (s2 1 (r1 + 1))) ∧ (rI l3) ∧ ((l3 ≤ s2 1 (r1 + 1) → (0 ≤ r1 + 1 ∧ r1 + 1 < 3598) ∧ Q 0 (kup s2 1 (r1 + 1) ((s2 1 (r1 + 1)) + (-1)))) ∧ (s2 1 (r1 + 1) < l3 → (0 ≤ r1 + 1 ∧ r1 + 1 < 3598) ∧ Q 0 (kup s2 1 (r1 + 1) ((s2 1 (r1 + 1)) + 1))))) ∧ (s2 1 r1 ≠ l2 → (0 ≤ r1 ∧ r1 < 3598) ∧ (0 ≤ r1 ∧ r1 < 3598) ∧ ((l2 ≤ s2 1 r1 → (0 ≤ r1 ∧ r1 < 3598) ∧ Q 0 (kup s2 1 r1 ((s2 1 r1) + (-1)))) ∧ (s2 1 r1 < l2 → (0 ≤ r1 ∧ r1 < 3598) ∧ Q 0 (kup s2 1 r1 ((s2 1 r1) + 1)))))))) : Run G WM M_X12_nears 1 0 0 [vA G 0, vI l1, vI l2, vI l3] σ Q := by
  refine Run.of (by decide +kernel) (by show (4 : Nat) ≤ 5; decide) ?_
  show Ex G WM M_X12_nears 1 0 0 0 [(0, vA G 0), (1, vI l1), (2, vI l2), (3, vI l3)] [] σ Q
  refine R_iload_n e_X12_nears_0.1 1 rfl ?_
  refine R_callS (mc := 0) (ms := 0) (mc' := 0) (ms' := 0) (M' := M_X12_tenantRow) (d' := 0) (as := [vI l1]) (st := []) 1 e_X12_nears_0.2.1 (kCSof m_X12_tenantRow l_X12_352) (by decide) (by decide) rfl rfl (by show (0 : Nat) ≤ 8; decide) ?_
  refine Run.mono h (fun r1 s2 h => ?_)
  refine R_eqs (st2 := [vI r1]) rfl rfl ?_
  refine R_istore (ls2 := [(4, vI r1), (0, vA G 0), (1, vI l1), (2, vI l2), (3, vI l3)]) e_X12_nears_0.2.2.1 (by decide) rfl ?_
  refine R_aload_n e_X12_nears_0.2.2.2.1 1 rfl ?_
  refine R_getA 12 0 1 e_X12_nears_0.2.2.2.2.1 f_X12_7 km_0 (fun _ _ => rfl) rm_0_0 (by decide) ?_
  refine R_iload e_X12_nears_0.2.2.2.2.2.1 0 rfl ?_
  obtain ⟨q3, h⟩ := h
  refine R_iald 3598 e_X12_nears_0.2.2.2.2.2.2.1 kma_1 q3 ?_
  refine R_iload_n e_X12_nears_0.2.2.2.2.2.2.2.1 3 rfl ?_
  obtain ⟨q4, h⟩ := h
  obtain ⟨q5, h⟩ := h
  refine R_icmp_eq 46 e_X12_nears_0.2.2.2.2.2.2.2.2.1 (by decide) q4 q5 (fun q => ?_) (fun q => ?_)
  · replace h := h.1 q
    refine R_aload_n e_X12_nears_2.2.2.2.2.2.2.1 1 rfl ?_
    refine R_getA 12 0 1 e_X12_nears_2.2.2.2.2.2.2.2.1 f_X12_7 km_0 (fun _ _ => rfl) rm_0_0 (by decide) ?_
    refine R_iload e_X12_nears_2.2.2.2.2.2.2.2.2.1 0 rfl ?_
    refine R_iconst e_X12_nears_2.2.2.2.2.2.2.2.2.2 ?_
    refine R_iadd e_X12_nears_3.1 ?_
    refine R_dup2 e_X12_nears_3.2.1 rfl rfl ?_
    obtain ⟨q6, h⟩ := h
    refine R_iald 3598 e_X12_nears_3.2.2.1 kma_1 q6 ?_
    refine R_aload_n e_X12_nears_3.2.2.2.1 1 rfl ?_
    refine R_getA 12 0 1 e_X12_nears_3.2.2.2.2.1 f_X12_7 km_0 (fun _ _ => rfl) rm_0_0 (by decide) ?_
    refine R_iload e_X12_nears_3.2.2.2.2.2.1 0 rfl ?_
    refine R_iconst e_X12_nears_3.2.2.2.2.2.2.1 ?_
    refine R_iadd e_X12_nears_3.2.2.2.2.2.2.2.1 ?_
    obtain ⟨q7, h⟩ := h
    refine R_iald 3598 e_X12_nears_3.2.2.2.2.2.2.2.2.1 kma_1 q7 ?_
    refine R_iload_n e_X12_nears_3.2.2.2.2.2.2.2.2.2 4 rfl ?_
    obtain ⟨q8, h⟩ := h
    obtain ⟨q9, h⟩ := h
    refine R_icmp_ge 73 e_X12_nears_4.1 (by decide) q8 q9 (fun q => ?_) (fun q => ?_)
    · replace h := h.1 q
      refine R_iconst e_X12_nears_4.2.2.2.1 ?_
      refine R_iadd e_X12_nears_4.2.2.2.2.1 ?_
      obtain ⟨q10, h⟩ := h
      refine R_iast 3598 WM_ok e_X12_nears_4.2.2.2.2.2.1 kma_1 q10 ?_
      exact R_return e_X12_nears_4.2.2.2.2.2.2 rfl h
    · replace h := h.2 q
      refine R_iconst e_X12_nears_4.2.1 ?_
      refine R_goto 74 e_X12_nears_4.2.2.1 (by decide) ?_
      refine R_iadd e_X12_nears_4.2.2.2.2.1 ?_
      obtain ⟨q11, h⟩ := h
      refine R_iast 3598 WM_ok e_X12_nears_4.2.2.2.2.2.1 kma_1 q11 ?_
      exact R_return e_X12_nears_4.2.2.2.2.2.2 rfl h
  · replace h := h.2 q
    refine R_aload_n e_X12_nears_0.2.2.2.2.2.2.2.2.2 1 rfl ?_
    refine R_getA 12 0 1 e_X12_nears_1.1 f_X12_7 km_0 (fun _ _ => rfl) rm_0_0 (by decide) ?_
    refine R_iload e_X12_nears_1.2.1 0 rfl ?_
    refine R_dup2 e_X12_nears_1.2.2.1 rfl rfl ?_
    obtain ⟨q12, h⟩ := h
    refine R_iald 3598 e_X12_nears_1.2.2.2.1 kma_1 q12 ?_
    refine R_aload_n e_X12_nears_1.2.2.2.2.1 1 rfl ?_
    refine R_getA 12 0 1 e_X12_nears_1.2.2.2.2.2.1 f_X12_7 km_0 (fun _ _ => rfl) rm_0_0 (by decide) ?_
    refine R_iload e_X12_nears_1.2.2.2.2.2.2.1 0 rfl ?_
    obtain ⟨q13, h⟩ := h
    refine R_iald 3598 e_X12_nears_1.2.2.2.2.2.2.2.1 kma_1 q13 ?_
    refine R_iload_n e_X12_nears_1.2.2.2.2.2.2.2.2.1 3 rfl ?_
    refine R_icmp_ge 40 e_X12_nears_1.2.2.2.2.2.2.2.2.2 (by decide) q4 q5 (fun q => ?_) (fun q => ?_)
    · replace h := h.1 q
      refine R_iconst e_X12_nears_2.2.2.1 ?_
      refine R_iadd e_X12_nears_2.2.2.2.1 ?_
      obtain ⟨q14, h⟩ := h
      refine R_iast 3598 WM_ok e_X12_nears_2.2.2.2.2.1 kma_1 q14 ?_
      refine R_goto 76 e_X12_nears_2.2.2.2.2.2.1 (by decide) ?_
      exact R_return e_X12_nears_4.2.2.2.2.2.2 rfl h
    · replace h := h.2 q
      refine R_iconst e_X12_nears_2.1 ?_
      refine R_goto 41 e_X12_nears_2.2.1 (by decide) ?_
      refine R_iadd e_X12_nears_2.2.2.2.1 ?_
      obtain ⟨q15, h⟩ := h
      refine R_iast 3598 WM_ok e_X12_nears_2.2.2.2.2.1 kma_1 q15 ?_
      refine R_goto 76 e_X12_nears_2.2.2.2.2.2.1 (by decide) ?_
      exact R_return e_X12_nears_4.2.2.2.2.2.2 rfl h
/-! KiteLandModel.stepsTo(III)I -/
theorem e_X12_stepsTo_0 : decode cX12_stepsTo 0 = .ok (.aload_n 0, 1) ∧ decode cX12_stepsTo 1 = .ok (.getfield 7, 3) ∧ decode cX12_stepsTo 4 = .ok (.iload_n 1, 1) ∧ decode cX12_stepsTo 5 = .ok (.invokestatic 352, 3) ∧ decode cX12_stepsTo 8 = .ok (.iaload, 1) ∧ decode cX12_stepsTo 9 = .ok (.iload_n 2, 1) ∧ decode cX12_stepsTo 10 = .ok (.isub, 1) ∧ decode cX12_stepsTo 11 = .ok (.invokestatic 289, 3) ∧ decode cX12_stepsTo 14 = .ok (.aload_n 0, 1) ∧ decode cX12_stepsTo 15 = .ok (.getfield 7, 3) := by decide +kernel
theorem e_X12_stepsTo_1 : decode cX12_stepsTo 18 = .ok (.iload_n 1, 1) ∧ decode cX12_stepsTo 19 = .ok (.invokestatic 352, 3) ∧ decode cX12_stepsTo 22 = .ok (.iconst 1, 1) ∧ decode cX12_stepsTo 23 = .ok (.iadd, 1) ∧ decode cX12_stepsTo 24 = .ok (.iaload, 1) ∧ decode cX12_stepsTo 25 = .ok (.iload_n 3, 1) ∧ decode cX12_stepsTo 26 = .ok (.isub, 1) ∧ decode cX12_stepsTo 27 = .ok (.invokestatic 289, 3) ∧ decode cX12_stepsTo 30 = .ok (.iadd, 1) ∧ decode cX12_stepsTo 31 = .ok (.ireturn, 1) := by decide +kernel
theorem S_X12_stepsTo {G : Kg} {σ : Kmem} {Q : Int → Kmem → Prop} {l1 l2 l3 : Int}  (h : Run G WM M_X12_tenantRow 0 0 0 [vI l1] σ (fun r1 s2 => (0 ≤ r1 ∧ r1 < 3598) ∧ Run G WM M_J9_abs_0f7a4 0 0 0 [vI ((s2 1 r1) - l2)] s2 (fun r4 s5 => Run G WM M_X12_tenantRow 0 0 0 [vI l1] s5 (fun r6 s7 => (0 ≤ r6 + 1 ∧ r6 + 1 < 3598) ∧ Run G WM M_J9_abs_0f7a4 0 0 0 [vI ((s7 1 (r6 + 1)) - l3)] s7 (fun r9 s10 => Q (r4 + r9) s10))))) : Run G WM M_X12_stepsTo 1 0 0 [vA G 0, vI l1, vI l2, vI l3] σ Q := by
  refine Run.of (by decide +kernel) (by show (4 : Nat) ≤ 4; decide) ?_
  show Ex G WM M_X12_stepsTo 1 0 0 0 [(0, vA G 0), (1, vI l1), (2, vI l2), (3, vI l3)] [] σ Q
  refine R_aload_n e_X12_stepsTo_0.1 0 rfl ?_
  refine R_getA 12 0 1 e_X12_stepsTo_0.2.1 f_X12_7 km_0 (fun _ _ => rfl) rm_0_0 (by decide) ?_
  refine R_iload_n e_X12_stepsTo_0.2.2.1 1 rfl ?_
  refine R_callS (mc := 0) (ms := 0) (mc' := 0) (ms' := 0) (M' := M_X12_tenantRow) (d' := 0) (as := [vI l1]) (st := [vA G 1]) 1 e_X12_stepsTo_0.2.2.2.1 (kCSof m_X12_tenantRow l_X12_352) (by decide) (by decide) rfl rfl (by show (1 : Nat) ≤ 8; decide) ?_
  refine Run.mono h (fun r1 s2 h => ?_)
  refine R_eqs (st2 := [vI r1, vA G 1]) rfl rfl ?_
  obtain ⟨q3, h⟩ := h
  refine R_iald 3598 e_X12_stepsTo_0.2.2.2.2.1 kma_1 q3 ?_
  refine R_iload_n e_X12_stepsTo_0.2.2.2.2.2.1 2 rfl ?_
  refine R_isub e_X12_stepsTo_0.2.2.2.2.2.2.1 ?_
  refine R_callS (mc := 0) (ms := 0) (mc' := 0) (ms' := 0) (M' := M_J9_abs_0f7a4) (d' := 0) (as := [vI ((s2 1 r1) - l2)]) (st := []) 1 e_X12_stepsTo_0.2.2.2.2.2.2.2.1 (kCSof m_J9_abs_0f7a4 l_X12_289) (by decide) (by decide) rfl rfl (by show (0 : Nat) ≤ 8; decide) ?_
  refine Run.mono h (fun r4 s5 h => ?_)
  refine R_eqs (st2 := [vI r4]) rfl rfl ?_
  refine R_aload_n e_X12_stepsTo_0.2.2.2.2.2.2.2.2.1 0 rfl ?_
  refine R_getA 12 0 1 e_X12_stepsTo_0.2.2.2.2.2.2.2.2.2 f_X12_7 km_0 (fun _ _ => rfl) rm_0_0 (by decide) ?_
  refine R_iload_n e_X12_stepsTo_1.1 1 rfl ?_
  refine R_callS (mc := 0) (ms := 0) (mc' := 0) (ms' := 0) (M' := M_X12_tenantRow) (d' := 0) (as := [vI l1]) (st := [vA G 1, vI r4]) 1 e_X12_stepsTo_1.2.1 (kCSof m_X12_tenantRow l_X12_352) (by decide) (by decide) rfl rfl (by show (2 : Nat) ≤ 8; decide) ?_
  refine Run.mono h (fun r6 s7 h => ?_)
  refine R_eqs (st2 := [vI r6, vA G 1, vI r4]) rfl rfl ?_
  refine R_iconst e_X12_stepsTo_1.2.2.1 ?_
  refine R_iadd e_X12_stepsTo_1.2.2.2.1 ?_
  obtain ⟨q8, h⟩ := h
  refine R_iald 3598 e_X12_stepsTo_1.2.2.2.2.1 kma_1 q8 ?_
  refine R_iload_n e_X12_stepsTo_1.2.2.2.2.2.1 3 rfl ?_
  refine R_isub e_X12_stepsTo_1.2.2.2.2.2.2.1 ?_
  refine R_callS (mc := 0) (ms := 0) (mc' := 0) (ms' := 0) (M' := M_J9_abs_0f7a4) (d' := 0) (as := [vI ((s7 1 (r6 + 1)) - l3)]) (st := [vI r4]) 1 e_X12_stepsTo_1.2.2.2.2.2.2.2.1 (kCSof m_J9_abs_0f7a4 l_X12_289) (by decide) (by decide) rfl rfl (by show (1 : Nat) ≤ 8; decide) ?_
  refine Run.mono h (fun r9 s10 h => ?_)
  refine R_eqs (st2 := [vI r9, vI r4]) rfl rfl ?_
  refine R_iadd e_X12_stepsTo_1.2.2.2.2.2.2.2.2.1 ?_
  exact R_ireturn e_X12_stepsTo_1.2.2.2.2.2.2.2.2.2 rfl h
/-! KiteLandModel.goes(I)V -/
theorem e_X12_goes_0 : decode cX12_goes 0 = .ok (.iload_n 1, 1) ∧ decode cX12_goes 1 = .ok (.invokestatic 352, 3) ∧ decode cX12_goes 4 = .ok (.istore_n 2, 1) ∧ decode cX12_goes 5 = .ok (.aload_n 0, 1) ∧ decode cX12_goes 6 = .ok (.getfield 7, 3) ∧ decode cX12_goes 9 = .ok (.iload_n 2, 1) ∧ decode cX12_goes 10 = .ok (.iconst 2, 1) ∧ decode cX12_goes 11 = .ok (.iadd, 1) ∧ decode cX12_goes 12 = .ok (.iaload, 1) ∧ decode cX12_goes 13 = .ok (.istore_n 3, 1) := by decide +kernel
theorem e_X12_goes_1 : decode cX12_goes 14 = .ok (.aload_n 0, 1) ∧ decode cX12_goes 15 = .ok (.aload_n 0, 1) ∧ decode cX12_goes 16 = .ok (.getfield 7, 3) ∧ decode cX12_goes 19 = .ok (.iload_n 2, 1) ∧ decode cX12_goes 20 = .ok (.iaload, 1) ∧ decode cX12_goes 21 = .ok (.aload_n 0, 1) ∧ decode cX12_goes 22 = .ok (.getfield 7, 3) ∧ decode cX12_goes 25 = .ok (.iload_n 2, 1) ∧ decode cX12_goes 26 = .ok (.iconst 1, 1) ∧ decode cX12_goes 27 = .ok (.iadd, 1) := by decide +kernel
theorem e_X12_goes_2 : decode cX12_goes 28 = .ok (.iaload, 1) ∧ decode cX12_goes 29 = .ok (.aload_n 0, 1) ∧ decode cX12_goes 30 = .ok (.invokevirtual 325, 3) ∧ decode cX12_goes 33 = .ok (.invokevirtual 312, 3) ∧ decode cX12_goes 36 = .ok (.iload_n 3, 1) ∧ decode cX12_goes 37 = .ok (.if_icmp .ne 22, 3) ∧ decode cX12_goes 40 = .ok (.aload_n 0, 1) ∧ decode cX12_goes 41 = .ok (.getfield 7, 3) ∧ decode cX12_goes 44 = .ok (.iload_n 2, 1) ∧ decode cX12_goes 45 = .ok (.iconst 3, 1) := by decide +kernel
theorem e_X12_goes_3 : decode cX12_goes 46 = .ok (.iadd, 1) ∧ decode cX12_goes 47 = .ok (.dup2, 1) ∧ decode cX12_goes 48 = .ok (.iaload, 1) ∧ decode cX12_goes 49 = .ok (.iconst 1, 1) ∧ decode cX12_goes 50 = .ok (.iadd, 1) ∧ decode cX12_goes 51 = .ok (.iastore, 1) ∧ decode cX12_goes 52 = .ok (.aload_n 0, 1) ∧ decode cX12_goes 53 = .ok (.iload_n 3, 1) ∧ decode cX12_goes 54 = .ok (.iconst 1, 1) ∧ decode cX12_goes 55 = .ok (.invokevirtual 373, 3) := by decide +kernel
theorem e_X12_goes_4 : decode cX12_goes 58 = .ok (.return_, 1) ∧ decode cX12_goes 59 = .ok (.ldc_w 377, 3) ∧ decode cX12_goes 62 = .ok (.istore 4, 2) ∧ decode cX12_goes 64 = .ok (.iconst 0, 1) ∧ decode cX12_goes 65 = .ok (.istore 5, 2) ∧ decode cX12_goes 67 = .ok (.iconst 0, 1) ∧ decode cX12_goes 68 = .ok (.istore 6, 2) ∧ decode cX12_goes 70 = .ok (.iconst 0, 1) ∧ decode cX12_goes 71 = .ok (.istore 7, 2) ∧ decode cX12_goes 73 = .ok (.iload 7, 2) := by decide +kernel
theorem e_X12_goes_5 : decode cX12_goes 75 = .ok (.aload_n 0, 1) ∧ decode cX12_goes 76 = .ok (.getfield 7, 3) ∧ decode cX12_goes 79 = .ok (.iconst 1, 1) ∧ decode cX12_goes 80 = .ok (.iaload, 1) ∧ decode cX12_goes 81 = .ok (.if_icmp .ge 81, 3) ∧ decode cX12_goes 84 = .ok (.iconst 0, 1) ∧ decode cX12_goes 85 = .ok (.istore 8, 2) ∧ decode cX12_goes 87 = .ok (.iload 8, 2) ∧ decode cX12_goes 89 = .ok (.aload_n 0, 1) ∧ decode cX12_goes 90 = .ok (.getfield 7, 3) := by decide +kernel
theorem e_X12_goes_6 : decode cX12_goes 93 = .ok (.iconst 0, 1) ∧ decode cX12_goes 94 = .ok (.iaload, 1) ∧ decode cX12_goes 95 = .ok (.if_icmp .ge 61, 3) ∧ decode cX12_goes 98 = .ok (.aload_n 0, 1) ∧ decode cX12_goes 99 = .ok (.iload 8, 2) ∧ decode cX12_goes 101 = .ok (.iload 7, 2) ∧ decode cX12_goes 103 = .ok (.aload_n 0, 1) ∧ decode cX12_goes 104 = .ok (.invokevirtual 325, 3) ∧ decode cX12_goes 107 = .ok (.invokevirtual 312, 3) ∧ decode cX12_goes 110 = .ok (.iload_n 3, 1) := by decide +kernel
theorem e_X12_goes_7 : decode cX12_goes 111 = .ok (.if_icmp .ne 39, 3) ∧ decode cX12_goes 114 = .ok (.aload_n 0, 1) ∧ decode cX12_goes 115 = .ok (.iload_n 1, 1) ∧ decode cX12_goes 116 = .ok (.iload 8, 2) ∧ decode cX12_goes 118 = .ok (.iload 7, 2) ∧ decode cX12_goes 120 = .ok (.invokevirtual 378, 3) ∧ decode cX12_goes 123 = .ok (.iload 4, 2) ∧ decode cX12_goes 125 = .ok (.if_icmp .lt 6, 3) ∧ decode cX12_goes 128 = .ok (.goto 22, 3) ∧ decode cX12_goes 131 = .ok (.aload_n 0, 1) := by decide +kernel
theorem e_X12_goes_8 : decode cX12_goes 132 = .ok (.iload_n 1, 1) ∧ decode cX12_goes 133 = .ok (.iload 8, 2) ∧ decode cX12_goes 135 = .ok (.iload 7, 2) ∧ decode cX12_goes 137 = .ok (.invokevirtual 378, 3) ∧ decode cX12_goes 140 = .ok (.istore 4, 2) ∧ decode cX12_goes 142 = .ok (.iload 8, 2) ∧ decode cX12_goes 144 = .ok (.istore 5, 2) ∧ decode cX12_goes 146 = .ok (.iload 7, 2) ∧ decode cX12_goes 148 = .ok (.istore 6, 2) ∧ decode cX12_goes 150 = .ok (.iinc 8 1, 3) := by decide +kernel
theorem e_X12_goes_9 : decode cX12_goes 153 = .ok (.goto (-66), 3) ∧ decode cX12_goes 156 = .ok (.iinc 7 1, 3) ∧ decode cX12_goes 159 = .ok (.goto (-86), 3) ∧ decode cX12_goes 162 = .ok (.iload 4, 2) ∧ decode cX12_goes 164 = .ok (.ldc_w 377, 3) ∧ decode cX12_goes 167 = .ok (.if_icmp .ne 18, 3) ∧ decode cX12_goes 170 = .ok (.aload_n 0, 1) ∧ decode cX12_goes 171 = .ok (.getfield 7, 3) ∧ decode cX12_goes 174 = .ok (.iload_n 2, 1) ∧ decode cX12_goes 175 = .ok (.iconst 4, 1) := by decide +kernel
theorem e_X12_goes_10 : decode cX12_goes 176 = .ok (.iadd, 1) ∧ decode cX12_goes 177 = .ok (.dup2, 1) ∧ decode cX12_goes 178 = .ok (.iaload, 1) ∧ decode cX12_goes 179 = .ok (.iconst 1, 1) ∧ decode cX12_goes 180 = .ok (.iadd, 1) ∧ decode cX12_goes 181 = .ok (.iastore, 1) ∧ decode cX12_goes 182 = .ok (.goto 12, 3) ∧ decode cX12_goes 185 = .ok (.aload_n 0, 1) ∧ decode cX12_goes 186 = .ok (.iload_n 1, 1) ∧ decode cX12_goes 187 = .ok (.iload 5, 2) := by decide +kernel
theorem e_X12_goes_11 : decode cX12_goes 189 = .ok (.iload 6, 2) ∧ decode cX12_goes 191 = .ok (.invokevirtual 381, 3) ∧ decode cX12_goes 194 = .ok (.return_, 1) := by decide +kernel
abbrev E_X12_goes_73 (G : Kg) (l1 l2 l3 l4 l5 l6 l7 : Int) (σ : Kmem) (Q : Int → Kmem → Prop) : Prop := Ex G WM M_X12_goes 7 0 0 73 [(0, vA G 0), (1, vI l1), (2, vI l2), (3, vI l3), (4, vI l4), (5, vI l5), (6, vI l6), (7, vI l7)] [] σ Q
abbrev E_X12_goes_87 (G : Kg) (l1 l2 l3 l4 l5 l6 l7 l8 : Int) (σ : Kmem) (Q : Int → Kmem → Prop) : Prop := Ex G WM M_X12_goes 7 0 0 87 [(0, vA G 0), (1, vI l1), (2, vI l2), (3, vI l3), (4, vI l4), (5, vI l5), (6, vI l6), (7, vI l7), (8, vI l8)] [] σ Q
theorem S_X12_goes {G : Kg} {σ : Kmem} {Q : Int → Kmem → Prop} {l1 : Int}  (h : Run G WM M_X12_tenantRow 0 0 0 [vI l1] σ (fun r1 s2 => (0 ≤ r1 + 2 ∧ r1 + 2 < 3598) ∧ (0 ≤ r1 ∧ r1 < 3598) ∧ (0 ≤ r1 + 1 ∧ r1 + 1 < 3598) ∧ Run G WM M_X12_now 0 0 0 [vA G 0] s2 (fun r6 s7 => Run G WM M_X12_ownerOf 6 0 0 [vA G 0, vI (s2 1 r1), vI (s2 1 (r1 + 1)), vI r6] s7 (fun r8 s9 => (rI r8) ∧ (rI (s2 1 (r1 + 2))) ∧ ((r8 ≠ s2 1 (r1 + 2) → E_X12_goes_73 G l1 r1 (s2 1 (r1 + 2)) 1000000 0 0 0 s9 Q) ∧ (r8 = s2 1 (r1 + 2) → (0 ≤ r1 + 3 ∧ r1 + 3 < 3598) ∧ (0 ≤ r1 + 3 ∧ r1 + 3 < 3598) ∧ Run G WM M_X12_earns 2 0 0 [vA G 0, vI (s2 1 (r1 + 2)), vI 1] (kup s9 1 (r1 + 3) ((s9 1 (r1 + 3)) + 1)) (fun r14 s15 => Q 0 s15))))))) : Run G WM M_X12_goes 7 0 0 [vA G 0, vI l1] σ Q := by
  refine Run.of (by decide +kernel) (by show (2 : Nat) ≤ 9; decide) ?_
  show Ex G WM M_X12_goes 7 0 0 0 [(0, vA G 0), (1, vI l1)] [] σ Q
  refine R_iload_n e_X12_goes_0.1 1 rfl ?_
  refine R_callS (mc := 0) (ms := 0) (mc' := 0) (ms' := 0) (M' := M_X12_tenantRow) (d' := 0) (as := [vI l1]) (st := []) 1 e_X12_goes_0.2.1 (kCSof m_X12_tenantRow l_X12_352) (by decide) (by decide) rfl rfl (by show (0 : Nat) ≤ 8; decide) ?_
  refine Run.mono h (fun r1 s2 h => ?_)
  refine R_eqs (st2 := [vI r1]) rfl rfl ?_
  refine R_istore_n (ls2 := [(2, vI r1), (0, vA G 0), (1, vI l1)]) e_X12_goes_0.2.2.1 (by decide) rfl ?_
  refine R_aload_n e_X12_goes_0.2.2.2.1 1 rfl ?_
  refine R_getA 12 0 1 e_X12_goes_0.2.2.2.2.1 f_X12_7 km_0 (fun _ _ => rfl) rm_0_0 (by decide) ?_
  refine R_iload_n e_X12_goes_0.2.2.2.2.2.1 0 rfl ?_
  refine R_iconst e_X12_goes_0.2.2.2.2.2.2.1 ?_
  refine R_iadd e_X12_goes_0.2.2.2.2.2.2.2.1 ?_
  obtain ⟨q3, h⟩ := h
  refine R_iald 3598 e_X12_goes_0.2.2.2.2.2.2.2.2.1 kma_1 q3 ?_
  refine R_istore_n (ls2 := [(3, vI (s2 1 (r1 + 2))), (2, vI r1), (0, vA G 0), (1, vI l1)]) e_X12_goes_0.2.2.2.2.2.2.2.2.2 (by decide) rfl ?_
  refine R_aload_n e_X12_goes_1.1 2 rfl ?_
  refine R_aload_n e_X12_goes_1.2.1 2 rfl ?_
  refine R_getA 12 0 1 e_X12_goes_1.2.2.1 f_X12_7 km_0 (fun _ _ => rfl) rm_0_0 (by decide) ?_
  refine R_iload_n e_X12_goes_1.2.2.2.1 1 rfl ?_
  obtain ⟨q4, h⟩ := h
  refine R_iald 3598 e_X12_goes_1.2.2.2.2.1 kma_1 q4 ?_
  refine R_aload_n e_X12_goes_1.2.2.2.2.2.1 2 rfl ?_
  refine R_getA 12 0 1 e_X12_goes_1.2.2.2.2.2.2.1 f_X12_7 km_0 (fun _ _ => rfl) rm_0_0 (by decide) ?_
  refine R_iload_n e_X12_goes_1.2.2.2.2.2.2.2.1 1 rfl ?_
  refine R_iconst e_X12_goes_1.2.2.2.2.2.2.2.2.1 ?_
  refine R_iadd e_X12_goes_1.2.2.2.2.2.2.2.2.2 ?_
  obtain ⟨q5, h⟩ := h
  refine R_iald 3598 e_X12_goes_2.1 kma_1 q5 ?_
  refine R_aload_n e_X12_goes_2.2.1 2 rfl ?_
  refine R_callV (mc := 0) (ms := 0) (mc' := 0) (ms' := 0) (M' := M_X12_now) (d' := 0) (as := []) (st := [vI (s2 1 (r1 + 1)), vI (s2 1 r1), vA G 0]) 12 0 e_X12_goes_2.2.2.1 (kCVof m_X12_now l_X12_325) rfl (by decide) km_0 (by decide) (by decide) rfl rfl (by show (3 : Nat) ≤ 8; decide) ?_
  refine Run.mono h (fun r6 s7 h => ?_)
  refine R_eqs (st2 := [vI r6, vI (s2 1 (r1 + 1)), vI (s2 1 r1), vA G 0]) rfl rfl ?_
  refine R_callV (mc := 0) (ms := 0) (mc' := 0) (ms' := 0) (M' := M_X12_ownerOf) (d' := 6) (as := [vI (s2 1 r1), vI (s2 1 (r1 + 1)), vI r6]) (st := []) 12 3 e_X12_goes_2.2.2.2.1 (kCVof m_X12_ownerOf l_X12_312) rfl (by decide) km_0 (by decide) (by decide) rfl rfl (by show (0 : Nat) ≤ 8; decide) ?_
  refine Run.mono h (fun r8 s9 h => ?_)
  refine R_eqs (st2 := [vI r8]) rfl rfl ?_
  refine R_iload_n e_X12_goes_2.2.2.2.2.1 0 rfl ?_
  obtain ⟨q10, h⟩ := h
  obtain ⟨q11, h⟩ := h
  refine R_icmp_ne 59 e_X12_goes_2.2.2.2.2.2.1 (by decide) q10 q11 (fun q => ?_) (fun q => ?_)
  · replace h := h.1 q
    refine R_ldc_w (1000000) k_X12_377 e_X12_goes_4.2.1 ?_
    refine R_istore (ls2 := [(4, vI 1000000), (3, vI (s2 1 (r1 + 2))), (2, vI r1), (0, vA G 0), (1, vI l1)]) e_X12_goes_4.2.2.1 (by decide) rfl ?_
    refine R_iconst e_X12_goes_4.2.2.2.1 ?_
    refine R_istore (ls2 := [(5, vI 0), (4, vI 1000000), (3, vI (s2 1 (r1 + 2))), (2, vI r1), (0, vA G 0), (1, vI l1)]) e_X12_goes_4.2.2.2.2.1 (by decide) rfl ?_
    refine R_iconst e_X12_goes_4.2.2.2.2.2.1 ?_
    refine R_istore (ls2 := [(6, vI 0), (5, vI 0), (4, vI 1000000), (3, vI (s2 1 (r1 + 2))), (2, vI r1), (0, vA G 0), (1, vI l1)]) e_X12_goes_4.2.2.2.2.2.2.1 (by decide) rfl ?_
    refine R_iconst e_X12_goes_4.2.2.2.2.2.2.2.1 ?_
    refine R_istore (ls2 := [(7, vI 0), (6, vI 0), (5, vI 0), (4, vI 1000000), (3, vI (s2 1 (r1 + 2))), (2, vI r1), (0, vA G 0), (1, vI l1)]) e_X12_goes_4.2.2.2.2.2.2.2.2.1 (by decide) rfl ?_
    refine R_ls (ls2 := [(0, vA G 0), (1, vI l1), (2, vI r1), (3, vI (s2 1 (r1 + 2))), (4, vI 1000000), (5, vI 0), (6, vI 0), (7, vI 0)]) [6, 7, 5, 4, 3, 2, 1, 0] rfl ?_
    exact h
  · replace h := h.2 q
    refine R_aload_n e_X12_goes_2.2.2.2.2.2.2.1 2 rfl ?_
    refine R_getA 12 0 1 e_X12_goes_2.2.2.2.2.2.2.2.1 f_X12_7 km_0 (fun _ _ => rfl) rm_0_0 (by decide) ?_
    refine R_iload_n e_X12_goes_2.2.2.2.2.2.2.2.2.1 1 rfl ?_
    refine R_iconst e_X12_goes_2.2.2.2.2.2.2.2.2.2 ?_
    refine R_iadd e_X12_goes_3.1 ?_
    refine R_dup2 e_X12_goes_3.2.1 rfl rfl ?_
    obtain ⟨q12, h⟩ := h
    refine R_iald 3598 e_X12_goes_3.2.2.1 kma_1 q12 ?_
    refine R_iconst e_X12_goes_3.2.2.2.1 ?_
    refine R_iadd e_X12_goes_3.2.2.2.2.1 ?_
    obtain ⟨q13, h⟩ := h
    refine R_iast 3598 WM_ok e_X12_goes_3.2.2.2.2.2.1 kma_1 q13 ?_
    refine R_aload_n e_X12_goes_3.2.2.2.2.2.2.1 2 rfl ?_
    refine R_iload_n e_X12_goes_3.2.2.2.2.2.2.2.1 0 rfl ?_
    refine R_iconst e_X12_goes_3.2.2.2.2.2.2.2.2.1 ?_
    refine R_callV (mc := 0) (ms := 0) (mc' := 0) (ms' := 0) (M' := M_X12_earns) (d' := 2) (as := [vI (s2 1 (r1 + 2)), vI 1]) (st := []) 12 2 e_X12_goes_3.2.2.2.2.2.2.2.2.2 (kCVof m_X12_earns l_X12_373) rfl (by decide) km_0 (by decide) (by decide) rfl rfl (by show (0 : Nat) ≤ 8; decide) ?_
    refine Run.mono h (fun r14 s15 h => ?_)
    refine R_eqs (st2 := []) rfl rfl ?_
    exact R_return e_X12_goes_4.1 rfl h
theorem S_X12_goes_73 {G : Kg} {σ : Kmem} {Q : Int → Kmem → Prop} {l1 l2 l3 l4 l5 l6 l7 : Int}  (h : (rI l7) ∧ (rI (σ 1 1)) ∧ ((σ 1 1 ≤ l7 → (rI l4) ∧ ((l4 ≠ 1000000 → Run G WM M_X12_nears 1 0 0 [vA G 0, vI l1, vI l5, vI l6] σ (fun r19 s20 => Q 0 s20)) ∧ (l4 = 1000000 → (0 ≤ l2 + 4 ∧ l2 + 4 < 3598) ∧ (0 ≤ l2 + 4 ∧ l2 + 4 < 3598) ∧ Q 0 (kup σ 1 (l2 + 4) ((σ 1 (l2 + 4)) + 1))))) ∧ (l7 < σ 1 1 → E_X12_goes_87 G l1 l2 l3 l4 l5 l6 l7 0 σ Q))) : E_X12_goes_73 G l1 l2 l3 l4 l5 l6 l7 σ Q := by
  refine R_iload e_X12_goes_4.2.2.2.2.2.2.2.2.2 7 rfl ?_
  refine R_aload_n e_X12_goes_5.1 0 rfl ?_
  refine R_getA 12 0 1 e_X12_goes_5.2.1 f_X12_7 km_0 (fun _ _ => rfl) rm_0_0 (by decide) ?_
  refine R_iconst e_X12_goes_5.2.2.1 ?_
  refine R_iald 3598 e_X12_goes_5.2.2.2.1 kma_1 (by decide) ?_
  obtain ⟨q16, h⟩ := h
  obtain ⟨q17, h⟩ := h
  refine R_icmp_ge 162 e_X12_goes_5.2.2.2.2.1 (by decide) q16 q17 (fun q => ?_) (fun q => ?_)
  · replace h := h.1 q
    refine R_iload e_X12_goes_9.2.2.2.1 4 rfl ?_
    refine R_ldc_w (1000000) k_X12_377 e_X12_goes_9.2.2.2.2.1 ?_
    obtain ⟨q18, h⟩ := h
    refine R_icmp_ne 185 e_X12_goes_9.2.2.2.2.2.1 (by decide) q18 (by decide) (fun q => ?_) (fun q => ?_)
    · replace h := h.1 q
      refine R_aload_n e_X12_goes_10.2.2.2.2.2.2.2.1 0 rfl ?_
      refine R_iload_n e_X12_goes_10.2.2.2.2.2.2.2.2.1 1 rfl ?_
      refine R_iload e_X12_goes_10.2.2.2.2.2.2.2.2.2 5 rfl ?_
      refine R_iload e_X12_goes_11.1 6 rfl ?_
      refine R_callV (mc := 0) (ms := 0) (mc' := 0) (ms' := 0) (M' := M_X12_nears) (d' := 1) (as := [vI l1, vI l5, vI l6]) (st := []) 12 3 e_X12_goes_11.2.1 (kCVof m_X12_nears l_X12_381) rfl (by decide) km_0 (by decide) (by decide) rfl rfl (by show (0 : Nat) ≤ 8; decide) ?_
      refine Run.mono h (fun r19 s20 h => ?_)
      refine R_eqs (st2 := []) rfl rfl ?_
      exact R_return e_X12_goes_11.2.2 rfl h
    · replace h := h.2 q
      refine R_aload_n e_X12_goes_9.2.2.2.2.2.2.1 0 rfl ?_
      refine R_getA 12 0 1 e_X12_goes_9.2.2.2.2.2.2.2.1 f_X12_7 km_0 (fun _ _ => rfl) rm_0_0 (by decide) ?_
      refine R_iload_n e_X12_goes_9.2.2.2.2.2.2.2.2.1 2 rfl ?_
      refine R_iconst e_X12_goes_9.2.2.2.2.2.2.2.2.2 ?_
      refine R_iadd e_X12_goes_10.1 ?_
      refine R_dup2 e_X12_goes_10.2.1 rfl rfl ?_
      obtain ⟨q21, h⟩ := h
      refine R_iald 3598 e_X12_goes_10.2.2.1 kma_1 q21 ?_
      refine R_iconst e_X12_goes_10.2.2.2.1 ?_
      refine R_iadd e_X12_goes_10.2.2.2.2.1 ?_
      obtain ⟨q22, h⟩ := h
      refine R_iast 3598 WM_ok e_X12_goes_10.2.2.2.2.2.1 kma_1 q22 ?_
      refine R_goto 194 e_X12_goes_10.2.2.2.2.2.2.1 (by decide) ?_
      exact R_return e_X12_goes_11.2.2 rfl h
  · replace h := h.2 q
    refine R_iconst e_X12_goes_5.2.2.2.2.2.1 ?_
    refine R_istore (ls2 := [(8, vI 0), (0, vA G 0), (1, vI l1), (2, vI l2), (3, vI l3), (4, vI l4), (5, vI l5), (6, vI l6), (7, vI l7)]) e_X12_goes_5.2.2.2.2.2.2.1 (by decide) rfl ?_
    refine R_ls (ls2 := [(0, vA G 0), (1, vI l1), (2, vI l2), (3, vI l3), (4, vI l4), (5, vI l5), (6, vI l6), (7, vI l7), (8, vI 0)]) [1, 2, 3, 4, 5, 6, 7, 8, 0] rfl ?_
    exact h
theorem S_X12_goes_87 {G : Kg} {σ : Kmem} {Q : Int → Kmem → Prop} {l1 l2 l3 l4 l5 l6 l7 l8 : Int}  (h : (rI l8) ∧ (rI (σ 1 0)) ∧ ((σ 1 0 ≤ l8 → E_X12_goes_73 G l1 l2 l3 l4 l5 l6 (l7 + 1) σ Q) ∧ (l8 < σ 1 0 → Run G WM M_X12_now 0 0 0 [vA G 0] σ (fun r25 s26 => Run G WM M_X12_ownerOf 6 0 0 [vA G 0, vI l8, vI l7, vI r25] s26 (fun r27 s28 => (rI r27) ∧ (rI l3) ∧ ((r27 ≠ l3 → E_X12_goes_87 G l1 l2 l3 l4 l5 l6 l7 (l8 + 1) s28 Q) ∧ (r27 = l3 → Run G WM M_X12_stepsTo 1 0 0 [vA G 0, vI l1, vI l8, vI l7] s28 (fun r31 s32 => (rI r31) ∧ (rI l4) ∧ ((r31 < l4 → Run G WM M_X12_stepsTo 1 0 0 [vA G 0, vI l1, vI l8, vI l7] s32 (fun r35 s36 => E_X12_goes_87 G l1 l2 l3 r35 l8 l7 l7 (l8 + 1) s36 Q)) ∧ (l4 ≤ r31 → E_X12_goes_87 G l1 l2 l3 l4 l5 l6 l7 (l8 + 1) s32 Q)))))))))) : E_X12_goes_87 G l1 l2 l3 l4 l5 l6 l7 l8 σ Q := by
  refine R_iload e_X12_goes_5.2.2.2.2.2.2.2.1 8 rfl ?_
  refine R_aload_n e_X12_goes_5.2.2.2.2.2.2.2.2.1 0 rfl ?_
  refine R_getA 12 0 1 e_X12_goes_5.2.2.2.2.2.2.2.2.2 f_X12_7 km_0 (fun _ _ => rfl) rm_0_0 (by decide) ?_
  refine R_iconst e_X12_goes_6.1 ?_
  refine R_iald 3598 e_X12_goes_6.2.1 kma_1 (by decide) ?_
  obtain ⟨q23, h⟩ := h
  obtain ⟨q24, h⟩ := h
  refine R_icmp_ge 156 e_X12_goes_6.2.2.1 (by decide) q23 q24 (fun q => ?_) (fun q => ?_)
  · replace h := h.1 q
    refine R_iinc (ls2 := [(7, vI (l7 + 1)), (0, vA G 0), (1, vI l1), (2, vI l2), (3, vI l3), (4, vI l4), (5, vI l5), (6, vI l6), (8, vI l8)]) e_X12_goes_9.2.1 7 rfl (by decide) rfl ?_
    refine R_goto 73 e_X12_goes_9.2.2.1 (by decide) ?_
    refine R_ls (ls2 := [(0, vA G 0), (1, vI l1), (2, vI l2), (3, vI l3), (4, vI l4), (5, vI l5), (6, vI l6), (7, vI (l7 + 1))]) [1, 2, 3, 4, 5, 6, 7, 0] rfl ?_
    exact h
  · replace h := h.2 q
    refine R_aload_n e_X12_goes_6.2.2.2.1 0 rfl ?_
    refine R_iload e_X12_goes_6.2.2.2.2.1 8 rfl ?_
    refine R_iload e_X12_goes_6.2.2.2.2.2.1 7 rfl ?_
    refine R_aload_n e_X12_goes_6.2.2.2.2.2.2.1 0 rfl ?_
    refine R_callV (mc := 0) (ms := 0) (mc' := 0) (ms' := 0) (M' := M_X12_now) (d' := 0) (as := []) (st := [vI l7, vI l8, vA G 0]) 12 0 e_X12_goes_6.2.2.2.2.2.2.2.1 (kCVof m_X12_now l_X12_325) rfl (by decide) km_0 (by decide) (by decide) rfl rfl (by show (3 : Nat) ≤ 8; decide) ?_
    refine Run.mono h (fun r25 s26 h => ?_)
    refine R_eqs (st2 := [vI r25, vI l7, vI l8, vA G 0]) rfl rfl ?_
    refine R_callV (mc := 0) (ms := 0) (mc' := 0) (ms' := 0) (M' := M_X12_ownerOf) (d' := 6) (as := [vI l8, vI l7, vI r25]) (st := []) 12 3 e_X12_goes_6.2.2.2.2.2.2.2.2.1 (kCVof m_X12_ownerOf l_X12_312) rfl (by decide) km_0 (by decide) (by decide) rfl rfl (by show (0 : Nat) ≤ 8; decide) ?_
    refine Run.mono h (fun r27 s28 h => ?_)
    refine R_eqs (st2 := [vI r27]) rfl rfl ?_
    refine R_iload_n e_X12_goes_6.2.2.2.2.2.2.2.2.2 3 rfl ?_
    obtain ⟨q29, h⟩ := h
    obtain ⟨q30, h⟩ := h
    refine R_icmp_ne 150 e_X12_goes_7.1 (by decide) q29 q30 (fun q => ?_) (fun q => ?_)
    · replace h := h.1 q
      refine R_iinc (ls2 := [(8, vI (l8 + 1)), (0, vA G 0), (1, vI l1), (2, vI l2), (3, vI l3), (4, vI l4), (5, vI l5), (6, vI l6), (7, vI l7)]) e_X12_goes_8.2.2.2.2.2.2.2.2.2 8 rfl (by decide) rfl ?_
      refine R_goto 87 e_X12_goes_9.1 (by decide) ?_
      refine R_ls (ls2 := [(0, vA G 0), (1, vI l1), (2, vI l2), (3, vI l3), (4, vI l4), (5, vI l5), (6, vI l6), (7, vI l7), (8, vI (l8 + 1))]) [1, 2, 3, 4, 5, 6, 7, 8, 0] rfl ?_
      exact h
    · replace h := h.2 q
      refine R_aload_n e_X12_goes_7.2.1 0 rfl ?_
      refine R_iload_n e_X12_goes_7.2.2.1 1 rfl ?_
      refine R_iload e_X12_goes_7.2.2.2.1 8 rfl ?_
      refine R_iload e_X12_goes_7.2.2.2.2.1 7 rfl ?_
      refine R_callV (mc := 0) (ms := 0) (mc' := 0) (ms' := 0) (M' := M_X12_stepsTo) (d' := 1) (as := [vI l1, vI l8, vI l7]) (st := []) 12 3 e_X12_goes_7.2.2.2.2.2.1 (kCVof m_X12_stepsTo l_X12_378) rfl (by decide) km_0 (by decide) (by decide) rfl rfl (by show (0 : Nat) ≤ 8; decide) ?_
      refine Run.mono h (fun r31 s32 h => ?_)
      refine R_eqs (st2 := [vI r31]) rfl rfl ?_
      refine R_iload e_X12_goes_7.2.2.2.2.2.2.1 4 rfl ?_
      obtain ⟨q33, h⟩ := h
      obtain ⟨q34, h⟩ := h
      refine R_icmp_lt 131 e_X12_goes_7.2.2.2.2.2.2.2.1 (by decide) q33 q34 (fun q => ?_) (fun q => ?_)
      · replace h := h.1 q
        refine R_aload_n e_X12_goes_7.2.2.2.2.2.2.2.2.2 0 rfl ?_
        refine R_iload_n e_X12_goes_8.1 1 rfl ?_
        refine R_iload e_X12_goes_8.2.1 8 rfl ?_
        refine R_iload e_X12_goes_8.2.2.1 7 rfl ?_
        refine R_callV (mc := 0) (ms := 0) (mc' := 0) (ms' := 0) (M' := M_X12_stepsTo) (d' := 1) (as := [vI l1, vI l8, vI l7]) (st := []) 12 3 e_X12_goes_8.2.2.2.1 (kCVof m_X12_stepsTo l_X12_378) rfl (by decide) km_0 (by decide) (by decide) rfl rfl (by show (0 : Nat) ≤ 8; decide) ?_
        refine Run.mono h (fun r35 s36 h => ?_)
        refine R_eqs (st2 := [vI r35]) rfl rfl ?_
        refine R_istore (ls2 := [(4, vI r35), (0, vA G 0), (1, vI l1), (2, vI l2), (3, vI l3), (5, vI l5), (6, vI l6), (7, vI l7), (8, vI l8)]) e_X12_goes_8.2.2.2.2.1 (by decide) rfl ?_
        refine R_iload e_X12_goes_8.2.2.2.2.2.1 8 rfl ?_
        refine R_istore (ls2 := [(5, vI l8), (4, vI r35), (0, vA G 0), (1, vI l1), (2, vI l2), (3, vI l3), (6, vI l6), (7, vI l7), (8, vI l8)]) e_X12_goes_8.2.2.2.2.2.2.1 (by decide) rfl ?_
        refine R_iload e_X12_goes_8.2.2.2.2.2.2.2.1 7 rfl ?_
        refine R_istore (ls2 := [(6, vI l7), (5, vI l8), (4, vI r35), (0, vA G 0), (1, vI l1), (2, vI l2), (3, vI l3), (7, vI l7), (8, vI l8)]) e_X12_goes_8.2.2.2.2.2.2.2.2.1 (by decide) rfl ?_
        refine R_iinc (ls2 := [(8, vI (l8 + 1)), (6, vI l7), (5, vI l8), (4, vI r35), (0, vA G 0), (1, vI l1), (2, vI l2), (3, vI l3), (7, vI l7)]) e_X12_goes_8.2.2.2.2.2.2.2.2.2 8 rfl (by decide) rfl ?_
        refine R_goto 87 e_X12_goes_9.1 (by decide) ?_
        refine R_ls (ls2 := [(0, vA G 0), (1, vI l1), (2, vI l2), (3, vI l3), (4, vI r35), (5, vI l8), (6, vI l7), (7, vI l7), (8, vI (l8 + 1))]) [4, 5, 6, 7, 3, 2, 1, 8, 0] rfl ?_
        exact h
      · replace h := h.2 q
        refine R_goto 150 e_X12_goes_7.2.2.2.2.2.2.2.2.1 (by decide) ?_
        refine R_iinc (ls2 := [(8, vI (l8 + 1)), (0, vA G 0), (1, vI l1), (2, vI l2), (3, vI l3), (4, vI l4), (5, vI l5), (6, vI l6), (7, vI l7)]) e_X12_goes_8.2.2.2.2.2.2.2.2.2 8 rfl (by decide) rfl ?_
        refine R_goto 87 e_X12_goes_9.1 (by decide) ?_
        refine R_ls (ls2 := [(0, vA G 0), (1, vI l1), (2, vI l2), (3, vI l3), (4, vI l4), (5, vI l5), (6, vI l6), (7, vI l7), (8, vI (l8 + 1))]) [1, 2, 3, 4, 5, 6, 7, 8, 0] rfl ?_
        exact h
/-! KiteLandModel.cuts()I -/
theorem e_X12_cuts_0 : decode cX12_cuts 0 = .ok (.aload_n 0, 1) ∧ decode cX12_cuts 1 = .ok (.invokevirtual 367, 3) ∧ decode cX12_cuts 4 = .ok (.istore_n 1, 1) ∧ decode cX12_cuts 5 = .ok (.iconst 0, 1) ∧ decode cX12_cuts 6 = .ok (.istore_n 2, 1) ∧ decode cX12_cuts 7 = .ok (.iload_n 2, 1) ∧ decode cX12_cuts 8 = .ok (.aload_n 0, 1) ∧ decode cX12_cuts 9 = .ok (.getfield 7, 3) ∧ decode cX12_cuts 12 = .ok (.iconst 2, 1) ∧ decode cX12_cuts 13 = .ok (.iaload, 1) := by decide +kernel
theorem e_X12_cuts_1 : decode cX12_cuts 14 = .ok (.if_icmp .ge 31, 3) ∧ decode cX12_cuts 17 = .ok (.aload_n 0, 1) ∧ decode cX12_cuts 18 = .ok (.iload_n 1, 1) ∧ decode cX12_cuts 19 = .ok (.iload_n 2, 1) ∧ decode cX12_cuts 20 = .ok (.invokevirtual 299, 3) ∧ decode cX12_cuts 23 = .ok (.ifCond .eq 16, 3) ∧ decode cX12_cuts 26 = .ok (.aload_n 0, 1) ∧ decode cX12_cuts 27 = .ok (.getfield 7, 3) ∧ decode cX12_cuts 30 = .ok (.iload_n 2, 1) ∧ decode cX12_cuts 31 = .ok (.invokestatic 265, 3) := by decide +kernel
theorem e_X12_cuts_2 : decode cX12_cuts 34 = .ok (.bipush 8, 2) ∧ decode cX12_cuts 36 = .ok (.iadd, 1) ∧ decode cX12_cuts 37 = .ok (.iconst 1, 1) ∧ decode cX12_cuts 38 = .ok (.iastore, 1) ∧ decode cX12_cuts 39 = .ok (.iinc 2 1, 3) ∧ decode cX12_cuts 42 = .ok (.goto (-35), 3) ∧ decode cX12_cuts 45 = .ok (.iload_n 1, 1) ∧ decode cX12_cuts 46 = .ok (.ireturn, 1) := by decide +kernel
abbrev E_X12_cuts_7 (G : Kg) (l1 l2 : Int) (σ : Kmem) (Q : Int → Kmem → Prop) : Prop := Ex G WM M_X12_cuts 7 0 0 7 [(0, vA G 0), (1, vI l1), (2, vI l2)] [] σ Q
theorem S_X12_cuts {G : Kg} {σ : Kmem} {Q : Int → Kmem → Prop}  (h : Run G WM M_X12_doomedNow 6 0 0 [vA G 0] σ (fun r1 s2 => E_X12_cuts_7 G r1 0 s2 Q)) : Run G WM M_X12_cuts 7 0 0 [vA G 0] σ Q := by
  refine Run.of (by decide +kernel) (by show (1 : Nat) ≤ 3; decide) ?_
  show Ex G WM M_X12_cuts 7 0 0 0 [(0, vA G 0)] [] σ Q
  refine R_aload_n e_X12_cuts_0.1 0 rfl ?_
  refine R_callV (mc := 0) (ms := 0) (mc' := 0) (ms' := 0) (M' := M_X12_doomedNow) (d' := 6) (as := []) (st := []) 12 0 e_X12_cuts_0.2.1 (kCVof m_X12_doomedNow l_X12_367) rfl (by decide) km_0 (by decide) (by decide) rfl rfl (by show (0 : Nat) ≤ 8; decide) ?_
  refine Run.mono h (fun r1 s2 h => ?_)
  refine R_eqs (st2 := [vI r1]) rfl rfl ?_
  refine R_istore_n (ls2 := [(1, vI r1), (0, vA G 0)]) e_X12_cuts_0.2.2.1 (by decide) rfl ?_
  refine R_iconst e_X12_cuts_0.2.2.2.1 ?_
  refine R_istore_n (ls2 := [(2, vI 0), (1, vI r1), (0, vA G 0)]) e_X12_cuts_0.2.2.2.2.1 (by decide) rfl ?_
  refine R_ls (ls2 := [(0, vA G 0), (1, vI r1), (2, vI 0)]) [2, 1, 0] rfl ?_
  exact h
theorem S_X12_cuts_7 {G : Kg} {σ : Kmem} {Q : Int → Kmem → Prop} {l1 l2 : Int}  (h : (rI l2) ∧ (rI (σ 1 2)) ∧ ((σ 1 2 ≤ l2 → Q l1 σ) ∧ (l2 < σ 1 2 → Run G WM M_X12_isIn 0 0 0 [vA G 0, vI l1, vI l2] σ (fun r5 s6 => (rI r5) ∧ ((r5 = 0 → E_X12_cuts_7 G l1 (l2 + 1) s6 Q) ∧ (r5 ≠ 0 → Run G WM M_X12_kiteRow 0 0 0 [vI l2] s6 (fun r8 s9 => (0 ≤ r8 + 8 ∧ r8 + 8 < 3598) ∧ E_X12_cuts_7 G l1 (l2 + 1) (kup s9 1 (r8 + 8) 1) Q))))))) : E_X12_cuts_7 G l1 l2 σ Q := by
  refine R_iload_n e_X12_cuts_0.2.2.2.2.2.1 2 rfl ?_
  refine R_aload_n e_X12_cuts_0.2.2.2.2.2.2.1 0 rfl ?_
  refine R_getA 12 0 1 e_X12_cuts_0.2.2.2.2.2.2.2.1 f_X12_7 km_0 (fun _ _ => rfl) rm_0_0 (by decide) ?_
  refine R_iconst e_X12_cuts_0.2.2.2.2.2.2.2.2.1 ?_
  refine R_iald 3598 e_X12_cuts_0.2.2.2.2.2.2.2.2.2 kma_1 (by decide) ?_
  obtain ⟨q3, h⟩ := h
  obtain ⟨q4, h⟩ := h
  refine R_icmp_ge 45 e_X12_cuts_1.1 (by decide) q3 q4 (fun q => ?_) (fun q => ?_)
  · replace h := h.1 q
    refine R_iload_n e_X12_cuts_2.2.2.2.2.2.2.1 1 rfl ?_
    exact R_ireturn e_X12_cuts_2.2.2.2.2.2.2.2 rfl h
  · replace h := h.2 q
    refine R_aload_n e_X12_cuts_1.2.1 0 rfl ?_
    refine R_iload_n e_X12_cuts_1.2.2.1 1 rfl ?_
    refine R_iload_n e_X12_cuts_1.2.2.2.1 2 rfl ?_
    refine R_callV (mc := 0) (ms := 0) (mc' := 0) (ms' := 0) (M' := M_X12_isIn) (d' := 0) (as := [vI l1, vI l2]) (st := []) 12 2 e_X12_cuts_1.2.2.2.2.1 (kCVof m_X12_isIn l_X12_299) rfl (by decide) km_0 (by decide) (by decide) rfl rfl (by show (0 : Nat) ≤ 8; decide) ?_
    refine Run.mono h (fun r5 s6 h => ?_)
    refine R_eqs (st2 := [vI r5]) rfl rfl ?_
    obtain ⟨q7, h⟩ := h
    refine R_if_eq 39 e_X12_cuts_1.2.2.2.2.2.1 (by decide) q7  (fun q => ?_) (fun q => ?_)
    · replace h := h.1 q
      refine R_iinc (ls2 := [(2, vI (l2 + 1)), (0, vA G 0), (1, vI l1)]) e_X12_cuts_2.2.2.2.2.1 2 rfl (by decide) rfl ?_
      refine R_goto 7 e_X12_cuts_2.2.2.2.2.2.1 (by decide) ?_
      refine R_ls (ls2 := [(0, vA G 0), (1, vI l1), (2, vI (l2 + 1))]) [1, 2, 0] rfl ?_
      exact h
    · replace h := h.2 q
      refine R_aload_n e_X12_cuts_1.2.2.2.2.2.2.1 0 rfl ?_
      refine R_getA 12 0 1 e_X12_cuts_1.2.2.2.2.2.2.2.1 f_X12_7 km_0 (fun _ _ => rfl) rm_0_0 (by decide) ?_
      refine R_iload_n e_X12_cuts_1.2.2.2.2.2.2.2.2.1 2 rfl ?_
      refine R_callS (mc := 0) (ms := 0) (mc' := 0) (ms' := 0) (M' := M_X12_kiteRow) (d' := 0) (as := [vI l2]) (st := [vA G 1]) 1 e_X12_cuts_1.2.2.2.2.2.2.2.2.2 (kCSof m_X12_kiteRow l_X12_265) (by decide) (by decide) rfl rfl (by show (1 : Nat) ≤ 8; decide) ?_
      refine Run.mono h (fun r8 s9 h => ?_)
      refine R_eqs (st2 := [vI r8, vA G 1]) rfl rfl ?_
      refine R_bipush e_X12_cuts_2.1 (by decide) ?_
      refine R_iadd e_X12_cuts_2.2.1 ?_
      refine R_iconst e_X12_cuts_2.2.2.1 ?_
      obtain ⟨q10, h⟩ := h
      refine R_iast 3598 WM_ok e_X12_cuts_2.2.2.2.1 kma_1 q10 ?_
      refine R_iinc (ls2 := [(2, vI (l2 + 1)), (0, vA G 0), (1, vI l1)]) e_X12_cuts_2.2.2.2.2.1 2 rfl (by decide) rfl ?_
      refine R_goto 7 e_X12_cuts_2.2.2.2.2.2.1 (by decide) ?_
      refine R_ls (ls2 := [(0, vA G 0), (1, vI l1), (2, vI (l2 + 1))]) [1, 2, 0] rfl ?_
      exact h
/-! KiteLandModel.goesBy()I -/
theorem e_X12_goesBy_0 : decode cX12_goesBy 0 = .ok (.aload_n 0, 1) ∧ decode cX12_goesBy 1 = .ok (.invokevirtual 385, 3) ∧ decode cX12_goesBy 4 = .ok (.istore_n 1, 1) ∧ decode cX12_goesBy 5 = .ok (.iconst 0, 1) ∧ decode cX12_goesBy 6 = .ok (.istore_n 2, 1) ∧ decode cX12_goesBy 7 = .ok (.iload_n 2, 1) ∧ decode cX12_goesBy 8 = .ok (.aload_n 0, 1) ∧ decode cX12_goesBy 9 = .ok (.getfield 7, 3) ∧ decode cX12_goesBy 12 = .ok (.iconst 3, 1) ∧ decode cX12_goesBy 13 = .ok (.iaload, 1) := by decide +kernel
theorem e_X12_goesBy_1 : decode cX12_goesBy 14 = .ok (.if_icmp .ge 77, 3) ∧ decode cX12_goesBy 17 = .ok (.iload_n 2, 1) ∧ decode cX12_goesBy 18 = .ok (.invokestatic 334, 3) ∧ decode cX12_goesBy 21 = .ok (.istore_n 3, 1) ∧ decode cX12_goesBy 22 = .ok (.aload_n 0, 1) ∧ decode cX12_goesBy 23 = .ok (.aload_n 0, 1) ∧ decode cX12_goesBy 24 = .ok (.getfield 7, 3) ∧ decode cX12_goesBy 27 = .ok (.iload_n 3, 1) ∧ decode cX12_goesBy 28 = .ok (.iaload, 1) ∧ decode cX12_goesBy 29 = .ok (.aload_n 0, 1) := by decide +kernel
theorem e_X12_goesBy_2 : decode cX12_goesBy 30 = .ok (.getfield 7, 3) ∧ decode cX12_goesBy 33 = .ok (.iload_n 3, 1) ∧ decode cX12_goesBy 34 = .ok (.iconst 1, 1) ∧ decode cX12_goesBy 35 = .ok (.iadd, 1) ∧ decode cX12_goesBy 36 = .ok (.iaload, 1) ∧ decode cX12_goesBy 37 = .ok (.aload_n 0, 1) ∧ decode cX12_goesBy 38 = .ok (.invokevirtual 325, 3) ∧ decode cX12_goesBy 41 = .ok (.invokevirtual 312, 3) ∧ decode cX12_goesBy 44 = .ok (.istore 4, 2) ∧ decode cX12_goesBy 46 = .ok (.iload 4, 2) := by decide +kernel
theorem e_X12_goesBy_3 : decode cX12_goesBy 48 = .ok (.iconst (-1), 1) ∧ decode cX12_goesBy 49 = .ok (.if_icmp .ne 6, 3) ∧ decode cX12_goesBy 52 = .ok (.goto 33, 3) ∧ decode cX12_goesBy 55 = .ok (.aload_n 0, 1) ∧ decode cX12_goesBy 56 = .ok (.getfield 7, 3) ∧ decode cX12_goesBy 59 = .ok (.iload_n 3, 1) ∧ decode cX12_goesBy 60 = .ok (.iconst 3, 1) ∧ decode cX12_goesBy 61 = .ok (.iadd, 1) ∧ decode cX12_goesBy 62 = .ok (.bipush 99, 2) ∧ decode cX12_goesBy 64 = .ok (.aload_n 0, 1) := by decide +kernel
theorem e_X12_goesBy_4 : decode cX12_goesBy 65 = .ok (.getfield 7, 3) ∧ decode cX12_goesBy 68 = .ok (.iload_n 3, 1) ∧ decode cX12_goesBy 69 = .ok (.iconst 3, 1) ∧ decode cX12_goesBy 70 = .ok (.iadd, 1) ∧ decode cX12_goesBy 71 = .ok (.iaload, 1) ∧ decode cX12_goesBy 72 = .ok (.iconst 1, 1) ∧ decode cX12_goesBy 73 = .ok (.iadd, 1) ∧ decode cX12_goesBy 74 = .ok (.invokestatic 148, 3) ∧ decode cX12_goesBy 77 = .ok (.iastore, 1) ∧ decode cX12_goesBy 78 = .ok (.aload_n 0, 1) := by decide +kernel
theorem e_X12_goesBy_5 : decode cX12_goesBy 79 = .ok (.iload 4, 2) ∧ decode cX12_goesBy 81 = .ok (.iconst 1, 1) ∧ decode cX12_goesBy 82 = .ok (.invokevirtual 373, 3) ∧ decode cX12_goesBy 85 = .ok (.iinc 2 1, 3) ∧ decode cX12_goesBy 88 = .ok (.goto (-81), 3) ∧ decode cX12_goesBy 91 = .ok (.iconst 0, 1) ∧ decode cX12_goesBy 92 = .ok (.istore_n 2, 1) ∧ decode cX12_goesBy 93 = .ok (.iload_n 2, 1) ∧ decode cX12_goesBy 94 = .ok (.aload_n 0, 1) ∧ decode cX12_goesBy 95 = .ok (.getfield 7, 3) := by decide +kernel
theorem e_X12_goesBy_6 : decode cX12_goesBy 98 = .ok (.iconst 4, 1) ∧ decode cX12_goesBy 99 = .ok (.iaload, 1) ∧ decode cX12_goesBy 100 = .ok (.if_icmp .ge 14, 3) ∧ decode cX12_goesBy 103 = .ok (.aload_n 0, 1) ∧ decode cX12_goesBy 104 = .ok (.iload_n 2, 1) ∧ decode cX12_goesBy 105 = .ok (.invokevirtual 388, 3) ∧ decode cX12_goesBy 108 = .ok (.iinc 2 1, 3) ∧ decode cX12_goesBy 111 = .ok (.goto (-18), 3) ∧ decode cX12_goesBy 114 = .ok (.aload_n 0, 1) ∧ decode cX12_goesBy 115 = .ok (.getfield 7, 3) := by decide +kernel
theorem e_X12_goesBy_7 : decode cX12_goesBy 118 = .ok (.bipush 7, 2) ∧ decode cX12_goesBy 120 = .ok (.dup2, 1) ∧ decode cX12_goesBy 121 = .ok (.iaload, 1) ∧ decode cX12_goesBy 122 = .ok (.iconst 1, 1) ∧ decode cX12_goesBy 123 = .ok (.iadd, 1) ∧ decode cX12_goesBy 124 = .ok (.iastore, 1) ∧ decode cX12_goesBy 125 = .ok (.iload_n 1, 1) ∧ decode cX12_goesBy 126 = .ok (.ireturn, 1) := by decide +kernel
abbrev E_X12_goesBy_7 (G : Kg) (l1 l2 : Int) (σ : Kmem) (Q : Int → Kmem → Prop) : Prop := Ex G WM M_X12_goesBy 8 0 0 7 [(0, vA G 0), (1, vI l1), (2, vI l2)] [] σ Q
abbrev E_X12_goesBy_93 (G : Kg) (l1 l2 : Int) (σ : Kmem) (Q : Int → Kmem → Prop) : Prop := Ex G WM M_X12_goesBy 8 0 0 93 [(0, vA G 0), (1, vI l1), (2, vI l2)] [] σ Q
theorem S_X12_goesBy {G : Kg} {σ : Kmem} {Q : Int → Kmem → Prop}  (h : Run G WM M_X12_cuts 7 0 0 [vA G 0] σ (fun r1 s2 => E_X12_goesBy_7 G r1 0 s2 Q)) : Run G WM M_X12_goesBy 8 0 0 [vA G 0] σ Q := by
  refine Run.of (by decide +kernel) (by show (1 : Nat) ≤ 5; decide) ?_
  show Ex G WM M_X12_goesBy 8 0 0 0 [(0, vA G 0)] [] σ Q
  refine R_aload_n e_X12_goesBy_0.1 0 rfl ?_
  refine R_callV (mc := 0) (ms := 0) (mc' := 0) (ms' := 0) (M' := M_X12_cuts) (d' := 7) (as := []) (st := []) 12 0 e_X12_goesBy_0.2.1 (kCVof m_X12_cuts l_X12_385) rfl (by decide) km_0 (by decide) (by decide) rfl rfl (by show (0 : Nat) ≤ 8; decide) ?_
  refine Run.mono h (fun r1 s2 h => ?_)
  refine R_eqs (st2 := [vI r1]) rfl rfl ?_
  refine R_istore_n (ls2 := [(1, vI r1), (0, vA G 0)]) e_X12_goesBy_0.2.2.1 (by decide) rfl ?_
  refine R_iconst e_X12_goesBy_0.2.2.2.1 ?_
  refine R_istore_n (ls2 := [(2, vI 0), (1, vI r1), (0, vA G 0)]) e_X12_goesBy_0.2.2.2.2.1 (by decide) rfl ?_
  refine R_ls (ls2 := [(0, vA G 0), (1, vI r1), (2, vI 0)]) [2, 1, 0] rfl ?_
  exact h
theorem S_X12_goesBy_7 {G : Kg} {σ : Kmem} {Q : Int → Kmem → Prop} {l1 l2 : Int}  (h : (rI l2) ∧ (rI (σ 1 3)) ∧ ((σ 1 3 ≤ l2 → E_X12_goesBy_93 G l1 0 σ Q) ∧ (l2 < σ 1 3 → Run G WM M_X12_cropRow 0 0 0 [vI l2] σ (fun r5 s6 => (0 ≤ r5 ∧ r5 < 3598) ∧ (0 ≤ r5 + 1 ∧ r5 + 1 < 3598) ∧ Run G WM M_X12_now 0 0 0 [vA G 0] s6 (fun r9 s10 => Run G WM M_X12_ownerOf 6 0 0 [vA G 0, vI (s6 1 r5), vI (s6 1 (r5 + 1)), vI r9] s10 (fun r11 s12 => (rI r11) ∧ ((r11 ≠ -1 → (0 ≤ r5 + 3 ∧ r5 + 3 < 3598) ∧ Run G WM M_J9_min_7cf53 0 0 0 [vI 99, vI ((s12 1 (r5 + 3)) + 1)] s12 (fun r15 s16 => (0 ≤ r5 + 3 ∧ r5 + 3 < 3598) ∧ Run G WM M_X12_earns 2 0 0 [vA G 0, vI r11, vI 1] (kup s16 1 (r5 + 3) r15) (fun r18 s19 => E_X12_goesBy_7 G l1 (l2 + 1) s19 Q))) ∧ (r11 = -1 → E_X12_goesBy_7 G l1 (l2 + 1) s12 Q)))))))) : E_X12_goesBy_7 G l1 l2 σ Q := by
  refine R_iload_n e_X12_goesBy_0.2.2.2.2.2.1 2 rfl ?_
  refine R_aload_n e_X12_goesBy_0.2.2.2.2.2.2.1 0 rfl ?_
  refine R_getA 12 0 1 e_X12_goesBy_0.2.2.2.2.2.2.2.1 f_X12_7 km_0 (fun _ _ => rfl) rm_0_0 (by decide) ?_
  refine R_iconst e_X12_goesBy_0.2.2.2.2.2.2.2.2.1 ?_
  refine R_iald 3598 e_X12_goesBy_0.2.2.2.2.2.2.2.2.2 kma_1 (by decide) ?_
  obtain ⟨q3, h⟩ := h
  obtain ⟨q4, h⟩ := h
  refine R_icmp_ge 91 e_X12_goesBy_1.1 (by decide) q3 q4 (fun q => ?_) (fun q => ?_)
  · replace h := h.1 q
    refine R_iconst e_X12_goesBy_5.2.2.2.2.2.1 ?_
    refine R_istore_n (ls2 := [(2, vI 0), (0, vA G 0), (1, vI l1)]) e_X12_goesBy_5.2.2.2.2.2.2.1 (by decide) rfl ?_
    refine R_ls (ls2 := [(0, vA G 0), (1, vI l1), (2, vI 0)]) [1, 2, 0] rfl ?_
    exact h
  · replace h := h.2 q
    refine R_iload_n e_X12_goesBy_1.2.1 2 rfl ?_
    refine R_callS (mc := 0) (ms := 0) (mc' := 0) (ms' := 0) (M' := M_X12_cropRow) (d' := 0) (as := [vI l2]) (st := []) 1 e_X12_goesBy_1.2.2.1 (kCSof m_X12_cropRow l_X12_334) (by decide) (by decide) rfl rfl (by show (0 : Nat) ≤ 8; decide) ?_
    refine Run.mono h (fun r5 s6 h => ?_)
    refine R_eqs (st2 := [vI r5]) rfl rfl ?_
    refine R_istore_n (ls2 := [(3, vI r5), (0, vA G 0), (1, vI l1), (2, vI l2)]) e_X12_goesBy_1.2.2.2.1 (by decide) rfl ?_
    refine R_aload_n e_X12_goesBy_1.2.2.2.2.1 1 rfl ?_
    refine R_aload_n e_X12_goesBy_1.2.2.2.2.2.1 1 rfl ?_
    refine R_getA 12 0 1 e_X12_goesBy_1.2.2.2.2.2.2.1 f_X12_7 km_0 (fun _ _ => rfl) rm_0_0 (by decide) ?_
    refine R_iload_n e_X12_goesBy_1.2.2.2.2.2.2.2.1 0 rfl ?_
    obtain ⟨q7, h⟩ := h
    refine R_iald 3598 e_X12_goesBy_1.2.2.2.2.2.2.2.2.1 kma_1 q7 ?_
    refine R_aload_n e_X12_goesBy_1.2.2.2.2.2.2.2.2.2 1 rfl ?_
    refine R_getA 12 0 1 e_X12_goesBy_2.1 f_X12_7 km_0 (fun _ _ => rfl) rm_0_0 (by decide) ?_
    refine R_iload_n e_X12_goesBy_2.2.1 0 rfl ?_
    refine R_iconst e_X12_goesBy_2.2.2.1 ?_
    refine R_iadd e_X12_goesBy_2.2.2.2.1 ?_
    obtain ⟨q8, h⟩ := h
    refine R_iald 3598 e_X12_goesBy_2.2.2.2.2.1 kma_1 q8 ?_
    refine R_aload_n e_X12_goesBy_2.2.2.2.2.2.1 1 rfl ?_
    refine R_callV (mc := 0) (ms := 0) (mc' := 0) (ms' := 0) (M' := M_X12_now) (d' := 0) (as := []) (st := [vI (s6 1 (r5 + 1)), vI (s6 1 r5), vA G 0]) 12 0 e_X12_goesBy_2.2.2.2.2.2.2.1 (kCVof m_X12_now l_X12_325) rfl (by decide) km_0 (by decide) (by decide) rfl rfl (by show (3 : Nat) ≤ 8; decide) ?_
    refine Run.mono h (fun r9 s10 h => ?_)
    refine R_eqs (st2 := [vI r9, vI (s6 1 (r5 + 1)), vI (s6 1 r5), vA G 0]) rfl rfl ?_
    refine R_callV (mc := 0) (ms := 0) (mc' := 0) (ms' := 0) (M' := M_X12_ownerOf) (d' := 6) (as := [vI (s6 1 r5), vI (s6 1 (r5 + 1)), vI r9]) (st := []) 12 3 e_X12_goesBy_2.2.2.2.2.2.2.2.1 (kCVof m_X12_ownerOf l_X12_312) rfl (by decide) km_0 (by decide) (by decide) rfl rfl (by show (0 : Nat) ≤ 8; decide) ?_
    refine Run.mono h (fun r11 s12 h => ?_)
    refine R_eqs (st2 := [vI r11]) rfl rfl ?_
    refine R_istore (ls2 := [(4, vI r11), (3, vI r5), (0, vA G 0), (1, vI l1), (2, vI l2)]) e_X12_goesBy_2.2.2.2.2.2.2.2.2.1 (by decide) rfl ?_
    refine R_iload e_X12_goesBy_2.2.2.2.2.2.2.2.2.2 0 rfl ?_
    refine R_iconst e_X12_goesBy_3.1 ?_
    obtain ⟨q13, h⟩ := h
    refine R_icmp_ne 55 e_X12_goesBy_3.2.1 (by decide) q13 (by decide) (fun q => ?_) (fun q => ?_)
    · replace h := h.1 q
      refine R_aload_n e_X12_goesBy_3.2.2.2.1 2 rfl ?_
      refine R_getA 12 0 1 e_X12_goesBy_3.2.2.2.2.1 f_X12_7 km_0 (fun _ _ => rfl) rm_0_0 (by decide) ?_
      refine R_iload_n e_X12_goesBy_3.2.2.2.2.2.1 1 rfl ?_
      refine R_iconst e_X12_goesBy_3.2.2.2.2.2.2.1 ?_
      refine R_iadd e_X12_goesBy_3.2.2.2.2.2.2.2.1 ?_
      refine R_bipush e_X12_goesBy_3.2.2.2.2.2.2.2.2.1 (by decide) ?_
      refine R_aload_n e_X12_goesBy_3.2.2.2.2.2.2.2.2.2 2 rfl ?_
      refine R_getA 12 0 1 e_X12_goesBy_4.1 f_X12_7 km_0 (fun _ _ => rfl) rm_0_0 (by decide) ?_
      refine R_iload_n e_X12_goesBy_4.2.1 1 rfl ?_
      refine R_iconst e_X12_goesBy_4.2.2.1 ?_
      refine R_iadd e_X12_goesBy_4.2.2.2.1 ?_
      obtain ⟨q14, h⟩ := h
      refine R_iald 3598 e_X12_goesBy_4.2.2.2.2.1 kma_1 q14 ?_
      refine R_iconst e_X12_goesBy_4.2.2.2.2.2.1 ?_
      refine R_iadd e_X12_goesBy_4.2.2.2.2.2.2.1 ?_
      refine R_callS (mc := 0) (ms := 0) (mc' := 0) (ms' := 0) (M' := M_J9_min_7cf53) (d' := 0) (as := [vI 99, vI ((s12 1 (r5 + 3)) + 1)]) (st := [vI (r5 + 3), vA G 1]) 2 e_X12_goesBy_4.2.2.2.2.2.2.2.1 (kCSof m_J9_min_7cf53 l_X12_148) (by decide) (by decide) rfl rfl (by show (2 : Nat) ≤ 8; decide) ?_
      refine Run.mono h (fun r15 s16 h => ?_)
      refine R_eqs (st2 := [vI r15, vI (r5 + 3), vA G 1]) rfl rfl ?_
      obtain ⟨q17, h⟩ := h
      refine R_iast 3598 WM_ok e_X12_goesBy_4.2.2.2.2.2.2.2.2.1 kma_1 q17 ?_
      refine R_aload_n e_X12_goesBy_4.2.2.2.2.2.2.2.2.2 2 rfl ?_
      refine R_iload e_X12_goesBy_5.1 0 rfl ?_
      refine R_iconst e_X12_goesBy_5.2.1 ?_
      refine R_callV (mc := 0) (ms := 0) (mc' := 0) (ms' := 0) (M' := M_X12_earns) (d' := 2) (as := [vI r11, vI 1]) (st := []) 12 2 e_X12_goesBy_5.2.2.1 (kCVof m_X12_earns l_X12_373) rfl (by decide) km_0 (by decide) (by decide) rfl rfl (by show (0 : Nat) ≤ 8; decide) ?_
      refine Run.mono h (fun r18 s19 h => ?_)
      refine R_eqs (st2 := []) rfl rfl ?_
      refine R_iinc (ls2 := [(2, vI (l2 + 1)), (4, vI r11), (3, vI r5), (0, vA G 0), (1, vI l1)]) e_X12_goesBy_5.2.2.2.1 4 rfl (by decide) rfl ?_
      refine R_goto 7 e_X12_goesBy_5.2.2.2.2.1 (by decide) ?_
      refine R_ls (ls2 := [(0, vA G 0), (1, vI l1), (2, vI (l2 + 1))]) [3, 4, 0] rfl ?_
      exact h
    · replace h := h.2 q
      refine R_goto 85 e_X12_goesBy_3.2.2.1 (by decide) ?_
      refine R_iinc (ls2 := [(2, vI (l2 + 1)), (4, vI r11), (3, vI r5), (0, vA G 0), (1, vI l1)]) e_X12_goesBy_5.2.2.2.1 4 rfl (by decide) rfl ?_
      refine R_goto 7 e_X12_goesBy_5.2.2.2.2.1 (by decide) ?_
      refine R_ls (ls2 := [(0, vA G 0), (1, vI l1), (2, vI (l2 + 1))]) [3, 4, 0] rfl ?_
      exact h
theorem S_X12_goesBy_93 {G : Kg} {σ : Kmem} {Q : Int → Kmem → Prop} {l1 l2 : Int}  (h : (rI l2) ∧ (rI (σ 1 4)) ∧ ((σ 1 4 ≤ l2 → Q l1 (kup σ 1 7 ((σ 1 7) + 1))) ∧ (l2 < σ 1 4 → Run G WM M_X12_goes 7 0 0 [vA G 0, vI l2] σ (fun r22 s23 => E_X12_goesBy_93 G l1 (l2 + 1) s23 Q)))) : E_X12_goesBy_93 G l1 l2 σ Q := by
  refine R_iload_n e_X12_goesBy_5.2.2.2.2.2.2.2.1 2 rfl ?_
  refine R_aload_n e_X12_goesBy_5.2.2.2.2.2.2.2.2.1 0 rfl ?_
  refine R_getA 12 0 1 e_X12_goesBy_5.2.2.2.2.2.2.2.2.2 f_X12_7 km_0 (fun _ _ => rfl) rm_0_0 (by decide) ?_
  refine R_iconst e_X12_goesBy_6.1 ?_
  refine R_iald 3598 e_X12_goesBy_6.2.1 kma_1 (by decide) ?_
  obtain ⟨q20, h⟩ := h
  obtain ⟨q21, h⟩ := h
  refine R_icmp_ge 114 e_X12_goesBy_6.2.2.1 (by decide) q20 q21 (fun q => ?_) (fun q => ?_)
  · replace h := h.1 q
    refine R_aload_n e_X12_goesBy_6.2.2.2.2.2.2.2.2.1 0 rfl ?_
    refine R_getA 12 0 1 e_X12_goesBy_6.2.2.2.2.2.2.2.2.2 f_X12_7 km_0 (fun _ _ => rfl) rm_0_0 (by decide) ?_
    refine R_bipush e_X12_goesBy_7.1 (by decide) ?_
    refine R_dup2 e_X12_goesBy_7.2.1 rfl rfl ?_
    refine R_iald 3598 e_X12_goesBy_7.2.2.1 kma_1 (by decide) ?_
    refine R_iconst e_X12_goesBy_7.2.2.2.1 ?_
    refine R_iadd e_X12_goesBy_7.2.2.2.2.1 ?_
    refine R_iast 3598 WM_ok e_X12_goesBy_7.2.2.2.2.2.1 kma_1 (by decide) ?_
    refine R_iload_n e_X12_goesBy_7.2.2.2.2.2.2.1 1 rfl ?_
    exact R_ireturn e_X12_goesBy_7.2.2.2.2.2.2.2 rfl h
  · replace h := h.2 q
    refine R_aload_n e_X12_goesBy_6.2.2.2.1 0 rfl ?_
    refine R_iload_n e_X12_goesBy_6.2.2.2.2.1 2 rfl ?_
    refine R_callV (mc := 0) (ms := 0) (mc' := 0) (ms' := 0) (M' := M_X12_goes) (d' := 7) (as := [vI l2]) (st := []) 12 1 e_X12_goesBy_6.2.2.2.2.2.1 (kCVof m_X12_goes l_X12_388) rfl (by decide) km_0 (by decide) (by decide) rfl rfl (by show (0 : Nat) ≤ 8; decide) ?_
    refine Run.mono h (fun r22 s23 h => ?_)
    refine R_eqs (st2 := []) rfl rfl ?_
    refine R_iinc (ls2 := [(2, vI (l2 + 1)), (0, vA G 0), (1, vI l1)]) e_X12_goesBy_6.2.2.2.2.2.2.1 2 rfl (by decide) rfl ?_
    refine R_goto 93 e_X12_goesBy_6.2.2.2.2.2.2.2.1 (by decide) ?_
    refine R_ls (ls2 := [(0, vA G 0), (1, vI l1), (2, vI (l2 + 1))]) [1, 2, 0] rfl ?_
    exact h
