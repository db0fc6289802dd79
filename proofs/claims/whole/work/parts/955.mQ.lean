/-! KiteLandModel.county(I)I -/
theorem e_X12_county_0 : decode cX12_county 0 = .ok (.aload_n 0, 1) ∧ decode cX12_county 1 = .ok (.iload_n 1, 1) ∧ decode cX12_county 2 = .ok (.sipush 900, 3) ∧ decode cX12_county 5 = .ok (.invokevirtual 237, 3) ∧ decode cX12_county 8 = .ok (.ifCond .ne 9, 3) ∧ decode cX12_county 11 = .ok (.aload_n 0, 1) ∧ decode cX12_county 12 = .ok (.iconst 1, 1) ∧ decode cX12_county 13 = .ok (.invokevirtual 93, 3) ∧ decode cX12_county 16 = .ok (.ireturn, 1) ∧ decode cX12_county 17 = .ok (.aload_n 0, 1) := by decide +kernel
theorem e_X12_county_1 : decode cX12_county 18 = .ok (.sipush 2056, 3) ∧ decode cX12_county 21 = .ok (.invokevirtual 83, 3) ∧ decode cX12_county 24 = .ok (.aload_n 0, 1) ∧ decode cX12_county 25 = .ok (.iconst 0, 1) ∧ decode cX12_county 26 = .ok (.putfield 215, 3) ∧ decode cX12_county 29 = .ok (.iconst 1, 1) ∧ decode cX12_county 30 = .ok (.istore_n 2, 1) ∧ decode cX12_county 31 = .ok (.iload_n 2, 1) ∧ decode cX12_county 32 = .ok (.ifCond .eq 18, 3) ∧ decode cX12_county 35 = .ok (.aload_n 0, 1) := by decide +kernel
theorem e_X12_county_2 : decode cX12_county 36 = .ok (.getfield 138, 3) ∧ decode cX12_county 39 = .ok (.ifCond .eq 11, 3) ∧ decode cX12_county 42 = .ok (.aload_n 0, 1) ∧ decode cX12_county 43 = .ok (.invokevirtual 241, 3) ∧ decode cX12_county 46 = .ok (.istore_n 2, 1) ∧ decode cX12_county 47 = .ok (.goto (-16), 3) ∧ decode cX12_county 50 = .ok (.aload_n 0, 1) ∧ decode cX12_county 51 = .ok (.getfield 163, 3) ∧ decode cX12_county 54 = .ok (.ifCond .ne 63, 3) ∧ decode cX12_county 57 = .ok (.iconst 0, 1) := by decide +kernel
theorem e_X12_county_3 : decode cX12_county 58 = .ok (.istore_n 3, 1) ∧ decode cX12_county 59 = .ok (.iload_n 3, 1) ∧ decode cX12_county 60 = .ok (.sipush 514, 3) ∧ decode cX12_county 63 = .ok (.if_icmp .ge 25, 3) ∧ decode cX12_county 66 = .ok (.aload_n 0, 1) ∧ decode cX12_county 67 = .ok (.getfield 7, 3) ∧ decode cX12_county 70 = .ok (.iload_n 3, 1) ∧ decode cX12_county 71 = .ok (.aload_n 0, 1) ∧ decode cX12_county 72 = .ok (.getfield 7, 3) ∧ decode cX12_county 75 = .ok (.sipush 2056, 3) := by decide +kernel
theorem e_X12_county_4 : decode cX12_county 78 = .ok (.iload_n 3, 1) ∧ decode cX12_county 79 = .ok (.iadd, 1) ∧ decode cX12_county 80 = .ok (.iaload, 1) ∧ decode cX12_county 81 = .ok (.iastore, 1) ∧ decode cX12_county 82 = .ok (.iinc 3 1, 3) ∧ decode cX12_county 85 = .ok (.goto (-26), 3) ∧ decode cX12_county 88 = .ok (.iconst 0, 1) ∧ decode cX12_county 89 = .ok (.istore_n 3, 1) ∧ decode cX12_county 90 = .ok (.iload_n 3, 1) ∧ decode cX12_county 91 = .ok (.bipush 20, 2) := by decide +kernel
theorem e_X12_county_5 : decode cX12_county 93 = .ok (.if_icmp .ge 24, 3) ∧ decode cX12_county 96 = .ok (.aload_n 0, 1) ∧ decode cX12_county 97 = .ok (.getfield 13, 3) ∧ decode cX12_county 100 = .ok (.iload_n 3, 1) ∧ decode cX12_county 101 = .ok (.aload_n 0, 1) ∧ decode cX12_county 102 = .ok (.getfield 13, 3) ∧ decode cX12_county 105 = .ok (.bipush 80, 2) ∧ decode cX12_county 107 = .ok (.iload_n 3, 1) ∧ decode cX12_county 108 = .ok (.iadd, 1) ∧ decode cX12_county 109 = .ok (.laload, 1) := by decide +kernel
theorem e_X12_county_6 : decode cX12_county 110 = .ok (.lastore, 1) ∧ decode cX12_county 111 = .ok (.iinc 3 1, 3) ∧ decode cX12_county 114 = .ok (.goto (-24), 3) ∧ decode cX12_county 117 = .ok (.aload_n 0, 1) ∧ decode cX12_county 118 = .ok (.aload_n 0, 1) ∧ decode cX12_county 119 = .ok (.getfield 7, 3) ∧ decode cX12_county 122 = .ok (.iconst 2, 1) ∧ decode cX12_county 123 = .ok (.iaload, 1) ∧ decode cX12_county 124 = .ok (.invokevirtual 244, 3) ∧ decode cX12_county 127 = .ok (.ireturn, 1) := by decide +kernel
abbrev E_X12_county_31 (G : Kg) (l2 : Int) (σ : Kmem) (Q : Int → Kmem → Prop) : Prop := Ex G WM M_X12_county 9 0 0 31 [(0, vA G 0), (2, vI l2)] [] σ Q
abbrev E_X12_county_59 (G : Kg) (l3 : Int) (σ : Kmem) (Q : Int → Kmem → Prop) : Prop := Ex G WM M_X12_county 9 0 0 59 [(0, vA G 0), (3, vI l3)] [] σ Q
abbrev E_X12_county_90 (G : Kg) (l3 : Int) (σ : Kmem) (Q : Int → Kmem → Prop) : Prop := Ex G WM M_X12_county 9 0 0 90 [(0, vA G 0), (3, vI l3)] [] σ Q
theorem S_X12_county {G : Kg} {σ : Kmem} {Q : Int → Kmem → Prop} {l1 : Int}  (h : Run G WM M_X12_begins 2 0 0 [vA G 0, vI l1, vI 900] σ (fun r1 s2 => (rI r1) ∧ ((r1 ≠ 0 → Run G WM M_X12_plain 0 0 0 [vA G 0, vI 2056] s2 (fun r4 s5 => ∀ m6 : Kmem, m6 = (kup s5 0 20 0) → E_X12_county_31 G 1 m6 Q)) ∧ (r1 = 0 → Q (-1) (kup s2 0 2 1))))) : Run G WM M_X12_county 9 0 0 [vA G 0, vI l1] σ Q := by
  refine Run.of (by decide +kernel) (by show (2 : Nat) ≤ 4; decide) ?_
  show Ex G WM M_X12_county 9 0 0 0 [(0, vA G 0), (1, vI l1)] [] σ Q
  refine R_aload_n e_X12_county_0.1 0 rfl ?_
  refine R_iload_n e_X12_county_0.2.1 1 rfl ?_
  refine R_sipush e_X12_county_0.2.2.1 (by decide) ?_
  refine R_callV (mc := 0) (ms := 0) (mc' := 0) (ms' := 0) (M' := M_X12_begins) (d' := 2) (as := [vI l1, vI 900]) (st := []) 12 2 e_X12_county_0.2.2.2.1 (kCVof m_X12_begins l_X12_237) rfl (by decide) km_0 (by decide) (by decide) rfl rfl (by show (0 : Nat) ≤ 8; decide) ?_
  refine Run.mono h (fun r1 s2 h => ?_)
  refine R_eqs (st2 := [vI r1]) rfl rfl ?_
  obtain ⟨q3, h⟩ := h
  refine R_if_ne 17 e_X12_county_0.2.2.2.2.1 (by decide) q3  (fun q => ?_) (fun q => ?_)
  · replace h := h.1 q
    refine R_aload_n e_X12_county_0.2.2.2.2.2.2.2.2.2 0 rfl ?_
    refine R_sipush e_X12_county_1.1 (by decide) ?_
    refine R_callV (mc := 0) (ms := 0) (mc' := 0) (ms' := 0) (M' := M_X12_plain) (d' := 0) (as := [vI 2056]) (st := []) 12 1 e_X12_county_1.2.1 (kCVof m_X12_plain l_X12_83) rfl (by decide) km_0 (by decide) (by decide) rfl rfl (by show (0 : Nat) ≤ 8; decide) ?_
    refine Run.mono h (fun r4 s5 h => ?_)
    refine R_eqs (st2 := []) rfl rfl ?_
    refine R_aload_n e_X12_county_1.2.2.1 0 rfl ?_
    refine R_iconst e_X12_county_1.2.2.2.1 ?_
    refine R_putI 12 20 20 WM_ok e_X12_county_1.2.2.2.2.1 f_X12_215 km_0 rfl rfl rfl ?_
    obtain ⟨m6, e7⟩ : ∃ z : Kmem, z = (kup s5 0 20 0) := ⟨_, rfl⟩
    rw [← e7]
    replace h := h m6 e7
    refine R_iconst e_X12_county_1.2.2.2.2.2.1 ?_
    refine R_istore_n (ls2 := [(2, vI 1), (0, vA G 0), (1, vI l1)]) e_X12_county_1.2.2.2.2.2.2.1 (by decide) rfl ?_
    refine R_ls (ls2 := [(0, vA G 0), (2, vI 1)]) [1, 0] rfl ?_
    exact h
  · replace h := h.2 q
    refine R_aload_n e_X12_county_0.2.2.2.2.2.1 0 rfl ?_
    refine R_iconst e_X12_county_0.2.2.2.2.2.2.1 ?_
    refine R_callV (mc := 0) (ms := 0) (mc' := 0) (ms' := 0) (M' := M_X12_refuse) (d' := 0) (as := [vI 1]) (st := []) 12 1 e_X12_county_0.2.2.2.2.2.2.2.1 (kCVof m_X12_refuse l_X12_93) rfl (by decide) km_0 (by decide) (by decide) rfl rfl (by show (0 : Nat) ≤ 8; decide) ?_
    refine S_X12_refuse ?_
    refine R_eqs (st2 := [vI (-1)]) (σ2 := (kup s2 0 2 1)) rfl rfl ?_
    exact R_ireturn e_X12_county_0.2.2.2.2.2.2.2.2.1 rfl h
theorem S_X12_county_31 {G : Kg} {σ : Kmem} {Q : Int → Kmem → Prop} {l1 l2 : Int}  (h : (rI l2) ∧ ((l2 = 0 → (rI (σ 0 18)) ∧ ((σ 0 18 ≠ 0 → Run G WM M_X12_taken 1 0 0 [vA G 0, vI (σ 1 2)] σ (fun r12 s13 => Q r12 s13)) ∧ (σ 0 18 = 0 → E_X12_county_59 G 0 σ Q))) ∧ (l2 ≠ 0 → (rI (σ 0 12)) ∧ ((σ 0 12 = 0 → (rI (σ 0 18)) ∧ ((σ 0 18 ≠ 0 → Run G WM M_X12_taken 1 0 0 [vA G 0, vI (σ 1 2)] σ (fun r16 s17 => Q r16 s17)) ∧ (σ 0 18 = 0 → E_X12_county_59 G 0 σ Q))) ∧ (σ 0 12 ≠ 0 → (tk2 σ ∧ (0 : Int) ≤ σ 0 20 ∧ (σ 0 20 : Int) < 16) ∧ E_X12_county_31 G (kb ((cPart σ).1)) ((cPart σ).2) Q))))) : E_X12_county_31 G l2 σ Q := by
  refine R_iload_n e_X12_county_1.2.2.2.2.2.2.2.1 1 rfl ?_
  obtain ⟨q10, h⟩ := h
  refine R_if_eq 50 e_X12_county_1.2.2.2.2.2.2.2.2.1 (by decide) q10  (fun q => ?_) (fun q => ?_)
  · replace h := h.1 q
    refine R_aload_n e_X12_county_2.2.2.2.2.2.2.1 0 rfl ?_
    refine R_getI 12 18 18 e_X12_county_2.2.2.2.2.2.2.2.1 f_X12_163 km_0 (fun _ _ => rfl) rfl ?_
    obtain ⟨q11, h⟩ := h
    refine R_if_ne 117 e_X12_county_2.2.2.2.2.2.2.2.2.1 (by decide) q11  (fun q => ?_) (fun q => ?_)
    · replace h := h.1 q
      refine R_aload_n e_X12_county_6.2.2.2.1 0 rfl ?_
      refine R_aload_n e_X12_county_6.2.2.2.2.1 0 rfl ?_
      refine R_getA 12 0 1 e_X12_county_6.2.2.2.2.2.1 f_X12_7 km_0 (fun _ _ => rfl) rm_0_0 (by decide) ?_
      refine R_iconst e_X12_county_6.2.2.2.2.2.2.1 ?_
      refine R_iald 3598 e_X12_county_6.2.2.2.2.2.2.2.1 kma_1 (by decide) ?_
      refine R_callV (mc := 0) (ms := 0) (mc' := 0) (ms' := 0) (M' := M_X12_taken) (d' := 1) (as := [vI (σ 1 2)]) (st := []) 12 1 e_X12_county_6.2.2.2.2.2.2.2.2.1 (kCVof m_X12_taken l_X12_244) rfl (by decide) km_0 (by decide) (by decide) rfl rfl (by show (0 : Nat) ≤ 8; decide) ?_
      refine Run.mono h (fun r12 s13 h => ?_)
      refine R_eqs (st2 := [vI r12]) rfl rfl ?_
      exact R_ireturn e_X12_county_6.2.2.2.2.2.2.2.2.2 rfl h
    · replace h := h.2 q
      refine R_iconst e_X12_county_2.2.2.2.2.2.2.2.2.2 ?_
      refine R_istore_n (ls2 := [(3, vI 0), (0, vA G 0), (2, vI l2)]) e_X12_county_3.1 (by decide) rfl ?_
      refine R_ls (ls2 := [(0, vA G 0), (3, vI 0)]) [1, 0] rfl ?_
      exact h
  · replace h := h.2 q
    refine R_aload_n e_X12_county_1.2.2.2.2.2.2.2.2.2 0 rfl ?_
    refine R_getI 12 12 12 e_X12_county_2.1 f_X12_138 km_0 (fun _ _ => rfl) rfl ?_
    obtain ⟨q14, h⟩ := h
    refine R_if_eq 50 e_X12_county_2.2.1 (by decide) q14  (fun q => ?_) (fun q => ?_)
    · replace h := h.1 q
      refine R_aload_n e_X12_county_2.2.2.2.2.2.2.1 0 rfl ?_
      refine R_getI 12 18 18 e_X12_county_2.2.2.2.2.2.2.2.1 f_X12_163 km_0 (fun _ _ => rfl) rfl ?_
      obtain ⟨q15, h⟩ := h
      refine R_if_ne 117 e_X12_county_2.2.2.2.2.2.2.2.2.1 (by decide) q15  (fun q => ?_) (fun q => ?_)
      · replace h := h.1 q
        refine R_aload_n e_X12_county_6.2.2.2.1 0 rfl ?_
        refine R_aload_n e_X12_county_6.2.2.2.2.1 0 rfl ?_
        refine R_getA 12 0 1 e_X12_county_6.2.2.2.2.2.1 f_X12_7 km_0 (fun _ _ => rfl) rm_0_0 (by decide) ?_
        refine R_iconst e_X12_county_6.2.2.2.2.2.2.1 ?_
        refine R_iald 3598 e_X12_county_6.2.2.2.2.2.2.2.1 kma_1 (by decide) ?_
        refine R_callV (mc := 0) (ms := 0) (mc' := 0) (ms' := 0) (M' := M_X12_taken) (d' := 1) (as := [vI (σ 1 2)]) (st := []) 12 1 e_X12_county_6.2.2.2.2.2.2.2.2.1 (kCVof m_X12_taken l_X12_244) rfl (by decide) km_0 (by decide) (by decide) rfl rfl (by show (0 : Nat) ≤ 8; decide) ?_
        refine Run.mono h (fun r16 s17 h => ?_)
        refine R_eqs (st2 := [vI r16]) rfl rfl ?_
        exact R_ireturn e_X12_county_6.2.2.2.2.2.2.2.2.2 rfl h
      · replace h := h.2 q
        refine R_iconst e_X12_county_2.2.2.2.2.2.2.2.2.2 ?_
        refine R_istore_n (ls2 := [(3, vI 0), (0, vA G 0), (2, vI l2)]) e_X12_county_3.1 (by decide) rfl ?_
        refine R_ls (ls2 := [(0, vA G 0), (3, vI 0)]) [1, 0] rfl ?_
        exact h
    · replace h := h.2 q
      refine R_aload_n e_X12_county_2.2.2.1 0 rfl ?_
      obtain ⟨q20, h⟩ := h
      refine R_callV (mc := 0) (ms := 0) (mc' := 0) (ms' := 0) (M' := M_X12_countyPart) (d' := 8) (as := []) (st := []) 12 0 e_X12_county_2.2.2.2.1 (kCVof m_X12_countyPart l_X12_241) rfl (by decide) km_0 (by decide) (by decide) rfl rfl (by show (0 : Nat) ≤ 8; decide) ?_
      refine Run.mono (P_X12_countyPart q20) (fun r s e => ?_)
      obtain ⟨e1, e2⟩ := e
      refine R_eqs (st2 := [vI (kb ((cPart σ).1))]) (σ2 := ((cPart σ).2)) (by rw [e1]; rfl) e2 ?_
      refine R_istore_n (ls2 := [(2, vI (kb ((cPart σ).1))), (0, vA G 0)]) e_X12_county_2.2.2.2.2.1 (by decide) rfl ?_
      refine R_goto 31 e_X12_county_2.2.2.2.2.2.1 (by decide) ?_
      refine R_ls (ls2 := [(0, vA G 0), (2, vI (kb ((cPart σ).1)))]) [1, 0] rfl ?_
      exact h
theorem S_X12_county_59 {G : Kg} {σ : Kmem} {Q : Int → Kmem → Prop} {l1 l3 : Int}  (h : (rI l3) ∧ ((514 ≤ l3 → E_X12_county_90 G 0 σ Q) ∧ (l3 < 514 → (0 ≤ 2056 + l3 ∧ 2056 + l3 < 3598) ∧ (0 ≤ l3 ∧ l3 < 3598) ∧ ∀ m24 : Kmem, m24 = (kup σ 1 l3 (σ 1 (2056 + l3))) → E_X12_county_59 G (l3 + 1) m24 Q))) : E_X12_county_59 G l3 σ Q := by
  refine R_iload_n e_X12_county_3.2.1 1 rfl ?_
  refine R_sipush e_X12_county_3.2.2.1 (by decide) ?_
  obtain ⟨q21, h⟩ := h
  refine R_icmp_ge 88 e_X12_county_3.2.2.2.1 (by decide) q21 (by decide) (fun q => ?_) (fun q => ?_)
  · replace h := h.1 q
    refine R_iconst e_X12_county_4.2.2.2.2.2.2.1 ?_
    refine R_istore_n (ls2 := [(3, vI 0), (0, vA G 0)]) e_X12_county_4.2.2.2.2.2.2.2.1 (by decide) rfl ?_
    refine R_ls (ls2 := [(0, vA G 0), (3, vI 0)]) [1, 0] rfl ?_
    exact h
  · replace h := h.2 q
    refine R_aload_n e_X12_county_3.2.2.2.2.1 0 rfl ?_
    refine R_getA 12 0 1 e_X12_county_3.2.2.2.2.2.1 f_X12_7 km_0 (fun _ _ => rfl) rm_0_0 (by decide) ?_
    refine R_iload_n e_X12_county_3.2.2.2.2.2.2.1 1 rfl ?_
    refine R_aload_n e_X12_county_3.2.2.2.2.2.2.2.1 0 rfl ?_
    refine R_getA 12 0 1 e_X12_county_3.2.2.2.2.2.2.2.2.1 f_X12_7 km_0 (fun _ _ => rfl) rm_0_0 (by decide) ?_
    refine R_sipush e_X12_county_3.2.2.2.2.2.2.2.2.2 (by decide) ?_
    refine R_iload_n e_X12_county_4.1 1 rfl ?_
    refine R_iadd e_X12_county_4.2.1 ?_
    obtain ⟨q22, h⟩ := h
    refine R_iald 3598 e_X12_county_4.2.2.1 kma_1 q22 ?_
    obtain ⟨q23, h⟩ := h
    refine R_iast 3598 WM_ok e_X12_county_4.2.2.2.1 kma_1 q23 ?_
    obtain ⟨m24, e25⟩ : ∃ z : Kmem, z = (kup σ 1 l3 (σ 1 (2056 + l3))) := ⟨_, rfl⟩
    rw [← e25]
    replace h := h m24 e25
    refine R_iinc (ls2 := [(3, vI (l3 + 1)), (0, vA G 0)]) e_X12_county_4.2.2.2.2.1 1 rfl (by decide) rfl ?_
    refine R_goto 59 e_X12_county_4.2.2.2.2.2.1 (by decide) ?_
    refine R_ls (ls2 := [(0, vA G 0), (3, vI (l3 + 1))]) [1, 0] rfl ?_
    exact h
theorem S_X12_county_90 {G : Kg} {σ : Kmem} {Q : Int → Kmem → Prop} {l1 l3 : Int}  (h : (rI l3) ∧ ((20 ≤ l3 → Run G WM M_X12_taken 1 0 0 [vA G 0, vI (σ 1 2)] σ (fun r27 s28 => Q r27 s28)) ∧ (l3 < 20 → (0 ≤ 80 + l3 ∧ 80 + l3 < 120) ∧ (0 ≤ l3 ∧ l3 < 120) ∧ ∀ m31 : Kmem, m31 = (kup σ 2 l3 (σ 2 (80 + l3))) → E_X12_county_90 G (l3 + 1) m31 Q))) : E_X12_county_90 G l3 σ Q := by
  refine R_iload_n e_X12_county_4.2.2.2.2.2.2.2.2.1 1 rfl ?_
  refine R_bipush e_X12_county_4.2.2.2.2.2.2.2.2.2 (by decide) ?_
  obtain ⟨q26, h⟩ := h
  refine R_icmp_ge 117 e_X12_county_5.1 (by decide) q26 (by decide) (fun q => ?_) (fun q => ?_)
  · replace h := h.1 q
    refine R_aload_n e_X12_county_6.2.2.2.1 0 rfl ?_
    refine R_aload_n e_X12_county_6.2.2.2.2.1 0 rfl ?_
    refine R_getA 12 0 1 e_X12_county_6.2.2.2.2.2.1 f_X12_7 km_0 (fun _ _ => rfl) rm_0_0 (by decide) ?_
    refine R_iconst e_X12_county_6.2.2.2.2.2.2.1 ?_
    refine R_iald 3598 e_X12_county_6.2.2.2.2.2.2.2.1 kma_1 (by decide) ?_
    refine R_callV (mc := 0) (ms := 0) (mc' := 0) (ms' := 0) (M' := M_X12_taken) (d' := 1) (as := [vI (σ 1 2)]) (st := []) 12 1 e_X12_county_6.2.2.2.2.2.2.2.2.1 (kCVof m_X12_taken l_X12_244) rfl (by decide) km_0 (by decide) (by decide) rfl rfl (by show (0 : Nat) ≤ 8; decide) ?_
    refine Run.mono h (fun r27 s28 h => ?_)
    refine R_eqs (st2 := [vI r27]) rfl rfl ?_
    exact R_ireturn e_X12_county_6.2.2.2.2.2.2.2.2.2 rfl h
  · replace h := h.2 q
    refine R_aload_n e_X12_county_5.2.1 0 rfl ?_
    refine R_getA 12 1 2 e_X12_county_5.2.2.1 f_X12_13 km_0 (fun _ _ => rfl) rm_0_1 (by decide) ?_
    refine R_iload_n e_X12_county_5.2.2.2.1 1 rfl ?_
    refine R_aload_n e_X12_county_5.2.2.2.2.1 0 rfl ?_
    refine R_getA 12 1 2 e_X12_county_5.2.2.2.2.2.1 f_X12_13 km_0 (fun _ _ => rfl) rm_0_1 (by decide) ?_
    refine R_bipush e_X12_county_5.2.2.2.2.2.2.1 (by decide) ?_
    refine R_iload_n e_X12_county_5.2.2.2.2.2.2.2.1 1 rfl ?_
    refine R_iadd e_X12_county_5.2.2.2.2.2.2.2.2.1 ?_
    obtain ⟨q29, h⟩ := h
    refine R_lald 120 e_X12_county_5.2.2.2.2.2.2.2.2.2 kma_2 q29 ?_
    obtain ⟨q30, h⟩ := h
    refine R_last 120 WM_ok e_X12_county_6.1 kma_2 q30 ?_
    obtain ⟨m31, e32⟩ : ∃ z : Kmem, z = (kup σ 2 l3 (σ 2 (80 + l3))) := ⟨_, rfl⟩
    rw [← e32]
    replace h := h m31 e32
    refine R_iinc (ls2 := [(3, vI (l3 + 1)), (0, vA G 0)]) e_X12_county_6.2.1 1 rfl (by decide) rfl ?_
    refine R_goto 90 e_X12_county_6.2.2.1 (by decide) ?_
    refine R_ls (ls2 := [(0, vA G 0), (3, vI (l3 + 1))]) [1, 0] rfl ?_
    exact h
