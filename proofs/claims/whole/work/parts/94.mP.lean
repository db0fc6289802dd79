/-! KiteLandModel.countyPart()Z -/
theorem e_X12_countyPart_0 : decode cX12_countyPart 0 = .ok (.aload_n 0, 1) ∧ decode cX12_countyPart 1 = .ok (.ldc 186, 2) ∧ decode cX12_countyPart 3 = .ok (.invokevirtual 178, 3) ∧ decode cX12_countyPart 6 = .ok (.istore_n 1, 1) ∧ decode cX12_countyPart 7 = .ok (.iload_n 1, 1) ∧ decode cX12_countyPart 8 = .ok (.ifCond .lt 22, 3) ∧ decode cX12_countyPart 11 = .ok (.iload_n 1, 1) ∧ decode cX12_countyPart 12 = .ok (.bipush 6, 2) ∧ decode cX12_countyPart 14 = .ok (.if_icmp .gt 16, 3) ∧ decode cX12_countyPart 17 = .ok (.iload_n 1, 1) := by decide +kernel
theorem e_X12_countyPart_1 : decode cX12_countyPart 18 = .ok (.ifCond .eq 18, 3) ∧ decode cX12_countyPart 21 = .ok (.aload_n 0, 1) ∧ decode cX12_countyPart 22 = .ok (.getfield 215, 3) ∧ decode cX12_countyPart 25 = .ok (.iconst 1, 1) ∧ decode cX12_countyPart 26 = .ok (.iand, 1) ∧ decode cX12_countyPart 27 = .ok (.ifCond .ne 9, 3) ∧ decode cX12_countyPart 30 = .ok (.aload_n 0, 1) ∧ decode cX12_countyPart 31 = .ok (.iconst 2, 1) ∧ decode cX12_countyPart 32 = .ok (.invokevirtual 175, 3) ∧ decode cX12_countyPart 35 = .ok (.ireturn, 1) := by decide +kernel
theorem e_X12_countyPart_2 : decode cX12_countyPart 36 = .ok (.aload_n 0, 1) ∧ decode cX12_countyPart 37 = .ok (.getfield 215, 3) ∧ decode cX12_countyPart 40 = .ok (.iload_n 1, 1) ∧ decode cX12_countyPart 41 = .ok (.ishr, 1) ∧ decode cX12_countyPart 42 = .ok (.iconst 1, 1) ∧ decode cX12_countyPart 43 = .ok (.iand, 1) ∧ decode cX12_countyPart 44 = .ok (.iconst 1, 1) ∧ decode cX12_countyPart 45 = .ok (.if_icmp .ne 9, 3) ∧ decode cX12_countyPart 48 = .ok (.aload_n 0, 1) ∧ decode cX12_countyPart 49 = .ok (.iconst 5, 1) := by decide +kernel
theorem e_X12_countyPart_3 : decode cX12_countyPart 50 = .ok (.invokevirtual 175, 3) ∧ decode cX12_countyPart 53 = .ok (.ireturn, 1) ∧ decode cX12_countyPart 54 = .ok (.aload_n 0, 1) ∧ decode cX12_countyPart 55 = .ok (.dup, 1) ∧ decode cX12_countyPart 56 = .ok (.getfield 215, 3) ∧ decode cX12_countyPart 59 = .ok (.iload_n 1, 1) ∧ decode cX12_countyPart 60 = .ok (.ifCond .eq 13, 3) ∧ decode cX12_countyPart 63 = .ok (.iload_n 1, 1) ∧ decode cX12_countyPart 64 = .ok (.iconst 2, 1) ∧ decode cX12_countyPart 65 = .ok (.if_icmp .eq 8, 3) := by decide +kernel
theorem e_X12_countyPart_4 : decode cX12_countyPart 68 = .ok (.iload_n 1, 1) ∧ decode cX12_countyPart 69 = .ok (.iconst 3, 1) ∧ decode cX12_countyPart 70 = .ok (.if_icmp .ne 9, 3) ∧ decode cX12_countyPart 73 = .ok (.iconst 1, 1) ∧ decode cX12_countyPart 74 = .ok (.iload_n 1, 1) ∧ decode cX12_countyPart 75 = .ok (.ishl, 1) ∧ decode cX12_countyPart 76 = .ok (.goto 4, 3) ∧ decode cX12_countyPart 79 = .ok (.iconst 0, 1) ∧ decode cX12_countyPart 80 = .ok (.ior, 1) ∧ decode cX12_countyPart 81 = .ok (.putfield 215, 3) := by decide +kernel
theorem e_X12_countyPart_5 : decode cX12_countyPart 84 = .ok (.iload_n 1, 1) ∧ decode cX12_countyPart 85 = .ok (.tableswitch 110 0 5 #[39, 47, 55, 55, 94, 102], 39) ∧ decode cX12_countyPart 124 = .ok (.aload_n 0, 1) ∧ decode cX12_countyPart 125 = .ok (.invokevirtual 218, 3) ∧ decode cX12_countyPart 128 = .ok (.istore_n 2, 1) ∧ decode cX12_countyPart 129 = .ok (.goto 71, 3) ∧ decode cX12_countyPart 132 = .ok (.aload_n 0, 1) ∧ decode cX12_countyPart 133 = .ok (.invokevirtual 222, 3) ∧ decode cX12_countyPart 136 = .ok (.istore_n 2, 1) ∧ decode cX12_countyPart 137 = .ok (.goto 63, 3) := by decide +kernel
theorem e_X12_countyPart_6 : decode cX12_countyPart 140 = .ok (.aload_n 0, 1) ∧ decode cX12_countyPart 141 = .ok (.invokevirtual 169, 3) ∧ decode cX12_countyPart 144 = .ok (.aload_n 0, 1) ∧ decode cX12_countyPart 145 = .ok (.sipush 2056, 3) ∧ decode cX12_countyPart 148 = .ok (.iload_n 1, 1) ∧ decode cX12_countyPart 149 = .ok (.iconst 2, 1) ∧ decode cX12_countyPart 150 = .ok (.if_icmp .ne 7, 3) ∧ decode cX12_countyPart 153 = .ok (.iconst 5, 1) ∧ decode cX12_countyPart 154 = .ok (.goto 5, 3) ∧ decode cX12_countyPart 157 = .ok (.bipush 6, 2) := by decide +kernel
theorem e_X12_countyPart_7 : decode cX12_countyPart 159 = .ok (.iadd, 1) ∧ decode cX12_countyPart 160 = .ok (.iconst 0, 1) ∧ decode cX12_countyPart 161 = .ok (.iload_n 1, 1) ∧ decode cX12_countyPart 162 = .ok (.iconst 2, 1) ∧ decode cX12_countyPart 163 = .ok (.if_icmp .ne 8, 3) ∧ decode cX12_countyPart 166 = .ok (.bipush 11, 2) ∧ decode cX12_countyPart 168 = .ok (.goto 4, 3) ∧ decode cX12_countyPart 171 = .ok (.iconst 2, 1) ∧ decode cX12_countyPart 172 = .ok (.invokevirtual 199, 3) ∧ decode cX12_countyPart 175 = .ok (.istore_n 2, 1) := by decide +kernel
theorem e_X12_countyPart_8 : decode cX12_countyPart 176 = .ok (.goto 24, 3) ∧ decode cX12_countyPart 179 = .ok (.aload_n 0, 1) ∧ decode cX12_countyPart 180 = .ok (.invokevirtual 225, 3) ∧ decode cX12_countyPart 183 = .ok (.istore_n 2, 1) ∧ decode cX12_countyPart 184 = .ok (.goto 16, 3) ∧ decode cX12_countyPart 187 = .ok (.aload_n 0, 1) ∧ decode cX12_countyPart 188 = .ok (.invokevirtual 228, 3) ∧ decode cX12_countyPart 191 = .ok (.istore_n 2, 1) ∧ decode cX12_countyPart 192 = .ok (.goto 8, 3) ∧ decode cX12_countyPart 195 = .ok (.aload_n 0, 1) := by decide +kernel
theorem e_X12_countyPart_9 : decode cX12_countyPart 196 = .ok (.invokevirtual 231, 3) ∧ decode cX12_countyPart 199 = .ok (.istore_n 2, 1) ∧ decode cX12_countyPart 200 = .ok (.iload_n 2, 1) ∧ decode cX12_countyPart 201 = .ok (.ifCond .eq 16, 3) ∧ decode cX12_countyPart 204 = .ok (.aload_n 0, 1) ∧ decode cX12_countyPart 205 = .ok (.bipush 59, 2) ∧ decode cX12_countyPart 207 = .ok (.invokevirtual 234, 3) ∧ decode cX12_countyPart 210 = .ok (.ifCond .eq 7, 3) ∧ decode cX12_countyPart 213 = .ok (.iconst 1, 1) ∧ decode cX12_countyPart 214 = .ok (.goto 4, 3) := by decide +kernel
theorem e_X12_countyPart_10 : decode cX12_countyPart 217 = .ok (.iconst 0, 1) ∧ decode cX12_countyPart 218 = .ok (.ireturn, 1) := by decide +kernel
abbrev E_X12_countyPart_36 (G : Kg) (l1 : Int) (σ : Kmem) (Q : Int → Kmem → Prop) : Prop := Ex G WM M_X12_countyPart 8 0 0 36 [(0, vA G 0), (1, vI l1)] [] σ Q
abbrev E_X12_countyPart_80 (G : Kg) (l1 p0 p1 : Int) (σ : Kmem) (Q : Int → Kmem → Prop) : Prop := Ex G WM M_X12_countyPart 8 0 0 80 [(0, vA G 0), (1, vI l1)] [vI p0, vI p1, vA G 0] σ Q
abbrev E_X12_countyPart_159 (G : Kg) (l1 p0 p1 : Int) (σ : Kmem) (Q : Int → Kmem → Prop) : Prop := Ex G WM M_X12_countyPart 8 0 0 159 [(0, vA G 0), (1, vI l1)] [vI p0, vI p1, vA G 0] σ Q
theorem S_X12_countyPart {G : Kg} {σ : Kmem} {Q : Int → Kmem → Prop}  (h : (tok σ) ∧ (rI (tWi σ)) ∧ ((tWi σ < 0 → (tok σ ∧ (0 : Int) ≤ σ 0 18 ∧ (σ 0 18 : Int) ≤ 9) ∧ Q 0 (tF σ (2))) ∧ (0 ≤ tWi σ → ((6 < tWi σ → (tok σ ∧ (0 : Int) ≤ σ 0 18 ∧ (σ 0 18 : Int) ≤ 9) ∧ Q 0 (tF σ (2))) ∧ (tWi σ ≤ 6 → ((tWi σ = 0 → E_X12_countyPart_36 G (tWi σ) σ Q) ∧ (tWi σ ≠ 0 → (rI (kand (σ 0 20) 1)) ∧ ((kand (σ 0 20) 1 ≠ 0 → E_X12_countyPart_36 G (tWi σ) σ Q) ∧ (kand (σ 0 20) 1 = 0 → (tok σ ∧ (0 : Int) ≤ σ 0 18 ∧ (σ 0 18 : Int) ≤ 9) ∧ Q 0 (tF σ (2))))))))))) : Run G WM M_X12_countyPart 8 0 0 [vA G 0] σ Q := by
  refine Run.of (by decide +kernel) (by show (1 : Nat) ≤ 3; decide) ?_
  show Ex G WM M_X12_countyPart 8 0 0 0 [(0, vA G 0)] [] σ Q
  refine R_aload_n e_X12_countyPart_0.1 0 rfl ?_
  refine R_ldcS (i := 28) (-38) e_X12_countyPart_0.2.1 rfl rfl ?_
  obtain ⟨q3, h⟩ := h
  refine R_callV (mc := 0) (ms := 0) (mc' := 0) (ms' := 0) (M' := M_X12_inWords) (d' := 4) (as := [vA G (-38)]) (st := []) 12 1 e_X12_countyPart_0.2.2.1 (kCVof m_X12_inWords l_X12_178) rfl (by decide) km_0 (by decide) (by decide) rfl rfl (by show (0 : Nat) ≤ 8; decide) ?_
  refine Run.mono (P_X12_inWords q3) (fun r s e => ?_)
  obtain ⟨e1, e2⟩ := e
  refine R_eqs (st2 := [vI (tWi σ)]) (σ2 := σ) (by rw [e1]; rfl) e2 ?_
  refine R_istore_n (ls2 := [(1, vI (tWi σ)), (0, vA G 0)]) e_X12_countyPart_0.2.2.2.1 (by decide) rfl ?_
  refine R_iload_n e_X12_countyPart_0.2.2.2.2.1 0 rfl ?_
  obtain ⟨q4, h⟩ := h
  refine R_if_lt 30 e_X12_countyPart_0.2.2.2.2.2.1 (by decide) q4  (fun q => ?_) (fun q => ?_)
  · replace h := h.1 q
    refine R_aload_n e_X12_countyPart_1.2.2.2.2.2.2.1 1 rfl ?_
    refine R_iconst e_X12_countyPart_1.2.2.2.2.2.2.2.1 ?_
    obtain ⟨q7, h⟩ := h
    refine R_callV (mc := 0) (ms := 0) (mc' := 0) (ms' := 0) (M' := M_X12_fails) (d' := 0) (as := [vI 2]) (st := []) 12 1 e_X12_countyPart_1.2.2.2.2.2.2.2.2.1 (kCVof m_X12_fails l_X12_175) rfl (by decide) km_0 (by decide) (by decide) rfl rfl (by show (0 : Nat) ≤ 8; decide) ?_
    refine Run.mono (P_X12_fails q7) (fun r s e => ?_)
    obtain ⟨e1, e2⟩ := e
    refine R_eqs (st2 := [vI 0]) (σ2 := (tF σ (2))) (by rw [e1]; rfl) e2 ?_
    exact R_zreturn e_X12_countyPart_1.2.2.2.2.2.2.2.2.2 rfl (Or.inl rfl) h
  · replace h := h.2 q
    refine R_iload_n e_X12_countyPart_0.2.2.2.2.2.2.1 0 rfl ?_
    refine R_bipush e_X12_countyPart_0.2.2.2.2.2.2.2.1 (by decide) ?_
    refine R_icmp_gt 30 e_X12_countyPart_0.2.2.2.2.2.2.2.2.1 (by decide) q4 (by decide) (fun q => ?_) (fun q => ?_)
    · replace h := h.1 q
      refine R_aload_n e_X12_countyPart_1.2.2.2.2.2.2.1 1 rfl ?_
      refine R_iconst e_X12_countyPart_1.2.2.2.2.2.2.2.1 ?_
      obtain ⟨q10, h⟩ := h
      refine R_callV (mc := 0) (ms := 0) (mc' := 0) (ms' := 0) (M' := M_X12_fails) (d' := 0) (as := [vI 2]) (st := []) 12 1 e_X12_countyPart_1.2.2.2.2.2.2.2.2.1 (kCVof m_X12_fails l_X12_175) rfl (by decide) km_0 (by decide) (by decide) rfl rfl (by show (0 : Nat) ≤ 8; decide) ?_
      refine Run.mono (P_X12_fails q10) (fun r s e => ?_)
      obtain ⟨e1, e2⟩ := e
      refine R_eqs (st2 := [vI 0]) (σ2 := (tF σ (2))) (by rw [e1]; rfl) e2 ?_
      exact R_zreturn e_X12_countyPart_1.2.2.2.2.2.2.2.2.2 rfl (Or.inl rfl) h
    · replace h := h.2 q
      refine R_iload_n e_X12_countyPart_0.2.2.2.2.2.2.2.2.2 0 rfl ?_
      refine R_if_eq 36 e_X12_countyPart_1.1 (by decide) q4  (fun q => ?_) (fun q => ?_)
      · replace h := h.1 q
        refine R_ls (ls2 := [(0, vA G 0), (1, vI (tWi σ))]) [1, 0] rfl ?_
        exact h
      · replace h := h.2 q
        refine R_aload_n e_X12_countyPart_1.2.1 1 rfl ?_
        refine R_getI 12 20 20 e_X12_countyPart_1.2.2.1 f_X12_215 km_0 (fun _ _ => rfl) rfl ?_
        refine R_iconst e_X12_countyPart_1.2.2.2.1 ?_
        refine R_iand e_X12_countyPart_1.2.2.2.2.1 ?_
        obtain ⟨q11, h⟩ := h
        refine R_if_ne 36 e_X12_countyPart_1.2.2.2.2.2.1 (by decide) q11  (fun q => ?_) (fun q => ?_)
        · replace h := h.1 q
          refine R_ls (ls2 := [(0, vA G 0), (1, vI (tWi σ))]) [1, 0] rfl ?_
          exact h
        · replace h := h.2 q
          refine R_aload_n e_X12_countyPart_1.2.2.2.2.2.2.1 1 rfl ?_
          refine R_iconst e_X12_countyPart_1.2.2.2.2.2.2.2.1 ?_
          obtain ⟨q14, h⟩ := h
          refine R_callV (mc := 0) (ms := 0) (mc' := 0) (ms' := 0) (M' := M_X12_fails) (d' := 0) (as := [vI 2]) (st := []) 12 1 e_X12_countyPart_1.2.2.2.2.2.2.2.2.1 (kCVof m_X12_fails l_X12_175) rfl (by decide) km_0 (by decide) (by decide) rfl rfl (by show (0 : Nat) ≤ 8; decide) ?_
          refine Run.mono (P_X12_fails q14) (fun r s e => ?_)
          obtain ⟨e1, e2⟩ := e
          refine R_eqs (st2 := [vI 0]) (σ2 := (tF σ (2))) (by rw [e1]; rfl) e2 ?_
          exact R_zreturn e_X12_countyPart_1.2.2.2.2.2.2.2.2.2 rfl (Or.inl rfl) h
theorem S_X12_countyPart_36 {G : Kg} {σ : Kmem} {Q : Int → Kmem → Prop} {l1 : Int}  (h : (rI (kand (kshr (σ 0 20) l1) 1)) ∧ ((kand (kshr (σ 0 20) l1) 1 ≠ 1 → (rI l1) ∧ ((l1 = 0 → E_X12_countyPart_80 G l1 (kshl 1 l1) (σ 0 20) σ Q) ∧ (l1 ≠ 0 → ((l1 = 2 → E_X12_countyPart_80 G l1 (kshl 1 l1) (σ 0 20) σ Q) ∧ (l1 ≠ 2 → ((l1 ≠ 3 → E_X12_countyPart_80 G l1 0 (σ 0 20) σ Q) ∧ (l1 = 3 → E_X12_countyPart_80 G l1 (kshl 1 l1) (σ 0 20) σ Q))))))) ∧ (kand (kshr (σ 0 20) l1) 1 = 1 → (tok σ ∧ (0 : Int) ≤ σ 0 18 ∧ (σ 0 18 : Int) ≤ 9) ∧ Q 0 (tF σ (5))))) : E_X12_countyPart_36 G l1 σ Q := by
  refine R_aload_n e_X12_countyPart_2.1 0 rfl ?_
  refine R_getI 12 20 20 e_X12_countyPart_2.2.1 f_X12_215 km_0 (fun _ _ => rfl) rfl ?_
  refine R_iload_n e_X12_countyPart_2.2.2.1 1 rfl ?_
  refine R_ishr e_X12_countyPart_2.2.2.2.1 ?_
  refine R_iconst e_X12_countyPart_2.2.2.2.2.1 ?_
  refine R_iand e_X12_countyPart_2.2.2.2.2.2.1 ?_
  refine R_iconst e_X12_countyPart_2.2.2.2.2.2.2.1 ?_
  obtain ⟨q15, h⟩ := h
  refine R_icmp_ne 54 e_X12_countyPart_2.2.2.2.2.2.2.2.1 (by decide) q15 (by decide) (fun q => ?_) (fun q => ?_)
  · replace h := h.1 q
    refine R_aload_n e_X12_countyPart_3.2.2.1 0 rfl ?_
    refine R_dup e_X12_countyPart_3.2.2.2.1 rfl ?_
    refine R_getI 12 20 20 e_X12_countyPart_3.2.2.2.2.1 f_X12_215 km_0 (fun _ _ => rfl) rfl ?_
    refine R_iload_n e_X12_countyPart_3.2.2.2.2.2.1 1 rfl ?_
    obtain ⟨q16, h⟩ := h
    refine R_if_eq 73 e_X12_countyPart_3.2.2.2.2.2.2.1 (by decide) q16  (fun q => ?_) (fun q => ?_)
    · replace h := h.1 q
      refine R_iconst e_X12_countyPart_4.2.2.2.1 ?_
      refine R_iload_n e_X12_countyPart_4.2.2.2.2.1 1 rfl ?_
      refine R_ishl e_X12_countyPart_4.2.2.2.2.2.1 ?_
      refine R_goto 80 e_X12_countyPart_4.2.2.2.2.2.2.1 (by decide) ?_
      refine R_ls (ls2 := [(0, vA G 0), (1, vI l1)]) [0, 1] rfl ?_
      exact h
    · replace h := h.2 q
      refine R_iload_n e_X12_countyPart_3.2.2.2.2.2.2.2.1 1 rfl ?_
      refine R_iconst e_X12_countyPart_3.2.2.2.2.2.2.2.2.1 ?_
      refine R_icmp_eq 73 e_X12_countyPart_3.2.2.2.2.2.2.2.2.2 (by decide) q16 (by decide) (fun q => ?_) (fun q => ?_)
      · replace h := h.1 q
        refine R_iconst e_X12_countyPart_4.2.2.2.1 ?_
        refine R_iload_n e_X12_countyPart_4.2.2.2.2.1 1 rfl ?_
        refine R_ishl e_X12_countyPart_4.2.2.2.2.2.1 ?_
        refine R_goto 80 e_X12_countyPart_4.2.2.2.2.2.2.1 (by decide) ?_
        refine R_ls (ls2 := [(0, vA G 0), (1, vI l1)]) [0, 1] rfl ?_
        exact h
      · replace h := h.2 q
        refine R_iload_n e_X12_countyPart_4.1 1 rfl ?_
        refine R_iconst e_X12_countyPart_4.2.1 ?_
        refine R_icmp_ne 79 e_X12_countyPart_4.2.2.1 (by decide) q16 (by decide) (fun q => ?_) (fun q => ?_)
        · replace h := h.1 q
          refine R_iconst e_X12_countyPart_4.2.2.2.2.2.2.2.1 ?_
          refine R_ls (ls2 := [(0, vA G 0), (1, vI l1)]) [0, 1] rfl ?_
          exact h
        · replace h := h.2 q
          refine R_iconst e_X12_countyPart_4.2.2.2.1 ?_
          refine R_iload_n e_X12_countyPart_4.2.2.2.2.1 1 rfl ?_
          refine R_ishl e_X12_countyPart_4.2.2.2.2.2.1 ?_
          refine R_goto 80 e_X12_countyPart_4.2.2.2.2.2.2.1 (by decide) ?_
          refine R_ls (ls2 := [(0, vA G 0), (1, vI l1)]) [0, 1] rfl ?_
          exact h
  · replace h := h.2 q
    refine R_aload_n e_X12_countyPart_2.2.2.2.2.2.2.2.2.1 0 rfl ?_
    refine R_iconst e_X12_countyPart_2.2.2.2.2.2.2.2.2.2 ?_
    obtain ⟨q19, h⟩ := h
    refine R_callV (mc := 0) (ms := 0) (mc' := 0) (ms' := 0) (M' := M_X12_fails) (d' := 0) (as := [vI 5]) (st := []) 12 1 e_X12_countyPart_3.1 (kCVof m_X12_fails l_X12_175) rfl (by decide) km_0 (by decide) (by decide) rfl rfl (by show (0 : Nat) ≤ 8; decide) ?_
    refine Run.mono (P_X12_fails q19) (fun r s e => ?_)
    obtain ⟨e1, e2⟩ := e
    refine R_eqs (st2 := [vI 0]) (σ2 := (tF σ (5))) (by rw [e1]; rfl) e2 ?_
    exact R_zreturn e_X12_countyPart_3.2.1 rfl (Or.inl rfl) h
theorem S_X12_countyPart_80 {G : Kg} {σ : Kmem} {Q : Int → Kmem → Prop} {l1 p0 p1 : Int}  (h : ∀ m20 : Kmem, m20 = (kup σ 0 20 (kor p1 p0)) → (rI l1) ∧ ((l1 = 0 → (tk2 m20) ∧ ((¬ ((cLand m20).1) → Q 0 ((cLand m20).2)) ∧ (((cLand m20).1) → (tk1 ((cLand m20).2) ∧ rI (59)) ∧ ((¬ ((cSign (59) ((cLand m20).2)).1) → Q 0 ((cSign (59) ((cLand m20).2)).2)) ∧ (((cSign (59) ((cLand m20).2)).1) → Q 1 ((cSign (59) ((cLand m20).2)).2)))))) ∧ (l1 = 1 → (tk2 m20) ∧ ((¬ ((cWind m20).1) → Q 0 ((cWind m20).2)) ∧ (((cWind m20).1) → (tk1 ((cWind m20).2) ∧ rI (59)) ∧ ((¬ ((cSign (59) ((cWind m20).2)).1) → Q 0 ((cSign (59) ((cWind m20).2)).2)) ∧ (((cSign (59) ((cWind m20).2)).1) → Q 1 ((cSign (59) ((cWind m20).2)).2)))))) ∧ (l1 = 2 → (tx0 m20) ∧ ((l1 ≠ 2 → E_X12_countyPart_159 G l1 6 2056 (tA m20) Q) ∧ (l1 = 2 → E_X12_countyPart_159 G l1 5 2056 (tA m20) Q))) ∧ (l1 = 3 → (tx0 m20) ∧ ((l1 ≠ 2 → E_X12_countyPart_159 G l1 6 2056 (tA m20) Q) ∧ (l1 = 2 → E_X12_countyPart_159 G l1 5 2056 (tA m20) Q))) ∧ (l1 = 4 → (tk2 m20) ∧ ((¬ ((cKite m20).1) → Q 0 ((cKite m20).2)) ∧ (((cKite m20).1) → (tk1 ((cKite m20).2) ∧ rI (59)) ∧ ((¬ ((cSign (59) ((cKite m20).2)).1) → Q 0 ((cSign (59) ((cKite m20).2)).2)) ∧ (((cSign (59) ((cKite m20).2)).1) → Q 1 ((cSign (59) ((cKite m20).2)).2)))))) ∧ (l1 = 5 → (tk2 m20) ∧ ((¬ ((cCrop m20).1) → Q 0 ((cCrop m20).2)) ∧ (((cCrop m20).1) → (tk1 ((cCrop m20).2) ∧ rI (59)) ∧ ((¬ ((cSign (59) ((cCrop m20).2)).1) → Q 0 ((cSign (59) ((cCrop m20).2)).2)) ∧ (((cSign (59) ((cCrop m20).2)).1) → Q 1 ((cSign (59) ((cCrop m20).2)).2)))))) ∧ (l1 < 0 ∨ 5 < l1 → (tk2 m20) ∧ ((¬ ((cTen m20).1) → Q 0 ((cTen m20).2)) ∧ (((cTen m20).1) → (tk1 ((cTen m20).2) ∧ rI (59)) ∧ ((¬ ((cSign (59) ((cTen m20).2)).1) → Q 0 ((cSign (59) ((cTen m20).2)).2)) ∧ (((cSign (59) ((cTen m20).2)).1) → Q 1 ((cSign (59) ((cTen m20).2)).2)))))))) : E_X12_countyPart_80 G l1 p0 p1 σ Q := by
  refine R_ior e_X12_countyPart_4.2.2.2.2.2.2.2.2.1 ?_
  refine R_putI 12 20 20 WM_ok e_X12_countyPart_4.2.2.2.2.2.2.2.2.2 f_X12_215 km_0 rfl rfl rfl ?_
  obtain ⟨m20, e21⟩ : ∃ z : Kmem, z = (kup σ 0 20 (kor p1 p0)) := ⟨_, rfl⟩
  rw [← e21]
  replace h := h m20 e21
  refine R_iload_n e_X12_countyPart_5.1 1 rfl ?_
  obtain ⟨q22, h⟩ := h
  by_cases t0 : l1 = 0
  · refine R_tableIn 124 e_X12_countyPart_5.2.1 q22 (by omega) (by omega) (off := 39) (by rw [t0]; rfl) (by decide) ?_
    replace h := h.1 t0
    refine R_aload_n e_X12_countyPart_5.2.2.1 0 rfl ?_
    obtain ⟨q25, h⟩ := h
    refine R_callV (mc := 0) (ms := 0) (mc' := 0) (ms' := 0) (M' := M_X12_theLand) (d' := 6) (as := []) (st := []) 12 0 e_X12_countyPart_5.2.2.2.1 (kCVof m_X12_theLand l_X12_218) rfl (by decide) km_0 (by decide) (by decide) rfl rfl (by show (0 : Nat) ≤ 8; decide) ?_
    refine Run.mono (P_X12_theLand q25) (fun r s e => ?_)
    obtain ⟨e1, e2⟩ := e
    refine R_eqs (st2 := [vI (kb ((cLand m20).1))]) (σ2 := ((cLand m20).2)) (by rw [e1]; rfl) e2 ?_
    refine R_istore_n (ls2 := [(2, vI (kb ((cLand m20).1))), (0, vA G 0), (1, vI l1)]) e_X12_countyPart_5.2.2.2.2.1 (by decide) rfl ?_
    refine R_goto 200 e_X12_countyPart_5.2.2.2.2.2.1 (by decide) ?_
    refine R_iload_n e_X12_countyPart_9.2.2.1 0 rfl ?_
    refine R_if_eq 217 e_X12_countyPart_9.2.2.2.1 (by decide) (kb_r _) (fun q => ?_) (fun q => ?_)
    · replace h := h.1 (kb_f q)
      refine R_iconst e_X12_countyPart_10.1 ?_
      exact R_zreturn e_X12_countyPart_10.2 rfl (Or.inl rfl) h
    · replace h := h.2 (kb_t q)
      refine R_aload_n e_X12_countyPart_9.2.2.2.2.1 1 rfl ?_
      refine R_bipush e_X12_countyPart_9.2.2.2.2.2.1 (by decide) ?_
      obtain ⟨q28, h⟩ := h
      refine R_callV (mc := 0) (ms := 0) (mc' := 0) (ms' := 0) (M' := M_X12_wantSign) (d' := 2) (as := [vI 59]) (st := []) 12 1 e_X12_countyPart_9.2.2.2.2.2.2.1 (kCVof m_X12_wantSign l_X12_234) rfl (by decide) km_0 (by decide) (by decide) rfl rfl (by show (0 : Nat) ≤ 8; decide) ?_
      refine Run.mono (P_X12_wantSign q28) (fun r s e => ?_)
      obtain ⟨e1, e2⟩ := e
      refine R_eqs (st2 := [vI (kb ((cSign (59) ((cLand m20).2)).1))]) (σ2 := ((cSign (59) ((cLand m20).2)).2)) (by rw [e1]; rfl) e2 ?_
      refine R_if_eq 217 e_X12_countyPart_9.2.2.2.2.2.2.2.1 (by decide) (kb_r _) (fun q => ?_) (fun q => ?_)
      · replace h := h.1 (kb_f q)
        refine R_iconst e_X12_countyPart_10.1 ?_
        exact R_zreturn e_X12_countyPart_10.2 rfl (Or.inl rfl) h
      · replace h := h.2 (kb_t q)
        refine R_iconst e_X12_countyPart_9.2.2.2.2.2.2.2.2.1 ?_
        refine R_goto 218 e_X12_countyPart_9.2.2.2.2.2.2.2.2.2 (by decide) ?_
        exact R_zreturn e_X12_countyPart_10.2 rfl (Or.inr rfl) h
  by_cases t1 : l1 = 1
  · refine R_tableIn 132 e_X12_countyPart_5.2.1 q22 (by omega) (by omega) (off := 47) (by rw [t1]; rfl) (by decide) ?_
    replace h := h.2.1 t1
    refine R_aload_n e_X12_countyPart_5.2.2.2.2.2.2.1 0 rfl ?_
    obtain ⟨q31, h⟩ := h
    refine R_callV (mc := 0) (ms := 0) (mc' := 0) (ms' := 0) (M' := M_X12_aWind) (d' := 3) (as := []) (st := []) 12 0 e_X12_countyPart_5.2.2.2.2.2.2.2.1 (kCVof m_X12_aWind l_X12_222) rfl (by decide) km_0 (by decide) (by decide) rfl rfl (by show (0 : Nat) ≤ 8; decide) ?_
    refine Run.mono (P_X12_aWind q31) (fun r s e => ?_)
    obtain ⟨e1, e2⟩ := e
    refine R_eqs (st2 := [vI (kb ((cWind m20).1))]) (σ2 := ((cWind m20).2)) (by rw [e1]; rfl) e2 ?_
    refine R_istore_n (ls2 := [(2, vI (kb ((cWind m20).1))), (0, vA G 0), (1, vI l1)]) e_X12_countyPart_5.2.2.2.2.2.2.2.2.1 (by decide) rfl ?_
    refine R_goto 200 e_X12_countyPart_5.2.2.2.2.2.2.2.2.2 (by decide) ?_
    refine R_iload_n e_X12_countyPart_9.2.2.1 0 rfl ?_
    refine R_if_eq 217 e_X12_countyPart_9.2.2.2.1 (by decide) (kb_r _) (fun q => ?_) (fun q => ?_)
    · replace h := h.1 (kb_f q)
      refine R_iconst e_X12_countyPart_10.1 ?_
      exact R_zreturn e_X12_countyPart_10.2 rfl (Or.inl rfl) h
    · replace h := h.2 (kb_t q)
      refine R_aload_n e_X12_countyPart_9.2.2.2.2.1 1 rfl ?_
      refine R_bipush e_X12_countyPart_9.2.2.2.2.2.1 (by decide) ?_
      obtain ⟨q34, h⟩ := h
      refine R_callV (mc := 0) (ms := 0) (mc' := 0) (ms' := 0) (M' := M_X12_wantSign) (d' := 2) (as := [vI 59]) (st := []) 12 1 e_X12_countyPart_9.2.2.2.2.2.2.1 (kCVof m_X12_wantSign l_X12_234) rfl (by decide) km_0 (by decide) (by decide) rfl rfl (by show (0 : Nat) ≤ 8; decide) ?_
      refine Run.mono (P_X12_wantSign q34) (fun r s e => ?_)
      obtain ⟨e1, e2⟩ := e
      refine R_eqs (st2 := [vI (kb ((cSign (59) ((cWind m20).2)).1))]) (σ2 := ((cSign (59) ((cWind m20).2)).2)) (by rw [e1]; rfl) e2 ?_
      refine R_if_eq 217 e_X12_countyPart_9.2.2.2.2.2.2.2.1 (by decide) (kb_r _) (fun q => ?_) (fun q => ?_)
      · replace h := h.1 (kb_f q)
        refine R_iconst e_X12_countyPart_10.1 ?_
        exact R_zreturn e_X12_countyPart_10.2 rfl (Or.inl rfl) h
      · replace h := h.2 (kb_t q)
        refine R_iconst e_X12_countyPart_9.2.2.2.2.2.2.2.2.1 ?_
        refine R_goto 218 e_X12_countyPart_9.2.2.2.2.2.2.2.2.2 (by decide) ?_
        exact R_zreturn e_X12_countyPart_10.2 rfl (Or.inr rfl) h
  by_cases t2 : l1 = 2
  · refine R_tableIn 140 e_X12_countyPart_5.2.1 q22 (by omega) (by omega) (off := 55) (by rw [t2]; rfl) (by decide) ?_
    replace h := h.2.2.1 t2
    refine R_aload_n e_X12_countyPart_6.1 0 rfl ?_
    obtain ⟨q37, h⟩ := h
    refine R_callV (mc := 0) (ms := 0) (mc' := 0) (ms' := 0) (M' := M_X12_ahead) (d' := 1) (as := []) (st := []) 12 0 e_X12_countyPart_6.2.1 (kCVof m_X12_ahead l_X12_169) rfl (by decide) km_0 (by decide) (by decide) rfl rfl (by show (0 : Nat) ≤ 8; decide) ?_
    refine Run.mono (P_X12_ahead q37) (fun r s e => ?_)
    obtain ⟨e1, e2⟩ := e
    refine R_eqs (st2 := []) (σ2 := (tA m20)) (by rfl) e2 ?_
    refine R_aload_n e_X12_countyPart_6.2.2.1 0 rfl ?_
    refine R_sipush e_X12_countyPart_6.2.2.2.1 (by decide) ?_
    refine R_iload_n e_X12_countyPart_6.2.2.2.2.1 1 rfl ?_
    refine R_iconst e_X12_countyPart_6.2.2.2.2.2.1 ?_
    refine R_icmp_ne 157 e_X12_countyPart_6.2.2.2.2.2.2.1 (by decide) q22 (by decide) (fun q => ?_) (fun q => ?_)
    · replace h := h.1 q
      refine R_bipush e_X12_countyPart_6.2.2.2.2.2.2.2.2.2 (by decide) ?_
      refine R_ls (ls2 := [(0, vA G 0), (1, vI l1)]) [0, 1] rfl ?_
      exact h
    · replace h := h.2 q
      refine R_iconst e_X12_countyPart_6.2.2.2.2.2.2.2.1 ?_
      refine R_goto 159 e_X12_countyPart_6.2.2.2.2.2.2.2.2.1 (by decide) ?_
      refine R_ls (ls2 := [(0, vA G 0), (1, vI l1)]) [0, 1] rfl ?_
      exact h
  by_cases t3 : l1 = 3
  · refine R_tableIn 140 e_X12_countyPart_5.2.1 q22 (by omega) (by omega) (off := 55) (by rw [t3]; rfl) (by decide) ?_
    replace h := h.2.2.2.1 t3
    refine R_aload_n e_X12_countyPart_6.1 0 rfl ?_
    obtain ⟨q40, h⟩ := h
    refine R_callV (mc := 0) (ms := 0) (mc' := 0) (ms' := 0) (M' := M_X12_ahead) (d' := 1) (as := []) (st := []) 12 0 e_X12_countyPart_6.2.1 (kCVof m_X12_ahead l_X12_169) rfl (by decide) km_0 (by decide) (by decide) rfl rfl (by show (0 : Nat) ≤ 8; decide) ?_
    refine Run.mono (P_X12_ahead q40) (fun r s e => ?_)
    obtain ⟨e1, e2⟩ := e
    refine R_eqs (st2 := []) (σ2 := (tA m20)) (by rfl) e2 ?_
    refine R_aload_n e_X12_countyPart_6.2.2.1 0 rfl ?_
    refine R_sipush e_X12_countyPart_6.2.2.2.1 (by decide) ?_
    refine R_iload_n e_X12_countyPart_6.2.2.2.2.1 1 rfl ?_
    refine R_iconst e_X12_countyPart_6.2.2.2.2.2.1 ?_
    refine R_icmp_ne 157 e_X12_countyPart_6.2.2.2.2.2.2.1 (by decide) q22 (by decide) (fun q => ?_) (fun q => ?_)
    · replace h := h.1 q
      refine R_bipush e_X12_countyPart_6.2.2.2.2.2.2.2.2.2 (by decide) ?_
      refine R_ls (ls2 := [(0, vA G 0), (1, vI l1)]) [0, 1] rfl ?_
      exact h
    · replace h := h.2 q
      refine R_iconst e_X12_countyPart_6.2.2.2.2.2.2.2.1 ?_
      refine R_goto 159 e_X12_countyPart_6.2.2.2.2.2.2.2.2.1 (by decide) ?_
      refine R_ls (ls2 := [(0, vA G 0), (1, vI l1)]) [0, 1] rfl ?_
      exact h
  by_cases t4 : l1 = 4
  · refine R_tableIn 179 e_X12_countyPart_5.2.1 q22 (by omega) (by omega) (off := 94) (by rw [t4]; rfl) (by decide) ?_
    replace h := h.2.2.2.2.1 t4
    refine R_aload_n e_X12_countyPart_8.2.1 0 rfl ?_
    obtain ⟨q43, h⟩ := h
    refine R_callV (mc := 0) (ms := 0) (mc' := 0) (ms' := 0) (M' := M_X12_aKite) (d' := 7) (as := []) (st := []) 12 0 e_X12_countyPart_8.2.2.1 (kCVof m_X12_aKite l_X12_225) rfl (by decide) km_0 (by decide) (by decide) rfl rfl (by show (0 : Nat) ≤ 8; decide) ?_
    refine Run.mono (P_X12_aKite q43) (fun r s e => ?_)
    obtain ⟨e1, e2⟩ := e
    refine R_eqs (st2 := [vI (kb ((cKite m20).1))]) (σ2 := ((cKite m20).2)) (by rw [e1]; rfl) e2 ?_
    refine R_istore_n (ls2 := [(2, vI (kb ((cKite m20).1))), (0, vA G 0), (1, vI l1)]) e_X12_countyPart_8.2.2.2.1 (by decide) rfl ?_
    refine R_goto 200 e_X12_countyPart_8.2.2.2.2.1 (by decide) ?_
    refine R_iload_n e_X12_countyPart_9.2.2.1 0 rfl ?_
    refine R_if_eq 217 e_X12_countyPart_9.2.2.2.1 (by decide) (kb_r _) (fun q => ?_) (fun q => ?_)
    · replace h := h.1 (kb_f q)
      refine R_iconst e_X12_countyPart_10.1 ?_
      exact R_zreturn e_X12_countyPart_10.2 rfl (Or.inl rfl) h
    · replace h := h.2 (kb_t q)
      refine R_aload_n e_X12_countyPart_9.2.2.2.2.1 1 rfl ?_
      refine R_bipush e_X12_countyPart_9.2.2.2.2.2.1 (by decide) ?_
      obtain ⟨q46, h⟩ := h
      refine R_callV (mc := 0) (ms := 0) (mc' := 0) (ms' := 0) (M' := M_X12_wantSign) (d' := 2) (as := [vI 59]) (st := []) 12 1 e_X12_countyPart_9.2.2.2.2.2.2.1 (kCVof m_X12_wantSign l_X12_234) rfl (by decide) km_0 (by decide) (by decide) rfl rfl (by show (0 : Nat) ≤ 8; decide) ?_
      refine Run.mono (P_X12_wantSign q46) (fun r s e => ?_)
      obtain ⟨e1, e2⟩ := e
      refine R_eqs (st2 := [vI (kb ((cSign (59) ((cKite m20).2)).1))]) (σ2 := ((cSign (59) ((cKite m20).2)).2)) (by rw [e1]; rfl) e2 ?_
      refine R_if_eq 217 e_X12_countyPart_9.2.2.2.2.2.2.2.1 (by decide) (kb_r _) (fun q => ?_) (fun q => ?_)
      · replace h := h.1 (kb_f q)
        refine R_iconst e_X12_countyPart_10.1 ?_
        exact R_zreturn e_X12_countyPart_10.2 rfl (Or.inl rfl) h
      · replace h := h.2 (kb_t q)
        refine R_iconst e_X12_countyPart_9.2.2.2.2.2.2.2.2.1 ?_
        refine R_goto 218 e_X12_countyPart_9.2.2.2.2.2.2.2.2.2 (by decide) ?_
        exact R_zreturn e_X12_countyPart_10.2 rfl (Or.inr rfl) h
  by_cases t5 : l1 = 5
  · refine R_tableIn 187 e_X12_countyPart_5.2.1 q22 (by omega) (by omega) (off := 102) (by rw [t5]; rfl) (by decide) ?_
    replace h := h.2.2.2.2.2.1 t5
    refine R_aload_n e_X12_countyPart_8.2.2.2.2.2.1 0 rfl ?_
    obtain ⟨q49, h⟩ := h
    refine R_callV (mc := 0) (ms := 0) (mc' := 0) (ms' := 0) (M' := M_X12_aCrop) (d' := 7) (as := []) (st := []) 12 0 e_X12_countyPart_8.2.2.2.2.2.2.1 (kCVof m_X12_aCrop l_X12_228) rfl (by decide) km_0 (by decide) (by decide) rfl rfl (by show (0 : Nat) ≤ 8; decide) ?_
    refine Run.mono (P_X12_aCrop q49) (fun r s e => ?_)
    obtain ⟨e1, e2⟩ := e
    refine R_eqs (st2 := [vI (kb ((cCrop m20).1))]) (σ2 := ((cCrop m20).2)) (by rw [e1]; rfl) e2 ?_
    refine R_istore_n (ls2 := [(2, vI (kb ((cCrop m20).1))), (0, vA G 0), (1, vI l1)]) e_X12_countyPart_8.2.2.2.2.2.2.2.1 (by decide) rfl ?_
    refine R_goto 200 e_X12_countyPart_8.2.2.2.2.2.2.2.2.1 (by decide) ?_
    refine R_iload_n e_X12_countyPart_9.2.2.1 0 rfl ?_
    refine R_if_eq 217 e_X12_countyPart_9.2.2.2.1 (by decide) (kb_r _) (fun q => ?_) (fun q => ?_)
    · replace h := h.1 (kb_f q)
      refine R_iconst e_X12_countyPart_10.1 ?_
      exact R_zreturn e_X12_countyPart_10.2 rfl (Or.inl rfl) h
    · replace h := h.2 (kb_t q)
      refine R_aload_n e_X12_countyPart_9.2.2.2.2.1 1 rfl ?_
      refine R_bipush e_X12_countyPart_9.2.2.2.2.2.1 (by decide) ?_
      obtain ⟨q52, h⟩ := h
      refine R_callV (mc := 0) (ms := 0) (mc' := 0) (ms' := 0) (M' := M_X12_wantSign) (d' := 2) (as := [vI 59]) (st := []) 12 1 e_X12_countyPart_9.2.2.2.2.2.2.1 (kCVof m_X12_wantSign l_X12_234) rfl (by decide) km_0 (by decide) (by decide) rfl rfl (by show (0 : Nat) ≤ 8; decide) ?_
      refine Run.mono (P_X12_wantSign q52) (fun r s e => ?_)
      obtain ⟨e1, e2⟩ := e
      refine R_eqs (st2 := [vI (kb ((cSign (59) ((cCrop m20).2)).1))]) (σ2 := ((cSign (59) ((cCrop m20).2)).2)) (by rw [e1]; rfl) e2 ?_
      refine R_if_eq 217 e_X12_countyPart_9.2.2.2.2.2.2.2.1 (by decide) (kb_r _) (fun q => ?_) (fun q => ?_)
      · replace h := h.1 (kb_f q)
        refine R_iconst e_X12_countyPart_10.1 ?_
        exact R_zreturn e_X12_countyPart_10.2 rfl (Or.inl rfl) h
      · replace h := h.2 (kb_t q)
        refine R_iconst e_X12_countyPart_9.2.2.2.2.2.2.2.2.1 ?_
        refine R_goto 218 e_X12_countyPart_9.2.2.2.2.2.2.2.2.2 (by decide) ?_
        exact R_zreturn e_X12_countyPart_10.2 rfl (Or.inr rfl) h
  refine R_tableOut 195 e_X12_countyPart_5.2.1 q22 (by omega) (by decide) ?_
  replace h := h.2.2.2.2.2.2 (by omega)
  refine R_aload_n e_X12_countyPart_8.2.2.2.2.2.2.2.2.2 0 rfl ?_
  obtain ⟨q55, h⟩ := h
  refine R_callV (mc := 0) (ms := 0) (mc' := 0) (ms' := 0) (M' := M_X12_aTenant) (d' := 7) (as := []) (st := []) 12 0 e_X12_countyPart_9.1 (kCVof m_X12_aTenant l_X12_231) rfl (by decide) km_0 (by decide) (by decide) rfl rfl (by show (0 : Nat) ≤ 8; decide) ?_
  refine Run.mono (P_X12_aTenant q55) (fun r s e => ?_)
  obtain ⟨e1, e2⟩ := e
  refine R_eqs (st2 := [vI (kb ((cTen m20).1))]) (σ2 := ((cTen m20).2)) (by rw [e1]; rfl) e2 ?_
  refine R_istore_n (ls2 := [(2, vI (kb ((cTen m20).1))), (0, vA G 0), (1, vI l1)]) e_X12_countyPart_9.2.1 (by decide) rfl ?_
  refine R_iload_n e_X12_countyPart_9.2.2.1 0 rfl ?_
  refine R_if_eq 217 e_X12_countyPart_9.2.2.2.1 (by decide) (kb_r _) (fun q => ?_) (fun q => ?_)
  · replace h := h.1 (kb_f q)
    refine R_iconst e_X12_countyPart_10.1 ?_
    exact R_zreturn e_X12_countyPart_10.2 rfl (Or.inl rfl) h
  · replace h := h.2 (kb_t q)
    refine R_aload_n e_X12_countyPart_9.2.2.2.2.1 1 rfl ?_
    refine R_bipush e_X12_countyPart_9.2.2.2.2.2.1 (by decide) ?_
    obtain ⟨q58, h⟩ := h
    refine R_callV (mc := 0) (ms := 0) (mc' := 0) (ms' := 0) (M' := M_X12_wantSign) (d' := 2) (as := [vI 59]) (st := []) 12 1 e_X12_countyPart_9.2.2.2.2.2.2.1 (kCVof m_X12_wantSign l_X12_234) rfl (by decide) km_0 (by decide) (by decide) rfl rfl (by show (0 : Nat) ≤ 8; decide) ?_
    refine Run.mono (P_X12_wantSign q58) (fun r s e => ?_)
    obtain ⟨e1, e2⟩ := e
    refine R_eqs (st2 := [vI (kb ((cSign (59) ((cTen m20).2)).1))]) (σ2 := ((cSign (59) ((cTen m20).2)).2)) (by rw [e1]; rfl) e2 ?_
    refine R_if_eq 217 e_X12_countyPart_9.2.2.2.2.2.2.2.1 (by decide) (kb_r _) (fun q => ?_) (fun q => ?_)
    · replace h := h.1 (kb_f q)
      refine R_iconst e_X12_countyPart_10.1 ?_
      exact R_zreturn e_X12_countyPart_10.2 rfl (Or.inl rfl) h
    · replace h := h.2 (kb_t q)
      refine R_iconst e_X12_countyPart_9.2.2.2.2.2.2.2.2.1 ?_
      refine R_goto 218 e_X12_countyPart_9.2.2.2.2.2.2.2.2.2 (by decide) ?_
      exact R_zreturn e_X12_countyPart_10.2 rfl (Or.inr rfl) h
theorem S_X12_countyPart_159 {G : Kg} {σ : Kmem} {Q : Int → Kmem → Prop} {l1 p0 p1 : Int}  (h : (rI l1) ∧ ((l1 ≠ 2 → (tk1 σ ∧ ((0 : Int) ≤ (p1 + p0) ∧ ((p1 + p0) : Int) < 3598) ∧ rI (0) ∧ rI (2)) ∧ ((¬ ((cNum ((p1 + p0)) (0) (2) σ).1) → Q 0 ((cNum ((p1 + p0)) (0) (2) σ).2)) ∧ (((cNum ((p1 + p0)) (0) (2) σ).1) → (tk1 ((cNum ((p1 + p0)) (0) (2) σ).2) ∧ rI (59)) ∧ ((¬ ((cSign (59) ((cNum ((p1 + p0)) (0) (2) σ).2)).1) → Q 0 ((cSign (59) ((cNum ((p1 + p0)) (0) (2) σ).2)).2)) ∧ (((cSign (59) ((cNum ((p1 + p0)) (0) (2) σ).2)).1) → Q 1 ((cSign (59) ((cNum ((p1 + p0)) (0) (2) σ).2)).2)))))) ∧ (l1 = 2 → (tk1 σ ∧ ((0 : Int) ≤ (p1 + p0) ∧ ((p1 + p0) : Int) < 3598) ∧ rI (0) ∧ rI (11)) ∧ ((¬ ((cNum ((p1 + p0)) (0) (11) σ).1) → Q 0 ((cNum ((p1 + p0)) (0) (11) σ).2)) ∧ (((cNum ((p1 + p0)) (0) (11) σ).1) → (tk1 ((cNum ((p1 + p0)) (0) (11) σ).2) ∧ rI (59)) ∧ ((¬ ((cSign (59) ((cNum ((p1 + p0)) (0) (11) σ).2)).1) → Q 0 ((cSign (59) ((cNum ((p1 + p0)) (0) (11) σ).2)).2)) ∧ (((cSign (59) ((cNum ((p1 + p0)) (0) (11) σ).2)).1) → Q 1 ((cSign (59) ((cNum ((p1 + p0)) (0) (11) σ).2)).2)))))))) : E_X12_countyPart_159 G l1 p0 p1 σ Q := by
  refine R_iadd e_X12_countyPart_7.1 ?_
  refine R_iconst e_X12_countyPart_7.2.1 ?_
  refine R_iload_n e_X12_countyPart_7.2.2.1 1 rfl ?_
  refine R_iconst e_X12_countyPart_7.2.2.2.1 ?_
  obtain ⟨q59, h⟩ := h
  refine R_icmp_ne 171 e_X12_countyPart_7.2.2.2.2.1 (by decide) q59 (by decide) (fun q => ?_) (fun q => ?_)
  · replace h := h.1 q
    refine R_iconst e_X12_countyPart_7.2.2.2.2.2.2.2.1 ?_
    obtain ⟨q62, h⟩ := h
    refine R_callV (mc := 0) (ms := 0) (mc' := 0) (ms' := 0) (M' := M_X12_number) (d' := 2) (as := [vI (p1 + p0), vI 0, vI 2]) (st := []) 12 3 e_X12_countyPart_7.2.2.2.2.2.2.2.2.1 (kCVof m_X12_number l_X12_199) rfl (by decide) km_0 (by decide) (by decide) rfl rfl (by show (0 : Nat) ≤ 8; decide) ?_
    refine Run.mono (P_X12_number q62) (fun r s e => ?_)
    obtain ⟨e1, e2⟩ := e
    refine R_eqs (st2 := [vI (kb ((cNum ((p1 + p0)) (0) (2) σ).1))]) (σ2 := ((cNum ((p1 + p0)) (0) (2) σ).2)) (by rw [e1]; rfl) e2 ?_
    refine R_istore_n (ls2 := [(2, vI (kb ((cNum ((p1 + p0)) (0) (2) σ).1))), (0, vA G 0), (1, vI l1)]) e_X12_countyPart_7.2.2.2.2.2.2.2.2.2 (by decide) rfl ?_
    refine R_goto 200 e_X12_countyPart_8.1 (by decide) ?_
    refine R_iload_n e_X12_countyPart_9.2.2.1 0 rfl ?_
    refine R_if_eq 217 e_X12_countyPart_9.2.2.2.1 (by decide) (kb_r _) (fun q => ?_) (fun q => ?_)
    · replace h := h.1 (kb_f q)
      refine R_iconst e_X12_countyPart_10.1 ?_
      exact R_zreturn e_X12_countyPart_10.2 rfl (Or.inl rfl) h
    · replace h := h.2 (kb_t q)
      refine R_aload_n e_X12_countyPart_9.2.2.2.2.1 1 rfl ?_
      refine R_bipush e_X12_countyPart_9.2.2.2.2.2.1 (by decide) ?_
      obtain ⟨q65, h⟩ := h
      refine R_callV (mc := 0) (ms := 0) (mc' := 0) (ms' := 0) (M' := M_X12_wantSign) (d' := 2) (as := [vI 59]) (st := []) 12 1 e_X12_countyPart_9.2.2.2.2.2.2.1 (kCVof m_X12_wantSign l_X12_234) rfl (by decide) km_0 (by decide) (by decide) rfl rfl (by show (0 : Nat) ≤ 8; decide) ?_
      refine Run.mono (P_X12_wantSign q65) (fun r s e => ?_)
      obtain ⟨e1, e2⟩ := e
      refine R_eqs (st2 := [vI (kb ((cSign (59) ((cNum ((p1 + p0)) (0) (2) σ).2)).1))]) (σ2 := ((cSign (59) ((cNum ((p1 + p0)) (0) (2) σ).2)).2)) (by rw [e1]; rfl) e2 ?_
      refine R_if_eq 217 e_X12_countyPart_9.2.2.2.2.2.2.2.1 (by decide) (kb_r _) (fun q => ?_) (fun q => ?_)
      · replace h := h.1 (kb_f q)
        refine R_iconst e_X12_countyPart_10.1 ?_
        exact R_zreturn e_X12_countyPart_10.2 rfl (Or.inl rfl) h
      · replace h := h.2 (kb_t q)
        refine R_iconst e_X12_countyPart_9.2.2.2.2.2.2.2.2.1 ?_
        refine R_goto 218 e_X12_countyPart_9.2.2.2.2.2.2.2.2.2 (by decide) ?_
        exact R_zreturn e_X12_countyPart_10.2 rfl (Or.inr rfl) h
  · replace h := h.2 q
    refine R_bipush e_X12_countyPart_7.2.2.2.2.2.1 (by decide) ?_
    refine R_goto 172 e_X12_countyPart_7.2.2.2.2.2.2.1 (by decide) ?_
    obtain ⟨q68, h⟩ := h
    refine R_callV (mc := 0) (ms := 0) (mc' := 0) (ms' := 0) (M' := M_X12_number) (d' := 2) (as := [vI (p1 + p0), vI 0, vI 11]) (st := []) 12 3 e_X12_countyPart_7.2.2.2.2.2.2.2.2.1 (kCVof m_X12_number l_X12_199) rfl (by decide) km_0 (by decide) (by decide) rfl rfl (by show (0 : Nat) ≤ 8; decide) ?_
    refine Run.mono (P_X12_number q68) (fun r s e => ?_)
    obtain ⟨e1, e2⟩ := e
    refine R_eqs (st2 := [vI (kb ((cNum ((p1 + p0)) (0) (11) σ).1))]) (σ2 := ((cNum ((p1 + p0)) (0) (11) σ).2)) (by rw [e1]; rfl) e2 ?_
    refine R_istore_n (ls2 := [(2, vI (kb ((cNum ((p1 + p0)) (0) (11) σ).1))), (0, vA G 0), (1, vI l1)]) e_X12_countyPart_7.2.2.2.2.2.2.2.2.2 (by decide) rfl ?_
    refine R_goto 200 e_X12_countyPart_8.1 (by decide) ?_
    refine R_iload_n e_X12_countyPart_9.2.2.1 0 rfl ?_
    refine R_if_eq 217 e_X12_countyPart_9.2.2.2.1 (by decide) (kb_r _) (fun q => ?_) (fun q => ?_)
    · replace h := h.1 (kb_f q)
      refine R_iconst e_X12_countyPart_10.1 ?_
      exact R_zreturn e_X12_countyPart_10.2 rfl (Or.inl rfl) h
    · replace h := h.2 (kb_t q)
      refine R_aload_n e_X12_countyPart_9.2.2.2.2.1 1 rfl ?_
      refine R_bipush e_X12_countyPart_9.2.2.2.2.2.1 (by decide) ?_
      obtain ⟨q71, h⟩ := h
      refine R_callV (mc := 0) (ms := 0) (mc' := 0) (ms' := 0) (M' := M_X12_wantSign) (d' := 2) (as := [vI 59]) (st := []) 12 1 e_X12_countyPart_9.2.2.2.2.2.2.1 (kCVof m_X12_wantSign l_X12_234) rfl (by decide) km_0 (by decide) (by decide) rfl rfl (by show (0 : Nat) ≤ 8; decide) ?_
      refine Run.mono (P_X12_wantSign q71) (fun r s e => ?_)
      obtain ⟨e1, e2⟩ := e
      refine R_eqs (st2 := [vI (kb ((cSign (59) ((cNum ((p1 + p0)) (0) (11) σ).2)).1))]) (σ2 := ((cSign (59) ((cNum ((p1 + p0)) (0) (11) σ).2)).2)) (by rw [e1]; rfl) e2 ?_
      refine R_if_eq 217 e_X12_countyPart_9.2.2.2.2.2.2.2.1 (by decide) (kb_r _) (fun q => ?_) (fun q => ?_)
      · replace h := h.1 (kb_f q)
        refine R_iconst e_X12_countyPart_10.1 ?_
        exact R_zreturn e_X12_countyPart_10.2 rfl (Or.inl rfl) h
      · replace h := h.2 (kb_t q)
        refine R_iconst e_X12_countyPart_9.2.2.2.2.2.2.2.2.1 ?_
        refine R_goto 218 e_X12_countyPart_9.2.2.2.2.2.2.2.2.2 (by decide) ?_
        exact R_zreturn e_X12_countyPart_10.2 rfl (Or.inr rfl) h
