/-! KiteLandModel.seasonStep()Z -/
theorem e_X12_seasonStep_0 : decode cX12_seasonStep 0 = .ok (.aload_n 0, 1) ∧ decode cX12_seasonStep 1 = .ok (.ldc 186, 2) ∧ decode cX12_seasonStep 3 = .ok (.invokevirtual 178, 3) ∧ decode cX12_seasonStep 6 = .ok (.istore_n 1, 1) ∧ decode cX12_seasonStep 7 = .ok (.aload_n 0, 1) ∧ decode cX12_seasonStep 8 = .ok (.getfield 7, 3) ∧ decode cX12_seasonStep 11 = .ok (.sipush 2064, 3) ∧ decode cX12_seasonStep 14 = .ok (.iaload, 1) ∧ decode cX12_seasonStep 15 = .ok (.istore_n 2, 1) ∧ decode cX12_seasonStep 16 = .ok (.sipush 2206, 3) := by decide +kernel
theorem e_X12_seasonStep_1 : decode cX12_seasonStep 19 = .ok (.bipush 6, 2) ∧ decode cX12_seasonStep 21 = .ok (.iload_n 2, 1) ∧ decode cX12_seasonStep 22 = .ok (.imul, 1) ∧ decode cX12_seasonStep 23 = .ok (.iadd, 1) ∧ decode cX12_seasonStep 24 = .ok (.istore_n 3, 1) ∧ decode cX12_seasonStep 25 = .ok (.iload_n 1, 1) ∧ decode cX12_seasonStep 26 = .ok (.bipush 20, 2) ∧ decode cX12_seasonStep 28 = .ok (.if_icmp .eq 9, 3) ∧ decode cX12_seasonStep 31 = .ok (.iload_n 1, 1) ∧ decode cX12_seasonStep 32 = .ok (.bipush 21, 2) := by decide +kernel
theorem e_X12_seasonStep_2 : decode cX12_seasonStep 34 = .ok (.if_icmp .ne 7, 3) ∧ decode cX12_seasonStep 37 = .ok (.iconst 1, 1) ∧ decode cX12_seasonStep 38 = .ok (.goto 4, 3) ∧ decode cX12_seasonStep 41 = .ok (.iconst 0, 1) ∧ decode cX12_seasonStep 42 = .ok (.istore 4, 2) ∧ decode cX12_seasonStep 44 = .ok (.iload_n 1, 1) ∧ decode cX12_seasonStep 45 = .ok (.bipush 15, 2) ∧ decode cX12_seasonStep 47 = .ok (.if_icmp .lt 22, 3) ∧ decode cX12_seasonStep 50 = .ok (.iload_n 1, 1) ∧ decode cX12_seasonStep 51 = .ok (.bipush 23, 2) := by decide +kernel
theorem e_X12_seasonStep_3 : decode cX12_seasonStep 53 = .ok (.if_icmp .gt 16, 3) ∧ decode cX12_seasonStep 56 = .ok (.iload_n 1, 1) ∧ decode cX12_seasonStep 57 = .ok (.bipush 22, 2) ∧ decode cX12_seasonStep 59 = .ok (.if_icmp .ne 16, 3) ∧ decode cX12_seasonStep 62 = .ok (.aload_n 0, 1) ∧ decode cX12_seasonStep 63 = .ok (.getfield 253, 3) ∧ decode cX12_seasonStep 66 = .ok (.ifCond .ne 9, 3) ∧ decode cX12_seasonStep 69 = .ok (.aload_n 0, 1) ∧ decode cX12_seasonStep 70 = .ok (.iconst 2, 1) ∧ decode cX12_seasonStep 71 = .ok (.invokevirtual 175, 3) := by decide +kernel
theorem e_X12_seasonStep_4 : decode cX12_seasonStep 74 = .ok (.ireturn, 1) ∧ decode cX12_seasonStep 75 = .ok (.iload_n 1, 1) ∧ decode cX12_seasonStep 76 = .ok (.bipush 22, 2) ∧ decode cX12_seasonStep 78 = .ok (.if_icmp .eq 19, 3) ∧ decode cX12_seasonStep 81 = .ok (.aload_n 0, 1) ∧ decode cX12_seasonStep 82 = .ok (.getfield 256, 3) ∧ decode cX12_seasonStep 85 = .ok (.bipush 30, 2) ∧ decode cX12_seasonStep 87 = .ok (.if_icmp .ne 10, 3) ∧ decode cX12_seasonStep 90 = .ok (.aload_n 0, 1) ∧ decode cX12_seasonStep 91 = .ok (.bipush 6, 2) := by decide +kernel
theorem e_X12_seasonStep_5 : decode cX12_seasonStep 93 = .ok (.invokevirtual 175, 3) ∧ decode cX12_seasonStep 96 = .ok (.ireturn, 1) ∧ decode cX12_seasonStep 97 = .ok (.iload 4, 2) ∧ decode cX12_seasonStep 99 = .ok (.ifCond .eq 18, 3) ∧ decode cX12_seasonStep 102 = .ok (.aload_n 0, 1) ∧ decode cX12_seasonStep 103 = .ok (.getfield 253, 3) ∧ decode cX12_seasonStep 106 = .ok (.iconst 3, 1) ∧ decode cX12_seasonStep 107 = .ok (.if_icmp .ne 10, 3) ∧ decode cX12_seasonStep 110 = .ok (.aload_n 0, 1) ∧ decode cX12_seasonStep 111 = .ok (.bipush 7, 2) := by decide +kernel
theorem e_X12_seasonStep_6 : decode cX12_seasonStep 113 = .ok (.invokevirtual 175, 3) ∧ decode cX12_seasonStep 116 = .ok (.ireturn, 1) ∧ decode cX12_seasonStep 117 = .ok (.aload_n 0, 1) ∧ decode cX12_seasonStep 118 = .ok (.dup, 1) ∧ decode cX12_seasonStep 119 = .ok (.getfield 256, 3) ∧ decode cX12_seasonStep 122 = .ok (.iload_n 1, 1) ∧ decode cX12_seasonStep 123 = .ok (.bipush 22, 2) ∧ decode cX12_seasonStep 125 = .ok (.if_icmp .ne 7, 3) ∧ decode cX12_seasonStep 128 = .ok (.iconst 0, 1) ∧ decode cX12_seasonStep 129 = .ok (.goto 4, 3) := by decide +kernel
theorem e_X12_seasonStep_7 : decode cX12_seasonStep 132 = .ok (.iconst 1, 1) ∧ decode cX12_seasonStep 133 = .ok (.iadd, 1) ∧ decode cX12_seasonStep 134 = .ok (.putfield 256, 3) ∧ decode cX12_seasonStep 137 = .ok (.aload_n 0, 1) ∧ decode cX12_seasonStep 138 = .ok (.getfield 7, 3) ∧ decode cX12_seasonStep 141 = .ok (.iload_n 3, 1) ∧ decode cX12_seasonStep 142 = .ok (.iload_n 1, 1) ∧ decode cX12_seasonStep 143 = .ok (.iastore, 1) ∧ decode cX12_seasonStep 144 = .ok (.iconst 1, 1) ∧ decode cX12_seasonStep 145 = .ok (.istore 5, 2) := by decide +kernel
theorem e_X12_seasonStep_8 : decode cX12_seasonStep 147 = .ok (.iload 5, 2) ∧ decode cX12_seasonStep 149 = .ok (.bipush 6, 2) ∧ decode cX12_seasonStep 151 = .ok (.if_icmp .ge 19, 3) ∧ decode cX12_seasonStep 154 = .ok (.aload_n 0, 1) ∧ decode cX12_seasonStep 155 = .ok (.getfield 7, 3) ∧ decode cX12_seasonStep 158 = .ok (.iload_n 3, 1) ∧ decode cX12_seasonStep 159 = .ok (.iload 5, 2) ∧ decode cX12_seasonStep 161 = .ok (.iadd, 1) ∧ decode cX12_seasonStep 162 = .ok (.iconst 0, 1) ∧ decode cX12_seasonStep 163 = .ok (.iastore, 1) := by decide +kernel
theorem e_X12_seasonStep_9 : decode cX12_seasonStep 164 = .ok (.iinc 5 1, 3) ∧ decode cX12_seasonStep 167 = .ok (.goto (-20), 3) ∧ decode cX12_seasonStep 170 = .ok (.aload_n 0, 1) ∧ decode cX12_seasonStep 171 = .ok (.getfield 7, 3) ∧ decode cX12_seasonStep 174 = .ok (.sipush 2064, 3) ∧ decode cX12_seasonStep 177 = .ok (.dup2, 1) ∧ decode cX12_seasonStep 178 = .ok (.iaload, 1) ∧ decode cX12_seasonStep 179 = .ok (.iconst 1, 1) ∧ decode cX12_seasonStep 180 = .ok (.iadd, 1) ∧ decode cX12_seasonStep 181 = .ok (.iastore, 1) := by decide +kernel
theorem e_X12_seasonStep_10 : decode cX12_seasonStep 182 = .ok (.aload_n 0, 1) ∧ decode cX12_seasonStep 183 = .ok (.invokevirtual 169, 3) ∧ decode cX12_seasonStep 186 = .ok (.aload_n 0, 1) ∧ decode cX12_seasonStep 187 = .ok (.iload_n 1, 1) ∧ decode cX12_seasonStep 188 = .ok (.iload_n 3, 1) ∧ decode cX12_seasonStep 189 = .ok (.invokevirtual 259, 3) ∧ decode cX12_seasonStep 192 = .ok (.ifCond .ne 5, 3) ∧ decode cX12_seasonStep 195 = .ok (.iconst 0, 1) ∧ decode cX12_seasonStep 196 = .ok (.ireturn, 1) ∧ decode cX12_seasonStep 197 = .ok (.iload 4, 2) := by decide +kernel
theorem e_X12_seasonStep_11 : decode cX12_seasonStep 199 = .ok (.ifCond .eq 23, 3) ∧ decode cX12_seasonStep 202 = .ok (.aload_n 0, 1) ∧ decode cX12_seasonStep 203 = .ok (.getfield 44, 3) ∧ decode cX12_seasonStep 206 = .ok (.aload_n 0, 1) ∧ decode cX12_seasonStep 207 = .ok (.getfield 253, 3) ∧ decode cX12_seasonStep 210 = .ok (.iload_n 2, 1) ∧ decode cX12_seasonStep 211 = .ok (.iastore, 1) ∧ decode cX12_seasonStep 212 = .ok (.aload_n 0, 1) ∧ decode cX12_seasonStep 213 = .ok (.dup, 1) ∧ decode cX12_seasonStep 214 = .ok (.getfield 253, 3) := by decide +kernel
theorem e_X12_seasonStep_12 : decode cX12_seasonStep 217 = .ok (.iconst 1, 1) ∧ decode cX12_seasonStep 218 = .ok (.iadd, 1) ∧ decode cX12_seasonStep 219 = .ok (.putfield 253, 3) ∧ decode cX12_seasonStep 222 = .ok (.iload_n 1, 1) ∧ decode cX12_seasonStep 223 = .ok (.bipush 22, 2) ∧ decode cX12_seasonStep 225 = .ok (.if_icmp .ne 54, 3) ∧ decode cX12_seasonStep 228 = .ok (.aload_n 0, 1) ∧ decode cX12_seasonStep 229 = .ok (.dup, 1) ∧ decode cX12_seasonStep 230 = .ok (.getfield 253, 3) ∧ decode cX12_seasonStep 233 = .ok (.iconst 1, 1) := by decide +kernel
theorem e_X12_seasonStep_13 : decode cX12_seasonStep 234 = .ok (.isub, 1) ∧ decode cX12_seasonStep 235 = .ok (.putfield 253, 3) ∧ decode cX12_seasonStep 238 = .ok (.aload_n 0, 1) ∧ decode cX12_seasonStep 239 = .ok (.getfield 7, 3) ∧ decode cX12_seasonStep 242 = .ok (.iload_n 3, 1) ∧ decode cX12_seasonStep 243 = .ok (.iconst 4, 1) ∧ decode cX12_seasonStep 244 = .ok (.iadd, 1) ∧ decode cX12_seasonStep 245 = .ok (.aload_n 0, 1) ∧ decode cX12_seasonStep 246 = .ok (.getfield 44, 3) ∧ decode cX12_seasonStep 249 = .ok (.aload_n 0, 1) := by decide +kernel
theorem e_X12_seasonStep_14 : decode cX12_seasonStep 250 = .ok (.getfield 253, 3) ∧ decode cX12_seasonStep 253 = .ok (.iaload, 1) ∧ decode cX12_seasonStep 254 = .ok (.iastore, 1) ∧ decode cX12_seasonStep 255 = .ok (.aload_n 0, 1) ∧ decode cX12_seasonStep 256 = .ok (.getfield 7, 3) ∧ decode cX12_seasonStep 259 = .ok (.sipush 2206, 3) ∧ decode cX12_seasonStep 262 = .ok (.bipush 6, 2) ∧ decode cX12_seasonStep 264 = .ok (.aload_n 0, 1) ∧ decode cX12_seasonStep 265 = .ok (.getfield 44, 3) ∧ decode cX12_seasonStep 268 = .ok (.aload_n 0, 1) := by decide +kernel
theorem e_X12_seasonStep_15 : decode cX12_seasonStep 269 = .ok (.getfield 253, 3) ∧ decode cX12_seasonStep 272 = .ok (.iaload, 1) ∧ decode cX12_seasonStep 273 = .ok (.imul, 1) ∧ decode cX12_seasonStep 274 = .ok (.iadd, 1) ∧ decode cX12_seasonStep 275 = .ok (.iconst 4, 1) ∧ decode cX12_seasonStep 276 = .ok (.iadd, 1) ∧ decode cX12_seasonStep 277 = .ok (.iload_n 2, 1) ∧ decode cX12_seasonStep 278 = .ok (.iastore, 1) ∧ decode cX12_seasonStep 279 = .ok (.aload_n 0, 1) ∧ decode cX12_seasonStep 280 = .ok (.bipush 59, 2) := by decide +kernel
theorem e_X12_seasonStep_16 : decode cX12_seasonStep 282 = .ok (.invokevirtual 234, 3) ∧ decode cX12_seasonStep 285 = .ok (.ireturn, 1) := by decide +kernel
abbrev E_X12_seasonStep_42 (G : Kg) (l1 l2 l3 p0 : Int) (σ : Kmem) (Q : Int → Kmem → Prop) : Prop := Ex G WM M_X12_seasonStep 10 0 0 42 [(0, vA G 0), (1, vI l1), (2, vI l2), (3, vI l3)] [vI p0] σ Q
abbrev E_X12_seasonStep_97 (G : Kg) (l1 l2 l3 l4 : Int) (σ : Kmem) (Q : Int → Kmem → Prop) : Prop := Ex G WM M_X12_seasonStep 10 0 0 97 [(0, vA G 0), (1, vI l1), (2, vI l2), (3, vI l3), (4, vI l4)] [] σ Q
abbrev E_X12_seasonStep_147 (G : Kg) (l1 l2 l3 l4 l5 : Int) (σ : Kmem) (Q : Int → Kmem → Prop) : Prop := Ex G WM M_X12_seasonStep 10 0 0 147 [(0, vA G 0), (1, vI l1), (2, vI l2), (3, vI l3), (4, vI l4), (5, vI l5)] [] σ Q
abbrev E_X12_seasonStep_222 (G : Kg) (l1 l2 l3 : Int) (σ : Kmem) (Q : Int → Kmem → Prop) : Prop := Ex G WM M_X12_seasonStep 10 0 0 222 [(0, vA G 0), (1, vI l1), (2, vI l2), (3, vI l3)] [] σ Q
theorem S_X12_seasonStep {G : Kg} {σ : Kmem} {Q : Int → Kmem → Prop}  (h : (tok σ) ∧ (rI (tWi σ)) ∧ ((tWi σ = 20 → E_X12_seasonStep_42 G (tWi σ) (σ 1 2064) (2206 + (6 * (σ 1 2064))) 1 σ Q) ∧ (tWi σ ≠ 20 → ((tWi σ ≠ 21 → E_X12_seasonStep_42 G (tWi σ) (σ 1 2064) (2206 + (6 * (σ 1 2064))) 0 σ Q) ∧ (tWi σ = 21 → E_X12_seasonStep_42 G (tWi σ) (σ 1 2064) (2206 + (6 * (σ 1 2064))) 1 σ Q))))) : Run G WM M_X12_seasonStep 10 0 0 [vA G 0] σ Q := by
  refine Run.of (by decide +kernel) (by show (1 : Nat) ≤ 6; decide) ?_
  show Ex G WM M_X12_seasonStep 10 0 0 0 [(0, vA G 0)] [] σ Q
  refine R_aload_n e_X12_seasonStep_0.1 0 rfl ?_
  refine R_ldcS (i := 28) (-38) e_X12_seasonStep_0.2.1 rfl rfl ?_
  obtain ⟨q3, h⟩ := h
  refine R_callV (mc := 0) (ms := 0) (mc' := 0) (ms' := 0) (M' := M_X12_inWords) (d' := 4) (as := [vA G (-38)]) (st := []) 12 1 e_X12_seasonStep_0.2.2.1 (kCVof m_X12_inWords l_X12_178) rfl (by decide) km_0 (by decide) (by decide) rfl rfl (by show (0 : Nat) ≤ 8; decide) ?_
  refine Run.mono (P_X12_inWords q3) (fun r s e => ?_)
  obtain ⟨e1, e2⟩ := e
  refine R_eqs (st2 := [vI (tWi σ)]) (σ2 := σ) (by rw [e1]; rfl) e2 ?_
  refine R_istore_n (ls2 := [(1, vI (tWi σ)), (0, vA G 0)]) e_X12_seasonStep_0.2.2.2.1 (by decide) rfl ?_
  refine R_aload_n e_X12_seasonStep_0.2.2.2.2.1 1 rfl ?_
  refine R_getA 12 0 1 e_X12_seasonStep_0.2.2.2.2.2.1 f_X12_7 km_0 (fun _ _ => rfl) rm_0_0 (by decide) ?_
  refine R_sipush e_X12_seasonStep_0.2.2.2.2.2.2.1 (by decide) ?_
  refine R_iald 3598 e_X12_seasonStep_0.2.2.2.2.2.2.2.1 kma_1 (by decide) ?_
  refine R_istore_n (ls2 := [(2, vI (σ 1 2064)), (1, vI (tWi σ)), (0, vA G 0)]) e_X12_seasonStep_0.2.2.2.2.2.2.2.2.1 (by decide) rfl ?_
  refine R_sipush e_X12_seasonStep_0.2.2.2.2.2.2.2.2.2 (by decide) ?_
  refine R_bipush e_X12_seasonStep_1.1 (by decide) ?_
  refine R_iload_n e_X12_seasonStep_1.2.1 0 rfl ?_
  refine R_imul e_X12_seasonStep_1.2.2.1 ?_
  refine R_iadd e_X12_seasonStep_1.2.2.2.1 ?_
  refine R_istore_n (ls2 := [(3, vI (2206 + (6 * (σ 1 2064)))), (2, vI (σ 1 2064)), (1, vI (tWi σ)), (0, vA G 0)]) e_X12_seasonStep_1.2.2.2.2.1 (by decide) rfl ?_
  refine R_iload_n e_X12_seasonStep_1.2.2.2.2.2.1 2 rfl ?_
  refine R_bipush e_X12_seasonStep_1.2.2.2.2.2.2.1 (by decide) ?_
  obtain ⟨q4, h⟩ := h
  refine R_icmp_eq 37 e_X12_seasonStep_1.2.2.2.2.2.2.2.1 (by decide) q4 (by decide) (fun q => ?_) (fun q => ?_)
  · replace h := h.1 q
    refine R_iconst e_X12_seasonStep_2.2.1 ?_
    refine R_goto 42 e_X12_seasonStep_2.2.2.1 (by decide) ?_
    refine R_ls (ls2 := [(0, vA G 0), (1, vI (tWi σ)), (2, vI (σ 1 2064)), (3, vI (2206 + (6 * (σ 1 2064))))]) [3, 2, 1, 0] rfl ?_
    exact h
  · replace h := h.2 q
    refine R_iload_n e_X12_seasonStep_1.2.2.2.2.2.2.2.2.1 2 rfl ?_
    refine R_bipush e_X12_seasonStep_1.2.2.2.2.2.2.2.2.2 (by decide) ?_
    refine R_icmp_ne 41 e_X12_seasonStep_2.1 (by decide) q4 (by decide) (fun q => ?_) (fun q => ?_)
    · replace h := h.1 q
      refine R_iconst e_X12_seasonStep_2.2.2.2.1 ?_
      refine R_ls (ls2 := [(0, vA G 0), (1, vI (tWi σ)), (2, vI (σ 1 2064)), (3, vI (2206 + (6 * (σ 1 2064))))]) [3, 2, 1, 0] rfl ?_
      exact h
    · replace h := h.2 q
      refine R_iconst e_X12_seasonStep_2.2.1 ?_
      refine R_goto 42 e_X12_seasonStep_2.2.2.1 (by decide) ?_
      refine R_ls (ls2 := [(0, vA G 0), (1, vI (tWi σ)), (2, vI (σ 1 2064)), (3, vI (2206 + (6 * (σ 1 2064))))]) [3, 2, 1, 0] rfl ?_
      exact h
theorem S_X12_seasonStep_42 {G : Kg} {σ : Kmem} {Q : Int → Kmem → Prop} {l1 l2 l3 p0 : Int}  (h : (rI l1) ∧ ((l1 < 15 → (tok σ ∧ (0 : Int) ≤ σ 0 18 ∧ (σ 0 18 : Int) ≤ 9) ∧ Q 0 (tF σ (2))) ∧ (15 ≤ l1 → ((23 < l1 → (tok σ ∧ (0 : Int) ≤ σ 0 18 ∧ (σ 0 18 : Int) ≤ 9) ∧ Q 0 (tF σ (2))) ∧ (l1 ≤ 23 → ((l1 ≠ 22 → ((l1 = 22 → E_X12_seasonStep_97 G l1 l2 l3 p0 σ Q) ∧ (l1 ≠ 22 → (rI (σ 0 23)) ∧ ((σ 0 23 ≠ 30 → E_X12_seasonStep_97 G l1 l2 l3 p0 σ Q) ∧ (σ 0 23 = 30 → (tok σ ∧ (0 : Int) ≤ σ 0 18 ∧ (σ 0 18 : Int) ≤ 9) ∧ Q 0 (tF σ (6))))))) ∧ (l1 = 22 → (rI (σ 0 22)) ∧ ((σ 0 22 ≠ 0 → ((l1 = 22 → E_X12_seasonStep_97 G l1 l2 l3 p0 σ Q) ∧ (l1 ≠ 22 → (rI (σ 0 23)) ∧ ((σ 0 23 ≠ 30 → E_X12_seasonStep_97 G l1 l2 l3 p0 σ Q) ∧ (σ 0 23 = 30 → (tok σ ∧ (0 : Int) ≤ σ 0 18 ∧ (σ 0 18 : Int) ≤ 9) ∧ Q 0 (tF σ (6))))))) ∧ (σ 0 22 = 0 → (tok σ ∧ (0 : Int) ≤ σ 0 18 ∧ (σ 0 18 : Int) ≤ 9) ∧ Q 0 (tF σ (2))))))))))) : E_X12_seasonStep_42 G l1 l2 l3 p0 σ Q := by
  refine R_istore (ls2 := [(4, vI p0), (0, vA G 0), (1, vI l1), (2, vI l2), (3, vI l3)]) e_X12_seasonStep_2.2.2.2.2.1 (by decide) rfl ?_
  refine R_iload_n e_X12_seasonStep_2.2.2.2.2.2.1 2 rfl ?_
  refine R_bipush e_X12_seasonStep_2.2.2.2.2.2.2.1 (by decide) ?_
  obtain ⟨q5, h⟩ := h
  refine R_icmp_lt 69 e_X12_seasonStep_2.2.2.2.2.2.2.2.1 (by decide) q5 (by decide) (fun q => ?_) (fun q => ?_)
  · replace h := h.1 q
    refine R_aload_n e_X12_seasonStep_3.2.2.2.2.2.2.2.1 1 rfl ?_
    refine R_iconst e_X12_seasonStep_3.2.2.2.2.2.2.2.2.1 ?_
    obtain ⟨q8, h⟩ := h
    refine R_callV (mc := 0) (ms := 0) (mc' := 0) (ms' := 0) (M' := M_X12_fails) (d' := 0) (as := [vI 2]) (st := []) 12 1 e_X12_seasonStep_3.2.2.2.2.2.2.2.2.2 (kCVof m_X12_fails l_X12_175) rfl (by decide) km_0 (by decide) (by decide) rfl rfl (by show (0 : Nat) ≤ 8; decide) ?_
    refine Run.mono (P_X12_fails q8) (fun r s e => ?_)
    obtain ⟨e1, e2⟩ := e
    refine R_eqs (st2 := [vI 0]) (σ2 := (tF σ (2))) (by rw [e1]; rfl) e2 ?_
    exact R_zreturn e_X12_seasonStep_4.1 rfl (Or.inl rfl) h
  · replace h := h.2 q
    refine R_iload_n e_X12_seasonStep_2.2.2.2.2.2.2.2.2.1 2 rfl ?_
    refine R_bipush e_X12_seasonStep_2.2.2.2.2.2.2.2.2.2 (by decide) ?_
    refine R_icmp_gt 69 e_X12_seasonStep_3.1 (by decide) q5 (by decide) (fun q => ?_) (fun q => ?_)
    · replace h := h.1 q
      refine R_aload_n e_X12_seasonStep_3.2.2.2.2.2.2.2.1 1 rfl ?_
      refine R_iconst e_X12_seasonStep_3.2.2.2.2.2.2.2.2.1 ?_
      obtain ⟨q11, h⟩ := h
      refine R_callV (mc := 0) (ms := 0) (mc' := 0) (ms' := 0) (M' := M_X12_fails) (d' := 0) (as := [vI 2]) (st := []) 12 1 e_X12_seasonStep_3.2.2.2.2.2.2.2.2.2 (kCVof m_X12_fails l_X12_175) rfl (by decide) km_0 (by decide) (by decide) rfl rfl (by show (0 : Nat) ≤ 8; decide) ?_
      refine Run.mono (P_X12_fails q11) (fun r s e => ?_)
      obtain ⟨e1, e2⟩ := e
      refine R_eqs (st2 := [vI 0]) (σ2 := (tF σ (2))) (by rw [e1]; rfl) e2 ?_
      exact R_zreturn e_X12_seasonStep_4.1 rfl (Or.inl rfl) h
    · replace h := h.2 q
      refine R_iload_n e_X12_seasonStep_3.2.1 2 rfl ?_
      refine R_bipush e_X12_seasonStep_3.2.2.1 (by decide) ?_
      refine R_icmp_ne 75 e_X12_seasonStep_3.2.2.2.1 (by decide) q5 (by decide) (fun q => ?_) (fun q => ?_)
      · replace h := h.1 q
        refine R_iload_n e_X12_seasonStep_4.2.1 2 rfl ?_
        refine R_bipush e_X12_seasonStep_4.2.2.1 (by decide) ?_
        refine R_icmp_eq 97 e_X12_seasonStep_4.2.2.2.1 (by decide) q5 (by decide) (fun q => ?_) (fun q => ?_)
        · replace h := h.1 q
          refine R_ls (ls2 := [(0, vA G 0), (1, vI l1), (2, vI l2), (3, vI l3), (4, vI p0)]) [1, 2, 3, 4, 0] rfl ?_
          exact h
        · replace h := h.2 q
          refine R_aload_n e_X12_seasonStep_4.2.2.2.2.1 1 rfl ?_
          refine R_getI 12 23 23 e_X12_seasonStep_4.2.2.2.2.2.1 f_X12_256 km_0 (fun _ _ => rfl) rfl ?_
          refine R_bipush e_X12_seasonStep_4.2.2.2.2.2.2.1 (by decide) ?_
          obtain ⟨q12, h⟩ := h
          refine R_icmp_ne 97 e_X12_seasonStep_4.2.2.2.2.2.2.2.1 (by decide) q12 (by decide) (fun q => ?_) (fun q => ?_)
          · replace h := h.1 q
            refine R_ls (ls2 := [(0, vA G 0), (1, vI l1), (2, vI l2), (3, vI l3), (4, vI p0)]) [1, 2, 3, 4, 0] rfl ?_
            exact h
          · replace h := h.2 q
            refine R_aload_n e_X12_seasonStep_4.2.2.2.2.2.2.2.2.1 1 rfl ?_
            refine R_bipush e_X12_seasonStep_4.2.2.2.2.2.2.2.2.2 (by decide) ?_
            obtain ⟨q15, h⟩ := h
            refine R_callV (mc := 0) (ms := 0) (mc' := 0) (ms' := 0) (M' := M_X12_fails) (d' := 0) (as := [vI 6]) (st := []) 12 1 e_X12_seasonStep_5.1 (kCVof m_X12_fails l_X12_175) rfl (by decide) km_0 (by decide) (by decide) rfl rfl (by show (0 : Nat) ≤ 8; decide) ?_
            refine Run.mono (P_X12_fails q15) (fun r s e => ?_)
            obtain ⟨e1, e2⟩ := e
            refine R_eqs (st2 := [vI 0]) (σ2 := (tF σ (6))) (by rw [e1]; rfl) e2 ?_
            exact R_zreturn e_X12_seasonStep_5.2.1 rfl (Or.inl rfl) h
      · replace h := h.2 q
        refine R_aload_n e_X12_seasonStep_3.2.2.2.2.1 1 rfl ?_
        refine R_getI 12 22 22 e_X12_seasonStep_3.2.2.2.2.2.1 f_X12_253 km_0 (fun _ _ => rfl) rfl ?_
        obtain ⟨q16, h⟩ := h
        refine R_if_ne 75 e_X12_seasonStep_3.2.2.2.2.2.2.1 (by decide) q16  (fun q => ?_) (fun q => ?_)
        · replace h := h.1 q
          refine R_iload_n e_X12_seasonStep_4.2.1 2 rfl ?_
          refine R_bipush e_X12_seasonStep_4.2.2.1 (by decide) ?_
          refine R_icmp_eq 97 e_X12_seasonStep_4.2.2.2.1 (by decide) q5 (by decide) (fun q => ?_) (fun q => ?_)
          · replace h := h.1 q
            refine R_ls (ls2 := [(0, vA G 0), (1, vI l1), (2, vI l2), (3, vI l3), (4, vI p0)]) [1, 2, 3, 4, 0] rfl ?_
            exact h
          · replace h := h.2 q
            refine R_aload_n e_X12_seasonStep_4.2.2.2.2.1 1 rfl ?_
            refine R_getI 12 23 23 e_X12_seasonStep_4.2.2.2.2.2.1 f_X12_256 km_0 (fun _ _ => rfl) rfl ?_
            refine R_bipush e_X12_seasonStep_4.2.2.2.2.2.2.1 (by decide) ?_
            obtain ⟨q17, h⟩ := h
            refine R_icmp_ne 97 e_X12_seasonStep_4.2.2.2.2.2.2.2.1 (by decide) q17 (by decide) (fun q => ?_) (fun q => ?_)
            · replace h := h.1 q
              refine R_ls (ls2 := [(0, vA G 0), (1, vI l1), (2, vI l2), (3, vI l3), (4, vI p0)]) [1, 2, 3, 4, 0] rfl ?_
              exact h
            · replace h := h.2 q
              refine R_aload_n e_X12_seasonStep_4.2.2.2.2.2.2.2.2.1 1 rfl ?_
              refine R_bipush e_X12_seasonStep_4.2.2.2.2.2.2.2.2.2 (by decide) ?_
              obtain ⟨q20, h⟩ := h
              refine R_callV (mc := 0) (ms := 0) (mc' := 0) (ms' := 0) (M' := M_X12_fails) (d' := 0) (as := [vI 6]) (st := []) 12 1 e_X12_seasonStep_5.1 (kCVof m_X12_fails l_X12_175) rfl (by decide) km_0 (by decide) (by decide) rfl rfl (by show (0 : Nat) ≤ 8; decide) ?_
              refine Run.mono (P_X12_fails q20) (fun r s e => ?_)
              obtain ⟨e1, e2⟩ := e
              refine R_eqs (st2 := [vI 0]) (σ2 := (tF σ (6))) (by rw [e1]; rfl) e2 ?_
              exact R_zreturn e_X12_seasonStep_5.2.1 rfl (Or.inl rfl) h
        · replace h := h.2 q
          refine R_aload_n e_X12_seasonStep_3.2.2.2.2.2.2.2.1 1 rfl ?_
          refine R_iconst e_X12_seasonStep_3.2.2.2.2.2.2.2.2.1 ?_
          obtain ⟨q23, h⟩ := h
          refine R_callV (mc := 0) (ms := 0) (mc' := 0) (ms' := 0) (M' := M_X12_fails) (d' := 0) (as := [vI 2]) (st := []) 12 1 e_X12_seasonStep_3.2.2.2.2.2.2.2.2.2 (kCVof m_X12_fails l_X12_175) rfl (by decide) km_0 (by decide) (by decide) rfl rfl (by show (0 : Nat) ≤ 8; decide) ?_
          refine Run.mono (P_X12_fails q23) (fun r s e => ?_)
          obtain ⟨e1, e2⟩ := e
          refine R_eqs (st2 := [vI 0]) (σ2 := (tF σ (2))) (by rw [e1]; rfl) e2 ?_
          exact R_zreturn e_X12_seasonStep_4.1 rfl (Or.inl rfl) h
theorem S_X12_seasonStep_97 {G : Kg} {σ : Kmem} {Q : Int → Kmem → Prop} {l1 l2 l3 l4 : Int}  (h : (rI l4) ∧ ((l4 = 0 → (rI l1) ∧ ((l1 ≠ 22 → ∀ m26 : Kmem, m26 = (kup σ 0 23 ((σ 0 23) + 1)) → (0 ≤ l3 ∧ l3 < 3598) ∧ ∀ m29 : Kmem, m29 = (kup m26 1 l3 l1) → E_X12_seasonStep_147 G l1 l2 l3 l4 1 m29 Q) ∧ (l1 = 22 → ∀ m31 : Kmem, m31 = (kup σ 0 23 ((σ 0 23) + 0)) → (0 ≤ l3 ∧ l3 < 3598) ∧ ∀ m34 : Kmem, m34 = (kup m31 1 l3 l1) → E_X12_seasonStep_147 G l1 l2 l3 l4 1 m34 Q))) ∧ (l4 ≠ 0 → (rI (σ 0 22)) ∧ ((σ 0 22 ≠ 3 → (rI l1) ∧ ((l1 ≠ 22 → ∀ m38 : Kmem, m38 = (kup σ 0 23 ((σ 0 23) + 1)) → (0 ≤ l3 ∧ l3 < 3598) ∧ ∀ m41 : Kmem, m41 = (kup m38 1 l3 l1) → E_X12_seasonStep_147 G l1 l2 l3 l4 1 m41 Q) ∧ (l1 = 22 → ∀ m43 : Kmem, m43 = (kup σ 0 23 ((σ 0 23) + 0)) → (0 ≤ l3 ∧ l3 < 3598) ∧ ∀ m46 : Kmem, m46 = (kup m43 1 l3 l1) → E_X12_seasonStep_147 G l1 l2 l3 l4 1 m46 Q))) ∧ (σ 0 22 = 3 → (tok σ ∧ (0 : Int) ≤ σ 0 18 ∧ (σ 0 18 : Int) ≤ 9) ∧ Q 0 (tF σ (7))))))) : E_X12_seasonStep_97 G l1 l2 l3 l4 σ Q := by
  refine R_iload e_X12_seasonStep_5.2.2.1 4 rfl ?_
  obtain ⟨q24, h⟩ := h
  refine R_if_eq 117 e_X12_seasonStep_5.2.2.2.1 (by decide) q24  (fun q => ?_) (fun q => ?_)
  · replace h := h.1 q
    refine R_aload_n e_X12_seasonStep_6.2.2.1 0 rfl ?_
    refine R_dup e_X12_seasonStep_6.2.2.2.1 rfl ?_
    refine R_getI 12 23 23 e_X12_seasonStep_6.2.2.2.2.1 f_X12_256 km_0 (fun _ _ => rfl) rfl ?_
    refine R_iload_n e_X12_seasonStep_6.2.2.2.2.2.1 1 rfl ?_
    refine R_bipush e_X12_seasonStep_6.2.2.2.2.2.2.1 (by decide) ?_
    obtain ⟨q25, h⟩ := h
    refine R_icmp_ne 132 e_X12_seasonStep_6.2.2.2.2.2.2.2.1 (by decide) q25 (by decide) (fun q => ?_) (fun q => ?_)
    · replace h := h.1 q
      refine R_iconst e_X12_seasonStep_7.1 ?_
      refine R_iadd e_X12_seasonStep_7.2.1 ?_
      refine R_putI 12 23 23 WM_ok e_X12_seasonStep_7.2.2.1 f_X12_256 km_0 rfl rfl rfl ?_
      obtain ⟨m26, e27⟩ : ∃ z : Kmem, z = (kup σ 0 23 ((σ 0 23) + 1)) := ⟨_, rfl⟩
      rw [← e27]
      replace h := h m26 e27
      refine R_aload_n e_X12_seasonStep_7.2.2.2.1 0 rfl ?_
      refine R_getA 12 0 1 e_X12_seasonStep_7.2.2.2.2.1 f_X12_7 km_0 (fun _ _ => rfl) rm_0_0 (by decide) ?_
      refine R_iload_n e_X12_seasonStep_7.2.2.2.2.2.1 3 rfl ?_
      refine R_iload_n e_X12_seasonStep_7.2.2.2.2.2.2.1 1 rfl ?_
      obtain ⟨q28, h⟩ := h
      refine R_iast 3598 WM_ok e_X12_seasonStep_7.2.2.2.2.2.2.2.1 kma_1 q28 ?_
      obtain ⟨m29, e30⟩ : ∃ z : Kmem, z = (kup m26 1 l3 l1) := ⟨_, rfl⟩
      rw [← e30]
      replace h := h m29 e30
      refine R_iconst e_X12_seasonStep_7.2.2.2.2.2.2.2.2.1 ?_
      refine R_istore (ls2 := [(5, vI 1), (0, vA G 0), (1, vI l1), (2, vI l2), (3, vI l3), (4, vI l4)]) e_X12_seasonStep_7.2.2.2.2.2.2.2.2.2 (by decide) rfl ?_
      refine R_ls (ls2 := [(0, vA G 0), (1, vI l1), (2, vI l2), (3, vI l3), (4, vI l4), (5, vI 1)]) [1, 2, 3, 4, 5, 0] rfl ?_
      exact h
    · replace h := h.2 q
      refine R_iconst e_X12_seasonStep_6.2.2.2.2.2.2.2.2.1 ?_
      refine R_goto 133 e_X12_seasonStep_6.2.2.2.2.2.2.2.2.2 (by decide) ?_
      refine R_iadd e_X12_seasonStep_7.2.1 ?_
      refine R_putI 12 23 23 WM_ok e_X12_seasonStep_7.2.2.1 f_X12_256 km_0 rfl rfl rfl ?_
      obtain ⟨m31, e32⟩ : ∃ z : Kmem, z = (kup σ 0 23 ((σ 0 23) + 0)) := ⟨_, rfl⟩
      rw [← e32]
      replace h := h m31 e32
      refine R_aload_n e_X12_seasonStep_7.2.2.2.1 0 rfl ?_
      refine R_getA 12 0 1 e_X12_seasonStep_7.2.2.2.2.1 f_X12_7 km_0 (fun _ _ => rfl) rm_0_0 (by decide) ?_
      refine R_iload_n e_X12_seasonStep_7.2.2.2.2.2.1 3 rfl ?_
      refine R_iload_n e_X12_seasonStep_7.2.2.2.2.2.2.1 1 rfl ?_
      obtain ⟨q33, h⟩ := h
      refine R_iast 3598 WM_ok e_X12_seasonStep_7.2.2.2.2.2.2.2.1 kma_1 q33 ?_
      obtain ⟨m34, e35⟩ : ∃ z : Kmem, z = (kup m31 1 l3 l1) := ⟨_, rfl⟩
      rw [← e35]
      replace h := h m34 e35
      refine R_iconst e_X12_seasonStep_7.2.2.2.2.2.2.2.2.1 ?_
      refine R_istore (ls2 := [(5, vI 1), (0, vA G 0), (1, vI l1), (2, vI l2), (3, vI l3), (4, vI l4)]) e_X12_seasonStep_7.2.2.2.2.2.2.2.2.2 (by decide) rfl ?_
      refine R_ls (ls2 := [(0, vA G 0), (1, vI l1), (2, vI l2), (3, vI l3), (4, vI l4), (5, vI 1)]) [1, 2, 3, 4, 5, 0] rfl ?_
      exact h
  · replace h := h.2 q
    refine R_aload_n e_X12_seasonStep_5.2.2.2.2.1 0 rfl ?_
    refine R_getI 12 22 22 e_X12_seasonStep_5.2.2.2.2.2.1 f_X12_253 km_0 (fun _ _ => rfl) rfl ?_
    refine R_iconst e_X12_seasonStep_5.2.2.2.2.2.2.1 ?_
    obtain ⟨q36, h⟩ := h
    refine R_icmp_ne 117 e_X12_seasonStep_5.2.2.2.2.2.2.2.1 (by decide) q36 (by decide) (fun q => ?_) (fun q => ?_)
    · replace h := h.1 q
      refine R_aload_n e_X12_seasonStep_6.2.2.1 0 rfl ?_
      refine R_dup e_X12_seasonStep_6.2.2.2.1 rfl ?_
      refine R_getI 12 23 23 e_X12_seasonStep_6.2.2.2.2.1 f_X12_256 km_0 (fun _ _ => rfl) rfl ?_
      refine R_iload_n e_X12_seasonStep_6.2.2.2.2.2.1 1 rfl ?_
      refine R_bipush e_X12_seasonStep_6.2.2.2.2.2.2.1 (by decide) ?_
      obtain ⟨q37, h⟩ := h
      refine R_icmp_ne 132 e_X12_seasonStep_6.2.2.2.2.2.2.2.1 (by decide) q37 (by decide) (fun q => ?_) (fun q => ?_)
      · replace h := h.1 q
        refine R_iconst e_X12_seasonStep_7.1 ?_
        refine R_iadd e_X12_seasonStep_7.2.1 ?_
        refine R_putI 12 23 23 WM_ok e_X12_seasonStep_7.2.2.1 f_X12_256 km_0 rfl rfl rfl ?_
        obtain ⟨m38, e39⟩ : ∃ z : Kmem, z = (kup σ 0 23 ((σ 0 23) + 1)) := ⟨_, rfl⟩
        rw [← e39]
        replace h := h m38 e39
        refine R_aload_n e_X12_seasonStep_7.2.2.2.1 0 rfl ?_
        refine R_getA 12 0 1 e_X12_seasonStep_7.2.2.2.2.1 f_X12_7 km_0 (fun _ _ => rfl) rm_0_0 (by decide) ?_
        refine R_iload_n e_X12_seasonStep_7.2.2.2.2.2.1 3 rfl ?_
        refine R_iload_n e_X12_seasonStep_7.2.2.2.2.2.2.1 1 rfl ?_
        obtain ⟨q40, h⟩ := h
        refine R_iast 3598 WM_ok e_X12_seasonStep_7.2.2.2.2.2.2.2.1 kma_1 q40 ?_
        obtain ⟨m41, e42⟩ : ∃ z : Kmem, z = (kup m38 1 l3 l1) := ⟨_, rfl⟩
        rw [← e42]
        replace h := h m41 e42
        refine R_iconst e_X12_seasonStep_7.2.2.2.2.2.2.2.2.1 ?_
        refine R_istore (ls2 := [(5, vI 1), (0, vA G 0), (1, vI l1), (2, vI l2), (3, vI l3), (4, vI l4)]) e_X12_seasonStep_7.2.2.2.2.2.2.2.2.2 (by decide) rfl ?_
        refine R_ls (ls2 := [(0, vA G 0), (1, vI l1), (2, vI l2), (3, vI l3), (4, vI l4), (5, vI 1)]) [1, 2, 3, 4, 5, 0] rfl ?_
        exact h
      · replace h := h.2 q
        refine R_iconst e_X12_seasonStep_6.2.2.2.2.2.2.2.2.1 ?_
        refine R_goto 133 e_X12_seasonStep_6.2.2.2.2.2.2.2.2.2 (by decide) ?_
        refine R_iadd e_X12_seasonStep_7.2.1 ?_
        refine R_putI 12 23 23 WM_ok e_X12_seasonStep_7.2.2.1 f_X12_256 km_0 rfl rfl rfl ?_
        obtain ⟨m43, e44⟩ : ∃ z : Kmem, z = (kup σ 0 23 ((σ 0 23) + 0)) := ⟨_, rfl⟩
        rw [← e44]
        replace h := h m43 e44
        refine R_aload_n e_X12_seasonStep_7.2.2.2.1 0 rfl ?_
        refine R_getA 12 0 1 e_X12_seasonStep_7.2.2.2.2.1 f_X12_7 km_0 (fun _ _ => rfl) rm_0_0 (by decide) ?_
        refine R_iload_n e_X12_seasonStep_7.2.2.2.2.2.1 3 rfl ?_
        refine R_iload_n e_X12_seasonStep_7.2.2.2.2.2.2.1 1 rfl ?_
        obtain ⟨q45, h⟩ := h
        refine R_iast 3598 WM_ok e_X12_seasonStep_7.2.2.2.2.2.2.2.1 kma_1 q45 ?_
        obtain ⟨m46, e47⟩ : ∃ z : Kmem, z = (kup m43 1 l3 l1) := ⟨_, rfl⟩
        rw [← e47]
        replace h := h m46 e47
        refine R_iconst e_X12_seasonStep_7.2.2.2.2.2.2.2.2.1 ?_
        refine R_istore (ls2 := [(5, vI 1), (0, vA G 0), (1, vI l1), (2, vI l2), (3, vI l3), (4, vI l4)]) e_X12_seasonStep_7.2.2.2.2.2.2.2.2.2 (by decide) rfl ?_
        refine R_ls (ls2 := [(0, vA G 0), (1, vI l1), (2, vI l2), (3, vI l3), (4, vI l4), (5, vI 1)]) [1, 2, 3, 4, 5, 0] rfl ?_
        exact h
    · replace h := h.2 q
      refine R_aload_n e_X12_seasonStep_5.2.2.2.2.2.2.2.2.1 0 rfl ?_
      refine R_bipush e_X12_seasonStep_5.2.2.2.2.2.2.2.2.2 (by decide) ?_
      obtain ⟨q50, h⟩ := h
      refine R_callV (mc := 0) (ms := 0) (mc' := 0) (ms' := 0) (M' := M_X12_fails) (d' := 0) (as := [vI 7]) (st := []) 12 1 e_X12_seasonStep_6.1 (kCVof m_X12_fails l_X12_175) rfl (by decide) km_0 (by decide) (by decide) rfl rfl (by show (0 : Nat) ≤ 8; decide) ?_
      refine Run.mono (P_X12_fails q50) (fun r s e => ?_)
      obtain ⟨e1, e2⟩ := e
      refine R_eqs (st2 := [vI 0]) (σ2 := (tF σ (7))) (by rw [e1]; rfl) e2 ?_
      exact R_zreturn e_X12_seasonStep_6.2.1 rfl (Or.inl rfl) h
theorem S_X12_seasonStep_147 {G : Kg} {σ : Kmem} {Q : Int → Kmem → Prop} {l1 l2 l3 l4 l5 : Int}  (h : (rI l5) ∧ ((6 ≤ l5 → ∀ m52 : Kmem, m52 = (kup σ 1 2064 ((σ 1 2064) + 1)) → (tx0 m52) ∧ (sk0 (tA m52) ∧ rI (l1) ∧ (2206 : Int) ≤ l3 ∧ (l3 : Int) ≤ 2560) ∧ ((((cOrd (l1) (l3) (tA m52)).1) → (rI l4) ∧ ((l4 = 0 → E_X12_seasonStep_222 G l1 l2 l3 ((cOrd (l1) (l3) (tA m52)).2) Q) ∧ (l4 ≠ 0 → (0 ≤ ((cOrd (l1) (l3) (tA m52)).2) 0 22 ∧ ((cOrd (l1) (l3) (tA m52)).2) 0 22 < 3) ∧ ∀ m62 : Kmem, m62 = (kup ((cOrd (l1) (l3) (tA m52)).2) 8 (((cOrd (l1) (l3) (tA m52)).2) 0 22) l2) → ∀ m64 : Kmem, m64 = (kup m62 0 22 ((m62 0 22) + 1)) → E_X12_seasonStep_222 G l1 l2 l3 m64 Q))) ∧ (¬ ((cOrd (l1) (l3) (tA m52)).1) → Q 0 ((cOrd (l1) (l3) (tA m52)).2)))) ∧ (l5 < 6 → (0 ≤ l3 + l5 ∧ l3 + l5 < 3598) ∧ ∀ m67 : Kmem, m67 = (kup σ 1 (l3 + l5) 0) → E_X12_seasonStep_147 G l1 l2 l3 l4 (l5 + 1) m67 Q))) : E_X12_seasonStep_147 G l1 l2 l3 l4 l5 σ Q := by
  refine R_iload e_X12_seasonStep_8.1 5 rfl ?_
  refine R_bipush e_X12_seasonStep_8.2.1 (by decide) ?_
  obtain ⟨q51, h⟩ := h
  refine R_icmp_ge 170 e_X12_seasonStep_8.2.2.1 (by decide) q51 (by decide) (fun q => ?_) (fun q => ?_)
  · replace h := h.1 q
    refine R_aload_n e_X12_seasonStep_9.2.2.1 0 rfl ?_
    refine R_getA 12 0 1 e_X12_seasonStep_9.2.2.2.1 f_X12_7 km_0 (fun _ _ => rfl) rm_0_0 (by decide) ?_
    refine R_sipush e_X12_seasonStep_9.2.2.2.2.1 (by decide) ?_
    refine R_dup2 e_X12_seasonStep_9.2.2.2.2.2.1 rfl rfl ?_
    refine R_iald 3598 e_X12_seasonStep_9.2.2.2.2.2.2.1 kma_1 (by decide) ?_
    refine R_iconst e_X12_seasonStep_9.2.2.2.2.2.2.2.1 ?_
    refine R_iadd e_X12_seasonStep_9.2.2.2.2.2.2.2.2.1 ?_
    refine R_iast 3598 WM_ok e_X12_seasonStep_9.2.2.2.2.2.2.2.2.2 kma_1 (by decide) ?_
    obtain ⟨m52, e53⟩ : ∃ z : Kmem, z = (kup σ 1 2064 ((σ 1 2064) + 1)) := ⟨_, rfl⟩
    rw [← e53]
    replace h := h m52 e53
    refine R_aload_n e_X12_seasonStep_10.1 0 rfl ?_
    obtain ⟨q56, h⟩ := h
    refine R_callV (mc := 0) (ms := 0) (mc' := 0) (ms' := 0) (M' := M_X12_ahead) (d' := 1) (as := []) (st := []) 12 0 e_X12_seasonStep_10.2.1 (kCVof m_X12_ahead l_X12_169) rfl (by decide) km_0 (by decide) (by decide) rfl rfl (by show (0 : Nat) ≤ 8; decide) ?_
    refine Run.mono (P_X12_ahead q56) (fun r s e => ?_)
    obtain ⟨e1, e2⟩ := e
    refine R_eqs (st2 := []) (σ2 := (tA m52)) (by rfl) e2 ?_
    refine R_aload_n e_X12_seasonStep_10.2.2.1 0 rfl ?_
    refine R_iload_n e_X12_seasonStep_10.2.2.2.1 1 rfl ?_
    refine R_iload_n e_X12_seasonStep_10.2.2.2.2.1 3 rfl ?_
    obtain ⟨q59, h⟩ := h
    refine R_callV (mc := 0) (ms := 0) (mc' := 0) (ms' := 0) (M' := M_X12_seasonOrder) (d' := 9) (as := [vI l1, vI l3]) (st := []) 12 2 e_X12_seasonStep_10.2.2.2.2.2.1 (kCVof m_X12_seasonOrder l_X12_259) rfl (by decide) km_0 (by decide) (by decide) rfl rfl (by show (0 : Nat) ≤ 8; decide) ?_
    refine Run.mono (P_X12_seasonOrder q59) (fun r s e => ?_)
    obtain ⟨e1, e2⟩ := e
    refine R_eqs (st2 := [vI (kb ((cOrd (l1) (l3) (tA m52)).1))]) (σ2 := ((cOrd (l1) (l3) (tA m52)).2)) (by rw [e1]; rfl) e2 ?_
    refine R_if_ne 197 e_X12_seasonStep_10.2.2.2.2.2.2.1 (by decide) (kb_r _) (fun q => ?_) (fun q => ?_)
    · replace h := h.1 (kb_t q)
      refine R_iload e_X12_seasonStep_10.2.2.2.2.2.2.2.2.2 4 rfl ?_
      obtain ⟨q60, h⟩ := h
      refine R_if_eq 222 e_X12_seasonStep_11.1 (by decide) q60  (fun q => ?_) (fun q => ?_)
      · replace h := h.1 q
        refine R_ls (ls2 := [(0, vA G 0), (1, vI l1), (2, vI l2), (3, vI l3)]) [0, 1, 2, 3] rfl ?_
        exact h
      · replace h := h.2 q
        refine R_aload_n e_X12_seasonStep_11.2.1 0 rfl ?_
        refine R_getA 12 21 8 e_X12_seasonStep_11.2.2.1 f_X12_44 km_0 (fun _ _ => rfl) rm_0_21 (by decide) ?_
        refine R_aload_n e_X12_seasonStep_11.2.2.2.1 0 rfl ?_
        refine R_getI 12 22 22 e_X12_seasonStep_11.2.2.2.2.1 f_X12_253 km_0 (fun _ _ => rfl) rfl ?_
        refine R_iload_n e_X12_seasonStep_11.2.2.2.2.2.1 2 rfl ?_
        obtain ⟨q61, h⟩ := h
        refine R_iast 3 WM_ok e_X12_seasonStep_11.2.2.2.2.2.2.1 kma_8 q61 ?_
        obtain ⟨m62, e63⟩ : ∃ z : Kmem, z = (kup ((cOrd (l1) (l3) (tA m52)).2) 8 (((cOrd (l1) (l3) (tA m52)).2) 0 22) l2) := ⟨_, rfl⟩
        rw [← e63]
        replace h := h m62 e63
        refine R_aload_n e_X12_seasonStep_11.2.2.2.2.2.2.2.1 0 rfl ?_
        refine R_dup e_X12_seasonStep_11.2.2.2.2.2.2.2.2.1 rfl ?_
        refine R_getI 12 22 22 e_X12_seasonStep_11.2.2.2.2.2.2.2.2.2 f_X12_253 km_0 (fun _ _ => rfl) rfl ?_
        refine R_iconst e_X12_seasonStep_12.1 ?_
        refine R_iadd e_X12_seasonStep_12.2.1 ?_
        refine R_putI 12 22 22 WM_ok e_X12_seasonStep_12.2.2.1 f_X12_253 km_0 rfl rfl rfl ?_
        obtain ⟨m64, e65⟩ : ∃ z : Kmem, z = (kup m62 0 22 ((m62 0 22) + 1)) := ⟨_, rfl⟩
        rw [← e65]
        replace h := h m64 e65
        refine R_ls (ls2 := [(0, vA G 0), (1, vI l1), (2, vI l2), (3, vI l3)]) [0, 1, 2, 3] rfl ?_
        exact h
    · replace h := h.2 (kb_f q)
      refine R_iconst e_X12_seasonStep_10.2.2.2.2.2.2.2.1 ?_
      exact R_zreturn e_X12_seasonStep_10.2.2.2.2.2.2.2.2.1 rfl (Or.inl rfl) h
  · replace h := h.2 q
    refine R_aload_n e_X12_seasonStep_8.2.2.2.1 0 rfl ?_
    refine R_getA 12 0 1 e_X12_seasonStep_8.2.2.2.2.1 f_X12_7 km_0 (fun _ _ => rfl) rm_0_0 (by decide) ?_
    refine R_iload_n e_X12_seasonStep_8.2.2.2.2.2.1 3 rfl ?_
    refine R_iload e_X12_seasonStep_8.2.2.2.2.2.2.1 5 rfl ?_
    refine R_iadd e_X12_seasonStep_8.2.2.2.2.2.2.2.1 ?_
    refine R_iconst e_X12_seasonStep_8.2.2.2.2.2.2.2.2.1 ?_
    obtain ⟨q66, h⟩ := h
    refine R_iast 3598 WM_ok e_X12_seasonStep_8.2.2.2.2.2.2.2.2.2 kma_1 q66 ?_
    obtain ⟨m67, e68⟩ : ∃ z : Kmem, z = (kup σ 1 (l3 + l5) 0) := ⟨_, rfl⟩
    rw [← e68]
    replace h := h m67 e68
    refine R_iinc (ls2 := [(5, vI (l5 + 1)), (0, vA G 0), (1, vI l1), (2, vI l2), (3, vI l3), (4, vI l4)]) e_X12_seasonStep_9.1 5 rfl (by decide) rfl ?_
    refine R_goto 147 e_X12_seasonStep_9.2.1 (by decide) ?_
    refine R_ls (ls2 := [(0, vA G 0), (1, vI l1), (2, vI l2), (3, vI l3), (4, vI l4), (5, vI (l5 + 1))]) [1, 2, 3, 4, 5, 0] rfl ?_
    exact h
theorem S_X12_seasonStep_222 {G : Kg} {σ : Kmem} {Q : Int → Kmem → Prop} {l1 l2 l3 : Int}  (h : (rI l1) ∧ ((l1 ≠ 22 → (tk1 σ ∧ rI (59)) ∧ Q (kb ((cSign (59) σ).1)) ((cSign (59) σ).2)) ∧ (l1 = 22 → ∀ m73 : Kmem, m73 = (kup σ 0 22 ((σ 0 22) - 1)) → (0 ≤ m73 0 22 ∧ m73 0 22 < 3) ∧ (0 ≤ l3 + 4 ∧ l3 + 4 < 3598) ∧ ∀ m77 : Kmem, m77 = (kup m73 1 (l3 + 4) (m73 8 (m73 0 22))) → (0 ≤ m77 0 22 ∧ m77 0 22 < 3) ∧ (0 ≤ (2206 + (6 * (m77 8 (m77 0 22)))) + 4 ∧ (2206 + (6 * (m77 8 (m77 0 22)))) + 4 < 3598) ∧ ∀ m81 : Kmem, m81 = (kup m77 1 ((2206 + (6 * (m77 8 (m77 0 22)))) + 4) l2) → (tk1 m81 ∧ rI (59)) ∧ Q (kb ((cSign (59) m81).1)) ((cSign (59) m81).2)))) : E_X12_seasonStep_222 G l1 l2 l3 σ Q := by
  refine R_iload_n e_X12_seasonStep_12.2.2.2.1 1 rfl ?_
  refine R_bipush e_X12_seasonStep_12.2.2.2.2.1 (by decide) ?_
  obtain ⟨q69, h⟩ := h
  refine R_icmp_ne 279 e_X12_seasonStep_12.2.2.2.2.2.1 (by decide) q69 (by decide) (fun q => ?_) (fun q => ?_)
  · replace h := h.1 q
    refine R_aload_n e_X12_seasonStep_15.2.2.2.2.2.2.2.2.1 0 rfl ?_
    refine R_bipush e_X12_seasonStep_15.2.2.2.2.2.2.2.2.2 (by decide) ?_
    obtain ⟨q72, h⟩ := h
    refine R_callV (mc := 0) (ms := 0) (mc' := 0) (ms' := 0) (M' := M_X12_wantSign) (d' := 2) (as := [vI 59]) (st := []) 12 1 e_X12_seasonStep_16.1 (kCVof m_X12_wantSign l_X12_234) rfl (by decide) km_0 (by decide) (by decide) rfl rfl (by show (0 : Nat) ≤ 8; decide) ?_
    refine Run.mono (P_X12_wantSign q72) (fun r s e => ?_)
    obtain ⟨e1, e2⟩ := e
    refine R_eqs (st2 := [vI (kb ((cSign (59) σ).1))]) (σ2 := ((cSign (59) σ).2)) (by rw [e1]; rfl) e2 ?_
    exact R_zreturn e_X12_seasonStep_16.2 rfl (kb_01 _) h
  · replace h := h.2 q
    refine R_aload_n e_X12_seasonStep_12.2.2.2.2.2.2.1 0 rfl ?_
    refine R_dup e_X12_seasonStep_12.2.2.2.2.2.2.2.1 rfl ?_
    refine R_getI 12 22 22 e_X12_seasonStep_12.2.2.2.2.2.2.2.2.1 f_X12_253 km_0 (fun _ _ => rfl) rfl ?_
    refine R_iconst e_X12_seasonStep_12.2.2.2.2.2.2.2.2.2 ?_
    refine R_isub e_X12_seasonStep_13.1 ?_
    refine R_putI 12 22 22 WM_ok e_X12_seasonStep_13.2.1 f_X12_253 km_0 rfl rfl rfl ?_
    obtain ⟨m73, e74⟩ : ∃ z : Kmem, z = (kup σ 0 22 ((σ 0 22) - 1)) := ⟨_, rfl⟩
    rw [← e74]
    replace h := h m73 e74
    refine R_aload_n e_X12_seasonStep_13.2.2.1 0 rfl ?_
    refine R_getA 12 0 1 e_X12_seasonStep_13.2.2.2.1 f_X12_7 km_0 (fun _ _ => rfl) rm_0_0 (by decide) ?_
    refine R_iload_n e_X12_seasonStep_13.2.2.2.2.1 3 rfl ?_
    refine R_iconst e_X12_seasonStep_13.2.2.2.2.2.1 ?_
    refine R_iadd e_X12_seasonStep_13.2.2.2.2.2.2.1 ?_
    refine R_aload_n e_X12_seasonStep_13.2.2.2.2.2.2.2.1 0 rfl ?_
    refine R_getA 12 21 8 e_X12_seasonStep_13.2.2.2.2.2.2.2.2.1 f_X12_44 km_0 (fun _ _ => rfl) rm_0_21 (by decide) ?_
    refine R_aload_n e_X12_seasonStep_13.2.2.2.2.2.2.2.2.2 0 rfl ?_
    refine R_getI 12 22 22 e_X12_seasonStep_14.1 f_X12_253 km_0 (fun _ _ => rfl) rfl ?_
    obtain ⟨q75, h⟩ := h
    refine R_iald 3 e_X12_seasonStep_14.2.1 kma_8 q75 ?_
    obtain ⟨q76, h⟩ := h
    refine R_iast 3598 WM_ok e_X12_seasonStep_14.2.2.1 kma_1 q76 ?_
    obtain ⟨m77, e78⟩ : ∃ z : Kmem, z = (kup m73 1 (l3 + 4) (m73 8 (m73 0 22))) := ⟨_, rfl⟩
    rw [← e78]
    replace h := h m77 e78
    refine R_aload_n e_X12_seasonStep_14.2.2.2.1 0 rfl ?_
    refine R_getA 12 0 1 e_X12_seasonStep_14.2.2.2.2.1 f_X12_7 km_0 (fun _ _ => rfl) rm_0_0 (by decide) ?_
    refine R_sipush e_X12_seasonStep_14.2.2.2.2.2.1 (by decide) ?_
    refine R_bipush e_X12_seasonStep_14.2.2.2.2.2.2.1 (by decide) ?_
    refine R_aload_n e_X12_seasonStep_14.2.2.2.2.2.2.2.1 0 rfl ?_
    refine R_getA 12 21 8 e_X12_seasonStep_14.2.2.2.2.2.2.2.2.1 f_X12_44 km_0 (fun _ _ => rfl) rm_0_21 (by decide) ?_
    refine R_aload_n e_X12_seasonStep_14.2.2.2.2.2.2.2.2.2 0 rfl ?_
    refine R_getI 12 22 22 e_X12_seasonStep_15.1 f_X12_253 km_0 (fun _ _ => rfl) rfl ?_
    obtain ⟨q79, h⟩ := h
    refine R_iald 3 e_X12_seasonStep_15.2.1 kma_8 q79 ?_
    refine R_imul e_X12_seasonStep_15.2.2.1 ?_
    refine R_iadd e_X12_seasonStep_15.2.2.2.1 ?_
    refine R_iconst e_X12_seasonStep_15.2.2.2.2.1 ?_
    refine R_iadd e_X12_seasonStep_15.2.2.2.2.2.1 ?_
    refine R_iload_n e_X12_seasonStep_15.2.2.2.2.2.2.1 2 rfl ?_
    obtain ⟨q80, h⟩ := h
    refine R_iast 3598 WM_ok e_X12_seasonStep_15.2.2.2.2.2.2.2.1 kma_1 q80 ?_
    obtain ⟨m81, e82⟩ : ∃ z : Kmem, z = (kup m77 1 ((2206 + (6 * (m77 8 (m77 0 22)))) + 4) l2) := ⟨_, rfl⟩
    rw [← e82]
    replace h := h m81 e82
    refine R_aload_n e_X12_seasonStep_15.2.2.2.2.2.2.2.2.1 0 rfl ?_
    refine R_bipush e_X12_seasonStep_15.2.2.2.2.2.2.2.2.2 (by decide) ?_
    obtain ⟨q85, h⟩ := h
    refine R_callV (mc := 0) (ms := 0) (mc' := 0) (ms' := 0) (M' := M_X12_wantSign) (d' := 2) (as := [vI 59]) (st := []) 12 1 e_X12_seasonStep_16.1 (kCVof m_X12_wantSign l_X12_234) rfl (by decide) km_0 (by decide) (by decide) rfl rfl (by show (0 : Nat) ≤ 8; decide) ?_
    refine Run.mono (P_X12_wantSign q85) (fun r s e => ?_)
    obtain ⟨e1, e2⟩ := e
    refine R_eqs (st2 := [vI (kb ((cSign (59) m81).1))]) (σ2 := ((cSign (59) m81).2)) (by rw [e1]; rfl) e2 ?_
    exact R_zreturn e_X12_seasonStep_16.2 rfl (kb_01 _) h
