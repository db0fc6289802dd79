/-! KiteLand$Plans.tryFlight(II)V -/
theorem e_X5_tryFlight_0 : decode cX5_tryFlight 0 = .ok (.iload_n 2, 1) ∧ decode cX5_tryFlight 1 = .ok (.aload_n 0, 1) ∧ decode cX5_tryFlight 2 = .ok (.getfield 25, 3) ∧ decode cX5_tryFlight 5 = .ok (.iadd, 1) ∧ decode cX5_tryFlight 6 = .ok (.iload_n 1, 1) ∧ decode cX5_tryFlight 7 = .ok (.isub, 1) ∧ decode cX5_tryFlight 8 = .ok (.aload_n 0, 1) ∧ decode cX5_tryFlight 9 = .ok (.getfield 28, 3) ∧ decode cX5_tryFlight 12 = .ok (.if_icmp .gt 4, 3) ∧ decode cX5_tryFlight 15 = .ok (.return_, 1) := by decide +kernel
theorem e_X5_tryFlight_1 : decode cX5_tryFlight 16 = .ok (.iload_n 1, 1) ∧ decode cX5_tryFlight 17 = .ok (.aload_n 0, 1) ∧ decode cX5_tryFlight 18 = .ok (.getfield 25, 3) ∧ decode cX5_tryFlight 21 = .ok (.if_icmp .ge 8, 3) ∧ decode cX5_tryFlight 24 = .ok (.iload_n 1, 1) ∧ decode cX5_tryFlight 25 = .ok (.iconst 5, 1) ∧ decode cX5_tryFlight 26 = .ok (.if_icmp .lt 23, 3) ∧ decode cX5_tryFlight 29 = .ok (.aload_n 0, 1) ∧ decode cX5_tryFlight 30 = .ok (.iload_n 2, 1) ∧ decode cX5_tryFlight 31 = .ok (.putfield 28, 3) := by decide +kernel
theorem e_X5_tryFlight_2 : decode cX5_tryFlight 34 = .ok (.aload_n 0, 1) ∧ decode cX5_tryFlight 35 = .ok (.getfield 31, 3) ∧ decode cX5_tryFlight 38 = .ok (.iconst 0, 1) ∧ decode cX5_tryFlight 39 = .ok (.aload_n 0, 1) ∧ decode cX5_tryFlight 40 = .ok (.getfield 22, 3) ∧ decode cX5_tryFlight 43 = .ok (.iconst 0, 1) ∧ decode cX5_tryFlight 44 = .ok (.iload_n 1, 1) ∧ decode cX5_tryFlight 45 = .ok (.invokestatic 100, 3) ∧ decode cX5_tryFlight 48 = .ok (.return_, 1) ∧ decode cX5_tryFlight 49 = .ok (.aload_n 0, 1) := by decide +kernel
theorem e_X5_tryFlight_3 : decode cX5_tryFlight 50 = .ok (.getfield 64, 3) ∧ decode cX5_tryFlight 53 = .ok (.getfield 106, 3) ∧ decode cX5_tryFlight 56 = .ok (.aload_n 0, 1) ∧ decode cX5_tryFlight 57 = .ok (.getfield 34, 3) ∧ decode cX5_tryFlight 60 = .ok (.aaload, 1) ∧ decode cX5_tryFlight 61 = .ok (.astore_n 3, 1) ∧ decode cX5_tryFlight 62 = .ok (.aload_n 3, 1) ∧ decode cX5_tryFlight 63 = .ok (.getfield 110, 3) ∧ decode cX5_tryFlight 66 = .ok (.istore 4, 2) ∧ decode cX5_tryFlight 68 = .ok (.aload_n 3, 1) := by decide +kernel
theorem e_X5_tryFlight_4 : decode cX5_tryFlight 69 = .ok (.getfield 115, 3) ∧ decode cX5_tryFlight 72 = .ok (.istore 5, 2) ∧ decode cX5_tryFlight 74 = .ok (.aload_n 0, 1) ∧ decode cX5_tryFlight 75 = .ok (.getfield 64, 3) ∧ decode cX5_tryFlight 78 = .ok (.invokevirtual 118, 3) ∧ decode cX5_tryFlight 81 = .ok (.istore 6, 2) ∧ decode cX5_tryFlight 83 = .ok (.iconst 0, 1) ∧ decode cX5_tryFlight 84 = .ok (.istore 7, 2) ∧ decode cX5_tryFlight 86 = .ok (.iload 7, 2) ∧ decode cX5_tryFlight 88 = .ok (.iconst 5, 1) := by decide +kernel
theorem e_X5_tryFlight_5 : decode cX5_tryFlight 89 = .ok (.if_icmp .ge 153, 3) ∧ decode cX5_tryFlight 92 = .ok (.aload_n 0, 1) ∧ decode cX5_tryFlight 93 = .ok (.getfield 64, 3) ∧ decode cX5_tryFlight 96 = .ok (.aload_n 0, 1) ∧ decode cX5_tryFlight 97 = .ok (.getfield 34, 3) ∧ decode cX5_tryFlight 100 = .ok (.iload 7, 2) ∧ decode cX5_tryFlight 102 = .ok (.invokevirtual 122, 3) ∧ decode cX5_tryFlight 105 = .ok (.ifCond .eq 131, 3) ∧ decode cX5_tryFlight 108 = .ok (.aload_n 0, 1) ∧ decode cX5_tryFlight 109 = .ok (.getfield 31, 3) := by decide +kernel
theorem e_X5_tryFlight_6 : decode cX5_tryFlight 112 = .ok (.iload_n 1, 1) ∧ decode cX5_tryFlight 113 = .ok (.iload 7, 2) ∧ decode cX5_tryFlight 115 = .ok (.iastore, 1) ∧ decode cX5_tryFlight 116 = .ok (.aload_n 0, 1) ∧ decode cX5_tryFlight 117 = .ok (.getfield 64, 3) ∧ decode cX5_tryFlight 120 = .ok (.aload_n 0, 1) ∧ decode cX5_tryFlight 121 = .ok (.getfield 34, 3) ∧ decode cX5_tryFlight 124 = .ok (.iload 7, 2) ∧ decode cX5_tryFlight 126 = .ok (.invokevirtual 126, 3) ∧ decode cX5_tryFlight 129 = .ok (.aload_n 0, 1) := by decide +kernel
theorem e_X5_tryFlight_7 : decode cX5_tryFlight 130 = .ok (.getfield 64, 3) ∧ decode cX5_tryFlight 133 = .ok (.aload_n 0, 1) ∧ decode cX5_tryFlight 134 = .ok (.getfield 68, 3) ∧ decode cX5_tryFlight 137 = .ok (.invokevirtual 72, 3) ∧ decode cX5_tryFlight 140 = .ok (.pop, 1) ∧ decode cX5_tryFlight 141 = .ok (.aload_n 0, 1) ∧ decode cX5_tryFlight 142 = .ok (.getfield 68, 3) ∧ decode cX5_tryFlight 145 = .ok (.aload_n 0, 1) ∧ decode cX5_tryFlight 146 = .ok (.getfield 37, 3) ∧ decode cX5_tryFlight 149 = .ok (.aload_n 0, 1) := by decide +kernel
theorem e_X5_tryFlight_8 : decode cX5_tryFlight 150 = .ok (.getfield 40, 3) ∧ decode cX5_tryFlight 153 = .ok (.invokevirtual 90, 3) ∧ decode cX5_tryFlight 156 = .ok (.aload_n 0, 1) ∧ decode cX5_tryFlight 157 = .ok (.getfield 34, 3) ∧ decode cX5_tryFlight 160 = .ok (.if_icmp .ne 7, 3) ∧ decode cX5_tryFlight 163 = .ok (.iconst 1, 1) ∧ decode cX5_tryFlight 164 = .ok (.goto 4, 3) ∧ decode cX5_tryFlight 167 = .ok (.iconst 0, 1) ∧ decode cX5_tryFlight 168 = .ok (.istore 8, 2) ∧ decode cX5_tryFlight 170 = .ok (.aload_n 0, 1) := by decide +kernel
theorem e_X5_tryFlight_9 : decode cX5_tryFlight 171 = .ok (.getfield 64, 3) ∧ decode cX5_tryFlight 174 = .ok (.dup, 1) ∧ decode cX5_tryFlight 175 = .ok (.getfield 78, 3) ∧ decode cX5_tryFlight 178 = .ok (.iconst 1, 1) ∧ decode cX5_tryFlight 179 = .ok (.iadd, 1) ∧ decode cX5_tryFlight 180 = .ok (.putfield 78, 3) ∧ decode cX5_tryFlight 183 = .ok (.aload_n 0, 1) ∧ decode cX5_tryFlight 184 = .ok (.iload_n 1, 1) ∧ decode cX5_tryFlight 185 = .ok (.iconst 1, 1) ∧ decode cX5_tryFlight 186 = .ok (.iadd, 1) := by decide +kernel
theorem e_X5_tryFlight_10 : decode cX5_tryFlight 187 = .ok (.iload 8, 2) ∧ decode cX5_tryFlight 189 = .ok (.ifCond .eq 9, 3) ∧ decode cX5_tryFlight 192 = .ok (.iload_n 2, 1) ∧ decode cX5_tryFlight 193 = .ok (.iconst 1, 1) ∧ decode cX5_tryFlight 194 = .ok (.iadd, 1) ∧ decode cX5_tryFlight 195 = .ok (.goto 4, 3) ∧ decode cX5_tryFlight 198 = .ok (.iload_n 2, 1) ∧ decode cX5_tryFlight 199 = .ok (.invokevirtual 96, 3) ∧ decode cX5_tryFlight 202 = .ok (.aload_n 0, 1) ∧ decode cX5_tryFlight 203 = .ok (.getfield 64, 3) := by decide +kernel
theorem e_X5_tryFlight_11 : decode cX5_tryFlight 206 = .ok (.dup, 1) ∧ decode cX5_tryFlight 207 = .ok (.getfield 78, 3) ∧ decode cX5_tryFlight 210 = .ok (.iconst 1, 1) ∧ decode cX5_tryFlight 211 = .ok (.isub, 1) ∧ decode cX5_tryFlight 212 = .ok (.putfield 78, 3) ∧ decode cX5_tryFlight 215 = .ok (.aload_n 0, 1) ∧ decode cX5_tryFlight 216 = .ok (.getfield 64, 3) ∧ decode cX5_tryFlight 219 = .ok (.iload 6, 2) ∧ decode cX5_tryFlight 221 = .ok (.invokevirtual 129, 3) ∧ decode cX5_tryFlight 224 = .ok (.aload_n 3, 1) := by decide +kernel
theorem e_X5_tryFlight_12 : decode cX5_tryFlight 225 = .ok (.iload 4, 2) ∧ decode cX5_tryFlight 227 = .ok (.putfield 110, 3) ∧ decode cX5_tryFlight 230 = .ok (.aload_n 3, 1) ∧ decode cX5_tryFlight 231 = .ok (.iload 5, 2) ∧ decode cX5_tryFlight 233 = .ok (.putfield 115, 3) ∧ decode cX5_tryFlight 236 = .ok (.iinc 7 1, 3) ∧ decode cX5_tryFlight 239 = .ok (.goto (-153), 3) ∧ decode cX5_tryFlight 242 = .ok (.return_, 1) := by decide +kernel
abbrev E_X5_tryFlight_86 (G : Kg) (d : Nat) (l1 l2 l3 l4 l5 l6 l7 : Int) (σ : Kmem) (Q : Int → Kmem → Prop) : Prop := Ex G WX M_X5_tryFlight d 0 0 86 [(0, vA G 82), (1, vI l1), (2, vI l2), (3, vA G l3), (4, vI l4), (5, vI l5), (6, vI l6), (7, vI l7)] [] σ Q
abbrev E_X5_tryFlight_168 (G : Kg) (d : Nat) (l1 l2 l3 l4 l5 l6 l7 p0 : Int) (σ : Kmem) (Q : Int → Kmem → Prop) : Prop := Ex G WX M_X5_tryFlight d 0 0 168 [(0, vA G 82), (1, vI l1), (2, vI l2), (3, vA G l3), (4, vI l4), (5, vI l5), (6, vI l6), (7, vI l7)] [vI p0] σ Q
theorem S_X5_tryFlight {G : Kg} {σ : Kmem} {Q : Int → Kmem → Prop} {d dr : Nat} (hd : 12 ≤ d) (hdr : dr + 1 ≤ d) {l1 l2 : Int}  (h : (rI ((l2 + (σ 82 6)) - l1)) ∧ (rI (σ 82 7)) ∧ ((σ 82 7 < (l2 + (σ 82 6)) - l1 → (rI l1) ∧ (rI (σ 82 6)) ∧ ((σ 82 6 ≤ l1 → (((0 : Int) ≤ 0 ∧ (0 : Int) ≤ 0 ∧ (0 : Int) ≤ l1) ∧ (0 : Int) + l1 ≤ 5 ∧ (0 : Int) + l1 ≤ 5) ∧ Q 0 (kcpy (kup σ 82 7 l2) 85 0 84 0 l1)) ∧ (l1 < σ 82 6 → ((l1 < 5 → (0 ≤ σ 82 9 ∧ σ 82 9 < 6) ∧ Run G WX M_X0_cutSet 0 0 0 [vA G 31] σ (fun r7 s8 => E_X5_tryFlight_86 G d l1 l2 (31 + 6 + (σ 82 9)) (σ (31 + 6 + (σ 82 9)) 1) (σ (31 + 6 + (σ 82 9)) 2) r7 0 s8 Q)) ∧ (5 ≤ l1 → (((0 : Int) ≤ 0 ∧ (0 : Int) ≤ 0 ∧ (0 : Int) ≤ l1) ∧ (0 : Int) + l1 ≤ 5 ∧ (0 : Int) + l1 ≤ 5) ∧ Q 0 (kcpy (kup σ 82 7 l2) 85 0 84 0 l1)))))) ∧ ((l2 + (σ 82 6)) - l1 ≤ σ 82 7 → Q 0 σ))) : Run G WX M_X5_tryFlight d 0 0 [vA G 82, vI l1, vI l2] σ Q := by
  refine Run.of (by decide +kernel) (by show (3 : Nat) ≤ 9; decide) ?_
  show Ex G WX M_X5_tryFlight d 0 0 0 [(0, vA G 82), (1, vI l1), (2, vI l2)] [] σ Q
  refine R_iload_n e_X5_tryFlight_0.1 2 rfl ?_
  refine R_aload_n e_X5_tryFlight_0.2.1 0 rfl ?_
  refine R_getI 5 6 6 e_X5_tryFlight_0.2.2.1 f_X5_25 kx_82 (fun _ _ => rfl) rfl ?_
  refine R_iadd e_X5_tryFlight_0.2.2.2.1 ?_
  refine R_iload_n e_X5_tryFlight_0.2.2.2.2.1 1 rfl ?_
  refine R_isub e_X5_tryFlight_0.2.2.2.2.2.1 ?_
  refine R_aload_n e_X5_tryFlight_0.2.2.2.2.2.2.1 0 rfl ?_
  refine R_getI 5 7 7 e_X5_tryFlight_0.2.2.2.2.2.2.2.1 f_X5_28 kx_82 (fun _ _ => rfl) rfl ?_
  obtain ⟨q1, h⟩ := h
  obtain ⟨q2, h⟩ := h
  refine R_icmp_gt 16 e_X5_tryFlight_0.2.2.2.2.2.2.2.2.1 (by decide) q1 q2 (fun q => ?_) (fun q => ?_)
  · replace h := h.1 q
    refine R_iload_n e_X5_tryFlight_1.1 1 rfl ?_
    refine R_aload_n e_X5_tryFlight_1.2.1 0 rfl ?_
    refine R_getI 5 6 6 e_X5_tryFlight_1.2.2.1 f_X5_25 kx_82 (fun _ _ => rfl) rfl ?_
    obtain ⟨q3, h⟩ := h
    obtain ⟨q4, h⟩ := h
    refine R_icmp_ge 29 e_X5_tryFlight_1.2.2.2.1 (by decide) q3 q4 (fun q => ?_) (fun q => ?_)
    · replace h := h.1 q
      refine R_aload_n e_X5_tryFlight_1.2.2.2.2.2.2.2.1 0 rfl ?_
      refine R_iload_n e_X5_tryFlight_1.2.2.2.2.2.2.2.2.1 2 rfl ?_
      refine R_putI 5 7 7 WX_ok e_X5_tryFlight_1.2.2.2.2.2.2.2.2.2 f_X5_28 kx_82 rfl rfl rfl ?_
      refine R_aload_n e_X5_tryFlight_2.1 0 rfl ?_
      refine R_getA 5 8 85 e_X5_tryFlight_2.2.1 f_X5_31 kx_82 (fun _ _ => rfl) rx_82_8 (by decide) ?_
      refine R_iconst e_X5_tryFlight_2.2.2.1 ?_
      refine R_aload_n e_X5_tryFlight_2.2.2.2.1 0 rfl ?_
      refine R_getA 5 5 84 e_X5_tryFlight_2.2.2.2.2.1 f_X5_22 kx_82 (fun _ _ => rfl) rx_82_5 (by decide) ?_
      refine R_iconst e_X5_tryFlight_2.2.2.2.2.2.1 ?_
      refine R_iload_n e_X5_tryFlight_2.2.2.2.2.2.2.1 1 rfl ?_
      obtain ⟨q5, h⟩ := h
      refine R_copyI 5 5 rfl WX_rd e_X5_tryFlight_2.2.2.2.2.2.2.2.1 kxa_85 kxa_84 q5 l_cp_X5_100 (by omega) (by show (0 : Nat) ≤ 8; decide) ?_
      exact R_return e_X5_tryFlight_2.2.2.2.2.2.2.2.2.1 rfl h
    · replace h := h.2 q
      refine R_iload_n e_X5_tryFlight_1.2.2.2.2.1 1 rfl ?_
      refine R_iconst e_X5_tryFlight_1.2.2.2.2.2.1 ?_
      refine R_icmp_lt 49 e_X5_tryFlight_1.2.2.2.2.2.2.1 (by decide) q3 (by decide) (fun q => ?_) (fun q => ?_)
      · replace h := h.1 q
        refine R_aload_n e_X5_tryFlight_2.2.2.2.2.2.2.2.2.2 0 rfl ?_
        refine R_getA 5 0 31 e_X5_tryFlight_3.1 f_X5_64 kx_82 (fun _ _ => rfl) rx_82_0 (by decide) ?_
        refine R_getA 0 10 (31 + 3) e_X5_tryFlight_3.2.1 f_X5_106 (kC_self isC_31) (fun _ _ => rfl) (kC_r10 isC_31) (kC_n3 isC_31) ?_
        refine R_aload_n e_X5_tryFlight_3.2.2.1 0 rfl ?_
        refine R_getI 5 9 9 e_X5_tryFlight_3.2.2.2.1 f_X5_34 kx_82 (fun _ _ => rfl) rfl ?_
        obtain ⟨q6, h⟩ := h
        refine R_aald 27 6 (31 + 6 + (σ 82 9)) e_X5_tryFlight_3.2.2.2.2.1 (by decide) (kC_kites isC_31) q6 (kC_kiteAt isC_31 q6) (kC_kiteN isC_31 q6) ?_
        refine R_astore_n (ls2 := [(3, vA G (31 + 6 + (σ 82 9))), (0, vA G 82), (1, vI l1), (2, vI l2)]) e_X5_tryFlight_3.2.2.2.2.2.1 (by decide) rfl ?_
        refine R_aload_n e_X5_tryFlight_3.2.2.2.2.2.2.1 0 rfl ?_
        refine R_getI 3 1 1 e_X5_tryFlight_3.2.2.2.2.2.2.2.1 f_X5_110 (kC_kite isC_31 q6) (fun _ _ => rfl) rfl ?_
        refine R_istore (ls2 := [(4, vI (σ (31 + 6 + (σ 82 9)) 1)), (3, vA G (31 + 6 + (σ 82 9))), (0, vA G 82), (1, vI l1), (2, vI l2)]) e_X5_tryFlight_3.2.2.2.2.2.2.2.2.1 (by decide) rfl ?_
        refine R_aload_n e_X5_tryFlight_3.2.2.2.2.2.2.2.2.2 1 rfl ?_
        refine R_getI 3 2 2 e_X5_tryFlight_4.1 f_X5_115 (kC_kite isC_31 q6) (fun _ _ => rfl) rfl ?_
        refine R_istore (ls2 := [(5, vI (σ (31 + 6 + (σ 82 9)) 2)), (4, vI (σ (31 + 6 + (σ 82 9)) 1)), (3, vA G (31 + 6 + (σ 82 9))), (0, vA G 82), (1, vI l1), (2, vI l2)]) e_X5_tryFlight_4.2.1 (by decide) rfl ?_
        refine R_aload_n e_X5_tryFlight_4.2.2.1 3 rfl ?_
        refine R_getA 5 0 31 e_X5_tryFlight_4.2.2.2.1 f_X5_64 kx_82 (fun _ _ => rfl) rx_82_0 (by decide) ?_
        refine R_callV (mc := 0) (ms := 0) (mc' := 0) (ms' := 0) (M' := M_X0_cutSet) (d' := 0) (as := []) (st := []) 0 0 e_X5_tryFlight_4.2.2.2.2.1 (kCVof m_X0_cutSet l_X5_118) rfl (by decide) (kC_self isC_31) (by omega) (by decide) rfl rfl (by show (0 : Nat) ≤ 8; decide) ?_
        refine Run.mono h (fun r7 s8 h => ?_)
        refine R_eqs (st2 := [vI r7]) rfl rfl ?_
        refine R_istore (ls2 := [(6, vI r7), (5, vI (σ (31 + 6 + (σ 82 9)) 2)), (4, vI (σ (31 + 6 + (σ 82 9)) 1)), (3, vA G (31 + 6 + (σ 82 9))), (0, vA G 82), (1, vI l1), (2, vI l2)]) e_X5_tryFlight_4.2.2.2.2.2.1 (by decide) rfl ?_
        refine R_iconst e_X5_tryFlight_4.2.2.2.2.2.2.1 ?_
        refine R_istore (ls2 := [(7, vI 0), (6, vI r7), (5, vI (σ (31 + 6 + (σ 82 9)) 2)), (4, vI (σ (31 + 6 + (σ 82 9)) 1)), (3, vA G (31 + 6 + (σ 82 9))), (0, vA G 82), (1, vI l1), (2, vI l2)]) e_X5_tryFlight_4.2.2.2.2.2.2.2.1 (by decide) rfl ?_
        refine R_ls (ls2 := [(0, vA G 82), (1, vI l1), (2, vI l2), (3, vA G (31 + 6 + (σ 82 9))), (4, vI (σ (31 + 6 + (σ 82 9)) 1)), (5, vI (σ (31 + 6 + (σ 82 9)) 2)), (6, vI r7), (7, vI 0)]) [5, 6, 7, 4, 3, 2, 1, 0] rfl ?_
        exact h
      · replace h := h.2 q
        refine R_aload_n e_X5_tryFlight_1.2.2.2.2.2.2.2.1 0 rfl ?_
        refine R_iload_n e_X5_tryFlight_1.2.2.2.2.2.2.2.2.1 2 rfl ?_
        refine R_putI 5 7 7 WX_ok e_X5_tryFlight_1.2.2.2.2.2.2.2.2.2 f_X5_28 kx_82 rfl rfl rfl ?_
        refine R_aload_n e_X5_tryFlight_2.1 0 rfl ?_
        refine R_getA 5 8 85 e_X5_tryFlight_2.2.1 f_X5_31 kx_82 (fun _ _ => rfl) rx_82_8 (by decide) ?_
        refine R_iconst e_X5_tryFlight_2.2.2.1 ?_
        refine R_aload_n e_X5_tryFlight_2.2.2.2.1 0 rfl ?_
        refine R_getA 5 5 84 e_X5_tryFlight_2.2.2.2.2.1 f_X5_22 kx_82 (fun _ _ => rfl) rx_82_5 (by decide) ?_
        refine R_iconst e_X5_tryFlight_2.2.2.2.2.2.1 ?_
        refine R_iload_n e_X5_tryFlight_2.2.2.2.2.2.2.1 1 rfl ?_
        obtain ⟨q9, h⟩ := h
        refine R_copyI 5 5 rfl WX_rd e_X5_tryFlight_2.2.2.2.2.2.2.2.1 kxa_85 kxa_84 q9 l_cp_X5_100 (by omega) (by show (0 : Nat) ≤ 8; decide) ?_
        exact R_return e_X5_tryFlight_2.2.2.2.2.2.2.2.2.1 rfl h
  · replace h := h.2 q
    exact R_return e_X5_tryFlight_0.2.2.2.2.2.2.2.2.2 rfl h
theorem S_X5_tryFlight_86 {G : Kg} {σ : Kmem} {Q : Int → Kmem → Prop} {d dr : Nat} (hd : 12 ≤ d) (hdr : dr + 1 ≤ d) {l1 l2 l3 l4 l5 l6 l7 : Int}  (hl3 : kIsX l3 3) (h : (rI l7) ∧ ((5 ≤ l7 → Q 0 σ) ∧ (l7 < 5 → Run G WX M_X0_mayStep 2 0 0 [vA G 31, vI (σ 82 9), vI l7] σ (fun r11 s12 => (rI r11) ∧ ((r11 = 0 → E_X5_tryFlight_86 G d l1 l2 l3 l4 l5 l6 (l7 + 1) s12 Q) ∧ (r11 ≠ 0 → (0 ≤ l1 ∧ l1 < 5) ∧ Run G WX M_X0_stepHand 0 0 0 [vA G 31, vI ((kup s12 85 l1 l7) 82 9), vI l7] (kup s12 85 l1 l7) (fun r15 s16 => Run G WX M_X0_loseCrossed 3 0 0 [vA G 31, vA G 58] s16 (fun r17 s18 => (0 ≤ ((s18 82 11) * 9) + (s18 82 10) ∧ ((s18 82 11) * 9) + (s18 82 10) < 63) ∧ (rI (s18 63 (((s18 82 11) * 9) + (s18 82 10)))) ∧ (rI (s18 82 9)) ∧ ((s18 63 (((s18 82 11) * 9) + (s18 82 10)) ≠ s18 82 9 → E_X5_tryFlight_168 G d l1 l2 l3 l4 l5 l6 l7 0 s18 Q) ∧ (s18 63 (((s18 82 11) * 9) + (s18 82 10)) = s18 82 9 → E_X5_tryFlight_168 G d l1 l2 l3 l4 l5 l6 l7 1 s18 Q)))))))))) : E_X5_tryFlight_86 G d l1 l2 l3 l4 l5 l6 l7 σ Q := by
  refine R_iload e_X5_tryFlight_4.2.2.2.2.2.2.2.2.1 7 rfl ?_
  refine R_iconst e_X5_tryFlight_4.2.2.2.2.2.2.2.2.2 ?_
  obtain ⟨q10, h⟩ := h
  refine R_icmp_ge 242 e_X5_tryFlight_5.1 (by decide) q10 (by decide) (fun q => ?_) (fun q => ?_)
  · replace h := h.1 q
    exact R_return e_X5_tryFlight_12.2.2.2.2.2.2.2 rfl h
  · replace h := h.2 q
    refine R_aload_n e_X5_tryFlight_5.2.1 0 rfl ?_
    refine R_getA 5 0 31 e_X5_tryFlight_5.2.2.1 f_X5_64 kx_82 (fun _ _ => rfl) rx_82_0 (by decide) ?_
    refine R_aload_n e_X5_tryFlight_5.2.2.2.1 0 rfl ?_
    refine R_getI 5 9 9 e_X5_tryFlight_5.2.2.2.2.1 f_X5_34 kx_82 (fun _ _ => rfl) rfl ?_
    refine R_iload e_X5_tryFlight_5.2.2.2.2.2.1 7 rfl ?_
    refine R_callV (mc := 0) (ms := 0) (mc' := 0) (ms' := 0) (M' := M_X0_mayStep) (d' := 2) (as := [vI (σ 82 9), vI l7]) (st := []) 0 2 e_X5_tryFlight_5.2.2.2.2.2.2.1 (kCVof m_X0_mayStep l_X5_122) rfl (by decide) (kC_self isC_31) (by omega) (by decide) rfl rfl (by show (0 : Nat) ≤ 8; decide) ?_
    refine Run.mono h (fun r11 s12 h => ?_)
    refine R_eqs (st2 := [vI r11]) rfl rfl ?_
    obtain ⟨q13, h⟩ := h
    refine R_if_eq 236 e_X5_tryFlight_5.2.2.2.2.2.2.2.1 (by decide) q13  (fun q => ?_) (fun q => ?_)
    · replace h := h.1 q
      refine R_iinc (ls2 := [(7, vI (l7 + 1)), (0, vA G 82), (1, vI l1), (2, vI l2), (3, vA G l3), (4, vI l4), (5, vI l5), (6, vI l6)]) e_X5_tryFlight_12.2.2.2.2.2.1 7 rfl (by decide) rfl ?_
      refine R_goto 86 e_X5_tryFlight_12.2.2.2.2.2.2.1 (by decide) ?_
      refine R_ls (ls2 := [(0, vA G 82), (1, vI l1), (2, vI l2), (3, vA G l3), (4, vI l4), (5, vI l5), (6, vI l6), (7, vI (l7 + 1))]) [1, 2, 3, 4, 5, 6, 7, 0] rfl ?_
      exact h
    · replace h := h.2 q
      refine R_aload_n e_X5_tryFlight_5.2.2.2.2.2.2.2.2.1 0 rfl ?_
      refine R_getA 5 8 85 e_X5_tryFlight_5.2.2.2.2.2.2.2.2.2 f_X5_31 kx_82 (fun _ _ => rfl) rx_82_8 (by decide) ?_
      refine R_iload_n e_X5_tryFlight_6.1 1 rfl ?_
      refine R_iload e_X5_tryFlight_6.2.1 7 rfl ?_
      obtain ⟨q14, h⟩ := h
      refine R_iast 5 WX_ok e_X5_tryFlight_6.2.2.1 kxa_85 q14 ?_
      refine R_aload_n e_X5_tryFlight_6.2.2.2.1 0 rfl ?_
      refine R_getA 5 0 31 e_X5_tryFlight_6.2.2.2.2.1 f_X5_64 kx_82 (fun _ _ => rfl) rx_82_0 (by decide) ?_
      refine R_aload_n e_X5_tryFlight_6.2.2.2.2.2.1 0 rfl ?_
      refine R_getI 5 9 9 e_X5_tryFlight_6.2.2.2.2.2.2.1 f_X5_34 kx_82 (fun _ _ => rfl) rfl ?_
      refine R_iload e_X5_tryFlight_6.2.2.2.2.2.2.2.1 7 rfl ?_
      refine R_callV (mc := 0) (ms := 0) (mc' := 0) (ms' := 0) (M' := M_X0_stepHand) (d' := 0) (as := [vI ((kup s12 85 l1 l7) 82 9), vI l7]) (st := []) 0 2 e_X5_tryFlight_6.2.2.2.2.2.2.2.2.1 (kCVof m_X0_stepHand l_X5_126) rfl (by decide) (kC_self isC_31) (by omega) (by decide) rfl rfl (by show (0 : Nat) ≤ 8; decide) ?_
      refine Run.mono h (fun r15 s16 h => ?_)
      refine R_eqs (st2 := []) rfl rfl ?_
      refine R_aload_n e_X5_tryFlight_6.2.2.2.2.2.2.2.2.2 0 rfl ?_
      refine R_getA 5 0 31 e_X5_tryFlight_7.1 f_X5_64 kx_82 (fun _ _ => rfl) rx_82_0 (by decide) ?_
      refine R_aload_n e_X5_tryFlight_7.2.1 0 rfl ?_
      refine R_getA 5 1 58 e_X5_tryFlight_7.2.2.1 f_X5_68 kx_82 (fun _ _ => rfl) rx_82_1 (by decide) ?_
      refine R_callV (mc := 0) (ms := 0) (mc' := 0) (ms' := 0) (M' := M_X0_loseCrossed) (d' := 3) (as := [vA G 58]) (st := []) 0 1 e_X5_tryFlight_7.2.2.2.1 (kCVof m_X0_loseCrossed l_X5_72) rfl (by decide) (kC_self isC_31) (by omega) (by decide) rfl rfl (by show (0 : Nat) ≤ 8; decide) ?_
      refine Run.mono h (fun r17 s18 h => ?_)
      refine R_eqs (st2 := [vI r17]) rfl rfl ?_
      refine R_pop e_X5_tryFlight_7.2.2.2.2.1 rfl ?_
      refine R_aload_n e_X5_tryFlight_7.2.2.2.2.2.1 0 rfl ?_
      refine R_getA 5 1 58 e_X5_tryFlight_7.2.2.2.2.2.2.1 f_X5_68 kx_82 (fun _ _ => rfl) rx_82_1 (by decide) ?_
      refine R_aload_n e_X5_tryFlight_7.2.2.2.2.2.2.2.1 0 rfl ?_
      refine R_getI 5 10 10 e_X5_tryFlight_7.2.2.2.2.2.2.2.2.1 f_X5_37 kx_82 (fun _ _ => rfl) rfl ?_
      refine R_aload_n e_X5_tryFlight_7.2.2.2.2.2.2.2.2.2 0 rfl ?_
      refine R_getI 5 11 11 e_X5_tryFlight_8.1 f_X5_40 kx_82 (fun _ _ => rfl) rfl ?_
      refine R_callV (mc := 0) (ms := 0) (mc' := 0) (ms' := 0) (M' := M_X8_ownerOf) (d' := 0) (as := [vI (s18 82 10), vI (s18 82 11)]) (st := []) 8 2 e_X5_tryFlight_8.2.1 (kCVof m_X8_ownerOf l_X5_90) rfl (by decide) kx_58 (by omega) (by decide) rfl rfl (by show (0 : Nat) ≤ 8; decide) ?_
      obtain ⟨q21, h⟩ := h
      refine S_X8_ownerOf ⟨q21, ?_⟩
      refine R_eqs (st2 := [vI (s18 63 (((s18 82 11) * 9) + (s18 82 10)))]) (σ2 := s18) rfl rfl ?_
      refine R_aload_n e_X5_tryFlight_8.2.2.1 0 rfl ?_
      refine R_getI 5 9 9 e_X5_tryFlight_8.2.2.2.1 f_X5_34 kx_82 (fun _ _ => rfl) rfl ?_
      obtain ⟨q22, h⟩ := h
      obtain ⟨q23, h⟩ := h
      refine R_icmp_ne 167 e_X5_tryFlight_8.2.2.2.2.1 (by decide) q22 q23 (fun q => ?_) (fun q => ?_)
      · replace h := h.1 q
        refine R_iconst e_X5_tryFlight_8.2.2.2.2.2.2.2.1 ?_
        refine R_ls (ls2 := [(0, vA G 82), (1, vI l1), (2, vI l2), (3, vA G l3), (4, vI l4), (5, vI l5), (6, vI l6), (7, vI l7)]) [0, 1, 2, 3, 4, 5, 6, 7] rfl ?_
        exact h
      · replace h := h.2 q
        refine R_iconst e_X5_tryFlight_8.2.2.2.2.2.1 ?_
        refine R_goto 168 e_X5_tryFlight_8.2.2.2.2.2.2.1 (by decide) ?_
        refine R_ls (ls2 := [(0, vA G 82), (1, vI l1), (2, vI l2), (3, vA G l3), (4, vI l4), (5, vI l5), (6, vI l6), (7, vI l7)]) [0, 1, 2, 3, 4, 5, 6, 7] rfl ?_
        exact h
theorem S_X5_tryFlight_168 {G : Kg} {σ : Kmem} {Q : Int → Kmem → Prop} {d dr : Nat} (hd : 12 ≤ d) (hdr : dr + 1 ≤ d) {l1 l2 l3 l4 l5 l6 l7 p0 : Int}  (hl3 : kIsX l3 3) (h : (rI p0) ∧ ((p0 = 0 → Run G WX M_X5_tryFlight dr 0 0 [vA G 82, vI (l1 + 1), vI l2] (kup σ 31 4 ((σ 31 4) + 1)) (fun r25 s26 => Run G WX M_X0_putCutSet 0 0 0 [vA G 31, vI l6] (kup s26 31 4 ((s26 31 4) - 1)) (fun r27 s28 => E_X5_tryFlight_86 G d l1 l2 l3 l4 l5 l6 (l7 + 1) (kup (kup s28 l3 1 l4) l3 2 l5) Q))) ∧ (p0 ≠ 0 → Run G WX M_X5_tryFlight dr 0 0 [vA G 82, vI (l1 + 1), vI (l2 + 1)] (kup σ 31 4 ((σ 31 4) + 1)) (fun r29 s30 => Run G WX M_X0_putCutSet 0 0 0 [vA G 31, vI l6] (kup s30 31 4 ((s30 31 4) - 1)) (fun r31 s32 => E_X5_tryFlight_86 G d l1 l2 l3 l4 l5 l6 (l7 + 1) (kup (kup s32 l3 1 l4) l3 2 l5) Q))))) : E_X5_tryFlight_168 G d l1 l2 l3 l4 l5 l6 l7 p0 σ Q := by
  refine R_istore (ls2 := [(8, vI p0), (0, vA G 82), (1, vI l1), (2, vI l2), (3, vA G l3), (4, vI l4), (5, vI l5), (6, vI l6), (7, vI l7)]) e_X5_tryFlight_8.2.2.2.2.2.2.2.2.1 (by decide) rfl ?_
  refine R_aload_n e_X5_tryFlight_8.2.2.2.2.2.2.2.2.2 1 rfl ?_
  refine R_getA 5 0 31 e_X5_tryFlight_9.1 f_X5_64 kx_82 (fun _ _ => rfl) rx_82_0 (by decide) ?_
  refine R_dup e_X5_tryFlight_9.2.1 rfl ?_
  refine R_getI 0 4 4 e_X5_tryFlight_9.2.2.1 f_X5_78 (kC_self isC_31) (fun _ _ => rfl) rfl ?_
  refine R_iconst e_X5_tryFlight_9.2.2.2.1 ?_
  refine R_iadd e_X5_tryFlight_9.2.2.2.2.1 ?_
  refine R_putI 0 4 4 WX_ok e_X5_tryFlight_9.2.2.2.2.2.1 f_X5_78 (kC_self isC_31) rfl rfl rfl ?_
  refine R_aload_n e_X5_tryFlight_9.2.2.2.2.2.2.1 1 rfl ?_
  refine R_iload_n e_X5_tryFlight_9.2.2.2.2.2.2.2.1 2 rfl ?_
  refine R_iconst e_X5_tryFlight_9.2.2.2.2.2.2.2.2.1 ?_
  refine R_iadd e_X5_tryFlight_9.2.2.2.2.2.2.2.2.2 ?_
  refine R_iload e_X5_tryFlight_10.1 0 rfl ?_
  obtain ⟨q24, h⟩ := h
  refine R_if_eq 198 e_X5_tryFlight_10.2.1 (by decide) q24  (fun q => ?_) (fun q => ?_)
  · replace h := h.1 q
    refine R_iload_n e_X5_tryFlight_10.2.2.2.2.2.2.1 3 rfl ?_
    refine R_callV (mc := 0) (ms := 0) (mc' := 0) (ms' := 0) (M' := M_X5_tryFlight) (d' := dr) (as := [vI (l1 + 1), vI l2]) (st := []) 5 2 e_X5_tryFlight_10.2.2.2.2.2.2.2.1 (kCVof m_X5_tryFlight l_X5_96) rfl (by decide) kx_82 hdr (by decide) rfl rfl (by show (0 : Nat) ≤ 8; decide) ?_
    refine Run.mono h (fun r25 s26 h => ?_)
    refine R_eqs (st2 := []) rfl rfl ?_
    refine R_aload_n e_X5_tryFlight_10.2.2.2.2.2.2.2.2.1 1 rfl ?_
    refine R_getA 5 0 31 e_X5_tryFlight_10.2.2.2.2.2.2.2.2.2 f_X5_64 kx_82 (fun _ _ => rfl) rx_82_0 (by decide) ?_
    refine R_dup e_X5_tryFlight_11.1 rfl ?_
    refine R_getI 0 4 4 e_X5_tryFlight_11.2.1 f_X5_78 (kC_self isC_31) (fun _ _ => rfl) rfl ?_
    refine R_iconst e_X5_tryFlight_11.2.2.1 ?_
    refine R_isub e_X5_tryFlight_11.2.2.2.1 ?_
    refine R_putI 0 4 4 WX_ok e_X5_tryFlight_11.2.2.2.2.1 f_X5_78 (kC_self isC_31) rfl rfl rfl ?_
    refine R_aload_n e_X5_tryFlight_11.2.2.2.2.2.1 1 rfl ?_
    refine R_getA 5 0 31 e_X5_tryFlight_11.2.2.2.2.2.2.1 f_X5_64 kx_82 (fun _ _ => rfl) rx_82_0 (by decide) ?_
    refine R_iload e_X5_tryFlight_11.2.2.2.2.2.2.2.1 7 rfl ?_
    refine R_callV (mc := 0) (ms := 0) (mc' := 0) (ms' := 0) (M' := M_X0_putCutSet) (d' := 0) (as := [vI l6]) (st := []) 0 1 e_X5_tryFlight_11.2.2.2.2.2.2.2.2.1 (kCVof m_X0_putCutSet l_X5_129) rfl (by decide) (kC_self isC_31) (by omega) (by decide) rfl rfl (by show (0 : Nat) ≤ 8; decide) ?_
    refine Run.mono h (fun r27 s28 h => ?_)
    refine R_eqs (st2 := []) rfl rfl ?_
    refine R_aload_n e_X5_tryFlight_11.2.2.2.2.2.2.2.2.2 4 rfl ?_
    refine R_iload e_X5_tryFlight_12.1 5 rfl ?_
    refine R_putI 3 1 1 WX_ok e_X5_tryFlight_12.2.1 f_X5_110 (kLX hl3) rfl rfl rfl ?_
    refine R_aload_n e_X5_tryFlight_12.2.2.1 4 rfl ?_
    refine R_iload e_X5_tryFlight_12.2.2.2.1 6 rfl ?_
    refine R_putI 3 2 2 WX_ok e_X5_tryFlight_12.2.2.2.2.1 f_X5_115 (kLX hl3) rfl rfl rfl ?_
    refine R_iinc (ls2 := [(7, vI (l7 + 1)), (8, vI p0), (0, vA G 82), (1, vI l1), (2, vI l2), (3, vA G l3), (4, vI l4), (5, vI l5), (6, vI l6)]) e_X5_tryFlight_12.2.2.2.2.2.1 8 rfl (by decide) rfl ?_
    refine R_goto 86 e_X5_tryFlight_12.2.2.2.2.2.2.1 (by decide) ?_
    refine R_ls (ls2 := [(0, vA G 82), (1, vI l1), (2, vI l2), (3, vA G l3), (4, vI l4), (5, vI l5), (6, vI l6), (7, vI (l7 + 1))]) [2, 3, 4, 5, 6, 7, 8, 0] rfl ?_
    exact h
  · replace h := h.2 q
    refine R_iload_n e_X5_tryFlight_10.2.2.1 3 rfl ?_
    refine R_iconst e_X5_tryFlight_10.2.2.2.1 ?_
    refine R_iadd e_X5_tryFlight_10.2.2.2.2.1 ?_
    refine R_goto 199 e_X5_tryFlight_10.2.2.2.2.2.1 (by decide) ?_
    refine R_callV (mc := 0) (ms := 0) (mc' := 0) (ms' := 0) (M' := M_X5_tryFlight) (d' := dr) (as := [vI (l1 + 1), vI (l2 + 1)]) (st := []) 5 2 e_X5_tryFlight_10.2.2.2.2.2.2.2.1 (kCVof m_X5_tryFlight l_X5_96) rfl (by decide) kx_82 hdr (by decide) rfl rfl (by show (0 : Nat) ≤ 8; decide) ?_
    refine Run.mono h (fun r29 s30 h => ?_)
    refine R_eqs (st2 := []) rfl rfl ?_
    refine R_aload_n e_X5_tryFlight_10.2.2.2.2.2.2.2.2.1 1 rfl ?_
    refine R_getA 5 0 31 e_X5_tryFlight_10.2.2.2.2.2.2.2.2.2 f_X5_64 kx_82 (fun _ _ => rfl) rx_82_0 (by decide) ?_
    refine R_dup e_X5_tryFlight_11.1 rfl ?_
    refine R_getI 0 4 4 e_X5_tryFlight_11.2.1 f_X5_78 (kC_self isC_31) (fun _ _ => rfl) rfl ?_
    refine R_iconst e_X5_tryFlight_11.2.2.1 ?_
    refine R_isub e_X5_tryFlight_11.2.2.2.1 ?_
    refine R_putI 0 4 4 WX_ok e_X5_tryFlight_11.2.2.2.2.1 f_X5_78 (kC_self isC_31) rfl rfl rfl ?_
    refine R_aload_n e_X5_tryFlight_11.2.2.2.2.2.1 1 rfl ?_
    refine R_getA 5 0 31 e_X5_tryFlight_11.2.2.2.2.2.2.1 f_X5_64 kx_82 (fun _ _ => rfl) rx_82_0 (by decide) ?_
    refine R_iload e_X5_tryFlight_11.2.2.2.2.2.2.2.1 7 rfl ?_
    refine R_callV (mc := 0) (ms := 0) (mc' := 0) (ms' := 0) (M' := M_X0_putCutSet) (d' := 0) (as := [vI l6]) (st := []) 0 1 e_X5_tryFlight_11.2.2.2.2.2.2.2.2.1 (kCVof m_X0_putCutSet l_X5_129) rfl (by decide) (kC_self isC_31) (by omega) (by decide) rfl rfl (by show (0 : Nat) ≤ 8; decide) ?_
    refine Run.mono h (fun r31 s32 h => ?_)
    refine R_eqs (st2 := []) rfl rfl ?_
    refine R_aload_n e_X5_tryFlight_11.2.2.2.2.2.2.2.2.2 4 rfl ?_
    refine R_iload e_X5_tryFlight_12.1 5 rfl ?_
    refine R_putI 3 1 1 WX_ok e_X5_tryFlight_12.2.1 f_X5_110 (kLX hl3) rfl rfl rfl ?_
    refine R_aload_n e_X5_tryFlight_12.2.2.1 4 rfl ?_
    refine R_iload e_X5_tryFlight_12.2.2.2.1 6 rfl ?_
    refine R_putI 3 2 2 WX_ok e_X5_tryFlight_12.2.2.2.2.1 f_X5_115 (kLX hl3) rfl rfl rfl ?_
    refine R_iinc (ls2 := [(7, vI (l7 + 1)), (8, vI p0), (0, vA G 82), (1, vI l1), (2, vI l2), (3, vA G l3), (4, vI l4), (5, vI l5), (6, vI l6)]) e_X5_tryFlight_12.2.2.2.2.2.1 8 rfl (by decide) rfl ?_
    refine R_goto 86 e_X5_tryFlight_12.2.2.2.2.2.2.1 (by decide) ?_
    refine R_ls (ls2 := [(0, vA G 82), (1, vI l1), (2, vI l2), (3, vA G l3), (4, vI l4), (5, vI l5), (6, vI l6), (7, vI (l7 + 1))]) [2, 3, 4, 5, 6, 7, 8, 0] rfl ?_
    exact h
/-! KiteLand$Plans.seekFlight(IIII)V -/
theorem e_X5_seekFlight_0 : decode cX5_seekFlight 0 = .ok (.aload_n 0, 1) ∧ decode cX5_seekFlight 1 = .ok (.iload_n 1, 1) ∧ decode cX5_seekFlight 2 = .ok (.putfield 34, 3) ∧ decode cX5_seekFlight 5 = .ok (.aload_n 0, 1) ∧ decode cX5_seekFlight 6 = .ok (.iload_n 2, 1) ∧ decode cX5_seekFlight 7 = .ok (.putfield 37, 3) ∧ decode cX5_seekFlight 10 = .ok (.aload_n 0, 1) ∧ decode cX5_seekFlight 11 = .ok (.iload_n 3, 1) ∧ decode cX5_seekFlight 12 = .ok (.putfield 40, 3) ∧ decode cX5_seekFlight 15 = .ok (.aload_n 0, 1) := by decide +kernel
theorem e_X5_seekFlight_1 : decode cX5_seekFlight 16 = .ok (.iload 4, 2) ∧ decode cX5_seekFlight 18 = .ok (.putfield 25, 3) ∧ decode cX5_seekFlight 21 = .ok (.aload_n 0, 1) ∧ decode cX5_seekFlight 22 = .ok (.iconst (-1), 1) ∧ decode cX5_seekFlight 23 = .ok (.putfield 28, 3) ∧ decode cX5_seekFlight 26 = .ok (.aload_n 0, 1) ∧ decode cX5_seekFlight 27 = .ok (.iconst 0, 1) ∧ decode cX5_seekFlight 28 = .ok (.iconst 0, 1) ∧ decode cX5_seekFlight 29 = .ok (.invokevirtual 96, 3) ∧ decode cX5_seekFlight 32 = .ok (.return_, 1) := by decide +kernel
theorem S_X5_seekFlight {G : Kg} {σ : Kmem} {Q : Int → Kmem → Prop} {l1 l2 l3 l4 : Int}  (h : Run G WX M_X5_tryFlight 20 0 0 [vA G 82, vI 0, vI 0] (kup (kup (kup (kup (kup σ 82 9 l1) 82 10 l2) 82 11 l3) 82 6 l4) 82 7 (-1)) (fun r1 s2 => Q 0 s2)) : Run G WX M_X5_seekFlight 21 0 0 [vA G 82, vI l1, vI l2, vI l3, vI l4] σ Q := by
  refine Run.of (by decide +kernel) (by show (5 : Nat) ≤ 5; decide) ?_
  show Ex G WX M_X5_seekFlight 21 0 0 0 [(0, vA G 82), (1, vI l1), (2, vI l2), (3, vI l3), (4, vI l4)] [] σ Q
  refine R_aload_n e_X5_seekFlight_0.1 0 rfl ?_
  refine R_iload_n e_X5_seekFlight_0.2.1 1 rfl ?_
  refine R_putI 5 9 9 WX_ok e_X5_seekFlight_0.2.2.1 f_X5_34 kx_82 rfl rfl rfl ?_
  refine R_aload_n e_X5_seekFlight_0.2.2.2.1 0 rfl ?_
  refine R_iload_n e_X5_seekFlight_0.2.2.2.2.1 2 rfl ?_
  refine R_putI 5 10 10 WX_ok e_X5_seekFlight_0.2.2.2.2.2.1 f_X5_37 kx_82 rfl rfl rfl ?_
  refine R_aload_n e_X5_seekFlight_0.2.2.2.2.2.2.1 0 rfl ?_
  refine R_iload_n e_X5_seekFlight_0.2.2.2.2.2.2.2.1 3 rfl ?_
  refine R_putI 5 11 11 WX_ok e_X5_seekFlight_0.2.2.2.2.2.2.2.2.1 f_X5_40 kx_82 rfl rfl rfl ?_
  refine R_aload_n e_X5_seekFlight_0.2.2.2.2.2.2.2.2.2 0 rfl ?_
  refine R_iload e_X5_seekFlight_1.1 4 rfl ?_
  refine R_putI 5 6 6 WX_ok e_X5_seekFlight_1.2.1 f_X5_25 kx_82 rfl rfl rfl ?_
  refine R_aload_n e_X5_seekFlight_1.2.2.1 0 rfl ?_
  refine R_iconst e_X5_seekFlight_1.2.2.2.1 ?_
  refine R_putI 5 7 7 WX_ok e_X5_seekFlight_1.2.2.2.2.1 f_X5_28 kx_82 rfl rfl rfl ?_
  refine R_aload_n e_X5_seekFlight_1.2.2.2.2.2.1 0 rfl ?_
  refine R_iconst e_X5_seekFlight_1.2.2.2.2.2.2.1 ?_
  refine R_iconst e_X5_seekFlight_1.2.2.2.2.2.2.2.1 ?_
  refine R_callV (mc := 0) (ms := 0) (mc' := 0) (ms' := 0) (M' := M_X5_tryFlight) (d' := 20) (as := [vI 0, vI 0]) (st := []) 5 2 e_X5_seekFlight_1.2.2.2.2.2.2.2.2.1 (kCVof m_X5_tryFlight l_X5_96) rfl (by decide) kx_82 (by decide) (by decide) rfl rfl (by show (0 : Nat) ≤ 8; decide) ?_
  refine Run.mono h (fun r1 s2 h => ?_)
  refine R_eqs (st2 := []) rfl rfl ?_
  exact R_return e_X5_seekFlight_1.2.2.2.2.2.2.2.2.2 rfl h
/-! KiteLand$Plans.playOut(III)I -/
theorem e_X5_playOut_0 : decode cX5_playOut 0 = .ok (.iload_n 3, 1) ∧ decode cX5_playOut 1 = .ok (.ifCond .le 8, 3) ∧ decode cX5_playOut 4 = .ok (.iload_n 3, 1) ∧ decode cX5_playOut 5 = .ok (.iconst 4, 1) ∧ decode cX5_playOut 6 = .ok (.if_icmp .le 39, 3) ∧ decode cX5_playOut 9 = .ok (.aload_n 0, 1) ∧ decode cX5_playOut 10 = .ok (.getfield 68, 3) ∧ decode cX5_playOut 13 = .ok (.aload_n 0, 1) ∧ decode cX5_playOut 14 = .ok (.getfield 64, 3) ∧ decode cX5_playOut 17 = .ok (.aload_n 0, 1) := by decide +kernel
theorem e_X5_playOut_1 : decode cX5_playOut 18 = .ok (.getfield 64, 3) ∧ decode cX5_playOut 21 = .ok (.invokevirtual 145, 3) ∧ decode cX5_playOut 24 = .ok (.invokevirtual 148, 3) ∧ decode cX5_playOut 27 = .ok (.aload_n 0, 1) ∧ decode cX5_playOut 28 = .ok (.getfield 68, 3) ∧ decode cX5_playOut 31 = .ok (.iload_n 1, 1) ∧ decode cX5_playOut 32 = .ok (.invokevirtual 192, 3) ∧ decode cX5_playOut 35 = .ok (.aload_n 0, 1) ∧ decode cX5_playOut 36 = .ok (.getfield 68, 3) ∧ decode cX5_playOut 39 = .ok (.iload_n 2, 1) := by decide +kernel
theorem e_X5_playOut_2 : decode cX5_playOut 40 = .ok (.invokevirtual 192, 3) ∧ decode cX5_playOut 43 = .ok (.isub, 1) ∧ decode cX5_playOut 44 = .ok (.ireturn, 1) ∧ decode cX5_playOut 45 = .ok (.aload_n 0, 1) ∧ decode cX5_playOut 46 = .ok (.getfield 64, 3) ∧ decode cX5_playOut 49 = .ok (.getfield 106, 3) ∧ decode cX5_playOut 52 = .ok (.iload_n 1, 1) ∧ decode cX5_playOut 53 = .ok (.aaload, 1) ∧ decode cX5_playOut 54 = .ok (.astore 4, 2) ∧ decode cX5_playOut 56 = .ok (.aload 4, 2) := by decide +kernel
theorem e_X5_playOut_3 : decode cX5_playOut 58 = .ok (.getfield 110, 3) ∧ decode cX5_playOut 61 = .ok (.istore 5, 2) ∧ decode cX5_playOut 63 = .ok (.aload 4, 2) ∧ decode cX5_playOut 65 = .ok (.getfield 115, 3) ∧ decode cX5_playOut 68 = .ok (.istore 6, 2) ∧ decode cX5_playOut 70 = .ok (.bipush (-64), 2) ∧ decode cX5_playOut 72 = .ok (.istore 7, 2) ∧ decode cX5_playOut 74 = .ok (.iconst 0, 1) ∧ decode cX5_playOut 75 = .ok (.istore 8, 2) ∧ decode cX5_playOut 77 = .ok (.iload 8, 2) := by decide +kernel
theorem e_X5_playOut_4 : decode cX5_playOut 79 = .ok (.iconst 5, 1) ∧ decode cX5_playOut 80 = .ok (.if_icmp .ge 77, 3) ∧ decode cX5_playOut 83 = .ok (.aload_n 0, 1) ∧ decode cX5_playOut 84 = .ok (.getfield 64, 3) ∧ decode cX5_playOut 87 = .ok (.iload_n 1, 1) ∧ decode cX5_playOut 88 = .ok (.iload 8, 2) ∧ decode cX5_playOut 90 = .ok (.invokevirtual 122, 3) ∧ decode cX5_playOut 93 = .ok (.ifCond .eq 58, 3) ∧ decode cX5_playOut 96 = .ok (.aload_n 0, 1) ∧ decode cX5_playOut 97 = .ok (.getfield 64, 3) := by decide +kernel
theorem e_X5_playOut_5 : decode cX5_playOut 100 = .ok (.iload_n 1, 1) ∧ decode cX5_playOut 101 = .ok (.iload 8, 2) ∧ decode cX5_playOut 103 = .ok (.invokevirtual 126, 3) ∧ decode cX5_playOut 106 = .ok (.aload_n 0, 1) ∧ decode cX5_playOut 107 = .ok (.iload_n 2, 1) ∧ decode cX5_playOut 108 = .ok (.iload_n 1, 1) ∧ decode cX5_playOut 109 = .ok (.iload_n 3, 1) ∧ decode cX5_playOut 110 = .ok (.iconst 1, 1) ∧ decode cX5_playOut 111 = .ok (.isub, 1) ∧ decode cX5_playOut 112 = .ok (.invokevirtual 188, 3) := by decide +kernel
theorem e_X5_playOut_6 : decode cX5_playOut 115 = .ok (.ineg, 1) ∧ decode cX5_playOut 116 = .ok (.istore 9, 2) ∧ decode cX5_playOut 118 = .ok (.aload 4, 2) ∧ decode cX5_playOut 120 = .ok (.iload 5, 2) ∧ decode cX5_playOut 122 = .ok (.putfield 110, 3) ∧ decode cX5_playOut 125 = .ok (.aload 4, 2) ∧ decode cX5_playOut 127 = .ok (.iload 6, 2) ∧ decode cX5_playOut 129 = .ok (.putfield 115, 3) ∧ decode cX5_playOut 132 = .ok (.iload 9, 2) ∧ decode cX5_playOut 134 = .ok (.iload 7, 2) := by decide +kernel
theorem e_X5_playOut_7 : decode cX5_playOut 136 = .ok (.if_icmp .le 15, 3) ∧ decode cX5_playOut 139 = .ok (.iload 9, 2) ∧ decode cX5_playOut 141 = .ok (.istore 7, 2) ∧ decode cX5_playOut 143 = .ok (.aload_n 0, 1) ∧ decode cX5_playOut 144 = .ok (.getfield 46, 3) ∧ decode cX5_playOut 147 = .ok (.iload_n 3, 1) ∧ decode cX5_playOut 148 = .ok (.iload 8, 2) ∧ decode cX5_playOut 150 = .ok (.iastore, 1) ∧ decode cX5_playOut 151 = .ok (.iinc 8 1, 3) ∧ decode cX5_playOut 154 = .ok (.goto (-77), 3) := by decide +kernel
theorem e_X5_playOut_8 : decode cX5_playOut 157 = .ok (.iload 7, 2) ∧ decode cX5_playOut 159 = .ok (.ireturn, 1) := by decide +kernel
abbrev E_X5_playOut_77 (G : Kg) (d : Nat) (l1 l2 l3 l4 l5 l6 l7 l8 : Int) (σ : Kmem) (Q : Int → Kmem → Prop) : Prop := Ex G WX M_X5_playOut d 0 0 77 [(0, vA G 82), (1, vI l1), (2, vI l2), (3, vI l3), (4, vA G l4), (5, vI l5), (6, vI l6), (7, vI l7), (8, vI l8)] [] σ Q
theorem S_X5_playOut {G : Kg} {σ : Kmem} {Q : Int → Kmem → Prop} {d dr : Nat} (hd : 12 ≤ d) (hdr : dr + 1 ≤ d) {l1 l2 l3 : Int}  (h : (rI l3) ∧ ((l3 ≤ 0 → (0 ≤ σ 31 4 ∧ σ 31 4 ≤ 2147483647) ∧ Run G WX M_X8_look 3 0 0 [vA G 58, vA G 31, vI ((σ 31 4) % 12)] σ (fun r5 s6 => Run G WX M_X8_fieldsOf 0 0 0 [vA G 58, vI l1] s6 (fun r7 s8 => Run G WX M_X8_fieldsOf 0 0 0 [vA G 58, vI l2] s8 (fun r9 s10 => Q (r7 - r9) s10)))) ∧ (0 < l3 → ((l3 ≤ 4 → (0 ≤ l1 ∧ l1 < 6) ∧ E_X5_playOut_77 G d l1 l2 l3 (31 + 6 + l1) (σ (31 + 6 + l1) 1) (σ (31 + 6 + l1) 2) (-64) 0 σ Q) ∧ (4 < l3 → (0 ≤ σ 31 4 ∧ σ 31 4 ≤ 2147483647) ∧ Run G WX M_X8_look 3 0 0 [vA G 58, vA G 31, vI ((σ 31 4) % 12)] σ (fun r15 s16 => Run G WX M_X8_fieldsOf 0 0 0 [vA G 58, vI l1] s16 (fun r17 s18 => Run G WX M_X8_fieldsOf 0 0 0 [vA G 58, vI l2] s18 (fun r19 s20 => Q (r17 - r19) s20)))))))) : Run G WX M_X5_playOut d 0 0 [vA G 82, vI l1, vI l2, vI l3] σ Q := by
  refine Run.of (by decide +kernel) (by show (4 : Nat) ≤ 10; decide) ?_
  show Ex G WX M_X5_playOut d 0 0 0 [(0, vA G 82), (1, vI l1), (2, vI l2), (3, vI l3)] [] σ Q
  refine R_iload_n e_X5_playOut_0.1 3 rfl ?_
  obtain ⟨q1, h⟩ := h
  refine R_if_le 9 e_X5_playOut_0.2.1 (by decide) q1  (fun q => ?_) (fun q => ?_)
  · replace h := h.1 q
    refine R_aload_n e_X5_playOut_0.2.2.2.2.2.1 0 rfl ?_
    refine R_getA 5 1 58 e_X5_playOut_0.2.2.2.2.2.2.1 f_X5_68 kx_82 (fun _ _ => rfl) rx_82_1 (by decide) ?_
    refine R_aload_n e_X5_playOut_0.2.2.2.2.2.2.2.1 0 rfl ?_
    refine R_getA 5 0 31 e_X5_playOut_0.2.2.2.2.2.2.2.2.1 f_X5_64 kx_82 (fun _ _ => rfl) rx_82_0 (by decide) ?_
    refine R_aload_n e_X5_playOut_0.2.2.2.2.2.2.2.2.2 0 rfl ?_
    refine R_getA 5 0 31 e_X5_playOut_1.1 f_X5_64 kx_82 (fun _ _ => rfl) rx_82_0 (by decide) ?_
    refine R_callV (mc := 0) (ms := 0) (mc' := 0) (ms' := 0) (M' := M_X0_hourOfDay) (d' := 0) (as := []) (st := [vA G 31, vA G 58]) 0 0 e_X5_playOut_1.2.1 (kCVof m_X0_hourOfDay l_X5_145) rfl (by decide) (kC_self isC_31) (by omega) (by decide) rfl rfl (by show (2 : Nat) ≤ 8; decide) ?_
    obtain ⟨q4, h⟩ := h
    refine S_X0_hourOfDay isC_31 ⟨q4, ?_⟩
    refine R_eqs (st2 := [vI ((σ 31 4) % 12), vA G 31, vA G 58]) (σ2 := σ) rfl rfl ?_
    refine R_callV (mc := 0) (ms := 0) (mc' := 0) (ms' := 0) (M' := M_X8_look) (d' := 3) (as := [vA G 31, vI ((σ 31 4) % 12)]) (st := []) 8 2 e_X5_playOut_1.2.2.1 (kCVof m_X8_look l_X5_148) rfl (by decide) kx_58 (by omega) (by decide) rfl rfl (by show (0 : Nat) ≤ 8; decide) ?_
    refine Run.mono h (fun r5 s6 h => ?_)
    refine R_eqs (st2 := []) rfl rfl ?_
    refine R_aload_n e_X5_playOut_1.2.2.2.1 0 rfl ?_
    refine R_getA 5 1 58 e_X5_playOut_1.2.2.2.2.1 f_X5_68 kx_82 (fun _ _ => rfl) rx_82_1 (by decide) ?_
    refine R_iload_n e_X5_playOut_1.2.2.2.2.2.1 1 rfl ?_
    refine R_callV (mc := 0) (ms := 0) (mc' := 0) (ms' := 0) (M' := M_X8_fieldsOf) (d' := 0) (as := [vI l1]) (st := []) 8 1 e_X5_playOut_1.2.2.2.2.2.2.1 (kCVof m_X8_fieldsOf l_X5_192) rfl (by decide) kx_58 (by omega) (by decide) rfl rfl (by show (0 : Nat) ≤ 8; decide) ?_
    refine Run.mono h (fun r7 s8 h => ?_)
    refine R_eqs (st2 := [vI r7]) rfl rfl ?_
    refine R_aload_n e_X5_playOut_1.2.2.2.2.2.2.2.1 0 rfl ?_
    refine R_getA 5 1 58 e_X5_playOut_1.2.2.2.2.2.2.2.2.1 f_X5_68 kx_82 (fun _ _ => rfl) rx_82_1 (by decide) ?_
    refine R_iload_n e_X5_playOut_1.2.2.2.2.2.2.2.2.2 2 rfl ?_
    refine R_callV (mc := 0) (ms := 0) (mc' := 0) (ms' := 0) (M' := M_X8_fieldsOf) (d' := 0) (as := [vI l2]) (st := [vI r7]) 8 1 e_X5_playOut_2.1 (kCVof m_X8_fieldsOf l_X5_192) rfl (by decide) kx_58 (by omega) (by decide) rfl rfl (by show (1 : Nat) ≤ 8; decide) ?_
    refine Run.mono h (fun r9 s10 h => ?_)
    refine R_eqs (st2 := [vI r9, vI r7]) rfl rfl ?_
    refine R_isub e_X5_playOut_2.2.1 ?_
    exact R_ireturn e_X5_playOut_2.2.2.1 rfl h
  · replace h := h.2 q
    refine R_iload_n e_X5_playOut_0.2.2.1 3 rfl ?_
    refine R_iconst e_X5_playOut_0.2.2.2.1 ?_
    refine R_icmp_le 45 e_X5_playOut_0.2.2.2.2.1 (by decide) q1 (by decide) (fun q => ?_) (fun q => ?_)
    · replace h := h.1 q
      refine R_aload_n e_X5_playOut_2.2.2.2.1 0 rfl ?_
      refine R_getA 5 0 31 e_X5_playOut_2.2.2.2.2.1 f_X5_64 kx_82 (fun _ _ => rfl) rx_82_0 (by decide) ?_
      refine R_getA 0 10 (31 + 3) e_X5_playOut_2.2.2.2.2.2.1 f_X5_106 (kC_self isC_31) (fun _ _ => rfl) (kC_r10 isC_31) (kC_n3 isC_31) ?_
      refine R_iload_n e_X5_playOut_2.2.2.2.2.2.2.1 1 rfl ?_
      obtain ⟨q11, h⟩ := h
      refine R_aald 27 6 (31 + 6 + l1) e_X5_playOut_2.2.2.2.2.2.2.2.1 (by decide) (kC_kites isC_31) q11 (kC_kiteAt isC_31 q11) (kC_kiteN isC_31 q11) ?_
      refine R_astore (ls2 := [(4, vA G (31 + 6 + l1)), (0, vA G 82), (1, vI l1), (2, vI l2), (3, vI l3)]) e_X5_playOut_2.2.2.2.2.2.2.2.2.1 (by decide) rfl ?_
      refine R_aload e_X5_playOut_2.2.2.2.2.2.2.2.2.2 0 rfl ?_
      refine R_getI 3 1 1 e_X5_playOut_3.1 f_X5_110 (kC_kite isC_31 q11) (fun _ _ => rfl) rfl ?_
      refine R_istore (ls2 := [(5, vI (σ (31 + 6 + l1) 1)), (4, vA G (31 + 6 + l1)), (0, vA G 82), (1, vI l1), (2, vI l2), (3, vI l3)]) e_X5_playOut_3.2.1 (by decide) rfl ?_
      refine R_aload e_X5_playOut_3.2.2.1 1 rfl ?_
      refine R_getI 3 2 2 e_X5_playOut_3.2.2.2.1 f_X5_115 (kC_kite isC_31 q11) (fun _ _ => rfl) rfl ?_
      refine R_istore (ls2 := [(6, vI (σ (31 + 6 + l1) 2)), (5, vI (σ (31 + 6 + l1) 1)), (4, vA G (31 + 6 + l1)), (0, vA G 82), (1, vI l1), (2, vI l2), (3, vI l3)]) e_X5_playOut_3.2.2.2.2.1 (by decide) rfl ?_
      refine R_bipush e_X5_playOut_3.2.2.2.2.2.1 (by decide) ?_
      refine R_istore (ls2 := [(7, vI (-64)), (6, vI (σ (31 + 6 + l1) 2)), (5, vI (σ (31 + 6 + l1) 1)), (4, vA G (31 + 6 + l1)), (0, vA G 82), (1, vI l1), (2, vI l2), (3, vI l3)]) e_X5_playOut_3.2.2.2.2.2.2.1 (by decide) rfl ?_
      refine R_iconst e_X5_playOut_3.2.2.2.2.2.2.2.1 ?_
      refine R_istore (ls2 := [(8, vI 0), (7, vI (-64)), (6, vI (σ (31 + 6 + l1) 2)), (5, vI (σ (31 + 6 + l1) 1)), (4, vA G (31 + 6 + l1)), (0, vA G 82), (1, vI l1), (2, vI l2), (3, vI l3)]) e_X5_playOut_3.2.2.2.2.2.2.2.2.1 (by decide) rfl ?_
      refine R_ls (ls2 := [(0, vA G 82), (1, vI l1), (2, vI l2), (3, vI l3), (4, vA G (31 + 6 + l1)), (5, vI (σ (31 + 6 + l1) 1)), (6, vI (σ (31 + 6 + l1) 2)), (7, vI (-64)), (8, vI 0)]) [5, 6, 7, 8, 4, 3, 2, 1, 0] rfl ?_
      exact h
    · replace h := h.2 q
      refine R_aload_n e_X5_playOut_0.2.2.2.2.2.1 0 rfl ?_
      refine R_getA 5 1 58 e_X5_playOut_0.2.2.2.2.2.2.1 f_X5_68 kx_82 (fun _ _ => rfl) rx_82_1 (by decide) ?_
      refine R_aload_n e_X5_playOut_0.2.2.2.2.2.2.2.1 0 rfl ?_
      refine R_getA 5 0 31 e_X5_playOut_0.2.2.2.2.2.2.2.2.1 f_X5_64 kx_82 (fun _ _ => rfl) rx_82_0 (by decide) ?_
      refine R_aload_n e_X5_playOut_0.2.2.2.2.2.2.2.2.2 0 rfl ?_
      refine R_getA 5 0 31 e_X5_playOut_1.1 f_X5_64 kx_82 (fun _ _ => rfl) rx_82_0 (by decide) ?_
      refine R_callV (mc := 0) (ms := 0) (mc' := 0) (ms' := 0) (M' := M_X0_hourOfDay) (d' := 0) (as := []) (st := [vA G 31, vA G 58]) 0 0 e_X5_playOut_1.2.1 (kCVof m_X0_hourOfDay l_X5_145) rfl (by decide) (kC_self isC_31) (by omega) (by decide) rfl rfl (by show (2 : Nat) ≤ 8; decide) ?_
      obtain ⟨q14, h⟩ := h
      refine S_X0_hourOfDay isC_31 ⟨q14, ?_⟩
      refine R_eqs (st2 := [vI ((σ 31 4) % 12), vA G 31, vA G 58]) (σ2 := σ) rfl rfl ?_
      refine R_callV (mc := 0) (ms := 0) (mc' := 0) (ms' := 0) (M' := M_X8_look) (d' := 3) (as := [vA G 31, vI ((σ 31 4) % 12)]) (st := []) 8 2 e_X5_playOut_1.2.2.1 (kCVof m_X8_look l_X5_148) rfl (by decide) kx_58 (by omega) (by decide) rfl rfl (by show (0 : Nat) ≤ 8; decide) ?_
      refine Run.mono h (fun r15 s16 h => ?_)
      refine R_eqs (st2 := []) rfl rfl ?_
      refine R_aload_n e_X5_playOut_1.2.2.2.1 0 rfl ?_
      refine R_getA 5 1 58 e_X5_playOut_1.2.2.2.2.1 f_X5_68 kx_82 (fun _ _ => rfl) rx_82_1 (by decide) ?_
      refine R_iload_n e_X5_playOut_1.2.2.2.2.2.1 1 rfl ?_
      refine R_callV (mc := 0) (ms := 0) (mc' := 0) (ms' := 0) (M' := M_X8_fieldsOf) (d' := 0) (as := [vI l1]) (st := []) 8 1 e_X5_playOut_1.2.2.2.2.2.2.1 (kCVof m_X8_fieldsOf l_X5_192) rfl (by decide) kx_58 (by omega) (by decide) rfl rfl (by show (0 : Nat) ≤ 8; decide) ?_
      refine Run.mono h (fun r17 s18 h => ?_)
      refine R_eqs (st2 := [vI r17]) rfl rfl ?_
      refine R_aload_n e_X5_playOut_1.2.2.2.2.2.2.2.1 0 rfl ?_
      refine R_getA 5 1 58 e_X5_playOut_1.2.2.2.2.2.2.2.2.1 f_X5_68 kx_82 (fun _ _ => rfl) rx_82_1 (by decide) ?_
      refine R_iload_n e_X5_playOut_1.2.2.2.2.2.2.2.2.2 2 rfl ?_
      refine R_callV (mc := 0) (ms := 0) (mc' := 0) (ms' := 0) (M' := M_X8_fieldsOf) (d' := 0) (as := [vI l2]) (st := [vI r17]) 8 1 e_X5_playOut_2.1 (kCVof m_X8_fieldsOf l_X5_192) rfl (by decide) kx_58 (by omega) (by decide) rfl rfl (by show (1 : Nat) ≤ 8; decide) ?_
      refine Run.mono h (fun r19 s20 h => ?_)
      refine R_eqs (st2 := [vI r19, vI r17]) rfl rfl ?_
      refine R_isub e_X5_playOut_2.2.1 ?_
      exact R_ireturn e_X5_playOut_2.2.2.1 rfl h
theorem S_X5_playOut_77 {G : Kg} {σ : Kmem} {Q : Int → Kmem → Prop} {d dr : Nat} (hd : 12 ≤ d) (hdr : dr + 1 ≤ d) {l1 l2 l3 l4 l5 l6 l7 l8 : Int}  (hl4 : kIsX l4 3) (h : (rI l8) ∧ ((5 ≤ l8 → Q l7 σ) ∧ (l8 < 5 → Run G WX M_X0_mayStep 2 0 0 [vA G 31, vI l1, vI l8] σ (fun r22 s23 => (rI r22) ∧ ((r22 = 0 → E_X5_playOut_77 G d l1 l2 l3 l4 l5 l6 l7 (l8 + 1) s23 Q) ∧ (r22 ≠ 0 → Run G WX M_X0_stepHand 0 0 0 [vA G 31, vI l1, vI l8] s23 (fun r25 s26 => Run G WX M_X5_playOut dr 0 0 [vA G 82, vI l2, vI l1, vI (l3 - 1)] s26 (fun r27 s28 => (rI (-r27)) ∧ (rI l7) ∧ ((-r27 ≤ l7 → E_X5_playOut_77 G d l1 l2 l3 l4 l5 l6 l7 (l8 + 1) (kup (kup s28 l4 1 l5) l4 2 l6) Q) ∧ (l7 < -r27 → (0 ≤ l3 ∧ l3 < 5) ∧ E_X5_playOut_77 G d l1 l2 l3 l4 l5 l6 (-r27) (l8 + 1) (kup (kup (kup s28 l4 1 l5) l4 2 l6) 86 l3 l8) Q)))))))))) : E_X5_playOut_77 G d l1 l2 l3 l4 l5 l6 l7 l8 σ Q := by
  refine R_iload e_X5_playOut_3.2.2.2.2.2.2.2.2.2 8 rfl ?_
  refine R_iconst e_X5_playOut_4.1 ?_
  obtain ⟨q21, h⟩ := h
  refine R_icmp_ge 157 e_X5_playOut_4.2.1 (by decide) q21 (by decide) (fun q => ?_) (fun q => ?_)
  · replace h := h.1 q
    refine R_iload e_X5_playOut_8.1 7 rfl ?_
    exact R_ireturn e_X5_playOut_8.2 rfl h
  · replace h := h.2 q
    refine R_aload_n e_X5_playOut_4.2.2.1 0 rfl ?_
    refine R_getA 5 0 31 e_X5_playOut_4.2.2.2.1 f_X5_64 kx_82 (fun _ _ => rfl) rx_82_0 (by decide) ?_
    refine R_iload_n e_X5_playOut_4.2.2.2.2.1 1 rfl ?_
    refine R_iload e_X5_playOut_4.2.2.2.2.2.1 8 rfl ?_
    refine R_callV (mc := 0) (ms := 0) (mc' := 0) (ms' := 0) (M' := M_X0_mayStep) (d' := 2) (as := [vI l1, vI l8]) (st := []) 0 2 e_X5_playOut_4.2.2.2.2.2.2.1 (kCVof m_X0_mayStep l_X5_122) rfl (by decide) (kC_self isC_31) (by omega) (by decide) rfl rfl (by show (0 : Nat) ≤ 8; decide) ?_
    refine Run.mono h (fun r22 s23 h => ?_)
    refine R_eqs (st2 := [vI r22]) rfl rfl ?_
    obtain ⟨q24, h⟩ := h
    refine R_if_eq 151 e_X5_playOut_4.2.2.2.2.2.2.2.1 (by decide) q24  (fun q => ?_) (fun q => ?_)
    · replace h := h.1 q
      refine R_iinc (ls2 := [(8, vI (l8 + 1)), (0, vA G 82), (1, vI l1), (2, vI l2), (3, vI l3), (4, vA G l4), (5, vI l5), (6, vI l6), (7, vI l7)]) e_X5_playOut_7.2.2.2.2.2.2.2.2.1 8 rfl (by decide) rfl ?_
      refine R_goto 77 e_X5_playOut_7.2.2.2.2.2.2.2.2.2 (by decide) ?_
      refine R_ls (ls2 := [(0, vA G 82), (1, vI l1), (2, vI l2), (3, vI l3), (4, vA G l4), (5, vI l5), (6, vI l6), (7, vI l7), (8, vI (l8 + 1))]) [1, 2, 3, 4, 5, 6, 7, 8, 0] rfl ?_
      exact h
    · replace h := h.2 q
      refine R_aload_n e_X5_playOut_4.2.2.2.2.2.2.2.2.1 0 rfl ?_
      refine R_getA 5 0 31 e_X5_playOut_4.2.2.2.2.2.2.2.2.2 f_X5_64 kx_82 (fun _ _ => rfl) rx_82_0 (by decide) ?_
      refine R_iload_n e_X5_playOut_5.1 1 rfl ?_
      refine R_iload e_X5_playOut_5.2.1 8 rfl ?_
      refine R_callV (mc := 0) (ms := 0) (mc' := 0) (ms' := 0) (M' := M_X0_stepHand) (d' := 0) (as := [vI l1, vI l8]) (st := []) 0 2 e_X5_playOut_5.2.2.1 (kCVof m_X0_stepHand l_X5_126) rfl (by decide) (kC_self isC_31) (by omega) (by decide) rfl rfl (by show (0 : Nat) ≤ 8; decide) ?_
      refine Run.mono h (fun r25 s26 h => ?_)
      refine R_eqs (st2 := []) rfl rfl ?_
      refine R_aload_n e_X5_playOut_5.2.2.2.1 0 rfl ?_
      refine R_iload_n e_X5_playOut_5.2.2.2.2.1 2 rfl ?_
      refine R_iload_n e_X5_playOut_5.2.2.2.2.2.1 1 rfl ?_
      refine R_iload_n e_X5_playOut_5.2.2.2.2.2.2.1 3 rfl ?_
      refine R_iconst e_X5_playOut_5.2.2.2.2.2.2.2.1 ?_
      refine R_isub e_X5_playOut_5.2.2.2.2.2.2.2.2.1 ?_
      refine R_callV (mc := 0) (ms := 0) (mc' := 0) (ms' := 0) (M' := M_X5_playOut) (d' := dr) (as := [vI l2, vI l1, vI (l3 - 1)]) (st := []) 5 3 e_X5_playOut_5.2.2.2.2.2.2.2.2.2 (kCVof m_X5_playOut l_X5_188) rfl (by decide) kx_82 hdr (by decide) rfl rfl (by show (0 : Nat) ≤ 8; decide) ?_
      refine Run.mono h (fun r27 s28 h => ?_)
      refine R_eqs (st2 := [vI r27]) rfl rfl ?_
      refine R_ineg e_X5_playOut_6.1 ?_
      refine R_istore (ls2 := [(9, vI (-r27)), (0, vA G 82), (1, vI l1), (2, vI l2), (3, vI l3), (4, vA G l4), (5, vI l5), (6, vI l6), (7, vI l7), (8, vI l8)]) e_X5_playOut_6.2.1 (by decide) rfl ?_
      refine R_aload e_X5_playOut_6.2.2.1 5 rfl ?_
      refine R_iload e_X5_playOut_6.2.2.2.1 6 rfl ?_
      refine R_putI 3 1 1 WX_ok e_X5_playOut_6.2.2.2.2.1 f_X5_110 (kLX hl4) rfl rfl rfl ?_
      refine R_aload e_X5_playOut_6.2.2.2.2.2.1 5 rfl ?_
      refine R_iload e_X5_playOut_6.2.2.2.2.2.2.1 7 rfl ?_
      refine R_putI 3 2 2 WX_ok e_X5_playOut_6.2.2.2.2.2.2.2.1 f_X5_115 (kLX hl4) rfl rfl rfl ?_
      refine R_iload e_X5_playOut_6.2.2.2.2.2.2.2.2.1 0 rfl ?_
      refine R_iload e_X5_playOut_6.2.2.2.2.2.2.2.2.2 8 rfl ?_
      obtain ⟨q29, h⟩ := h
      obtain ⟨q30, h⟩ := h
      refine R_icmp_le 151 e_X5_playOut_7.1 (by decide) q29 q30 (fun q => ?_) (fun q => ?_)
      · replace h := h.1 q
        refine R_iinc (ls2 := [(8, vI (l8 + 1)), (9, vI (-r27)), (0, vA G 82), (1, vI l1), (2, vI l2), (3, vI l3), (4, vA G l4), (5, vI l5), (6, vI l6), (7, vI l7)]) e_X5_playOut_7.2.2.2.2.2.2.2.2.1 9 rfl (by decide) rfl ?_
        refine R_goto 77 e_X5_playOut_7.2.2.2.2.2.2.2.2.2 (by decide) ?_
        refine R_ls (ls2 := [(0, vA G 82), (1, vI l1), (2, vI l2), (3, vI l3), (4, vA G l4), (5, vI l5), (6, vI l6), (7, vI l7), (8, vI (l8 + 1))]) [2, 3, 4, 5, 6, 7, 8, 9, 0] rfl ?_
        exact h
      · replace h := h.2 q
        refine R_iload e_X5_playOut_7.2.1 0 rfl ?_
        refine R_istore (ls2 := [(7, vI (-r27)), (9, vI (-r27)), (0, vA G 82), (1, vI l1), (2, vI l2), (3, vI l3), (4, vA G l4), (5, vI l5), (6, vI l6), (8, vI l8)]) e_X5_playOut_7.2.2.1 (by decide) rfl ?_
        refine R_aload_n e_X5_playOut_7.2.2.2.1 2 rfl ?_
        refine R_getA 5 13 86 e_X5_playOut_7.2.2.2.2.1 f_X5_46 kx_82 (fun _ _ => rfl) rx_82_13 (by decide) ?_
        refine R_iload_n e_X5_playOut_7.2.2.2.2.2.1 5 rfl ?_
        refine R_iload e_X5_playOut_7.2.2.2.2.2.2.1 9 rfl ?_
        obtain ⟨q31, h⟩ := h
        refine R_iast 5 WX_ok e_X5_playOut_7.2.2.2.2.2.2.2.1 kxa_86 q31 ?_
        refine R_iinc (ls2 := [(8, vI (l8 + 1)), (7, vI (-r27)), (9, vI (-r27)), (0, vA G 82), (1, vI l1), (2, vI l2), (3, vI l3), (4, vA G l4), (5, vI l5), (6, vI l6)]) e_X5_playOut_7.2.2.2.2.2.2.2.2.1 9 rfl (by decide) rfl ?_
        refine R_goto 77 e_X5_playOut_7.2.2.2.2.2.2.2.2.2 (by decide) ?_
        refine R_ls (ls2 := [(0, vA G 82), (1, vI l1), (2, vI l2), (3, vI l3), (4, vA G l4), (5, vI l5), (6, vI l6), (7, vI (-r27)), (8, vI (l8 + 1))]) [3, 4, 5, 6, 7, 8, 9, 1, 0] rfl ?_
        exact h
/-! KiteLand$Plans.seekDuel(III)V -/
theorem e_X5_seekDuel_0 : decode cX5_seekDuel 0 = .ok (.aload_n 0, 1) ∧ decode cX5_seekDuel 1 = .ok (.aload_n 0, 1) ∧ decode cX5_seekDuel 2 = .ok (.iload_n 1, 1) ∧ decode cX5_seekDuel 3 = .ok (.iload_n 2, 1) ∧ decode cX5_seekDuel 4 = .ok (.iload_n 3, 1) ∧ decode cX5_seekDuel 5 = .ok (.invokevirtual 188, 3) ∧ decode cX5_seekDuel 8 = .ok (.putfield 43, 3) ∧ decode cX5_seekDuel 11 = .ok (.return_, 1) := by decide +kernel
theorem S_X5_seekDuel {G : Kg} {σ : Kmem} {Q : Int → Kmem → Prop} {l1 l2 l3 : Int}  (h : Run G WX M_X5_playOut 20 0 0 [vA G 82, vI l1, vI l2, vI l3] σ (fun r1 s2 => Q 0 (kup s2 82 12 r1))) : Run G WX M_X5_seekDuel 21 0 0 [vA G 82, vI l1, vI l2, vI l3] σ Q := by
  refine Run.of (by decide +kernel) (by show (4 : Nat) ≤ 4; decide) ?_
  show Ex G WX M_X5_seekDuel 21 0 0 0 [(0, vA G 82), (1, vI l1), (2, vI l2), (3, vI l3)] [] σ Q
  refine R_aload_n e_X5_seekDuel_0.1 0 rfl ?_
  refine R_aload_n e_X5_seekDuel_0.2.1 0 rfl ?_
  refine R_iload_n e_X5_seekDuel_0.2.2.1 1 rfl ?_
  refine R_iload_n e_X5_seekDuel_0.2.2.2.1 2 rfl ?_
  refine R_iload_n e_X5_seekDuel_0.2.2.2.2.1 3 rfl ?_
  refine R_callV (mc := 0) (ms := 0) (mc' := 0) (ms' := 0) (M' := M_X5_playOut) (d' := 20) (as := [vI l1, vI l2, vI l3]) (st := [vA G 82]) 5 3 e_X5_seekDuel_0.2.2.2.2.2.1 (kCVof m_X5_playOut l_X5_188) rfl (by decide) kx_82 (by decide) (by decide) rfl rfl (by show (1 : Nat) ≤ 8; decide) ?_
  refine Run.mono h (fun r1 s2 h => ?_)
  refine R_eqs (st2 := [vI r1, vA G 82]) rfl rfl ?_
  refine R_putI 5 12 12 WX_ok e_X5_seekDuel_0.2.2.2.2.2.2.1 f_X5_43 kx_82 rfl rfl rfl ?_
  exact R_return e_X5_seekDuel_0.2.2.2.2.2.2.2 rfl h
