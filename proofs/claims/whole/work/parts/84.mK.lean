/-! KiteLandModel.feed(IIIII)I -/
theorem e_X12_feed_0 : decode cX12_feed 0 = .ok (.aload_n 0, 1) ∧ decode cX12_feed 1 = .ok (.getfield 117, 3) ∧ decode cX12_feed 4 = .ok (.bipush 20, 2) ∧ decode cX12_feed 6 = .ok (.iadd, 1) ∧ decode cX12_feed 7 = .ok (.sipush 900, 3) ∧ decode cX12_feed 10 = .ok (.if_icmp .le 5, 3) ∧ decode cX12_feed 13 = .ok (.iconst (-1), 1) ∧ decode cX12_feed 14 = .ok (.ireturn, 1) ∧ decode cX12_feed 15 = .ok (.aload_n 0, 1) ∧ decode cX12_feed 16 = .ok (.iload_n 1, 1) := by decide +kernel
theorem e_X12_feed_1 : decode cX12_feed 17 = .ok (.invokevirtual 120, 3) ∧ decode cX12_feed 20 = .ok (.aload_n 0, 1) ∧ decode cX12_feed 21 = .ok (.iload_n 2, 1) ∧ decode cX12_feed 22 = .ok (.invokevirtual 120, 3) ∧ decode cX12_feed 25 = .ok (.aload_n 0, 1) ∧ decode cX12_feed 26 = .ok (.iload_n 3, 1) ∧ decode cX12_feed 27 = .ok (.invokevirtual 120, 3) ∧ decode cX12_feed 30 = .ok (.aload_n 0, 1) ∧ decode cX12_feed 31 = .ok (.iload 4, 2) ∧ decode cX12_feed 33 = .ok (.invokevirtual 120, 3) := by decide +kernel
theorem e_X12_feed_2 : decode cX12_feed 36 = .ok (.aload_n 0, 1) ∧ decode cX12_feed 37 = .ok (.iload 5, 2) ∧ decode cX12_feed 39 = .ok (.invokevirtual 120, 3) ∧ decode cX12_feed 42 = .ok (.aload_n 0, 1) ∧ decode cX12_feed 43 = .ok (.getfield 117, 3) ∧ decode cX12_feed 46 = .ok (.ireturn, 1) := by decide +kernel
theorem S_X12_feed {G : Kg} {σ : Kmem} {Q : Int → Kmem → Prop} {l1 l2 l3 l4 l5 : Int}  (h : (rI ((σ 0 10) + 20)) ∧ (((σ 0 10) + 20 ≤ 900 → Run G WM M_X12_four 0 0 0 [vA G 0, vI l1] σ (fun r2 s3 => Run G WM M_X12_four 0 0 0 [vA G 0, vI l2] s3 (fun r4 s5 => Run G WM M_X12_four 0 0 0 [vA G 0, vI l3] s5 (fun r6 s7 => Run G WM M_X12_four 0 0 0 [vA G 0, vI l4] s7 (fun r8 s9 => Run G WM M_X12_four 0 0 0 [vA G 0, vI l5] s9 (fun r10 s11 => Q (s11 0 10) s11)))))) ∧ (900 < (σ 0 10) + 20 → Q (-1) σ))) : Run G WM M_X12_feed 1 0 0 [vA G 0, vI l1, vI l2, vI l3, vI l4, vI l5] σ Q := by
  refine Run.of (by decide +kernel) (by show (6 : Nat) ≤ 6; decide) ?_
  show Ex G WM M_X12_feed 1 0 0 0 [(0, vA G 0), (1, vI l1), (2, vI l2), (3, vI l3), (4, vI l4), (5, vI l5)] [] σ Q
  refine R_aload_n e_X12_feed_0.1 0 rfl ?_
  refine R_getI 12 10 10 e_X12_feed_0.2.1 f_X12_117 km_0 (fun _ _ => rfl) rfl ?_
  refine R_bipush e_X12_feed_0.2.2.1 (by decide) ?_
  refine R_iadd e_X12_feed_0.2.2.2.1 ?_
  refine R_sipush e_X12_feed_0.2.2.2.2.1 (by decide) ?_
  obtain ⟨q1, h⟩ := h
  refine R_icmp_le 15 e_X12_feed_0.2.2.2.2.2.1 (by decide) q1 (by decide) (fun q => ?_) (fun q => ?_)
  · replace h := h.1 q
    refine R_aload_n e_X12_feed_0.2.2.2.2.2.2.2.2.1 0 rfl ?_
    refine R_iload_n e_X12_feed_0.2.2.2.2.2.2.2.2.2 1 rfl ?_
    refine R_callV (mc := 0) (ms := 0) (mc' := 0) (ms' := 0) (M' := M_X12_four) (d' := 0) (as := [vI l1]) (st := []) 12 1 e_X12_feed_1.1 (kCVof m_X12_four l_X12_120) rfl (by decide) km_0 (by decide) (by decide) rfl rfl (by show (0 : Nat) ≤ 8; decide) ?_
    refine Run.mono h (fun r2 s3 h => ?_)
    refine R_eqs (st2 := []) rfl rfl ?_
    refine R_aload_n e_X12_feed_1.2.1 0 rfl ?_
    refine R_iload_n e_X12_feed_1.2.2.1 2 rfl ?_
    refine R_callV (mc := 0) (ms := 0) (mc' := 0) (ms' := 0) (M' := M_X12_four) (d' := 0) (as := [vI l2]) (st := []) 12 1 e_X12_feed_1.2.2.2.1 (kCVof m_X12_four l_X12_120) rfl (by decide) km_0 (by decide) (by decide) rfl rfl (by show (0 : Nat) ≤ 8; decide) ?_
    refine Run.mono h (fun r4 s5 h => ?_)
    refine R_eqs (st2 := []) rfl rfl ?_
    refine R_aload_n e_X12_feed_1.2.2.2.2.1 0 rfl ?_
    refine R_iload_n e_X12_feed_1.2.2.2.2.2.1 3 rfl ?_
    refine R_callV (mc := 0) (ms := 0) (mc' := 0) (ms' := 0) (M' := M_X12_four) (d' := 0) (as := [vI l3]) (st := []) 12 1 e_X12_feed_1.2.2.2.2.2.2.1 (kCVof m_X12_four l_X12_120) rfl (by decide) km_0 (by decide) (by decide) rfl rfl (by show (0 : Nat) ≤ 8; decide) ?_
    refine Run.mono h (fun r6 s7 h => ?_)
    refine R_eqs (st2 := []) rfl rfl ?_
    refine R_aload_n e_X12_feed_1.2.2.2.2.2.2.2.1 0 rfl ?_
    refine R_iload e_X12_feed_1.2.2.2.2.2.2.2.2.1 4 rfl ?_
    refine R_callV (mc := 0) (ms := 0) (mc' := 0) (ms' := 0) (M' := M_X12_four) (d' := 0) (as := [vI l4]) (st := []) 12 1 e_X12_feed_1.2.2.2.2.2.2.2.2.2 (kCVof m_X12_four l_X12_120) rfl (by decide) km_0 (by decide) (by decide) rfl rfl (by show (0 : Nat) ≤ 8; decide) ?_
    refine Run.mono h (fun r8 s9 h => ?_)
    refine R_eqs (st2 := []) rfl rfl ?_
    refine R_aload_n e_X12_feed_2.1 0 rfl ?_
    refine R_iload e_X12_feed_2.2.1 5 rfl ?_
    refine R_callV (mc := 0) (ms := 0) (mc' := 0) (ms' := 0) (M' := M_X12_four) (d' := 0) (as := [vI l5]) (st := []) 12 1 e_X12_feed_2.2.2.1 (kCVof m_X12_four l_X12_120) rfl (by decide) km_0 (by decide) (by decide) rfl rfl (by show (0 : Nat) ≤ 8; decide) ?_
    refine Run.mono h (fun r10 s11 h => ?_)
    refine R_eqs (st2 := []) rfl rfl ?_
    refine R_aload_n e_X12_feed_2.2.2.2.1 0 rfl ?_
    refine R_getI 12 10 10 e_X12_feed_2.2.2.2.2.1 f_X12_117 km_0 (fun _ _ => rfl) rfl ?_
    exact R_ireturn e_X12_feed_2.2.2.2.2.2 rfl h
  · replace h := h.2 q
    refine R_iconst e_X12_feed_0.2.2.2.2.2.2.1 ?_
    exact R_ireturn e_X12_feed_0.2.2.2.2.2.2.2.1 rfl h
/-! KiteLandModel.ahead()V -/
theorem e_X12_ahead_0 : decode cX12_ahead 0 = .ok (.aload_n 0, 1) ∧ decode cX12_ahead 1 = .ok (.aload_n 0, 1) ∧ decode cX12_ahead 2 = .ok (.getfield 126, 3) ∧ decode cX12_ahead 5 = .ok (.invokevirtual 129, 3) ∧ decode cX12_ahead 8 = .ok (.bipush 32, 2) ∧ decode cX12_ahead 10 = .ok (.if_icmp .eq 16, 3) ∧ decode cX12_ahead 13 = .ok (.aload_n 0, 1) ∧ decode cX12_ahead 14 = .ok (.aload_n 0, 1) ∧ decode cX12_ahead 15 = .ok (.getfield 126, 3) ∧ decode cX12_ahead 18 = .ok (.invokevirtual 129, 3) := by decide +kernel
theorem e_X12_ahead_1 : decode cX12_ahead 21 = .ok (.bipush 10, 2) ∧ decode cX12_ahead 23 = .ok (.if_icmp .ne 16, 3) ∧ decode cX12_ahead 26 = .ok (.aload_n 0, 1) ∧ decode cX12_ahead 27 = .ok (.dup, 1) ∧ decode cX12_ahead 28 = .ok (.getfield 126, 3) ∧ decode cX12_ahead 31 = .ok (.iconst 1, 1) ∧ decode cX12_ahead 32 = .ok (.iadd, 1) ∧ decode cX12_ahead 33 = .ok (.putfield 126, 3) ∧ decode cX12_ahead 36 = .ok (.goto (-36), 3) ∧ decode cX12_ahead 39 = .ok (.aload_n 0, 1) := by decide +kernel
theorem e_X12_ahead_2 : decode cX12_ahead 40 = .ok (.aload_n 0, 1) ∧ decode cX12_ahead 41 = .ok (.getfield 126, 3) ∧ decode cX12_ahead 44 = .ok (.putfield 132, 3) ∧ decode cX12_ahead 47 = .ok (.aload_n 0, 1) ∧ decode cX12_ahead 48 = .ok (.aload_n 0, 1) ∧ decode cX12_ahead 49 = .ok (.getfield 126, 3) ∧ decode cX12_ahead 52 = .ok (.invokevirtual 129, 3) ∧ decode cX12_ahead 55 = .ok (.istore_n 1, 1) ∧ decode cX12_ahead 56 = .ok (.aload_n 0, 1) ∧ decode cX12_ahead 57 = .ok (.iload_n 1, 1) := by decide +kernel
theorem e_X12_ahead_3 : decode cX12_ahead 58 = .ok (.putfield 135, 3) ∧ decode cX12_ahead 61 = .ok (.iload_n 1, 1) ∧ decode cX12_ahead 62 = .ok (.iconst (-1), 1) ∧ decode cX12_ahead 63 = .ok (.if_icmp .ne 11, 3) ∧ decode cX12_ahead 66 = .ok (.aload_n 0, 1) ∧ decode cX12_ahead 67 = .ok (.iconst 0, 1) ∧ decode cX12_ahead 68 = .ok (.putfield 138, 3) ∧ decode cX12_ahead 71 = .ok (.goto 180, 3) ∧ decode cX12_ahead 74 = .ok (.iload_n 1, 1) ∧ decode cX12_ahead 75 = .ok (.invokestatic 141, 3) := by decide +kernel
theorem e_X12_ahead_4 : decode cX12_ahead 78 = .ok (.ifCond .eq 38, 3) ∧ decode cX12_ahead 81 = .ok (.aload_n 0, 1) ∧ decode cX12_ahead 82 = .ok (.aload_n 0, 1) ∧ decode cX12_ahead 83 = .ok (.getfield 126, 3) ∧ decode cX12_ahead 86 = .ok (.invokevirtual 129, 3) ∧ decode cX12_ahead 89 = .ok (.invokestatic 141, 3) ∧ decode cX12_ahead 92 = .ok (.ifCond .eq 16, 3) ∧ decode cX12_ahead 95 = .ok (.aload_n 0, 1) ∧ decode cX12_ahead 96 = .ok (.dup, 1) ∧ decode cX12_ahead 97 = .ok (.getfield 126, 3) := by decide +kernel
theorem e_X12_ahead_5 : decode cX12_ahead 100 = .ok (.iconst 1, 1) ∧ decode cX12_ahead 101 = .ok (.iadd, 1) ∧ decode cX12_ahead 102 = .ok (.putfield 126, 3) ∧ decode cX12_ahead 105 = .ok (.goto (-24), 3) ∧ decode cX12_ahead 108 = .ok (.aload_n 0, 1) ∧ decode cX12_ahead 109 = .ok (.iconst 2, 1) ∧ decode cX12_ahead 110 = .ok (.putfield 138, 3) ∧ decode cX12_ahead 113 = .ok (.goto 138, 3) ∧ decode cX12_ahead 116 = .ok (.iload_n 1, 1) ∧ decode cX12_ahead 117 = .ok (.invokestatic 144, 3) := by decide +kernel
theorem e_X12_ahead_6 : decode cX12_ahead 120 = .ok (.ifCond .eq 88, 3) ∧ decode cX12_ahead 123 = .ok (.aload_n 0, 1) ∧ decode cX12_ahead 124 = .ok (.iconst 0, 1) ∧ decode cX12_ahead 125 = .ok (.putfield 135, 3) ∧ decode cX12_ahead 128 = .ok (.aload_n 0, 1) ∧ decode cX12_ahead 129 = .ok (.aload_n 0, 1) ∧ decode cX12_ahead 130 = .ok (.getfield 126, 3) ∧ decode cX12_ahead 133 = .ok (.invokevirtual 129, 3) ∧ decode cX12_ahead 136 = .ok (.invokestatic 144, 3) ∧ decode cX12_ahead 139 = .ok (.ifCond .eq 44, 3) := by decide +kernel
theorem e_X12_ahead_7 : decode cX12_ahead 142 = .ok (.aload_n 0, 1) ∧ decode cX12_ahead 143 = .ok (.ldc 147, 2) ∧ decode cX12_ahead 145 = .ok (.bipush 10, 2) ∧ decode cX12_ahead 147 = .ok (.aload_n 0, 1) ∧ decode cX12_ahead 148 = .ok (.getfield 135, 3) ∧ decode cX12_ahead 151 = .ok (.imul, 1) ∧ decode cX12_ahead 152 = .ok (.aload_n 0, 1) ∧ decode cX12_ahead 153 = .ok (.aload_n 0, 1) ∧ decode cX12_ahead 154 = .ok (.getfield 126, 3) ∧ decode cX12_ahead 157 = .ok (.invokevirtual 129, 3) := by decide +kernel
theorem e_X12_ahead_8 : decode cX12_ahead 160 = .ok (.iadd, 1) ∧ decode cX12_ahead 161 = .ok (.bipush 48, 2) ∧ decode cX12_ahead 163 = .ok (.isub, 1) ∧ decode cX12_ahead 164 = .ok (.invokestatic 148, 3) ∧ decode cX12_ahead 167 = .ok (.putfield 135, 3) ∧ decode cX12_ahead 170 = .ok (.aload_n 0, 1) ∧ decode cX12_ahead 171 = .ok (.dup, 1) ∧ decode cX12_ahead 172 = .ok (.getfield 126, 3) ∧ decode cX12_ahead 175 = .ok (.iconst 1, 1) ∧ decode cX12_ahead 176 = .ok (.iadd, 1) := by decide +kernel
theorem e_X12_ahead_9 : decode cX12_ahead 177 = .ok (.putfield 126, 3) ∧ decode cX12_ahead 180 = .ok (.goto (-52), 3) ∧ decode cX12_ahead 183 = .ok (.aload_n 0, 1) ∧ decode cX12_ahead 184 = .ok (.aload_n 0, 1) ∧ decode cX12_ahead 185 = .ok (.getfield 126, 3) ∧ decode cX12_ahead 188 = .ok (.aload_n 0, 1) ∧ decode cX12_ahead 189 = .ok (.getfield 132, 3) ∧ decode cX12_ahead 192 = .ok (.isub, 1) ∧ decode cX12_ahead 193 = .ok (.iconst 4, 1) ∧ decode cX12_ahead 194 = .ok (.if_icmp .le 7, 3) := by decide +kernel
theorem e_X12_ahead_10 : decode cX12_ahead 197 = .ok (.iconst 1, 1) ∧ decode cX12_ahead 198 = .ok (.goto 4, 3) ∧ decode cX12_ahead 201 = .ok (.iconst 3, 1) ∧ decode cX12_ahead 202 = .ok (.putfield 138, 3) ∧ decode cX12_ahead 205 = .ok (.goto 46, 3) ∧ decode cX12_ahead 208 = .ok (.aload_n 0, 1) ∧ decode cX12_ahead 209 = .ok (.dup, 1) ∧ decode cX12_ahead 210 = .ok (.getfield 126, 3) ∧ decode cX12_ahead 213 = .ok (.iconst 1, 1) ∧ decode cX12_ahead 214 = .ok (.iadd, 1) := by decide +kernel
theorem e_X12_ahead_11 : decode cX12_ahead 215 = .ok (.putfield 126, 3) ∧ decode cX12_ahead 218 = .ok (.aload_n 0, 1) ∧ decode cX12_ahead 219 = .ok (.iload_n 1, 1) ∧ decode cX12_ahead 220 = .ok (.bipush 59, 2) ∧ decode cX12_ahead 222 = .ok (.if_icmp .eq 21, 3) ∧ decode cX12_ahead 225 = .ok (.iload_n 1, 1) ∧ decode cX12_ahead 226 = .ok (.bipush 60, 2) ∧ decode cX12_ahead 228 = .ok (.if_icmp .eq 15, 3) ∧ decode cX12_ahead 231 = .ok (.iload_n 1, 1) ∧ decode cX12_ahead 232 = .ok (.bipush 62, 2) := by decide +kernel
theorem e_X12_ahead_12 : decode cX12_ahead 234 = .ok (.if_icmp .eq 9, 3) ∧ decode cX12_ahead 237 = .ok (.iload_n 1, 1) ∧ decode cX12_ahead 238 = .ok (.bipush 61, 2) ∧ decode cX12_ahead 240 = .ok (.if_icmp .ne 7, 3) ∧ decode cX12_ahead 243 = .ok (.iconst 4, 1) ∧ decode cX12_ahead 244 = .ok (.goto 4, 3) ∧ decode cX12_ahead 247 = .ok (.iconst 1, 1) ∧ decode cX12_ahead 248 = .ok (.putfield 138, 3) ∧ decode cX12_ahead 251 = .ok (.return_, 1) := by decide +kernel
abbrev E_X12_ahead_0 (G : Kg) (σ : Kmem) (Q : Int → Kmem → Prop) : Prop := Ex G WM M_X12_ahead 1 0 0 0 [(0, vA G 0)] [] σ Q
abbrev E_X12_ahead_81 (G : Kg) (σ : Kmem) (Q : Int → Kmem → Prop) : Prop := Ex G WM M_X12_ahead 1 0 0 81 [(0, vA G 0)] [] σ Q
abbrev E_X12_ahead_128 (G : Kg) (σ : Kmem) (Q : Int → Kmem → Prop) : Prop := Ex G WM M_X12_ahead 1 0 0 128 [(0, vA G 0)] [] σ Q
theorem S_X12_ahead {G : Kg} {σ : Kmem} {Q : Int → Kmem → Prop}  (h : (txt σ ∧ (0 : Int) ≤ (σ 0 14) ∧ ((σ 0 14) : Int) ≤ 2000) ∧ (rI (bA σ ((σ 0 14)))) ∧ ((bA σ ((σ 0 14)) = 32 → ∀ m5 : Kmem, m5 = (kup σ 0 14 ((σ 0 14) + 1)) → E_X12_ahead_0 G m5 Q) ∧ (bA σ ((σ 0 14)) ≠ 32 → (txt σ ∧ (0 : Int) ≤ (σ 0 14) ∧ ((σ 0 14) : Int) ≤ 2000) ∧ ((bA σ ((σ 0 14)) ≠ 10 → ∀ m10 : Kmem, m10 = (kup σ 0 13 (σ 0 14)) → (txt m10 ∧ (0 : Int) ≤ (m10 0 14) ∧ ((m10 0 14) : Int) ≤ 2000) ∧ ∀ m15 : Kmem, m15 = (kup m10 0 15 (bA m10 ((m10 0 14)))) → (rI (bA m10 ((m10 0 14)))) ∧ ((bA m10 ((m10 0 14)) ≠ -1 → (rI (bA m10 ((m10 0 14)))) ∧ ((¬ (97 ≤ (bA m10 ((m10 0 14))) ∧ ((bA m10 ((m10 0 14))) : Int) ≤ 122) → (rI (bA m10 ((m10 0 14)))) ∧ ((¬ (48 ≤ (bA m10 ((m10 0 14))) ∧ ((bA m10 ((m10 0 14))) : Int) ≤ 57) → ∀ m24 : Kmem, m24 = (kup m15 0 14 ((m15 0 14) + 1)) → ((bA m10 ((m10 0 14)) = 59 → ∀ m26 : Kmem, m26 = (kup m24 0 12 4) → Q 0 m26) ∧ (bA m10 ((m10 0 14)) ≠ 59 → ((bA m10 ((m10 0 14)) = 60 → ∀ m28 : Kmem, m28 = (kup m24 0 12 4) → Q 0 m28) ∧ (bA m10 ((m10 0 14)) ≠ 60 → ((bA m10 ((m10 0 14)) = 62 → ∀ m30 : Kmem, m30 = (kup m24 0 12 4) → Q 0 m30) ∧ (bA m10 ((m10 0 14)) ≠ 62 → ((bA m10 ((m10 0 14)) ≠ 61 → ∀ m32 : Kmem, m32 = (kup m24 0 12 1) → Q 0 m32) ∧ (bA m10 ((m10 0 14)) = 61 → ∀ m34 : Kmem, m34 = (kup m24 0 12 4) → Q 0 m34))))))))) ∧ ((48 ≤ (bA m10 ((m10 0 14))) ∧ ((bA m10 ((m10 0 14))) : Int) ≤ 57) → ∀ m36 : Kmem, m36 = (kup m15 0 15 0) → E_X12_ahead_128 G m36 Q))) ∧ ((97 ≤ (bA m10 ((m10 0 14))) ∧ ((bA m10 ((m10 0 14))) : Int) ≤ 122) → E_X12_ahead_81 G m15 Q))) ∧ (bA m10 ((m10 0 14)) = -1 → ∀ m38 : Kmem, m38 = (kup m15 0 12 0) → Q 0 m38))) ∧ (bA σ ((σ 0 14)) = 10 → ∀ m40 : Kmem, m40 = (kup σ 0 14 ((σ 0 14) + 1)) → E_X12_ahead_0 G m40 Q))))) : Run G WM M_X12_ahead 1 0 0 [vA G 0] σ Q := by
  refine Run.of (by decide +kernel) (by show (1 : Nat) ≤ 2; decide) ?_
  show Ex G WM M_X12_ahead 1 0 0 0 [(0, vA G 0)] [] σ Q
  refine R_aload_n e_X12_ahead_0.1 0 rfl ?_
  refine R_aload_n e_X12_ahead_0.2.1 0 rfl ?_
  refine R_getI 12 14 14 e_X12_ahead_0.2.2.1 f_X12_126 km_0 (fun _ _ => rfl) rfl ?_
  obtain ⟨q3, h⟩ := h
  refine R_callV (mc := 0) (ms := 0) (mc' := 0) (ms' := 0) (M' := M_X12_byteAt) (d' := 0) (as := [vI (σ 0 14)]) (st := []) 12 1 e_X12_ahead_0.2.2.2.1 (kCVof m_X12_byteAt l_X12_129) rfl (by decide) km_0 (by decide) (by decide) rfl rfl (by show (0 : Nat) ≤ 8; decide) ?_
  refine Run.mono (P_X12_byteAt q3) (fun r s e => ?_)
  obtain ⟨e1, e2⟩ := e
  refine R_eqs (st2 := [vI (bA σ ((σ 0 14)))]) (σ2 := σ) (by rw [e1]; rfl) e2 ?_
  refine R_bipush e_X12_ahead_0.2.2.2.2.1 (by decide) ?_
  obtain ⟨q4, h⟩ := h
  refine R_icmp_eq 26 e_X12_ahead_0.2.2.2.2.2.1 (by decide) q4 (by decide) (fun q => ?_) (fun q => ?_)
  · replace h := h.1 q
    refine R_aload_n e_X12_ahead_1.2.2.1 0 rfl ?_
    refine R_dup e_X12_ahead_1.2.2.2.1 rfl ?_
    refine R_getI 12 14 14 e_X12_ahead_1.2.2.2.2.1 f_X12_126 km_0 (fun _ _ => rfl) rfl ?_
    refine R_iconst e_X12_ahead_1.2.2.2.2.2.1 ?_
    refine R_iadd e_X12_ahead_1.2.2.2.2.2.2.1 ?_
    refine R_putI 12 14 14 WM_ok e_X12_ahead_1.2.2.2.2.2.2.2.1 f_X12_126 km_0 rfl rfl rfl ?_
    obtain ⟨m5, e6⟩ : ∃ z : Kmem, z = (kup σ 0 14 ((σ 0 14) + 1)) := ⟨_, rfl⟩
    rw [← e6]
    replace h := h m5 e6
    refine R_goto 0 e_X12_ahead_1.2.2.2.2.2.2.2.2.1 (by decide) ?_
    refine R_ls (ls2 := [(0, vA G 0)]) [0] rfl ?_
    exact h
  · replace h := h.2 q
    refine R_aload_n e_X12_ahead_0.2.2.2.2.2.2.1 0 rfl ?_
    refine R_aload_n e_X12_ahead_0.2.2.2.2.2.2.2.1 0 rfl ?_
    refine R_getI 12 14 14 e_X12_ahead_0.2.2.2.2.2.2.2.2.1 f_X12_126 km_0 (fun _ _ => rfl) rfl ?_
    obtain ⟨q9, h⟩ := h
    refine R_callV (mc := 0) (ms := 0) (mc' := 0) (ms' := 0) (M' := M_X12_byteAt) (d' := 0) (as := [vI (σ 0 14)]) (st := []) 12 1 e_X12_ahead_0.2.2.2.2.2.2.2.2.2 (kCVof m_X12_byteAt l_X12_129) rfl (by decide) km_0 (by decide) (by decide) rfl rfl (by show (0 : Nat) ≤ 8; decide) ?_
    refine Run.mono (P_X12_byteAt q9) (fun r s e => ?_)
    obtain ⟨e1, e2⟩ := e
    refine R_eqs (st2 := [vI (bA σ ((σ 0 14)))]) (σ2 := σ) (by rw [e1]; rfl) e2 ?_
    refine R_bipush e_X12_ahead_1.1 (by decide) ?_
    refine R_icmp_ne 39 e_X12_ahead_1.2.1 (by decide) q4 (by decide) (fun q => ?_) (fun q => ?_)
    · replace h := h.1 q
      refine R_aload_n e_X12_ahead_1.2.2.2.2.2.2.2.2.2 0 rfl ?_
      refine R_aload_n e_X12_ahead_2.1 0 rfl ?_
      refine R_getI 12 14 14 e_X12_ahead_2.2.1 f_X12_126 km_0 (fun _ _ => rfl) rfl ?_
      refine R_putI 12 13 13 WM_ok e_X12_ahead_2.2.2.1 f_X12_132 km_0 rfl rfl rfl ?_
      obtain ⟨m10, e11⟩ : ∃ z : Kmem, z = (kup σ 0 13 (σ 0 14)) := ⟨_, rfl⟩
      rw [← e11]
      replace h := h m10 e11
      refine R_aload_n e_X12_ahead_2.2.2.2.1 0 rfl ?_
      refine R_aload_n e_X12_ahead_2.2.2.2.2.1 0 rfl ?_
      refine R_getI 12 14 14 e_X12_ahead_2.2.2.2.2.2.1 f_X12_126 km_0 (fun _ _ => rfl) rfl ?_
      obtain ⟨q14, h⟩ := h
      refine R_callV (mc := 0) (ms := 0) (mc' := 0) (ms' := 0) (M' := M_X12_byteAt) (d' := 0) (as := [vI (m10 0 14)]) (st := []) 12 1 e_X12_ahead_2.2.2.2.2.2.2.1 (kCVof m_X12_byteAt l_X12_129) rfl (by decide) km_0 (by decide) (by decide) rfl rfl (by show (0 : Nat) ≤ 8; decide) ?_
      refine Run.mono (P_X12_byteAt q14) (fun r s e => ?_)
      obtain ⟨e1, e2⟩ := e
      refine R_eqs (st2 := [vI (bA m10 ((m10 0 14)))]) (σ2 := m10) (by rw [e1]; rfl) e2 ?_
      refine R_istore_n (ls2 := [(1, vI (bA m10 ((m10 0 14)))), (0, vA G 0)]) e_X12_ahead_2.2.2.2.2.2.2.2.1 (by decide) rfl ?_
      refine R_aload_n e_X12_ahead_2.2.2.2.2.2.2.2.2.1 1 rfl ?_
      refine R_iload_n e_X12_ahead_2.2.2.2.2.2.2.2.2.2 0 rfl ?_
      refine R_putI 12 15 15 WM_ok e_X12_ahead_3.1 f_X12_135 km_0 rfl rfl rfl ?_
      obtain ⟨m15, e16⟩ : ∃ z : Kmem, z = (kup m10 0 15 (bA m10 ((m10 0 14)))) := ⟨_, rfl⟩
      rw [← e16]
      replace h := h m15 e16
      refine R_iload_n e_X12_ahead_3.2.1 0 rfl ?_
      refine R_iconst e_X12_ahead_3.2.2.1 ?_
      obtain ⟨q17, h⟩ := h
      refine R_icmp_ne 74 e_X12_ahead_3.2.2.2.1 (by decide) q17 (by decide) (fun q => ?_) (fun q => ?_)
      · replace h := h.1 q
        refine R_iload_n e_X12_ahead_3.2.2.2.2.2.2.2.2.1 0 rfl ?_
        obtain ⟨q20, h⟩ := h
        refine R_callS (mc := 0) (ms := 0) (mc' := 0) (ms' := 0) (M' := M_X12_isSmall) (d' := 0) (as := [vI (bA m10 ((m10 0 14)))]) (st := []) 1 e_X12_ahead_3.2.2.2.2.2.2.2.2.2 (kCSof m_X12_isSmall l_X12_141) (by decide) (by decide) rfl rfl (by show (0 : Nat) ≤ 8; decide) ?_
        refine Run.mono (P_X12_isSmall q20) (fun r s e => ?_)
        obtain ⟨e1, e2⟩ := e
        refine R_eqs (st2 := [vI (kb (97 ≤ (bA m10 ((m10 0 14))) ∧ ((bA m10 ((m10 0 14))) : Int) ≤ 122))]) (σ2 := m15) (by rw [e1]; rfl) e2 ?_
        refine R_if_eq 116 e_X12_ahead_4.1 (by decide) (kb_r _) (fun q => ?_) (fun q => ?_)
        · replace h := h.1 (kb_f q)
          refine R_iload_n e_X12_ahead_5.2.2.2.2.2.2.2.2.1 0 rfl ?_
          obtain ⟨q23, h⟩ := h
          refine R_callS (mc := 0) (ms := 0) (mc' := 0) (ms' := 0) (M' := M_X12_isDigit) (d' := 0) (as := [vI (bA m10 ((m10 0 14)))]) (st := []) 1 e_X12_ahead_5.2.2.2.2.2.2.2.2.2 (kCSof m_X12_isDigit l_X12_144) (by decide) (by decide) rfl rfl (by show (0 : Nat) ≤ 8; decide) ?_
          refine Run.mono (P_X12_isDigit q23) (fun r s e => ?_)
          obtain ⟨e1, e2⟩ := e
          refine R_eqs (st2 := [vI (kb (48 ≤ (bA m10 ((m10 0 14))) ∧ ((bA m10 ((m10 0 14))) : Int) ≤ 57))]) (σ2 := m15) (by rw [e1]; rfl) e2 ?_
          refine R_if_eq 208 e_X12_ahead_6.1 (by decide) (kb_r _) (fun q => ?_) (fun q => ?_)
          · replace h := h.1 (kb_f q)
            refine R_aload_n e_X12_ahead_10.2.2.2.2.2.1 1 rfl ?_
            refine R_dup e_X12_ahead_10.2.2.2.2.2.2.1 rfl ?_
            refine R_getI 12 14 14 e_X12_ahead_10.2.2.2.2.2.2.2.1 f_X12_126 km_0 (fun _ _ => rfl) rfl ?_
            refine R_iconst e_X12_ahead_10.2.2.2.2.2.2.2.2.1 ?_
            refine R_iadd e_X12_ahead_10.2.2.2.2.2.2.2.2.2 ?_
            refine R_putI 12 14 14 WM_ok e_X12_ahead_11.1 f_X12_126 km_0 rfl rfl rfl ?_
            obtain ⟨m24, e25⟩ : ∃ z : Kmem, z = (kup m15 0 14 ((m15 0 14) + 1)) := ⟨_, rfl⟩
            rw [← e25]
            replace h := h m24 e25
            refine R_aload_n e_X12_ahead_11.2.1 1 rfl ?_
            refine R_iload_n e_X12_ahead_11.2.2.1 0 rfl ?_
            refine R_bipush e_X12_ahead_11.2.2.2.1 (by decide) ?_
            refine R_icmp_eq 243 e_X12_ahead_11.2.2.2.2.1 (by decide) q17 (by decide) (fun q => ?_) (fun q => ?_)
            · replace h := h.1 q
              refine R_iconst e_X12_ahead_12.2.2.2.2.1 ?_
              refine R_goto 248 e_X12_ahead_12.2.2.2.2.2.1 (by decide) ?_
              refine R_putI 12 12 12 WM_ok e_X12_ahead_12.2.2.2.2.2.2.2.1 f_X12_138 km_0 rfl rfl rfl ?_
              obtain ⟨m26, e27⟩ : ∃ z : Kmem, z = (kup m24 0 12 4) := ⟨_, rfl⟩
              rw [← e27]
              replace h := h m26 e27
              exact R_return e_X12_ahead_12.2.2.2.2.2.2.2.2 rfl h
            · replace h := h.2 q
              refine R_iload_n e_X12_ahead_11.2.2.2.2.2.1 0 rfl ?_
              refine R_bipush e_X12_ahead_11.2.2.2.2.2.2.1 (by decide) ?_
              refine R_icmp_eq 243 e_X12_ahead_11.2.2.2.2.2.2.2.1 (by decide) q17 (by decide) (fun q => ?_) (fun q => ?_)
              · replace h := h.1 q
                refine R_iconst e_X12_ahead_12.2.2.2.2.1 ?_
                refine R_goto 248 e_X12_ahead_12.2.2.2.2.2.1 (by decide) ?_
                refine R_putI 12 12 12 WM_ok e_X12_ahead_12.2.2.2.2.2.2.2.1 f_X12_138 km_0 rfl rfl rfl ?_
                obtain ⟨m28, e29⟩ : ∃ z : Kmem, z = (kup m24 0 12 4) := ⟨_, rfl⟩
                rw [← e29]
                replace h := h m28 e29
                exact R_return e_X12_ahead_12.2.2.2.2.2.2.2.2 rfl h
              · replace h := h.2 q
                refine R_iload_n e_X12_ahead_11.2.2.2.2.2.2.2.2.1 0 rfl ?_
                refine R_bipush e_X12_ahead_11.2.2.2.2.2.2.2.2.2 (by decide) ?_
                refine R_icmp_eq 243 e_X12_ahead_12.1 (by decide) q17 (by decide) (fun q => ?_) (fun q => ?_)
                · replace h := h.1 q
                  refine R_iconst e_X12_ahead_12.2.2.2.2.1 ?_
                  refine R_goto 248 e_X12_ahead_12.2.2.2.2.2.1 (by decide) ?_
                  refine R_putI 12 12 12 WM_ok e_X12_ahead_12.2.2.2.2.2.2.2.1 f_X12_138 km_0 rfl rfl rfl ?_
                  obtain ⟨m30, e31⟩ : ∃ z : Kmem, z = (kup m24 0 12 4) := ⟨_, rfl⟩
                  rw [← e31]
                  replace h := h m30 e31
                  exact R_return e_X12_ahead_12.2.2.2.2.2.2.2.2 rfl h
                · replace h := h.2 q
                  refine R_iload_n e_X12_ahead_12.2.1 0 rfl ?_
                  refine R_bipush e_X12_ahead_12.2.2.1 (by decide) ?_
                  refine R_icmp_ne 247 e_X12_ahead_12.2.2.2.1 (by decide) q17 (by decide) (fun q => ?_) (fun q => ?_)
                  · replace h := h.1 q
                    refine R_iconst e_X12_ahead_12.2.2.2.2.2.2.1 ?_
                    refine R_putI 12 12 12 WM_ok e_X12_ahead_12.2.2.2.2.2.2.2.1 f_X12_138 km_0 rfl rfl rfl ?_
                    obtain ⟨m32, e33⟩ : ∃ z : Kmem, z = (kup m24 0 12 1) := ⟨_, rfl⟩
                    rw [← e33]
                    replace h := h m32 e33
                    exact R_return e_X12_ahead_12.2.2.2.2.2.2.2.2 rfl h
                  · replace h := h.2 q
                    refine R_iconst e_X12_ahead_12.2.2.2.2.1 ?_
                    refine R_goto 248 e_X12_ahead_12.2.2.2.2.2.1 (by decide) ?_
                    refine R_putI 12 12 12 WM_ok e_X12_ahead_12.2.2.2.2.2.2.2.1 f_X12_138 km_0 rfl rfl rfl ?_
                    obtain ⟨m34, e35⟩ : ∃ z : Kmem, z = (kup m24 0 12 4) := ⟨_, rfl⟩
                    rw [← e35]
                    replace h := h m34 e35
                    exact R_return e_X12_ahead_12.2.2.2.2.2.2.2.2 rfl h
          · replace h := h.2 (kb_t q)
            refine R_aload_n e_X12_ahead_6.2.1 1 rfl ?_
            refine R_iconst e_X12_ahead_6.2.2.1 ?_
            refine R_putI 12 15 15 WM_ok e_X12_ahead_6.2.2.2.1 f_X12_135 km_0 rfl rfl rfl ?_
            obtain ⟨m36, e37⟩ : ∃ z : Kmem, z = (kup m15 0 15 0) := ⟨_, rfl⟩
            rw [← e37]
            replace h := h m36 e37
            refine R_ls (ls2 := [(0, vA G 0)]) [1] rfl ?_
            exact h
        · replace h := h.2 (kb_t q)
          refine R_ls (ls2 := [(0, vA G 0)]) [1] rfl ?_
          exact h
      · replace h := h.2 q
        refine R_aload_n e_X12_ahead_3.2.2.2.2.1 1 rfl ?_
        refine R_iconst e_X12_ahead_3.2.2.2.2.2.1 ?_
        refine R_putI 12 12 12 WM_ok e_X12_ahead_3.2.2.2.2.2.2.1 f_X12_138 km_0 rfl rfl rfl ?_
        obtain ⟨m38, e39⟩ : ∃ z : Kmem, z = (kup m15 0 12 0) := ⟨_, rfl⟩
        rw [← e39]
        replace h := h m38 e39
        refine R_goto 251 e_X12_ahead_3.2.2.2.2.2.2.2.1 (by decide) ?_
        exact R_return e_X12_ahead_12.2.2.2.2.2.2.2.2 rfl h
    · replace h := h.2 q
      refine R_aload_n e_X12_ahead_1.2.2.1 0 rfl ?_
      refine R_dup e_X12_ahead_1.2.2.2.1 rfl ?_
      refine R_getI 12 14 14 e_X12_ahead_1.2.2.2.2.1 f_X12_126 km_0 (fun _ _ => rfl) rfl ?_
      refine R_iconst e_X12_ahead_1.2.2.2.2.2.1 ?_
      refine R_iadd e_X12_ahead_1.2.2.2.2.2.2.1 ?_
      refine R_putI 12 14 14 WM_ok e_X12_ahead_1.2.2.2.2.2.2.2.1 f_X12_126 km_0 rfl rfl rfl ?_
      obtain ⟨m40, e41⟩ : ∃ z : Kmem, z = (kup σ 0 14 ((σ 0 14) + 1)) := ⟨_, rfl⟩
      rw [← e41]
      replace h := h m40 e41
      refine R_goto 0 e_X12_ahead_1.2.2.2.2.2.2.2.2.1 (by decide) ?_
      refine R_ls (ls2 := [(0, vA G 0)]) [0] rfl ?_
      exact h
theorem S_X12_ahead_0 {G : Kg} {σ : Kmem} {Q : Int → Kmem → Prop}  (h : (txt σ ∧ (0 : Int) ≤ (σ 0 14) ∧ ((σ 0 14) : Int) ≤ 2000) ∧ (rI (bA σ ((σ 0 14)))) ∧ ((bA σ ((σ 0 14)) = 32 → ∀ m46 : Kmem, m46 = (kup σ 0 14 ((σ 0 14) + 1)) → E_X12_ahead_0 G m46 Q) ∧ (bA σ ((σ 0 14)) ≠ 32 → (txt σ ∧ (0 : Int) ≤ (σ 0 14) ∧ ((σ 0 14) : Int) ≤ 2000) ∧ ((bA σ ((σ 0 14)) ≠ 10 → ∀ m51 : Kmem, m51 = (kup σ 0 13 (σ 0 14)) → (txt m51 ∧ (0 : Int) ≤ (m51 0 14) ∧ ((m51 0 14) : Int) ≤ 2000) ∧ ∀ m56 : Kmem, m56 = (kup m51 0 15 (bA m51 ((m51 0 14)))) → (rI (bA m51 ((m51 0 14)))) ∧ ((bA m51 ((m51 0 14)) ≠ -1 → (rI (bA m51 ((m51 0 14)))) ∧ ((¬ (97 ≤ (bA m51 ((m51 0 14))) ∧ ((bA m51 ((m51 0 14))) : Int) ≤ 122) → (rI (bA m51 ((m51 0 14)))) ∧ ((¬ (48 ≤ (bA m51 ((m51 0 14))) ∧ ((bA m51 ((m51 0 14))) : Int) ≤ 57) → ∀ m65 : Kmem, m65 = (kup m56 0 14 ((m56 0 14) + 1)) → ((bA m51 ((m51 0 14)) = 59 → ∀ m67 : Kmem, m67 = (kup m65 0 12 4) → Q 0 m67) ∧ (bA m51 ((m51 0 14)) ≠ 59 → ((bA m51 ((m51 0 14)) = 60 → ∀ m69 : Kmem, m69 = (kup m65 0 12 4) → Q 0 m69) ∧ (bA m51 ((m51 0 14)) ≠ 60 → ((bA m51 ((m51 0 14)) = 62 → ∀ m71 : Kmem, m71 = (kup m65 0 12 4) → Q 0 m71) ∧ (bA m51 ((m51 0 14)) ≠ 62 → ((bA m51 ((m51 0 14)) ≠ 61 → ∀ m73 : Kmem, m73 = (kup m65 0 12 1) → Q 0 m73) ∧ (bA m51 ((m51 0 14)) = 61 → ∀ m75 : Kmem, m75 = (kup m65 0 12 4) → Q 0 m75))))))))) ∧ ((48 ≤ (bA m51 ((m51 0 14))) ∧ ((bA m51 ((m51 0 14))) : Int) ≤ 57) → ∀ m77 : Kmem, m77 = (kup m56 0 15 0) → E_X12_ahead_128 G m77 Q))) ∧ ((97 ≤ (bA m51 ((m51 0 14))) ∧ ((bA m51 ((m51 0 14))) : Int) ≤ 122) → E_X12_ahead_81 G m56 Q))) ∧ (bA m51 ((m51 0 14)) = -1 → ∀ m79 : Kmem, m79 = (kup m56 0 12 0) → Q 0 m79))) ∧ (bA σ ((σ 0 14)) = 10 → ∀ m81 : Kmem, m81 = (kup σ 0 14 ((σ 0 14) + 1)) → E_X12_ahead_0 G m81 Q))))) : E_X12_ahead_0 G σ Q := by
  refine R_aload_n e_X12_ahead_0.1 0 rfl ?_
  refine R_aload_n e_X12_ahead_0.2.1 0 rfl ?_
  refine R_getI 12 14 14 e_X12_ahead_0.2.2.1 f_X12_126 km_0 (fun _ _ => rfl) rfl ?_
  obtain ⟨q44, h⟩ := h
  refine R_callV (mc := 0) (ms := 0) (mc' := 0) (ms' := 0) (M' := M_X12_byteAt) (d' := 0) (as := [vI (σ 0 14)]) (st := []) 12 1 e_X12_ahead_0.2.2.2.1 (kCVof m_X12_byteAt l_X12_129) rfl (by decide) km_0 (by decide) (by decide) rfl rfl (by show (0 : Nat) ≤ 8; decide) ?_
  refine Run.mono (P_X12_byteAt q44) (fun r s e => ?_)
  obtain ⟨e1, e2⟩ := e
  refine R_eqs (st2 := [vI (bA σ ((σ 0 14)))]) (σ2 := σ) (by rw [e1]; rfl) e2 ?_
  refine R_bipush e_X12_ahead_0.2.2.2.2.1 (by decide) ?_
  obtain ⟨q45, h⟩ := h
  refine R_icmp_eq 26 e_X12_ahead_0.2.2.2.2.2.1 (by decide) q45 (by decide) (fun q => ?_) (fun q => ?_)
  · replace h := h.1 q
    refine R_aload_n e_X12_ahead_1.2.2.1 0 rfl ?_
    refine R_dup e_X12_ahead_1.2.2.2.1 rfl ?_
    refine R_getI 12 14 14 e_X12_ahead_1.2.2.2.2.1 f_X12_126 km_0 (fun _ _ => rfl) rfl ?_
    refine R_iconst e_X12_ahead_1.2.2.2.2.2.1 ?_
    refine R_iadd e_X12_ahead_1.2.2.2.2.2.2.1 ?_
    refine R_putI 12 14 14 WM_ok e_X12_ahead_1.2.2.2.2.2.2.2.1 f_X12_126 km_0 rfl rfl rfl ?_
    obtain ⟨m46, e47⟩ : ∃ z : Kmem, z = (kup σ 0 14 ((σ 0 14) + 1)) := ⟨_, rfl⟩
    rw [← e47]
    replace h := h m46 e47
    refine R_goto 0 e_X12_ahead_1.2.2.2.2.2.2.2.2.1 (by decide) ?_
    refine R_ls (ls2 := [(0, vA G 0)]) [0] rfl ?_
    exact h
  · replace h := h.2 q
    refine R_aload_n e_X12_ahead_0.2.2.2.2.2.2.1 0 rfl ?_
    refine R_aload_n e_X12_ahead_0.2.2.2.2.2.2.2.1 0 rfl ?_
    refine R_getI 12 14 14 e_X12_ahead_0.2.2.2.2.2.2.2.2.1 f_X12_126 km_0 (fun _ _ => rfl) rfl ?_
    obtain ⟨q50, h⟩ := h
    refine R_callV (mc := 0) (ms := 0) (mc' := 0) (ms' := 0) (M' := M_X12_byteAt) (d' := 0) (as := [vI (σ 0 14)]) (st := []) 12 1 e_X12_ahead_0.2.2.2.2.2.2.2.2.2 (kCVof m_X12_byteAt l_X12_129) rfl (by decide) km_0 (by decide) (by decide) rfl rfl (by show (0 : Nat) ≤ 8; decide) ?_
    refine Run.mono (P_X12_byteAt q50) (fun r s e => ?_)
    obtain ⟨e1, e2⟩ := e
    refine R_eqs (st2 := [vI (bA σ ((σ 0 14)))]) (σ2 := σ) (by rw [e1]; rfl) e2 ?_
    refine R_bipush e_X12_ahead_1.1 (by decide) ?_
    refine R_icmp_ne 39 e_X12_ahead_1.2.1 (by decide) q45 (by decide) (fun q => ?_) (fun q => ?_)
    · replace h := h.1 q
      refine R_aload_n e_X12_ahead_1.2.2.2.2.2.2.2.2.2 0 rfl ?_
      refine R_aload_n e_X12_ahead_2.1 0 rfl ?_
      refine R_getI 12 14 14 e_X12_ahead_2.2.1 f_X12_126 km_0 (fun _ _ => rfl) rfl ?_
      refine R_putI 12 13 13 WM_ok e_X12_ahead_2.2.2.1 f_X12_132 km_0 rfl rfl rfl ?_
      obtain ⟨m51, e52⟩ : ∃ z : Kmem, z = (kup σ 0 13 (σ 0 14)) := ⟨_, rfl⟩
      rw [← e52]
      replace h := h m51 e52
      refine R_aload_n e_X12_ahead_2.2.2.2.1 0 rfl ?_
      refine R_aload_n e_X12_ahead_2.2.2.2.2.1 0 rfl ?_
      refine R_getI 12 14 14 e_X12_ahead_2.2.2.2.2.2.1 f_X12_126 km_0 (fun _ _ => rfl) rfl ?_
      obtain ⟨q55, h⟩ := h
      refine R_callV (mc := 0) (ms := 0) (mc' := 0) (ms' := 0) (M' := M_X12_byteAt) (d' := 0) (as := [vI (m51 0 14)]) (st := []) 12 1 e_X12_ahead_2.2.2.2.2.2.2.1 (kCVof m_X12_byteAt l_X12_129) rfl (by decide) km_0 (by decide) (by decide) rfl rfl (by show (0 : Nat) ≤ 8; decide) ?_
      refine Run.mono (P_X12_byteAt q55) (fun r s e => ?_)
      obtain ⟨e1, e2⟩ := e
      refine R_eqs (st2 := [vI (bA m51 ((m51 0 14)))]) (σ2 := m51) (by rw [e1]; rfl) e2 ?_
      refine R_istore_n (ls2 := [(1, vI (bA m51 ((m51 0 14)))), (0, vA G 0)]) e_X12_ahead_2.2.2.2.2.2.2.2.1 (by decide) rfl ?_
      refine R_aload_n e_X12_ahead_2.2.2.2.2.2.2.2.2.1 1 rfl ?_
      refine R_iload_n e_X12_ahead_2.2.2.2.2.2.2.2.2.2 0 rfl ?_
      refine R_putI 12 15 15 WM_ok e_X12_ahead_3.1 f_X12_135 km_0 rfl rfl rfl ?_
      obtain ⟨m56, e57⟩ : ∃ z : Kmem, z = (kup m51 0 15 (bA m51 ((m51 0 14)))) := ⟨_, rfl⟩
      rw [← e57]
      replace h := h m56 e57
      refine R_iload_n e_X12_ahead_3.2.1 0 rfl ?_
      refine R_iconst e_X12_ahead_3.2.2.1 ?_
      obtain ⟨q58, h⟩ := h
      refine R_icmp_ne 74 e_X12_ahead_3.2.2.2.1 (by decide) q58 (by decide) (fun q => ?_) (fun q => ?_)
      · replace h := h.1 q
        refine R_iload_n e_X12_ahead_3.2.2.2.2.2.2.2.2.1 0 rfl ?_
        obtain ⟨q61, h⟩ := h
        refine R_callS (mc := 0) (ms := 0) (mc' := 0) (ms' := 0) (M' := M_X12_isSmall) (d' := 0) (as := [vI (bA m51 ((m51 0 14)))]) (st := []) 1 e_X12_ahead_3.2.2.2.2.2.2.2.2.2 (kCSof m_X12_isSmall l_X12_141) (by decide) (by decide) rfl rfl (by show (0 : Nat) ≤ 8; decide) ?_
        refine Run.mono (P_X12_isSmall q61) (fun r s e => ?_)
        obtain ⟨e1, e2⟩ := e
        refine R_eqs (st2 := [vI (kb (97 ≤ (bA m51 ((m51 0 14))) ∧ ((bA m51 ((m51 0 14))) : Int) ≤ 122))]) (σ2 := m56) (by rw [e1]; rfl) e2 ?_
        refine R_if_eq 116 e_X12_ahead_4.1 (by decide) (kb_r _) (fun q => ?_) (fun q => ?_)
        · replace h := h.1 (kb_f q)
          refine R_iload_n e_X12_ahead_5.2.2.2.2.2.2.2.2.1 0 rfl ?_
          obtain ⟨q64, h⟩ := h
          refine R_callS (mc := 0) (ms := 0) (mc' := 0) (ms' := 0) (M' := M_X12_isDigit) (d' := 0) (as := [vI (bA m51 ((m51 0 14)))]) (st := []) 1 e_X12_ahead_5.2.2.2.2.2.2.2.2.2 (kCSof m_X12_isDigit l_X12_144) (by decide) (by decide) rfl rfl (by show (0 : Nat) ≤ 8; decide) ?_
          refine Run.mono (P_X12_isDigit q64) (fun r s e => ?_)
          obtain ⟨e1, e2⟩ := e
          refine R_eqs (st2 := [vI (kb (48 ≤ (bA m51 ((m51 0 14))) ∧ ((bA m51 ((m51 0 14))) : Int) ≤ 57))]) (σ2 := m56) (by rw [e1]; rfl) e2 ?_
          refine R_if_eq 208 e_X12_ahead_6.1 (by decide) (kb_r _) (fun q => ?_) (fun q => ?_)
          · replace h := h.1 (kb_f q)
            refine R_aload_n e_X12_ahead_10.2.2.2.2.2.1 1 rfl ?_
            refine R_dup e_X12_ahead_10.2.2.2.2.2.2.1 rfl ?_
            refine R_getI 12 14 14 e_X12_ahead_10.2.2.2.2.2.2.2.1 f_X12_126 km_0 (fun _ _ => rfl) rfl ?_
            refine R_iconst e_X12_ahead_10.2.2.2.2.2.2.2.2.1 ?_
            refine R_iadd e_X12_ahead_10.2.2.2.2.2.2.2.2.2 ?_
            refine R_putI 12 14 14 WM_ok e_X12_ahead_11.1 f_X12_126 km_0 rfl rfl rfl ?_
            obtain ⟨m65, e66⟩ : ∃ z : Kmem, z = (kup m56 0 14 ((m56 0 14) + 1)) := ⟨_, rfl⟩
            rw [← e66]
            replace h := h m65 e66
            refine R_aload_n e_X12_ahead_11.2.1 1 rfl ?_
            refine R_iload_n e_X12_ahead_11.2.2.1 0 rfl ?_
            refine R_bipush e_X12_ahead_11.2.2.2.1 (by decide) ?_
            refine R_icmp_eq 243 e_X12_ahead_11.2.2.2.2.1 (by decide) q58 (by decide) (fun q => ?_) (fun q => ?_)
            · replace h := h.1 q
              refine R_iconst e_X12_ahead_12.2.2.2.2.1 ?_
              refine R_goto 248 e_X12_ahead_12.2.2.2.2.2.1 (by decide) ?_
              refine R_putI 12 12 12 WM_ok e_X12_ahead_12.2.2.2.2.2.2.2.1 f_X12_138 km_0 rfl rfl rfl ?_
              obtain ⟨m67, e68⟩ : ∃ z : Kmem, z = (kup m65 0 12 4) := ⟨_, rfl⟩
              rw [← e68]
              replace h := h m67 e68
              exact R_return e_X12_ahead_12.2.2.2.2.2.2.2.2 rfl h
            · replace h := h.2 q
              refine R_iload_n e_X12_ahead_11.2.2.2.2.2.1 0 rfl ?_
              refine R_bipush e_X12_ahead_11.2.2.2.2.2.2.1 (by decide) ?_
              refine R_icmp_eq 243 e_X12_ahead_11.2.2.2.2.2.2.2.1 (by decide) q58 (by decide) (fun q => ?_) (fun q => ?_)
              · replace h := h.1 q
                refine R_iconst e_X12_ahead_12.2.2.2.2.1 ?_
                refine R_goto 248 e_X12_ahead_12.2.2.2.2.2.1 (by decide) ?_
                refine R_putI 12 12 12 WM_ok e_X12_ahead_12.2.2.2.2.2.2.2.1 f_X12_138 km_0 rfl rfl rfl ?_
                obtain ⟨m69, e70⟩ : ∃ z : Kmem, z = (kup m65 0 12 4) := ⟨_, rfl⟩
                rw [← e70]
                replace h := h m69 e70
                exact R_return e_X12_ahead_12.2.2.2.2.2.2.2.2 rfl h
              · replace h := h.2 q
                refine R_iload_n e_X12_ahead_11.2.2.2.2.2.2.2.2.1 0 rfl ?_
                refine R_bipush e_X12_ahead_11.2.2.2.2.2.2.2.2.2 (by decide) ?_
                refine R_icmp_eq 243 e_X12_ahead_12.1 (by decide) q58 (by decide) (fun q => ?_) (fun q => ?_)
                · replace h := h.1 q
                  refine R_iconst e_X12_ahead_12.2.2.2.2.1 ?_
                  refine R_goto 248 e_X12_ahead_12.2.2.2.2.2.1 (by decide) ?_
                  refine R_putI 12 12 12 WM_ok e_X12_ahead_12.2.2.2.2.2.2.2.1 f_X12_138 km_0 rfl rfl rfl ?_
                  obtain ⟨m71, e72⟩ : ∃ z : Kmem, z = (kup m65 0 12 4) := ⟨_, rfl⟩
                  rw [← e72]
                  replace h := h m71 e72
                  exact R_return e_X12_ahead_12.2.2.2.2.2.2.2.2 rfl h
                · replace h := h.2 q
                  refine R_iload_n e_X12_ahead_12.2.1 0 rfl ?_
                  refine R_bipush e_X12_ahead_12.2.2.1 (by decide) ?_
                  refine R_icmp_ne 247 e_X12_ahead_12.2.2.2.1 (by decide) q58 (by decide) (fun q => ?_) (fun q => ?_)
                  · replace h := h.1 q
                    refine R_iconst e_X12_ahead_12.2.2.2.2.2.2.1 ?_
                    refine R_putI 12 12 12 WM_ok e_X12_ahead_12.2.2.2.2.2.2.2.1 f_X12_138 km_0 rfl rfl rfl ?_
                    obtain ⟨m73, e74⟩ : ∃ z : Kmem, z = (kup m65 0 12 1) := ⟨_, rfl⟩
                    rw [← e74]
                    replace h := h m73 e74
                    exact R_return e_X12_ahead_12.2.2.2.2.2.2.2.2 rfl h
                  · replace h := h.2 q
                    refine R_iconst e_X12_ahead_12.2.2.2.2.1 ?_
                    refine R_goto 248 e_X12_ahead_12.2.2.2.2.2.1 (by decide) ?_
                    refine R_putI 12 12 12 WM_ok e_X12_ahead_12.2.2.2.2.2.2.2.1 f_X12_138 km_0 rfl rfl rfl ?_
                    obtain ⟨m75, e76⟩ : ∃ z : Kmem, z = (kup m65 0 12 4) := ⟨_, rfl⟩
                    rw [← e76]
                    replace h := h m75 e76
                    exact R_return e_X12_ahead_12.2.2.2.2.2.2.2.2 rfl h
          · replace h := h.2 (kb_t q)
            refine R_aload_n e_X12_ahead_6.2.1 1 rfl ?_
            refine R_iconst e_X12_ahead_6.2.2.1 ?_
            refine R_putI 12 15 15 WM_ok e_X12_ahead_6.2.2.2.1 f_X12_135 km_0 rfl rfl rfl ?_
            obtain ⟨m77, e78⟩ : ∃ z : Kmem, z = (kup m56 0 15 0) := ⟨_, rfl⟩
            rw [← e78]
            replace h := h m77 e78
            refine R_ls (ls2 := [(0, vA G 0)]) [1] rfl ?_
            exact h
        · replace h := h.2 (kb_t q)
          refine R_ls (ls2 := [(0, vA G 0)]) [1] rfl ?_
          exact h
      · replace h := h.2 q
        refine R_aload_n e_X12_ahead_3.2.2.2.2.1 1 rfl ?_
        refine R_iconst e_X12_ahead_3.2.2.2.2.2.1 ?_
        refine R_putI 12 12 12 WM_ok e_X12_ahead_3.2.2.2.2.2.2.1 f_X12_138 km_0 rfl rfl rfl ?_
        obtain ⟨m79, e80⟩ : ∃ z : Kmem, z = (kup m56 0 12 0) := ⟨_, rfl⟩
        rw [← e80]
        replace h := h m79 e80
        refine R_goto 251 e_X12_ahead_3.2.2.2.2.2.2.2.1 (by decide) ?_
        exact R_return e_X12_ahead_12.2.2.2.2.2.2.2.2 rfl h
    · replace h := h.2 q
      refine R_aload_n e_X12_ahead_1.2.2.1 0 rfl ?_
      refine R_dup e_X12_ahead_1.2.2.2.1 rfl ?_
      refine R_getI 12 14 14 e_X12_ahead_1.2.2.2.2.1 f_X12_126 km_0 (fun _ _ => rfl) rfl ?_
      refine R_iconst e_X12_ahead_1.2.2.2.2.2.1 ?_
      refine R_iadd e_X12_ahead_1.2.2.2.2.2.2.1 ?_
      refine R_putI 12 14 14 WM_ok e_X12_ahead_1.2.2.2.2.2.2.2.1 f_X12_126 km_0 rfl rfl rfl ?_
      obtain ⟨m81, e82⟩ : ∃ z : Kmem, z = (kup σ 0 14 ((σ 0 14) + 1)) := ⟨_, rfl⟩
      rw [← e82]
      replace h := h m81 e82
      refine R_goto 0 e_X12_ahead_1.2.2.2.2.2.2.2.2.1 (by decide) ?_
      refine R_ls (ls2 := [(0, vA G 0)]) [0] rfl ?_
      exact h
theorem S_X12_ahead_128 {G : Kg} {σ : Kmem} {Q : Int → Kmem → Prop}  (h : (txt σ ∧ (0 : Int) ≤ (σ 0 14) ∧ ((σ 0 14) : Int) ≤ 2000) ∧ (rI (bA σ ((σ 0 14)))) ∧ ((¬ (48 ≤ (bA σ ((σ 0 14))) ∧ ((bA σ ((σ 0 14))) : Int) ≤ 57) → (rI ((σ 0 14) - (σ 0 13))) ∧ (((σ 0 14) - (σ 0 13) ≤ 4 → ∀ m90 : Kmem, m90 = (kup σ 0 12 3) → Q 0 m90) ∧ (4 < (σ 0 14) - (σ 0 13) → ∀ m92 : Kmem, m92 = (kup σ 0 12 1) → Q 0 m92))) ∧ ((48 ≤ (bA σ ((σ 0 14))) ∧ ((bA σ ((σ 0 14))) : Int) ≤ 57) → (txt σ ∧ (0 : Int) ≤ (σ 0 14) ∧ ((σ 0 14) : Int) ≤ 2000) ∧ (rI (100000) ∧ rI ((((10 * (σ 0 15)) + (bA σ ((σ 0 14)))) - 48))) ∧ ∀ m100 : Kmem, m100 = (kup σ 0 15 (min (100000) ((((10 * (σ 0 15)) + (bA σ ((σ 0 14)))) - 48)))) → ∀ m102 : Kmem, m102 = (kup m100 0 14 ((m100 0 14) + 1)) → E_X12_ahead_128 G m102 Q))) : E_X12_ahead_128 G σ Q := by
  refine R_aload_n e_X12_ahead_6.2.2.2.2.1 0 rfl ?_
  refine R_aload_n e_X12_ahead_6.2.2.2.2.2.1 0 rfl ?_
  refine R_getI 12 14 14 e_X12_ahead_6.2.2.2.2.2.2.1 f_X12_126 km_0 (fun _ _ => rfl) rfl ?_
  obtain ⟨q85, h⟩ := h
  refine R_callV (mc := 0) (ms := 0) (mc' := 0) (ms' := 0) (M' := M_X12_byteAt) (d' := 0) (as := [vI (σ 0 14)]) (st := []) 12 1 e_X12_ahead_6.2.2.2.2.2.2.2.1 (kCVof m_X12_byteAt l_X12_129) rfl (by decide) km_0 (by decide) (by decide) rfl rfl (by show (0 : Nat) ≤ 8; decide) ?_
  refine Run.mono (P_X12_byteAt q85) (fun r s e => ?_)
  obtain ⟨e1, e2⟩ := e
  refine R_eqs (st2 := [vI (bA σ ((σ 0 14)))]) (σ2 := σ) (by rw [e1]; rfl) e2 ?_
  obtain ⟨q88, h⟩ := h
  refine R_callS (mc := 0) (ms := 0) (mc' := 0) (ms' := 0) (M' := M_X12_isDigit) (d' := 0) (as := [vI (bA σ ((σ 0 14)))]) (st := []) 1 e_X12_ahead_6.2.2.2.2.2.2.2.2.1 (kCSof m_X12_isDigit l_X12_144) (by decide) (by decide) rfl rfl (by show (0 : Nat) ≤ 8; decide) ?_
  refine Run.mono (P_X12_isDigit q88) (fun r s e => ?_)
  obtain ⟨e1, e2⟩ := e
  refine R_eqs (st2 := [vI (kb (48 ≤ (bA σ ((σ 0 14))) ∧ ((bA σ ((σ 0 14))) : Int) ≤ 57))]) (σ2 := σ) (by rw [e1]; rfl) e2 ?_
  refine R_if_eq 183 e_X12_ahead_6.2.2.2.2.2.2.2.2.2 (by decide) (kb_r _) (fun q => ?_) (fun q => ?_)
  · replace h := h.1 (kb_f q)
    refine R_aload_n e_X12_ahead_9.2.2.1 0 rfl ?_
    refine R_aload_n e_X12_ahead_9.2.2.2.1 0 rfl ?_
    refine R_getI 12 14 14 e_X12_ahead_9.2.2.2.2.1 f_X12_126 km_0 (fun _ _ => rfl) rfl ?_
    refine R_aload_n e_X12_ahead_9.2.2.2.2.2.1 0 rfl ?_
    refine R_getI 12 13 13 e_X12_ahead_9.2.2.2.2.2.2.1 f_X12_132 km_0 (fun _ _ => rfl) rfl ?_
    refine R_isub e_X12_ahead_9.2.2.2.2.2.2.2.1 ?_
    refine R_iconst e_X12_ahead_9.2.2.2.2.2.2.2.2.1 ?_
    obtain ⟨q89, h⟩ := h
    refine R_icmp_le 201 e_X12_ahead_9.2.2.2.2.2.2.2.2.2 (by decide) q89 (by decide) (fun q => ?_) (fun q => ?_)
    · replace h := h.1 q
      refine R_iconst e_X12_ahead_10.2.2.1 ?_
      refine R_putI 12 12 12 WM_ok e_X12_ahead_10.2.2.2.1 f_X12_138 km_0 rfl rfl rfl ?_
      obtain ⟨m90, e91⟩ : ∃ z : Kmem, z = (kup σ 0 12 3) := ⟨_, rfl⟩
      rw [← e91]
      replace h := h m90 e91
      refine R_goto 251 e_X12_ahead_10.2.2.2.2.1 (by decide) ?_
      exact R_return e_X12_ahead_12.2.2.2.2.2.2.2.2 rfl h
    · replace h := h.2 q
      refine R_iconst e_X12_ahead_10.1 ?_
      refine R_goto 202 e_X12_ahead_10.2.1 (by decide) ?_
      refine R_putI 12 12 12 WM_ok e_X12_ahead_10.2.2.2.1 f_X12_138 km_0 rfl rfl rfl ?_
      obtain ⟨m92, e93⟩ : ∃ z : Kmem, z = (kup σ 0 12 1) := ⟨_, rfl⟩
      rw [← e93]
      replace h := h m92 e93
      refine R_goto 251 e_X12_ahead_10.2.2.2.2.1 (by decide) ?_
      exact R_return e_X12_ahead_12.2.2.2.2.2.2.2.2 rfl h
  · replace h := h.2 (kb_t q)
    refine R_aload_n e_X12_ahead_7.1 0 rfl ?_
    refine R_ldc (100000) k_X12_147 e_X12_ahead_7.2.1 ?_
    refine R_bipush e_X12_ahead_7.2.2.1 (by decide) ?_
    refine R_aload_n e_X12_ahead_7.2.2.2.1 0 rfl ?_
    refine R_getI 12 15 15 e_X12_ahead_7.2.2.2.2.1 f_X12_135 km_0 (fun _ _ => rfl) rfl ?_
    refine R_imul e_X12_ahead_7.2.2.2.2.2.1 ?_
    refine R_aload_n e_X12_ahead_7.2.2.2.2.2.2.1 0 rfl ?_
    refine R_aload_n e_X12_ahead_7.2.2.2.2.2.2.2.1 0 rfl ?_
    refine R_getI 12 14 14 e_X12_ahead_7.2.2.2.2.2.2.2.2.1 f_X12_126 km_0 (fun _ _ => rfl) rfl ?_
    obtain ⟨q96, h⟩ := h
    refine R_callV (mc := 0) (ms := 0) (mc' := 0) (ms' := 0) (M' := M_X12_byteAt) (d' := 0) (as := [vI (σ 0 14)]) (st := [vI (10 * (σ 0 15)), vI 100000, vA G 0]) 12 1 e_X12_ahead_7.2.2.2.2.2.2.2.2.2 (kCVof m_X12_byteAt l_X12_129) rfl (by decide) km_0 (by decide) (by decide) rfl rfl (by show (3 : Nat) ≤ 8; decide) ?_
    refine Run.mono (P_X12_byteAt q96) (fun r s e => ?_)
    obtain ⟨e1, e2⟩ := e
    refine R_eqs (st2 := [vI (bA σ ((σ 0 14))), vI (10 * (σ 0 15)), vI 100000, vA G 0]) (σ2 := σ) (by rw [e1]; rfl) e2 ?_
    refine R_iadd e_X12_ahead_8.1 ?_
    refine R_bipush e_X12_ahead_8.2.1 (by decide) ?_
    refine R_isub e_X12_ahead_8.2.2.1 ?_
    obtain ⟨q99, h⟩ := h
    refine R_callS (mc := 0) (ms := 0) (mc' := 0) (ms' := 0) (M' := M_J9_min_7cf53) (d' := 0) (as := [vI 100000, vI (((10 * (σ 0 15)) + (bA σ ((σ 0 14)))) - 48)]) (st := [vA G 0]) 2 e_X12_ahead_8.2.2.2.1 (kCSof m_J9_min_7cf53 l_X12_148) (by decide) (by decide) rfl rfl (by show (1 : Nat) ≤ 8; decide) ?_
    refine Run.mono (P_J9_min_7cf53 q99) (fun r s e => ?_)
    obtain ⟨e1, e2⟩ := e
    refine R_eqs (st2 := [vI (min (100000) ((((10 * (σ 0 15)) + (bA σ ((σ 0 14)))) - 48))), vA G 0]) (σ2 := σ) (by rw [e1]; rfl) e2 ?_
    refine R_putI 12 15 15 WM_ok e_X12_ahead_8.2.2.2.2.1 f_X12_135 km_0 rfl rfl rfl ?_
    obtain ⟨m100, e101⟩ : ∃ z : Kmem, z = (kup σ 0 15 (min (100000) ((((10 * (σ 0 15)) + (bA σ ((σ 0 14)))) - 48)))) := ⟨_, rfl⟩
    rw [← e101]
    replace h := h m100 e101
    refine R_aload_n e_X12_ahead_8.2.2.2.2.2.1 0 rfl ?_
    refine R_dup e_X12_ahead_8.2.2.2.2.2.2.1 rfl ?_
    refine R_getI 12 14 14 e_X12_ahead_8.2.2.2.2.2.2.2.1 f_X12_126 km_0 (fun _ _ => rfl) rfl ?_
    refine R_iconst e_X12_ahead_8.2.2.2.2.2.2.2.2.1 ?_
    refine R_iadd e_X12_ahead_8.2.2.2.2.2.2.2.2.2 ?_
    refine R_putI 12 14 14 WM_ok e_X12_ahead_9.1 f_X12_126 km_0 rfl rfl rfl ?_
    obtain ⟨m102, e103⟩ : ∃ z : Kmem, z = (kup m100 0 14 ((m100 0 14) + 1)) := ⟨_, rfl⟩
    rw [← e103]
    replace h := h m102 e103
    refine R_goto 128 e_X12_ahead_9.2.1 (by decide) ?_
    refine R_ls (ls2 := [(0, vA G 0)]) [0] rfl ?_
    exact h
theorem S_X12_ahead_81 {G : Kg} {σ : Kmem} {Q : Int → Kmem → Prop}  (h : (txt σ ∧ (0 : Int) ≤ (σ 0 14) ∧ ((σ 0 14) : Int) ≤ 2000) ∧ (rI (bA σ ((σ 0 14)))) ∧ ((¬ (97 ≤ (bA σ ((σ 0 14))) ∧ ((bA σ ((σ 0 14))) : Int) ≤ 122) → ∀ m110 : Kmem, m110 = (kup σ 0 12 2) → Q 0 m110) ∧ ((97 ≤ (bA σ ((σ 0 14))) ∧ ((bA σ ((σ 0 14))) : Int) ≤ 122) → ∀ m112 : Kmem, m112 = (kup σ 0 14 ((σ 0 14) + 1)) → E_X12_ahead_81 G m112 Q))) : E_X12_ahead_81 G σ Q := by
  refine R_aload_n e_X12_ahead_4.2.1 0 rfl ?_
  refine R_aload_n e_X12_ahead_4.2.2.1 0 rfl ?_
  refine R_getI 12 14 14 e_X12_ahead_4.2.2.2.1 f_X12_126 km_0 (fun _ _ => rfl) rfl ?_
  obtain ⟨q106, h⟩ := h
  refine R_callV (mc := 0) (ms := 0) (mc' := 0) (ms' := 0) (M' := M_X12_byteAt) (d' := 0) (as := [vI (σ 0 14)]) (st := []) 12 1 e_X12_ahead_4.2.2.2.2.1 (kCVof m_X12_byteAt l_X12_129) rfl (by decide) km_0 (by decide) (by decide) rfl rfl (by show (0 : Nat) ≤ 8; decide) ?_
  refine Run.mono (P_X12_byteAt q106) (fun r s e => ?_)
  obtain ⟨e1, e2⟩ := e
  refine R_eqs (st2 := [vI (bA σ ((σ 0 14)))]) (σ2 := σ) (by rw [e1]; rfl) e2 ?_
  obtain ⟨q109, h⟩ := h
  refine R_callS (mc := 0) (ms := 0) (mc' := 0) (ms' := 0) (M' := M_X12_isSmall) (d' := 0) (as := [vI (bA σ ((σ 0 14)))]) (st := []) 1 e_X12_ahead_4.2.2.2.2.2.1 (kCSof m_X12_isSmall l_X12_141) (by decide) (by decide) rfl rfl (by show (0 : Nat) ≤ 8; decide) ?_
  refine Run.mono (P_X12_isSmall q109) (fun r s e => ?_)
  obtain ⟨e1, e2⟩ := e
  refine R_eqs (st2 := [vI (kb (97 ≤ (bA σ ((σ 0 14))) ∧ ((bA σ ((σ 0 14))) : Int) ≤ 122))]) (σ2 := σ) (by rw [e1]; rfl) e2 ?_
  refine R_if_eq 108 e_X12_ahead_4.2.2.2.2.2.2.1 (by decide) (kb_r _) (fun q => ?_) (fun q => ?_)
  · replace h := h.1 (kb_f q)
    refine R_aload_n e_X12_ahead_5.2.2.2.2.1 0 rfl ?_
    refine R_iconst e_X12_ahead_5.2.2.2.2.2.1 ?_
    refine R_putI 12 12 12 WM_ok e_X12_ahead_5.2.2.2.2.2.2.1 f_X12_138 km_0 rfl rfl rfl ?_
    obtain ⟨m110, e111⟩ : ∃ z : Kmem, z = (kup σ 0 12 2) := ⟨_, rfl⟩
    rw [← e111]
    replace h := h m110 e111
    refine R_goto 251 e_X12_ahead_5.2.2.2.2.2.2.2.1 (by decide) ?_
    exact R_return e_X12_ahead_12.2.2.2.2.2.2.2.2 rfl h
  · replace h := h.2 (kb_t q)
    refine R_aload_n e_X12_ahead_4.2.2.2.2.2.2.2.1 0 rfl ?_
    refine R_dup e_X12_ahead_4.2.2.2.2.2.2.2.2.1 rfl ?_
    refine R_getI 12 14 14 e_X12_ahead_4.2.2.2.2.2.2.2.2.2 f_X12_126 km_0 (fun _ _ => rfl) rfl ?_
    refine R_iconst e_X12_ahead_5.1 ?_
    refine R_iadd e_X12_ahead_5.2.1 ?_
    refine R_putI 12 14 14 WM_ok e_X12_ahead_5.2.2.1 f_X12_126 km_0 rfl rfl rfl ?_
    obtain ⟨m112, e113⟩ : ∃ z : Kmem, z = (kup σ 0 14 ((σ 0 14) + 1)) := ⟨_, rfl⟩
    rw [← e113]
    replace h := h m112 e113
    refine R_goto 81 e_X12_ahead_5.2.2.2.1 (by decide) ?_
    refine R_ls (ls2 := [(0, vA G 0)]) [0] rfl ?_
    exact h
/-! KiteLandModel.isSign(I)Z -/
theorem e_X12_isSign_0 : decode cX12_isSign 0 = .ok (.aload_n 0, 1) ∧ decode cX12_isSign 1 = .ok (.getfield 138, 3) ∧ decode cX12_isSign 4 = .ok (.iconst 4, 1) ∧ decode cX12_isSign 5 = .ok (.if_icmp .ne 15, 3) ∧ decode cX12_isSign 8 = .ok (.aload_n 0, 1) ∧ decode cX12_isSign 9 = .ok (.getfield 135, 3) ∧ decode cX12_isSign 12 = .ok (.iload_n 1, 1) ∧ decode cX12_isSign 13 = .ok (.if_icmp .ne 7, 3) ∧ decode cX12_isSign 16 = .ok (.iconst 1, 1) ∧ decode cX12_isSign 17 = .ok (.goto 4, 3) := by decide +kernel
theorem e_X12_isSign_1 : decode cX12_isSign 20 = .ok (.iconst 0, 1) ∧ decode cX12_isSign 21 = .ok (.ireturn, 1) := by decide +kernel
theorem S_X12_isSign {G : Kg} {σ : Kmem} {Q : Int → Kmem → Prop} {l1 : Int}  (h : (rI (σ 0 12)) ∧ ((σ 0 12 ≠ 4 → Q 0 σ) ∧ (σ 0 12 = 4 → (rI (σ 0 15)) ∧ (rI l1) ∧ ((σ 0 15 ≠ l1 → Q 0 σ) ∧ (σ 0 15 = l1 → Q 1 σ))))) : Run G WM M_X12_isSign 0 0 0 [vA G 0, vI l1] σ Q := by
  refine Run.of (by decide +kernel) (by show (2 : Nat) ≤ 2; decide) ?_
  show Ex G WM M_X12_isSign 0 0 0 0 [(0, vA G 0), (1, vI l1)] [] σ Q
  refine R_aload_n e_X12_isSign_0.1 0 rfl ?_
  refine R_getI 12 12 12 e_X12_isSign_0.2.1 f_X12_138 km_0 (fun _ _ => rfl) rfl ?_
  refine R_iconst e_X12_isSign_0.2.2.1 ?_
  obtain ⟨q1, h⟩ := h
  refine R_icmp_ne 20 e_X12_isSign_0.2.2.2.1 (by decide) q1 (by decide) (fun q => ?_) (fun q => ?_)
  · replace h := h.1 q
    refine R_iconst e_X12_isSign_1.1 ?_
    exact R_zreturn e_X12_isSign_1.2 rfl (Or.inl rfl) h
  · replace h := h.2 q
    refine R_aload_n e_X12_isSign_0.2.2.2.2.1 0 rfl ?_
    refine R_getI 12 15 15 e_X12_isSign_0.2.2.2.2.2.1 f_X12_135 km_0 (fun _ _ => rfl) rfl ?_
    refine R_iload_n e_X12_isSign_0.2.2.2.2.2.2.1 1 rfl ?_
    obtain ⟨q2, h⟩ := h
    obtain ⟨q3, h⟩ := h
    refine R_icmp_ne 20 e_X12_isSign_0.2.2.2.2.2.2.2.1 (by decide) q2 q3 (fun q => ?_) (fun q => ?_)
    · replace h := h.1 q
      refine R_iconst e_X12_isSign_1.1 ?_
      exact R_zreturn e_X12_isSign_1.2 rfl (Or.inl rfl) h
    · replace h := h.2 q
      refine R_iconst e_X12_isSign_0.2.2.2.2.2.2.2.2.1 ?_
      refine R_goto 21 e_X12_isSign_0.2.2.2.2.2.2.2.2.2 (by decide) ?_
      exact R_zreturn e_X12_isSign_1.2 rfl (Or.inr rfl) h
/-! KiteLandModel.inWords(Ljava/lang/String;)I -/
theorem e_X12_inWords_0 : decode cX12_inWords 0 = .ok (.aload_n 0, 1) ∧ decode cX12_inWords 1 = .ok (.getfield 138, 3) ∧ decode cX12_inWords 4 = .ok (.iconst 2, 1) ∧ decode cX12_inWords 5 = .ok (.if_icmp .eq 5, 3) ∧ decode cX12_inWords 8 = .ok (.iconst (-1), 1) ∧ decode cX12_inWords 9 = .ok (.ireturn, 1) ∧ decode cX12_inWords 10 = .ok (.iconst 0, 1) ∧ decode cX12_inWords 11 = .ok (.istore_n 2, 1) ∧ decode cX12_inWords 12 = .ok (.iconst 1, 1) ∧ decode cX12_inWords 13 = .ok (.istore_n 3, 1) := by decide +kernel
theorem e_X12_inWords_1 : decode cX12_inWords 14 = .ok (.iload_n 3, 1) ∧ decode cX12_inWords 15 = .ok (.aload_n 1, 1) ∧ decode cX12_inWords 16 = .ok (.invokevirtual 153, 3) ∧ decode cX12_inWords 19 = .ok (.if_icmp .ge 114, 3) ∧ decode cX12_inWords 22 = .ok (.iload_n 3, 1) ∧ decode cX12_inWords 23 = .ok (.istore 4, 2) ∧ decode cX12_inWords 25 = .ok (.aload_n 1, 1) ∧ decode cX12_inWords 26 = .ok (.iload 4, 2) ∧ decode cX12_inWords 28 = .ok (.invokevirtual 159, 3) ∧ decode cX12_inWords 31 = .ok (.bipush 32, 2) := by decide +kernel
theorem e_X12_inWords_2 : decode cX12_inWords 33 = .ok (.if_icmp .eq 9, 3) ∧ decode cX12_inWords 36 = .ok (.iinc 4 1, 3) ∧ decode cX12_inWords 39 = .ok (.goto (-14), 3) ∧ decode cX12_inWords 42 = .ok (.iload 4, 2) ∧ decode cX12_inWords 44 = .ok (.iload_n 3, 1) ∧ decode cX12_inWords 45 = .ok (.isub, 1) ∧ decode cX12_inWords 46 = .ok (.aload_n 0, 1) ∧ decode cX12_inWords 47 = .ok (.getfield 126, 3) ∧ decode cX12_inWords 50 = .ok (.aload_n 0, 1) ∧ decode cX12_inWords 51 = .ok (.getfield 132, 3) := by decide +kernel
theorem e_X12_inWords_3 : decode cX12_inWords 54 = .ok (.isub, 1) ∧ decode cX12_inWords 55 = .ok (.if_icmp .ne 7, 3) ∧ decode cX12_inWords 58 = .ok (.iconst 1, 1) ∧ decode cX12_inWords 59 = .ok (.goto 4, 3) ∧ decode cX12_inWords 62 = .ok (.iconst 0, 1) ∧ decode cX12_inWords 63 = .ok (.istore 5, 2) ∧ decode cX12_inWords 65 = .ok (.iload_n 3, 1) ∧ decode cX12_inWords 66 = .ok (.istore 6, 2) ∧ decode cX12_inWords 68 = .ok (.iload 6, 2) ∧ decode cX12_inWords 70 = .ok (.iload 4, 2) := by decide +kernel
theorem e_X12_inWords_4 : decode cX12_inWords 72 = .ok (.if_icmp .ge 43, 3) ∧ decode cX12_inWords 75 = .ok (.iload 5, 2) ∧ decode cX12_inWords 77 = .ok (.ifCond .eq 38, 3) ∧ decode cX12_inWords 80 = .ok (.aload_n 1, 1) ∧ decode cX12_inWords 81 = .ok (.iload 6, 2) ∧ decode cX12_inWords 83 = .ok (.invokevirtual 159, 3) ∧ decode cX12_inWords 86 = .ok (.aload_n 0, 1) ∧ decode cX12_inWords 87 = .ok (.aload_n 0, 1) ∧ decode cX12_inWords 88 = .ok (.getfield 132, 3) ∧ decode cX12_inWords 91 = .ok (.iload 6, 2) := by decide +kernel
theorem e_X12_inWords_5 : decode cX12_inWords 93 = .ok (.iadd, 1) ∧ decode cX12_inWords 94 = .ok (.iload_n 3, 1) ∧ decode cX12_inWords 95 = .ok (.isub, 1) ∧ decode cX12_inWords 96 = .ok (.invokevirtual 129, 3) ∧ decode cX12_inWords 99 = .ok (.if_icmp .ne 7, 3) ∧ decode cX12_inWords 102 = .ok (.iconst 1, 1) ∧ decode cX12_inWords 103 = .ok (.goto 4, 3) ∧ decode cX12_inWords 106 = .ok (.iconst 0, 1) ∧ decode cX12_inWords 107 = .ok (.istore 5, 2) ∧ decode cX12_inWords 109 = .ok (.iinc 6 1, 3) := by decide +kernel
theorem e_X12_inWords_6 : decode cX12_inWords 112 = .ok (.goto (-44), 3) ∧ decode cX12_inWords 115 = .ok (.iload 5, 2) ∧ decode cX12_inWords 117 = .ok (.ifCond .eq 5, 3) ∧ decode cX12_inWords 120 = .ok (.iload_n 2, 1) ∧ decode cX12_inWords 121 = .ok (.ireturn, 1) ∧ decode cX12_inWords 122 = .ok (.iinc 2 1, 3) ∧ decode cX12_inWords 125 = .ok (.iload 4, 2) ∧ decode cX12_inWords 127 = .ok (.iconst 1, 1) ∧ decode cX12_inWords 128 = .ok (.iadd, 1) ∧ decode cX12_inWords 129 = .ok (.istore_n 3, 1) := by decide +kernel
theorem e_X12_inWords_7 : decode cX12_inWords 130 = .ok (.goto (-116), 3) ∧ decode cX12_inWords 133 = .ok (.iconst (-1), 1) ∧ decode cX12_inWords 134 = .ok (.ireturn, 1) := by decide +kernel
abbrev E_X12_inWords_14 (G : Kg) (i : Nat) (l2 l3 : Int) (σ : Kmem) (Q : Int → Kmem → Prop) : Prop := Ex G WM M_X12_inWords 4 0 0 14 [(0, vA G 0), (1, vA G (-((10 + i : Nat) : Int))), (2, vI l2), (3, vI l3)] [] σ Q
abbrev E_X12_inWords_25 (G : Kg) (i : Nat) (l2 l3 l4 : Int) (σ : Kmem) (Q : Int → Kmem → Prop) : Prop := Ex G WM M_X12_inWords 4 0 0 25 [(0, vA G 0), (1, vA G (-((10 + i : Nat) : Int))), (2, vI l2), (3, vI l3), (4, vI l4)] [] σ Q
abbrev E_X12_inWords_68 (G : Kg) (i : Nat) (l2 l3 l4 l5 l6 : Int) (σ : Kmem) (Q : Int → Kmem → Prop) : Prop := Ex G WM M_X12_inWords 4 0 0 68 [(0, vA G 0), (1, vA G (-((10 + i : Nat) : Int))), (2, vI l2), (3, vI l3), (4, vI l4), (5, vI l5), (6, vI l6)] [] σ Q
theorem S_X12_inWords {G : Kg} {σ : Kmem} {Q : Int → Kmem → Prop} {i : Nat} {si : String × Nat × String × List Int32} (hi : kStrs[i]? = some si)  (h : (rI (σ 0 12)) ∧ ((σ 0 12 = 2 → E_X12_inWords_14 G i 0 1 σ Q) ∧ (σ 0 12 ≠ 2 → Q (-1) σ))) : Run G WM M_X12_inWords 4 0 0 [vA G 0, vA G (-((10 + i : Nat) : Int))] σ Q := by
  refine Run.of (by decide +kernel) (by show (2 : Nat) ≤ 7; decide) ?_
  show Ex G WM M_X12_inWords 4 0 0 0 [(0, vA G 0), (1, vA G (-((10 + i : Nat) : Int)))] [] σ Q
  refine R_aload_n e_X12_inWords_0.1 0 rfl ?_
  refine R_getI 12 12 12 e_X12_inWords_0.2.1 f_X12_138 km_0 (fun _ _ => rfl) rfl ?_
  refine R_iconst e_X12_inWords_0.2.2.1 ?_
  obtain ⟨q1, h⟩ := h
  refine R_icmp_eq 10 e_X12_inWords_0.2.2.2.1 (by decide) q1 (by decide) (fun q => ?_) (fun q => ?_)
  · replace h := h.1 q
    refine R_iconst e_X12_inWords_0.2.2.2.2.2.2.1 ?_
    refine R_istore_n (ls2 := [(2, vI 0), (0, vA G 0), (1, vA G (-((10 + i : Nat) : Int)))]) e_X12_inWords_0.2.2.2.2.2.2.2.1 (by decide) rfl ?_
    refine R_iconst e_X12_inWords_0.2.2.2.2.2.2.2.2.1 ?_
    refine R_istore_n (ls2 := [(3, vI 1), (2, vI 0), (0, vA G 0), (1, vA G (-((10 + i : Nat) : Int)))]) e_X12_inWords_0.2.2.2.2.2.2.2.2.2 (by decide) rfl ?_
    refine R_ls (ls2 := [(0, vA G 0), (1, vA G (-((10 + i : Nat) : Int))), (2, vI 0), (3, vI 1)]) [2, 3, 1, 0] rfl ?_
    exact h
  · replace h := h.2 q
    refine R_iconst e_X12_inWords_0.2.2.2.2.1 ?_
    exact R_ireturn e_X12_inWords_0.2.2.2.2.2.1 rfl h
theorem S_X12_inWords_14 {G : Kg} {σ : Kmem} {Q : Int → Kmem → Prop} {i : Nat} {si : String × Nat × String × List Int32} (hi : kStrs[i]? = some si) {l2 l3 : Int}  (h : (rI l3) ∧ (rI (kslen i)) ∧ ((kslen i ≤ l3 → Q (-1) σ) ∧ (l3 < kslen i → E_X12_inWords_25 G i l2 l3 l3 σ Q))) : E_X12_inWords_14 G i l2 l3 σ Q := by
  refine R_iload_n e_X12_inWords_1.1 3 rfl ?_
  refine R_aload_n e_X12_inWords_1.2.1 1 rfl ?_
  refine R_slen (i := i) (kStrs_at hi) l_X12_153 e_X12_inWords_1.2.2.1 (by decide) rfl (by show (1 : Nat) ≤ 8; decide) ?_
  obtain ⟨q2, h⟩ := h
  obtain ⟨q3, h⟩ := h
  refine R_icmp_ge 133 e_X12_inWords_1.2.2.2.1 (by decide) q2 q3 (fun q => ?_) (fun q => ?_)
  · replace h := h.1 q
    refine R_iconst e_X12_inWords_7.2.1 ?_
    exact R_ireturn e_X12_inWords_7.2.2 rfl h
  · replace h := h.2 q
    refine R_iload_n e_X12_inWords_1.2.2.2.2.1 3 rfl ?_
    refine R_istore (ls2 := [(4, vI l3), (0, vA G 0), (1, vA G (-((10 + i : Nat) : Int))), (2, vI l2), (3, vI l3)]) e_X12_inWords_1.2.2.2.2.2.1 (by decide) rfl ?_
    refine R_ls (ls2 := [(0, vA G 0), (1, vA G (-((10 + i : Nat) : Int))), (2, vI l2), (3, vI l3), (4, vI l3)]) [1, 2, 3, 4, 0] rfl ?_
    exact h
theorem S_X12_inWords_25 {G : Kg} {σ : Kmem} {Q : Int → Kmem → Prop} {i : Nat} {si : String × Nat × String × List Int32} (hi : kStrs[i]? = some si) {l2 l3 l4 : Int}  (h : (0 ≤ l4 ∧ l4 < kslen i) ∧ (rI (ksat i l4)) ∧ ((ksat i l4 = 32 → (rI (l4 - l3)) ∧ (rI ((σ 0 14) - (σ 0 13))) ∧ ((l4 - l3 ≠ (σ 0 14) - (σ 0 13) → E_X12_inWords_68 G i l2 l3 l4 0 l3 σ Q) ∧ (l4 - l3 = (σ 0 14) - (σ 0 13) → E_X12_inWords_68 G i l2 l3 l4 1 l3 σ Q))) ∧ (ksat i l4 ≠ 32 → E_X12_inWords_25 G i l2 l3 (l4 + 1) σ Q))) : E_X12_inWords_25 G i l2 l3 l4 σ Q := by
  refine R_aload_n e_X12_inWords_1.2.2.2.2.2.2.1 1 rfl ?_
  refine R_iload e_X12_inWords_1.2.2.2.2.2.2.2.1 4 rfl ?_
  obtain ⟨q4, h⟩ := h
  refine R_sat (i := i) (kStrs_at hi) l_X12_159 e_X12_inWords_1.2.2.2.2.2.2.2.2.1 (by decide) q4 rfl (by show (0 : Nat) ≤ 8; decide) ?_
  refine R_bipush e_X12_inWords_1.2.2.2.2.2.2.2.2.2 (by decide) ?_
  obtain ⟨q5, h⟩ := h
  refine R_icmp_eq 42 e_X12_inWords_2.1 (by decide) q5 (by decide) (fun q => ?_) (fun q => ?_)
  · replace h := h.1 q
    refine R_iload e_X12_inWords_2.2.2.2.1 4 rfl ?_
    refine R_iload_n e_X12_inWords_2.2.2.2.2.1 3 rfl ?_
    refine R_isub e_X12_inWords_2.2.2.2.2.2.1 ?_
    refine R_aload_n e_X12_inWords_2.2.2.2.2.2.2.1 0 rfl ?_
    refine R_getI 12 14 14 e_X12_inWords_2.2.2.2.2.2.2.2.1 f_X12_126 km_0 (fun _ _ => rfl) rfl ?_
    refine R_aload_n e_X12_inWords_2.2.2.2.2.2.2.2.2.1 0 rfl ?_
    refine R_getI 12 13 13 e_X12_inWords_2.2.2.2.2.2.2.2.2.2 f_X12_132 km_0 (fun _ _ => rfl) rfl ?_
    refine R_isub e_X12_inWords_3.1 ?_
    obtain ⟨q6, h⟩ := h
    obtain ⟨q7, h⟩ := h
    refine R_icmp_ne 62 e_X12_inWords_3.2.1 (by decide) q6 q7 (fun q => ?_) (fun q => ?_)
    · replace h := h.1 q
      refine R_iconst e_X12_inWords_3.2.2.2.2.1 ?_
      refine R_istore (ls2 := [(5, vI 0), (0, vA G 0), (1, vA G (-((10 + i : Nat) : Int))), (2, vI l2), (3, vI l3), (4, vI l4)]) e_X12_inWords_3.2.2.2.2.2.1 (by decide) rfl ?_
      refine R_iload_n e_X12_inWords_3.2.2.2.2.2.2.1 4 rfl ?_
      refine R_istore (ls2 := [(6, vI l3), (5, vI 0), (0, vA G 0), (1, vA G (-((10 + i : Nat) : Int))), (2, vI l2), (3, vI l3), (4, vI l4)]) e_X12_inWords_3.2.2.2.2.2.2.2.1 (by decide) rfl ?_
      refine R_ls (ls2 := [(0, vA G 0), (1, vA G (-((10 + i : Nat) : Int))), (2, vI l2), (3, vI l3), (4, vI l4), (5, vI 0), (6, vI l3)]) [2, 3, 4, 5, 6, 1, 0] rfl ?_
      exact h
    · replace h := h.2 q
      refine R_iconst e_X12_inWords_3.2.2.1 ?_
      refine R_goto 63 e_X12_inWords_3.2.2.2.1 (by decide) ?_
      refine R_istore (ls2 := [(5, vI 1), (0, vA G 0), (1, vA G (-((10 + i : Nat) : Int))), (2, vI l2), (3, vI l3), (4, vI l4)]) e_X12_inWords_3.2.2.2.2.2.1 (by decide) rfl ?_
      refine R_iload_n e_X12_inWords_3.2.2.2.2.2.2.1 4 rfl ?_
      refine R_istore (ls2 := [(6, vI l3), (5, vI 1), (0, vA G 0), (1, vA G (-((10 + i : Nat) : Int))), (2, vI l2), (3, vI l3), (4, vI l4)]) e_X12_inWords_3.2.2.2.2.2.2.2.1 (by decide) rfl ?_
      refine R_ls (ls2 := [(0, vA G 0), (1, vA G (-((10 + i : Nat) : Int))), (2, vI l2), (3, vI l3), (4, vI l4), (5, vI 1), (6, vI l3)]) [2, 3, 4, 5, 6, 1, 0] rfl ?_
      exact h
  · replace h := h.2 q
    refine R_iinc (ls2 := [(4, vI (l4 + 1)), (0, vA G 0), (1, vA G (-((10 + i : Nat) : Int))), (2, vI l2), (3, vI l3)]) e_X12_inWords_2.2.1 4 rfl (by decide) rfl ?_
    refine R_goto 25 e_X12_inWords_2.2.2.1 (by decide) ?_
    refine R_ls (ls2 := [(0, vA G 0), (1, vA G (-((10 + i : Nat) : Int))), (2, vI l2), (3, vI l3), (4, vI (l4 + 1))]) [1, 2, 3, 4, 0] rfl ?_
    exact h
theorem S_X12_inWords_68 {G : Kg} {σ : Kmem} {Q : Int → Kmem → Prop} {i : Nat} {si : String × Nat × String × List Int32} (hi : kStrs[i]? = some si) {l2 l3 l4 l5 l6 : Int}  (h : (rI l6) ∧ (rI l4) ∧ ((l4 ≤ l6 → (rI l5) ∧ ((l5 = 0 → E_X12_inWords_14 G i (l2 + 1) (l4 + 1) σ Q) ∧ (l5 ≠ 0 → Q l2 σ))) ∧ (l6 < l4 → (rI l5) ∧ ((l5 = 0 → ((l5 = 0 → E_X12_inWords_14 G i (l2 + 1) (l4 + 1) σ Q) ∧ (l5 ≠ 0 → Q l2 σ))) ∧ (l5 ≠ 0 → (0 ≤ l6 ∧ l6 < kslen i) ∧ (txt σ ∧ (0 : Int) ≤ (((σ 0 13) + l6) - l3) ∧ ((((σ 0 13) + l6) - l3) : Int) ≤ 2000) ∧ (rI (ksat i l6)) ∧ (rI (bA σ ((((σ 0 13) + l6) - l3)))) ∧ ((ksat i l6 ≠ bA σ ((((σ 0 13) + l6) - l3)) → E_X12_inWords_68 G i l2 l3 l4 0 (l6 + 1) σ Q) ∧ (ksat i l6 = bA σ ((((σ 0 13) + l6) - l3)) → E_X12_inWords_68 G i l2 l3 l4 1 (l6 + 1) σ Q))))))) : E_X12_inWords_68 G i l2 l3 l4 l5 l6 σ Q := by
  refine R_iload e_X12_inWords_3.2.2.2.2.2.2.2.2.1 6 rfl ?_
  refine R_iload e_X12_inWords_3.2.2.2.2.2.2.2.2.2 4 rfl ?_
  obtain ⟨q8, h⟩ := h
  obtain ⟨q9, h⟩ := h
  refine R_icmp_ge 115 e_X12_inWords_4.1 (by decide) q8 q9 (fun q => ?_) (fun q => ?_)
  · replace h := h.1 q
    refine R_iload e_X12_inWords_6.2.1 5 rfl ?_
    obtain ⟨q10, h⟩ := h
    refine R_if_eq 122 e_X12_inWords_6.2.2.1 (by decide) q10  (fun q => ?_) (fun q => ?_)
    · replace h := h.1 q
      refine R_iinc (ls2 := [(2, vI (l2 + 1)), (0, vA G 0), (1, vA G (-((10 + i : Nat) : Int))), (3, vI l3), (4, vI l4), (5, vI l5), (6, vI l6)]) e_X12_inWords_6.2.2.2.2.2.1 2 rfl (by decide) rfl ?_
      refine R_iload e_X12_inWords_6.2.2.2.2.2.2.1 4 rfl ?_
      refine R_iconst e_X12_inWords_6.2.2.2.2.2.2.2.1 ?_
      refine R_iadd e_X12_inWords_6.2.2.2.2.2.2.2.2.1 ?_
      refine R_istore_n (ls2 := [(3, vI (l4 + 1)), (2, vI (l2 + 1)), (0, vA G 0), (1, vA G (-((10 + i : Nat) : Int))), (4, vI l4), (5, vI l5), (6, vI l6)]) e_X12_inWords_6.2.2.2.2.2.2.2.2.2 (by decide) rfl ?_
      refine R_goto 14 e_X12_inWords_7.1 (by decide) ?_
      refine R_ls (ls2 := [(0, vA G 0), (1, vA G (-((10 + i : Nat) : Int))), (2, vI (l2 + 1)), (3, vI (l4 + 1))]) [2, 3, 1, 0] rfl ?_
      exact h
    · replace h := h.2 q
      refine R_iload_n e_X12_inWords_6.2.2.2.1 2 rfl ?_
      exact R_ireturn e_X12_inWords_6.2.2.2.2.1 rfl h
  · replace h := h.2 q
    refine R_iload e_X12_inWords_4.2.1 5 rfl ?_
    obtain ⟨q11, h⟩ := h
    refine R_if_eq 115 e_X12_inWords_4.2.2.1 (by decide) q11  (fun q => ?_) (fun q => ?_)
    · replace h := h.1 q
      refine R_iload e_X12_inWords_6.2.1 5 rfl ?_
      refine R_if_eq 122 e_X12_inWords_6.2.2.1 (by decide) q11  (fun q => ?_) (fun q => ?_)
      · replace h := h.1 q
        refine R_iinc (ls2 := [(2, vI (l2 + 1)), (0, vA G 0), (1, vA G (-((10 + i : Nat) : Int))), (3, vI l3), (4, vI l4), (5, vI l5), (6, vI l6)]) e_X12_inWords_6.2.2.2.2.2.1 2 rfl (by decide) rfl ?_
        refine R_iload e_X12_inWords_6.2.2.2.2.2.2.1 4 rfl ?_
        refine R_iconst e_X12_inWords_6.2.2.2.2.2.2.2.1 ?_
        refine R_iadd e_X12_inWords_6.2.2.2.2.2.2.2.2.1 ?_
        refine R_istore_n (ls2 := [(3, vI (l4 + 1)), (2, vI (l2 + 1)), (0, vA G 0), (1, vA G (-((10 + i : Nat) : Int))), (4, vI l4), (5, vI l5), (6, vI l6)]) e_X12_inWords_6.2.2.2.2.2.2.2.2.2 (by decide) rfl ?_
        refine R_goto 14 e_X12_inWords_7.1 (by decide) ?_
        refine R_ls (ls2 := [(0, vA G 0), (1, vA G (-((10 + i : Nat) : Int))), (2, vI (l2 + 1)), (3, vI (l4 + 1))]) [2, 3, 1, 0] rfl ?_
        exact h
      · replace h := h.2 q
        refine R_iload_n e_X12_inWords_6.2.2.2.1 2 rfl ?_
        exact R_ireturn e_X12_inWords_6.2.2.2.2.1 rfl h
    · replace h := h.2 q
      refine R_aload_n e_X12_inWords_4.2.2.2.1 1 rfl ?_
      refine R_iload e_X12_inWords_4.2.2.2.2.1 6 rfl ?_
      obtain ⟨q12, h⟩ := h
      refine R_sat (i := i) (kStrs_at hi) l_X12_159 e_X12_inWords_4.2.2.2.2.2.1 (by decide) q12 rfl (by show (0 : Nat) ≤ 8; decide) ?_
      refine R_aload_n e_X12_inWords_4.2.2.2.2.2.2.1 0 rfl ?_
      refine R_aload_n e_X12_inWords_4.2.2.2.2.2.2.2.1 0 rfl ?_
      refine R_getI 12 13 13 e_X12_inWords_4.2.2.2.2.2.2.2.2.1 f_X12_132 km_0 (fun _ _ => rfl) rfl ?_
      refine R_iload e_X12_inWords_4.2.2.2.2.2.2.2.2.2 6 rfl ?_
      refine R_iadd e_X12_inWords_5.1 ?_
      refine R_iload_n e_X12_inWords_5.2.1 3 rfl ?_
      refine R_isub e_X12_inWords_5.2.2.1 ?_
      obtain ⟨q15, h⟩ := h
      refine R_callV (mc := 0) (ms := 0) (mc' := 0) (ms' := 0) (M' := M_X12_byteAt) (d' := 0) (as := [vI (((σ 0 13) + l6) - l3)]) (st := [vI (ksat i l6)]) 12 1 e_X12_inWords_5.2.2.2.1 (kCVof m_X12_byteAt l_X12_129) rfl (by decide) km_0 (by decide) (by decide) rfl rfl (by show (1 : Nat) ≤ 8; decide) ?_
      refine Run.mono (P_X12_byteAt q15) (fun r s e => ?_)
      obtain ⟨e1, e2⟩ := e
      refine R_eqs (st2 := [vI (bA σ ((((σ 0 13) + l6) - l3))), vI (ksat i l6)]) (σ2 := σ) (by rw [e1]; rfl) e2 ?_
      obtain ⟨q16, h⟩ := h
      obtain ⟨q17, h⟩ := h
      refine R_icmp_ne 106 e_X12_inWords_5.2.2.2.2.1 (by decide) q16 q17 (fun q => ?_) (fun q => ?_)
      · replace h := h.1 q
        refine R_iconst e_X12_inWords_5.2.2.2.2.2.2.2.1 ?_
        refine R_istore (ls2 := [(5, vI 0), (0, vA G 0), (1, vA G (-((10 + i : Nat) : Int))), (2, vI l2), (3, vI l3), (4, vI l4), (6, vI l6)]) e_X12_inWords_5.2.2.2.2.2.2.2.2.1 (by decide) rfl ?_
        refine R_iinc (ls2 := [(6, vI (l6 + 1)), (5, vI 0), (0, vA G 0), (1, vA G (-((10 + i : Nat) : Int))), (2, vI l2), (3, vI l3), (4, vI l4)]) e_X12_inWords_5.2.2.2.2.2.2.2.2.2 6 rfl (by decide) rfl ?_
        refine R_goto 68 e_X12_inWords_6.1 (by decide) ?_
        refine R_ls (ls2 := [(0, vA G 0), (1, vA G (-((10 + i : Nat) : Int))), (2, vI l2), (3, vI l3), (4, vI l4), (5, vI 0), (6, vI (l6 + 1))]) [2, 3, 4, 5, 6, 1, 0] rfl ?_
        exact h
      · replace h := h.2 q
        refine R_iconst e_X12_inWords_5.2.2.2.2.2.1 ?_
        refine R_goto 107 e_X12_inWords_5.2.2.2.2.2.2.1 (by decide) ?_
        refine R_istore (ls2 := [(5, vI 1), (0, vA G 0), (1, vA G (-((10 + i : Nat) : Int))), (2, vI l2), (3, vI l3), (4, vI l4), (6, vI l6)]) e_X12_inWords_5.2.2.2.2.2.2.2.2.1 (by decide) rfl ?_
        refine R_iinc (ls2 := [(6, vI (l6 + 1)), (5, vI 1), (0, vA G 0), (1, vA G (-((10 + i : Nat) : Int))), (2, vI l2), (3, vI l3), (4, vI l4)]) e_X12_inWords_5.2.2.2.2.2.2.2.2.2 6 rfl (by decide) rfl ?_
        refine R_goto 68 e_X12_inWords_6.1 (by decide) ?_
        refine R_ls (ls2 := [(0, vA G 0), (1, vA G (-((10 + i : Nat) : Int))), (2, vI l2), (3, vI l3), (4, vI l4), (5, vI 1), (6, vI (l6 + 1))]) [2, 3, 4, 5, 6, 1, 0] rfl ?_
        exact h
/-! KiteLandModel.fails(I)Z -/
theorem e_X12_fails_0 : decode cX12_fails 0 = .ok (.aload_n 0, 1) ∧ decode cX12_fails 1 = .ok (.getfield 163, 3) ∧ decode cX12_fails 4 = .ok (.ifCond .ne 28, 3) ∧ decode cX12_fails 7 = .ok (.aload_n 0, 1) ∧ decode cX12_fails 8 = .ok (.aload_n 0, 1) ∧ decode cX12_fails 9 = .ok (.getfield 138, 3) ∧ decode cX12_fails 12 = .ok (.iconst 1, 1) ∧ decode cX12_fails 13 = .ok (.if_icmp .ne 7, 3) ∧ decode cX12_fails 16 = .ok (.iconst 1, 1) ∧ decode cX12_fails 17 = .ok (.goto 4, 3) := by decide +kernel
theorem e_X12_fails_1 : decode cX12_fails 20 = .ok (.iload_n 1, 1) ∧ decode cX12_fails 21 = .ok (.putfield 163, 3) ∧ decode cX12_fails 24 = .ok (.aload_n 0, 1) ∧ decode cX12_fails 25 = .ok (.aload_n 0, 1) ∧ decode cX12_fails 26 = .ok (.getfield 132, 3) ∧ decode cX12_fails 29 = .ok (.putfield 41, 3) ∧ decode cX12_fails 32 = .ok (.iconst 0, 1) ∧ decode cX12_fails 33 = .ok (.ireturn, 1) := by decide +kernel
theorem S_X12_fails {G : Kg} {σ : Kmem} {Q : Int → Kmem → Prop} {l1 : Int}  (h : (rI (σ 0 18)) ∧ ((σ 0 18 ≠ 0 → Q 0 σ) ∧ (σ 0 18 = 0 → (rI (σ 0 12)) ∧ ((σ 0 12 ≠ 1 → ∀ m3 : Kmem, m3 = (kup σ 0 18 l1) → ∀ m5 : Kmem, m5 = (kup m3 0 17 (m3 0 13)) → Q 0 m5) ∧ (σ 0 12 = 1 → ∀ m7 : Kmem, m7 = (kup σ 0 18 1) → ∀ m9 : Kmem, m9 = (kup m7 0 17 (m7 0 13)) → Q 0 m9))))) : Run G WM M_X12_fails 0 0 0 [vA G 0, vI l1] σ Q := by
  refine Run.of (by decide +kernel) (by show (2 : Nat) ≤ 2; decide) ?_
  show Ex G WM M_X12_fails 0 0 0 0 [(0, vA G 0), (1, vI l1)] [] σ Q
  refine R_aload_n e_X12_fails_0.1 0 rfl ?_
  refine R_getI 12 18 18 e_X12_fails_0.2.1 f_X12_163 km_0 (fun _ _ => rfl) rfl ?_
  obtain ⟨q1, h⟩ := h
  refine R_if_ne 32 e_X12_fails_0.2.2.1 (by decide) q1  (fun q => ?_) (fun q => ?_)
  · replace h := h.1 q
    refine R_iconst e_X12_fails_1.2.2.2.2.2.2.1 ?_
    exact R_zreturn e_X12_fails_1.2.2.2.2.2.2.2 rfl (Or.inl rfl) h
  · replace h := h.2 q
    refine R_aload_n e_X12_fails_0.2.2.2.1 0 rfl ?_
    refine R_aload_n e_X12_fails_0.2.2.2.2.1 0 rfl ?_
    refine R_getI 12 12 12 e_X12_fails_0.2.2.2.2.2.1 f_X12_138 km_0 (fun _ _ => rfl) rfl ?_
    refine R_iconst e_X12_fails_0.2.2.2.2.2.2.1 ?_
    obtain ⟨q2, h⟩ := h
    refine R_icmp_ne 20 e_X12_fails_0.2.2.2.2.2.2.2.1 (by decide) q2 (by decide) (fun q => ?_) (fun q => ?_)
    · replace h := h.1 q
      refine R_iload_n e_X12_fails_1.1 1 rfl ?_
      refine R_putI 12 18 18 WM_ok e_X12_fails_1.2.1 f_X12_163 km_0 rfl rfl rfl ?_
      obtain ⟨m3, e4⟩ : ∃ z : Kmem, z = (kup σ 0 18 l1) := ⟨_, rfl⟩
      rw [← e4]
      replace h := h m3 e4
      refine R_aload_n e_X12_fails_1.2.2.1 0 rfl ?_
      refine R_aload_n e_X12_fails_1.2.2.2.1 0 rfl ?_
      refine R_getI 12 13 13 e_X12_fails_1.2.2.2.2.1 f_X12_132 km_0 (fun _ _ => rfl) rfl ?_
      refine R_putI 12 17 17 WM_ok e_X12_fails_1.2.2.2.2.2.1 f_X12_41 km_0 rfl rfl rfl ?_
      obtain ⟨m5, e6⟩ : ∃ z : Kmem, z = (kup m3 0 17 (m3 0 13)) := ⟨_, rfl⟩
      rw [← e6]
      replace h := h m5 e6
      refine R_iconst e_X12_fails_1.2.2.2.2.2.2.1 ?_
      exact R_zreturn e_X12_fails_1.2.2.2.2.2.2.2 rfl (Or.inl rfl) h
    · replace h := h.2 q
      refine R_iconst e_X12_fails_0.2.2.2.2.2.2.2.2.1 ?_
      refine R_goto 21 e_X12_fails_0.2.2.2.2.2.2.2.2.2 (by decide) ?_
      refine R_putI 12 18 18 WM_ok e_X12_fails_1.2.1 f_X12_163 km_0 rfl rfl rfl ?_
      obtain ⟨m7, e8⟩ : ∃ z : Kmem, z = (kup σ 0 18 1) := ⟨_, rfl⟩
      rw [← e8]
      replace h := h m7 e8
      refine R_aload_n e_X12_fails_1.2.2.1 0 rfl ?_
      refine R_aload_n e_X12_fails_1.2.2.2.1 0 rfl ?_
      refine R_getI 12 13 13 e_X12_fails_1.2.2.2.2.1 f_X12_132 km_0 (fun _ _ => rfl) rfl ?_
      refine R_putI 12 17 17 WM_ok e_X12_fails_1.2.2.2.2.2.1 f_X12_41 km_0 rfl rfl rfl ?_
      obtain ⟨m9, e10⟩ : ∃ z : Kmem, z = (kup m7 0 17 (m7 0 13)) := ⟨_, rfl⟩
      rw [← e10]
      replace h := h m9 e10
      refine R_iconst e_X12_fails_1.2.2.2.2.2.2.1 ?_
      exact R_zreturn e_X12_fails_1.2.2.2.2.2.2.2 rfl (Or.inl rfl) h
/-! KiteLandModel.nameHere()J -/
theorem e_X12_nameHere_0 : decode cX12_nameHere 0 = .ok (.lconst 0, 1) ∧ decode cX12_nameHere 1 = .ok (.lstore_n 1, 1) ∧ decode cX12_nameHere 2 = .ok (.aload_n 0, 1) ∧ decode cX12_nameHere 3 = .ok (.getfield 132, 3) ∧ decode cX12_nameHere 6 = .ok (.istore_n 3, 1) ∧ decode cX12_nameHere 7 = .ok (.iload_n 3, 1) ∧ decode cX12_nameHere 8 = .ok (.aload_n 0, 1) ∧ decode cX12_nameHere 9 = .ok (.getfield 126, 3) ∧ decode cX12_nameHere 12 = .ok (.if_icmp .ge 21, 3) ∧ decode cX12_nameHere 15 = .ok (.lload_n 1, 1) := by decide +kernel
theorem e_X12_nameHere_1 : decode cX12_nameHere 16 = .ok (.bipush 8, 2) ∧ decode cX12_nameHere 18 = .ok (.lshl, 1) ∧ decode cX12_nameHere 19 = .ok (.aload_n 0, 1) ∧ decode cX12_nameHere 20 = .ok (.iload_n 3, 1) ∧ decode cX12_nameHere 21 = .ok (.invokevirtual 129, 3) ∧ decode cX12_nameHere 24 = .ok (.i2l, 1) ∧ decode cX12_nameHere 25 = .ok (.lor, 1) ∧ decode cX12_nameHere 26 = .ok (.lstore_n 1, 1) ∧ decode cX12_nameHere 27 = .ok (.iinc 3 1, 3) ∧ decode cX12_nameHere 30 = .ok (.goto (-23), 3) := by decide +kernel
theorem e_X12_nameHere_2 : decode cX12_nameHere 33 = .ok (.lload_n 1, 1) ∧ decode cX12_nameHere 34 = .ok (.lreturn, 1) := by decide +kernel
abbrev E_X12_nameHere_7 (G : Kg) (l1 l3 : Int) (σ : Kmem) (Q : Int → Kmem → Prop) : Prop := Ex G WM M_X12_nameHere 1 0 0 7 [(0, vA G 0), (1, vL l1), (3, vI l3)] [] σ Q
theorem S_X12_nameHere {G : Kg} {σ : Kmem} {Q : Int → Kmem → Prop}  (h : E_X12_nameHere_7 G 0 (σ 0 13) σ Q) : Run G WM M_X12_nameHere 1 0 0 [vA G 0] σ Q := by
  refine Run.of (by decide +kernel) (by show (1 : Nat) ≤ 4; decide) ?_
  show Ex G WM M_X12_nameHere 1 0 0 0 [(0, vA G 0)] [] σ Q
  refine R_lconst 0 e_X12_nameHere_0.1 (by decide) ?_
  refine R_lstore_n (ls2 := [(1, vL 0), (0, vA G 0)]) e_X12_nameHere_0.2.1 (by decide) rfl ?_
  refine R_aload_n e_X12_nameHere_0.2.2.1 1 rfl ?_
  refine R_getI 12 13 13 e_X12_nameHere_0.2.2.2.1 f_X12_132 km_0 (fun _ _ => rfl) rfl ?_
  refine R_istore_n (ls2 := [(3, vI (σ 0 13)), (1, vL 0), (0, vA G 0)]) e_X12_nameHere_0.2.2.2.2.1 (by decide) rfl ?_
  refine R_ls (ls2 := [(0, vA G 0), (1, vL 0), (3, vI (σ 0 13))]) [2, 1, 0] rfl ?_
  exact h
theorem S_X12_nameHere_7 {G : Kg} {σ : Kmem} {Q : Int → Kmem → Prop} {l1 l3 : Int}  (h : (rI l3) ∧ (rI (σ 0 14)) ∧ ((σ 0 14 ≤ l3 → Q l1 σ) ∧ (l3 < σ 0 14 → (txt σ ∧ (0 : Int) ≤ l3 ∧ (l3 : Int) ≤ 2000) ∧ (rI (bA σ (l3))) ∧ E_X12_nameHere_7 G (klor (klshl l1 8) (bA σ (l3))) (l3 + 1) σ Q))) : E_X12_nameHere_7 G l1 l3 σ Q := by
  refine R_iload_n e_X12_nameHere_0.2.2.2.2.2.1 2 rfl ?_
  refine R_aload_n e_X12_nameHere_0.2.2.2.2.2.2.1 0 rfl ?_
  refine R_getI 12 14 14 e_X12_nameHere_0.2.2.2.2.2.2.2.1 f_X12_126 km_0 (fun _ _ => rfl) rfl ?_
  obtain ⟨q1, h⟩ := h
  obtain ⟨q2, h⟩ := h
  refine R_icmp_ge 33 e_X12_nameHere_0.2.2.2.2.2.2.2.2.1 (by decide) q1 q2 (fun q => ?_) (fun q => ?_)
  · replace h := h.1 q
    refine R_lload_n e_X12_nameHere_2.1 1 rfl ?_
    exact R_lreturn e_X12_nameHere_2.2 rfl h
  · replace h := h.2 q
    refine R_lload_n e_X12_nameHere_0.2.2.2.2.2.2.2.2.2 1 rfl ?_
    refine R_bipush e_X12_nameHere_1.1 (by decide) ?_
    refine R_lshl e_X12_nameHere_1.2.1 ?_
    refine R_aload_n e_X12_nameHere_1.2.2.1 0 rfl ?_
    refine R_iload_n e_X12_nameHere_1.2.2.2.1 2 rfl ?_
    obtain ⟨q5, h⟩ := h
    refine R_callV (mc := 0) (ms := 0) (mc' := 0) (ms' := 0) (M' := M_X12_byteAt) (d' := 0) (as := [vI l3]) (st := [vL (klshl l1 8)]) 12 1 e_X12_nameHere_1.2.2.2.2.1 (kCVof m_X12_byteAt l_X12_129) rfl (by decide) km_0 (by decide) (by decide) rfl rfl (by show (2 : Nat) ≤ 8; decide) ?_
    refine Run.mono (P_X12_byteAt q5) (fun r s e => ?_)
    obtain ⟨e1, e2⟩ := e
    refine R_eqs (st2 := [vI (bA σ (l3)), vL (klshl l1 8)]) (σ2 := σ) (by rw [e1]; rfl) e2 ?_
    obtain ⟨q6, h⟩ := h
    refine R_i2l e_X12_nameHere_1.2.2.2.2.2.1 q6 ?_
    refine R_lor e_X12_nameHere_1.2.2.2.2.2.2.1 ?_
    refine R_lstore_n (ls2 := [(1, vL (klor (klshl l1 8) (bA σ (l3)))), (0, vA G 0), (3, vI l3)]) e_X12_nameHere_1.2.2.2.2.2.2.2.1 (by decide) rfl ?_
    refine R_iinc (ls2 := [(3, vI (l3 + 1)), (1, vL (klor (klshl l1 8) (bA σ (l3)))), (0, vA G 0)]) e_X12_nameHere_1.2.2.2.2.2.2.2.2.1 2 rfl (by decide) rfl ?_
    refine R_goto 7 e_X12_nameHere_1.2.2.2.2.2.2.2.2.2 (by decide) ?_
    refine R_ls (ls2 := [(0, vA G 0), (1, vL (klor (klshl l1 8) (bA σ (l3)))), (3, vI (l3 + 1))]) [2, 1, 0] rfl ?_
    exact h
