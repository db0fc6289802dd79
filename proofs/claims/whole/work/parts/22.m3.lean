/-! KiteLandModel.hour(I)I -/
theorem e_X12_hour_0 : decode cX12_hour 0 = .ok (.iload_n 1, 1) ∧ decode cX12_hour 1 = .ok (.i2l, 1) ∧ decode cX12_hour 2 = .ok (.lconst 1, 1) ∧ decode cX12_hour 3 = .ok (.ldc2_w 391, 3) ∧ decode cX12_hour 6 = .ok (.invokestatic 393, 3) ∧ decode cX12_hour 9 = .ok (.ifCond .ne 9, 3) ∧ decode cX12_hour 12 = .ok (.aload_n 0, 1) ∧ decode cX12_hour 13 = .ok (.iconst 1, 1) ∧ decode cX12_hour 14 = .ok (.invokevirtual 93, 3) ∧ decode cX12_hour 17 = .ok (.ireturn, 1) := by decide +kernel
theorem e_X12_hour_1 : decode cX12_hour 18 = .ok (.aload_n 0, 1) ∧ decode cX12_hour 19 = .ok (.getfield 7, 3) ∧ decode cX12_hour 22 = .ok (.bipush 7, 2) ∧ decode cX12_hour 24 = .ok (.iaload, 1) ∧ decode cX12_hour 25 = .ok (.iload_n 1, 1) ∧ decode cX12_hour 26 = .ok (.iadd, 1) ∧ decode cX12_hour 27 = .ok (.sipush 9999, 3) ∧ decode cX12_hour 30 = .ok (.if_icmp .le 9, 3) ∧ decode cX12_hour 33 = .ok (.aload_n 0, 1) ∧ decode cX12_hour 34 = .ok (.iconst 4, 1) := by decide +kernel
theorem e_X12_hour_2 : decode cX12_hour 35 = .ok (.invokevirtual 93, 3) ∧ decode cX12_hour 38 = .ok (.ireturn, 1) ∧ decode cX12_hour 39 = .ok (.iconst 0, 1) ∧ decode cX12_hour 40 = .ok (.istore_n 2, 1) ∧ decode cX12_hour 41 = .ok (.iconst 0, 1) ∧ decode cX12_hour 42 = .ok (.istore_n 3, 1) ∧ decode cX12_hour 43 = .ok (.iload_n 3, 1) ∧ decode cX12_hour 44 = .ok (.iload_n 1, 1) ∧ decode cX12_hour 45 = .ok (.if_icmp .ge 16, 3) ∧ decode cX12_hour 48 = .ok (.iload_n 2, 1) := by decide +kernel
theorem e_X12_hour_3 : decode cX12_hour 49 = .ok (.aload_n 0, 1) ∧ decode cX12_hour 50 = .ok (.invokevirtual 397, 3) ∧ decode cX12_hour 53 = .ok (.ior, 1) ∧ decode cX12_hour 54 = .ok (.istore_n 2, 1) ∧ decode cX12_hour 55 = .ok (.iinc 3 1, 3) ∧ decode cX12_hour 58 = .ok (.goto (-15), 3) ∧ decode cX12_hour 61 = .ok (.aload_n 0, 1) ∧ decode cX12_hour 62 = .ok (.iload_n 2, 1) ∧ decode cX12_hour 63 = .ok (.invokevirtual 97, 3) ∧ decode cX12_hour 66 = .ok (.ireturn, 1) := by decide +kernel
abbrev E_X12_hour_43 (G : Kg) (l1 l2 l3 : Int) (σ : Kmem) (Q : Int → Kmem → Prop) : Prop := Ex G WM M_X12_hour 9 0 0 43 [(0, vA G 0), (1, vI l1), (2, vI l2), (3, vI l3)] [] σ Q
theorem S_X12_hour {G : Kg} {σ : Kmem} {Q : Int → Kmem → Prop} {l1 : Int}  (h : (rI l1) ∧ Run G WM M_X12_isFrom 0 0 0 [vL l1, vL 1, vL 99] σ (fun r2 s3 => (rI r2) ∧ ((r2 ≠ 0 → (rI ((s3 1 7) + l1)) ∧ (((s3 1 7) + l1 ≤ 9999 → E_X12_hour_43 G l1 0 0 s3 Q) ∧ (9999 < (s3 1 7) + l1 → Run G WM M_X12_refuse 0 0 0 [vA G 0, vI 4] s3 (fun r6 s7 => Q r6 s7)))) ∧ (r2 = 0 → Run G WM M_X12_refuse 0 0 0 [vA G 0, vI 1] s3 (fun r8 s9 => Q r8 s9))))) : Run G WM M_X12_hour 9 0 0 [vA G 0, vI l1] σ Q := by
  refine Run.of (by decide +kernel) (by show (2 : Nat) ≤ 4; decide) ?_
  show Ex G WM M_X12_hour 9 0 0 0 [(0, vA G 0), (1, vI l1)] [] σ Q
  refine R_iload_n e_X12_hour_0.1 1 rfl ?_
  obtain ⟨q1, h⟩ := h
  refine R_i2l e_X12_hour_0.2.1 q1 ?_
  refine R_lconst 1 e_X12_hour_0.2.2.1 (by decide) ?_
  refine R_ldc2 (99) k_X12_391 e_X12_hour_0.2.2.2.1 ?_
  refine R_callS (mc := 0) (ms := 0) (mc' := 0) (ms' := 0) (M' := M_X12_isFrom) (d' := 0) (as := [vL l1, vL 1, vL 99]) (st := []) 3 e_X12_hour_0.2.2.2.2.1 (kCSof m_X12_isFrom l_X12_393) (by decide) (by decide) rfl rfl (by show (0 : Nat) ≤ 8; decide) ?_
  refine Run.mono h (fun r2 s3 h => ?_)
  refine R_eqs (st2 := [vI r2]) rfl rfl ?_
  obtain ⟨q4, h⟩ := h
  refine R_if_ne 18 e_X12_hour_0.2.2.2.2.2.1 (by decide) q4  (fun q => ?_) (fun q => ?_)
  · replace h := h.1 q
    refine R_aload_n e_X12_hour_1.1 0 rfl ?_
    refine R_getA 12 0 1 e_X12_hour_1.2.1 f_X12_7 km_0 (fun _ _ => rfl) rm_0_0 (by decide) ?_
    refine R_bipush e_X12_hour_1.2.2.1 (by decide) ?_
    refine R_iald 3598 e_X12_hour_1.2.2.2.1 kma_1 (by decide) ?_
    refine R_iload_n e_X12_hour_1.2.2.2.2.1 1 rfl ?_
    refine R_iadd e_X12_hour_1.2.2.2.2.2.1 ?_
    refine R_sipush e_X12_hour_1.2.2.2.2.2.2.1 (by decide) ?_
    obtain ⟨q5, h⟩ := h
    refine R_icmp_le 39 e_X12_hour_1.2.2.2.2.2.2.2.1 (by decide) q5 (by decide) (fun q => ?_) (fun q => ?_)
    · replace h := h.1 q
      refine R_iconst e_X12_hour_2.2.2.1 ?_
      refine R_istore_n (ls2 := [(2, vI 0), (0, vA G 0), (1, vI l1)]) e_X12_hour_2.2.2.2.1 (by decide) rfl ?_
      refine R_iconst e_X12_hour_2.2.2.2.2.1 ?_
      refine R_istore_n (ls2 := [(3, vI 0), (2, vI 0), (0, vA G 0), (1, vI l1)]) e_X12_hour_2.2.2.2.2.2.1 (by decide) rfl ?_
      refine R_ls (ls2 := [(0, vA G 0), (1, vI l1), (2, vI 0), (3, vI 0)]) [2, 3, 1, 0] rfl ?_
      exact h
    · replace h := h.2 q
      refine R_aload_n e_X12_hour_1.2.2.2.2.2.2.2.2.1 0 rfl ?_
      refine R_iconst e_X12_hour_1.2.2.2.2.2.2.2.2.2 ?_
      refine R_callV (mc := 0) (ms := 0) (mc' := 0) (ms' := 0) (M' := M_X12_refuse) (d' := 0) (as := [vI 4]) (st := []) 12 1 e_X12_hour_2.1 (kCVof m_X12_refuse l_X12_93) rfl (by decide) km_0 (by decide) (by decide) rfl rfl (by show (0 : Nat) ≤ 8; decide) ?_
      refine Run.mono h (fun r6 s7 h => ?_)
      refine R_eqs (st2 := [vI r6]) rfl rfl ?_
      exact R_ireturn e_X12_hour_2.2.1 rfl h
  · replace h := h.2 q
    refine R_aload_n e_X12_hour_0.2.2.2.2.2.2.1 0 rfl ?_
    refine R_iconst e_X12_hour_0.2.2.2.2.2.2.2.1 ?_
    refine R_callV (mc := 0) (ms := 0) (mc' := 0) (ms' := 0) (M' := M_X12_refuse) (d' := 0) (as := [vI 1]) (st := []) 12 1 e_X12_hour_0.2.2.2.2.2.2.2.2.1 (kCVof m_X12_refuse l_X12_93) rfl (by decide) km_0 (by decide) (by decide) rfl rfl (by show (0 : Nat) ≤ 8; decide) ?_
    refine Run.mono h (fun r8 s9 h => ?_)
    refine R_eqs (st2 := [vI r8]) rfl rfl ?_
    exact R_ireturn e_X12_hour_0.2.2.2.2.2.2.2.2.2 rfl h
theorem S_X12_hour_43 {G : Kg} {σ : Kmem} {Q : Int → Kmem → Prop} {l1 l2 l3 : Int}  (h : (rI l3) ∧ (rI l1) ∧ ((l1 ≤ l3 → Run G WM M_X12_gives 0 0 0 [vA G 0, vI l2] σ (fun r12 s13 => Q r12 s13)) ∧ (l3 < l1 → Run G WM M_X12_goesBy 8 0 0 [vA G 0] σ (fun r14 s15 => E_X12_hour_43 G l1 (kor l2 r14) (l3 + 1) s15 Q)))) : E_X12_hour_43 G l1 l2 l3 σ Q := by
  refine R_iload_n e_X12_hour_2.2.2.2.2.2.2.1 3 rfl ?_
  refine R_iload_n e_X12_hour_2.2.2.2.2.2.2.2.1 1 rfl ?_
  obtain ⟨q10, h⟩ := h
  obtain ⟨q11, h⟩ := h
  refine R_icmp_ge 61 e_X12_hour_2.2.2.2.2.2.2.2.2.1 (by decide) q10 q11 (fun q => ?_) (fun q => ?_)
  · replace h := h.1 q
    refine R_aload_n e_X12_hour_3.2.2.2.2.2.2.1 0 rfl ?_
    refine R_iload_n e_X12_hour_3.2.2.2.2.2.2.2.1 2 rfl ?_
    refine R_callV (mc := 0) (ms := 0) (mc' := 0) (ms' := 0) (M' := M_X12_gives) (d' := 0) (as := [vI l2]) (st := []) 12 1 e_X12_hour_3.2.2.2.2.2.2.2.2.1 (kCVof m_X12_gives l_X12_97) rfl (by decide) km_0 (by decide) (by decide) rfl rfl (by show (0 : Nat) ≤ 8; decide) ?_
    refine Run.mono h (fun r12 s13 h => ?_)
    refine R_eqs (st2 := [vI r12]) rfl rfl ?_
    exact R_ireturn e_X12_hour_3.2.2.2.2.2.2.2.2.2 rfl h
  · replace h := h.2 q
    refine R_iload_n e_X12_hour_2.2.2.2.2.2.2.2.2.2 2 rfl ?_
    refine R_aload_n e_X12_hour_3.1 0 rfl ?_
    refine R_callV (mc := 0) (ms := 0) (mc' := 0) (ms' := 0) (M' := M_X12_goesBy) (d' := 8) (as := []) (st := [vI l2]) 12 0 e_X12_hour_3.2.1 (kCVof m_X12_goesBy l_X12_397) rfl (by decide) km_0 (by decide) (by decide) rfl rfl (by show (1 : Nat) ≤ 8; decide) ?_
    refine Run.mono h (fun r14 s15 h => ?_)
    refine R_eqs (st2 := [vI r14, vI l2]) rfl rfl ?_
    refine R_ior e_X12_hour_3.2.2.1 ?_
    refine R_istore_n (ls2 := [(2, vI (kor l2 r14)), (0, vA G 0), (1, vI l1), (3, vI l3)]) e_X12_hour_3.2.2.2.1 (by decide) rfl ?_
    refine R_iinc (ls2 := [(3, vI (l3 + 1)), (2, vI (kor l2 r14)), (0, vA G 0), (1, vI l1)]) e_X12_hour_3.2.2.2.2.1 3 rfl (by decide) rfl ?_
    refine R_goto 43 e_X12_hour_3.2.2.2.2.2.1 (by decide) ?_
    refine R_ls (ls2 := [(0, vA G 0), (1, vI l1), (2, vI (kor l2 r14)), (3, vI (l3 + 1))]) [2, 3, 1, 0] rfl ?_
    exact h
/-! KiteLandModel.walks(II)Z -/
theorem e_X12_walks_0 : decode cX12_walks 0 = .ok (.aload_n 0, 1) ∧ decode cX12_walks 1 = .ok (.iload_n 1, 1) ∧ decode cX12_walks 2 = .ok (.iconst 0, 1) ∧ decode cX12_walks 3 = .ok (.invokevirtual 268, 3) ∧ decode cX12_walks 6 = .ok (.iload_n 2, 1) ∧ decode cX12_walks 7 = .ok (.iconst 2, 1) ∧ decode cX12_walks 8 = .ok (.if_icmp .ne 7, 3) ∧ decode cX12_walks 11 = .ok (.iconst 1, 1) ∧ decode cX12_walks 12 = .ok (.goto 13, 3) ∧ decode cX12_walks 15 = .ok (.iload_n 2, 1) := by decide +kernel
theorem e_X12_walks_1 : decode cX12_walks 16 = .ok (.iconst 4, 1) ∧ decode cX12_walks 17 = .ok (.if_icmp .ne 7, 3) ∧ decode cX12_walks 20 = .ok (.iconst (-1), 1) ∧ decode cX12_walks 21 = .ok (.goto 4, 3) ∧ decode cX12_walks 24 = .ok (.iconst 0, 1) ∧ decode cX12_walks 25 = .ok (.iadd, 1) ∧ decode cX12_walks 26 = .ok (.istore_n 3, 1) ∧ decode cX12_walks 27 = .ok (.aload_n 0, 1) ∧ decode cX12_walks 28 = .ok (.iload_n 1, 1) ∧ decode cX12_walks 29 = .ok (.iconst 1, 1) := by decide +kernel
theorem e_X12_walks_2 : decode cX12_walks 30 = .ok (.invokevirtual 268, 3) ∧ decode cX12_walks 33 = .ok (.iload_n 2, 1) ∧ decode cX12_walks 34 = .ok (.iconst 3, 1) ∧ decode cX12_walks 35 = .ok (.if_icmp .ne 7, 3) ∧ decode cX12_walks 38 = .ok (.iconst 1, 1) ∧ decode cX12_walks 39 = .ok (.goto 13, 3) ∧ decode cX12_walks 42 = .ok (.iload_n 2, 1) ∧ decode cX12_walks 43 = .ok (.iconst 1, 1) ∧ decode cX12_walks 44 = .ok (.if_icmp .ne 7, 3) ∧ decode cX12_walks 47 = .ok (.iconst (-1), 1) := by decide +kernel
theorem e_X12_walks_3 : decode cX12_walks 48 = .ok (.goto 4, 3) ∧ decode cX12_walks 51 = .ok (.iconst 0, 1) ∧ decode cX12_walks 52 = .ok (.iadd, 1) ∧ decode cX12_walks 53 = .ok (.istore 4, 2) ∧ decode cX12_walks 55 = .ok (.aload_n 0, 1) ∧ decode cX12_walks 56 = .ok (.iload_n 3, 1) ∧ decode cX12_walks 57 = .ok (.iload 4, 2) ∧ decode cX12_walks 59 = .ok (.invokevirtual 355, 3) ∧ decode cX12_walks 62 = .ok (.ifCond .ne 5, 3) ∧ decode cX12_walks 65 = .ok (.iconst 0, 1) := by decide +kernel
theorem e_X12_walks_4 : decode cX12_walks 66 = .ok (.ireturn, 1) ∧ decode cX12_walks 67 = .ok (.aload_n 0, 1) ∧ decode cX12_walks 68 = .ok (.getfield 7, 3) ∧ decode cX12_walks 71 = .ok (.iload_n 1, 1) ∧ decode cX12_walks 72 = .ok (.invokestatic 265, 3) ∧ decode cX12_walks 75 = .ok (.iload_n 3, 1) ∧ decode cX12_walks 76 = .ok (.iastore, 1) ∧ decode cX12_walks 77 = .ok (.aload_n 0, 1) ∧ decode cX12_walks 78 = .ok (.getfield 7, 3) ∧ decode cX12_walks 81 = .ok (.iload_n 1, 1) := by decide +kernel
theorem e_X12_walks_5 : decode cX12_walks 82 = .ok (.invokestatic 265, 3) ∧ decode cX12_walks 85 = .ok (.iconst 1, 1) ∧ decode cX12_walks 86 = .ok (.iadd, 1) ∧ decode cX12_walks 87 = .ok (.iload 4, 2) ∧ decode cX12_walks 89 = .ok (.iastore, 1) ∧ decode cX12_walks 90 = .ok (.aload_n 0, 1) ∧ decode cX12_walks 91 = .ok (.getfield 7, 3) ∧ decode cX12_walks 94 = .ok (.iload_n 1, 1) ∧ decode cX12_walks 95 = .ok (.invokestatic 265, 3) ∧ decode cX12_walks 98 = .ok (.bipush 6, 2) := by decide +kernel
theorem e_X12_walks_6 : decode cX12_walks 100 = .ok (.iadd, 1) ∧ decode cX12_walks 101 = .ok (.dup2, 1) ∧ decode cX12_walks 102 = .ok (.iaload, 1) ∧ decode cX12_walks 103 = .ok (.iload_n 2, 1) ∧ decode cX12_walks 104 = .ok (.ifCond .ne 7, 3) ∧ decode cX12_walks 107 = .ok (.iconst 0, 1) ∧ decode cX12_walks 108 = .ok (.goto 4, 3) ∧ decode cX12_walks 111 = .ok (.iconst 1, 1) ∧ decode cX12_walks 112 = .ok (.iadd, 1) ∧ decode cX12_walks 113 = .ok (.iastore, 1) := by decide +kernel
theorem e_X12_walks_7 : decode cX12_walks 114 = .ok (.iconst 1, 1) ∧ decode cX12_walks 115 = .ok (.ireturn, 1) := by decide +kernel
abbrev E_X12_walks_52 (G : Kg) (l1 l2 l3 p0 p1 : Int) (σ : Kmem) (Q : Int → Kmem → Prop) : Prop := Ex G WM M_X12_walks 2 0 0 52 [(0, vA G 0), (1, vI l1), (2, vI l2), (3, vI l3)] [vI p0, vI p1] σ Q
theorem S_X12_walks {G : Kg} {σ : Kmem} {Q : Int → Kmem → Prop} {l1 l2 : Int}  (h : Run G WM M_X12_of 1 0 0 [vA G 0, vI l1, vI 0] σ (fun r1 s2 => (rI l2) ∧ ((l2 ≠ 2 → ((l2 ≠ 4 → Run G WM M_X12_of 1 0 0 [vA G 0, vI l1, vI 1] s2 (fun r4 s5 => ((l2 ≠ 3 → ((l2 ≠ 1 → E_X12_walks_52 G l1 l2 (r1 + 0) 0 r4 s5 Q) ∧ (l2 = 1 → E_X12_walks_52 G l1 l2 (r1 + 0) (-1) r4 s5 Q))) ∧ (l2 = 3 → E_X12_walks_52 G l1 l2 (r1 + 0) 1 r4 s5 Q)))) ∧ (l2 = 4 → Run G WM M_X12_of 1 0 0 [vA G 0, vI l1, vI 1] s2 (fun r6 s7 => ((l2 ≠ 3 → ((l2 ≠ 1 → E_X12_walks_52 G l1 l2 (r1 + (-1)) 0 r6 s7 Q) ∧ (l2 = 1 → E_X12_walks_52 G l1 l2 (r1 + (-1)) (-1) r6 s7 Q))) ∧ (l2 = 3 → E_X12_walks_52 G l1 l2 (r1 + (-1)) 1 r6 s7 Q)))))) ∧ (l2 = 2 → Run G WM M_X12_of 1 0 0 [vA G 0, vI l1, vI 1] s2 (fun r8 s9 => ((l2 ≠ 3 → ((l2 ≠ 1 → E_X12_walks_52 G l1 l2 (r1 + 1) 0 r8 s9 Q) ∧ (l2 = 1 → E_X12_walks_52 G l1 l2 (r1 + 1) (-1) r8 s9 Q))) ∧ (l2 = 3 → E_X12_walks_52 G l1 l2 (r1 + 1) 1 r8 s9 Q))))))) : Run G WM M_X12_walks 2 0 0 [vA G 0, vI l1, vI l2] σ Q := by
  refine Run.of (by decide +kernel) (by show (3 : Nat) ≤ 5; decide) ?_
  show Ex G WM M_X12_walks 2 0 0 0 [(0, vA G 0), (1, vI l1), (2, vI l2)] [] σ Q
  refine R_aload_n e_X12_walks_0.1 0 rfl ?_
  refine R_iload_n e_X12_walks_0.2.1 1 rfl ?_
  refine R_iconst e_X12_walks_0.2.2.1 ?_
  refine R_callV (mc := 0) (ms := 0) (mc' := 0) (ms' := 0) (M' := M_X12_of) (d' := 1) (as := [vI l1, vI 0]) (st := []) 12 2 e_X12_walks_0.2.2.2.1 (kCVof m_X12_of l_X12_268) rfl (by decide) km_0 (by decide) (by decide) rfl rfl (by show (0 : Nat) ≤ 8; decide) ?_
  refine Run.mono h (fun r1 s2 h => ?_)
  refine R_eqs (st2 := [vI r1]) rfl rfl ?_
  refine R_iload_n e_X12_walks_0.2.2.2.2.1 2 rfl ?_
  refine R_iconst e_X12_walks_0.2.2.2.2.2.1 ?_
  obtain ⟨q3, h⟩ := h
  refine R_icmp_ne 15 e_X12_walks_0.2.2.2.2.2.2.1 (by decide) q3 (by decide) (fun q => ?_) (fun q => ?_)
  · replace h := h.1 q
    refine R_iload_n e_X12_walks_0.2.2.2.2.2.2.2.2.2 2 rfl ?_
    refine R_iconst e_X12_walks_1.1 ?_
    refine R_icmp_ne 24 e_X12_walks_1.2.1 (by decide) q3 (by decide) (fun q => ?_) (fun q => ?_)
    · replace h := h.1 q
      refine R_iconst e_X12_walks_1.2.2.2.2.1 ?_
      refine R_iadd e_X12_walks_1.2.2.2.2.2.1 ?_
      refine R_istore_n (ls2 := [(3, vI (r1 + 0)), (0, vA G 0), (1, vI l1), (2, vI l2)]) e_X12_walks_1.2.2.2.2.2.2.1 (by decide) rfl ?_
      refine R_aload_n e_X12_walks_1.2.2.2.2.2.2.2.1 1 rfl ?_
      refine R_iload_n e_X12_walks_1.2.2.2.2.2.2.2.2.1 2 rfl ?_
      refine R_iconst e_X12_walks_1.2.2.2.2.2.2.2.2.2 ?_
      refine R_callV (mc := 0) (ms := 0) (mc' := 0) (ms' := 0) (M' := M_X12_of) (d' := 1) (as := [vI l1, vI 1]) (st := []) 12 2 e_X12_walks_2.1 (kCVof m_X12_of l_X12_268) rfl (by decide) km_0 (by decide) (by decide) rfl rfl (by show (0 : Nat) ≤ 8; decide) ?_
      refine Run.mono h (fun r4 s5 h => ?_)
      refine R_eqs (st2 := [vI r4]) rfl rfl ?_
      refine R_iload_n e_X12_walks_2.2.1 3 rfl ?_
      refine R_iconst e_X12_walks_2.2.2.1 ?_
      refine R_icmp_ne 42 e_X12_walks_2.2.2.2.1 (by decide) q3 (by decide) (fun q => ?_) (fun q => ?_)
      · replace h := h.1 q
        refine R_iload_n e_X12_walks_2.2.2.2.2.2.2.1 3 rfl ?_
        refine R_iconst e_X12_walks_2.2.2.2.2.2.2.2.1 ?_
        refine R_icmp_ne 51 e_X12_walks_2.2.2.2.2.2.2.2.2.1 (by decide) q3 (by decide) (fun q => ?_) (fun q => ?_)
        · replace h := h.1 q
          refine R_iconst e_X12_walks_3.2.1 ?_
          refine R_ls (ls2 := [(0, vA G 0), (1, vI l1), (2, vI l2), (3, vI (r1 + 0))]) [1, 2, 3, 0] rfl ?_
          exact h
        · replace h := h.2 q
          refine R_iconst e_X12_walks_2.2.2.2.2.2.2.2.2.2 ?_
          refine R_goto 52 e_X12_walks_3.1 (by decide) ?_
          refine R_ls (ls2 := [(0, vA G 0), (1, vI l1), (2, vI l2), (3, vI (r1 + 0))]) [1, 2, 3, 0] rfl ?_
          exact h
      · replace h := h.2 q
        refine R_iconst e_X12_walks_2.2.2.2.2.1 ?_
        refine R_goto 52 e_X12_walks_2.2.2.2.2.2.1 (by decide) ?_
        refine R_ls (ls2 := [(0, vA G 0), (1, vI l1), (2, vI l2), (3, vI (r1 + 0))]) [1, 2, 3, 0] rfl ?_
        exact h
    · replace h := h.2 q
      refine R_iconst e_X12_walks_1.2.2.1 ?_
      refine R_goto 25 e_X12_walks_1.2.2.2.1 (by decide) ?_
      refine R_iadd e_X12_walks_1.2.2.2.2.2.1 ?_
      refine R_istore_n (ls2 := [(3, vI (r1 + (-1))), (0, vA G 0), (1, vI l1), (2, vI l2)]) e_X12_walks_1.2.2.2.2.2.2.1 (by decide) rfl ?_
      refine R_aload_n e_X12_walks_1.2.2.2.2.2.2.2.1 1 rfl ?_
      refine R_iload_n e_X12_walks_1.2.2.2.2.2.2.2.2.1 2 rfl ?_
      refine R_iconst e_X12_walks_1.2.2.2.2.2.2.2.2.2 ?_
      refine R_callV (mc := 0) (ms := 0) (mc' := 0) (ms' := 0) (M' := M_X12_of) (d' := 1) (as := [vI l1, vI 1]) (st := []) 12 2 e_X12_walks_2.1 (kCVof m_X12_of l_X12_268) rfl (by decide) km_0 (by decide) (by decide) rfl rfl (by show (0 : Nat) ≤ 8; decide) ?_
      refine Run.mono h (fun r6 s7 h => ?_)
      refine R_eqs (st2 := [vI r6]) rfl rfl ?_
      refine R_iload_n e_X12_walks_2.2.1 3 rfl ?_
      refine R_iconst e_X12_walks_2.2.2.1 ?_
      refine R_icmp_ne 42 e_X12_walks_2.2.2.2.1 (by decide) q3 (by decide) (fun q => ?_) (fun q => ?_)
      · replace h := h.1 q
        refine R_iload_n e_X12_walks_2.2.2.2.2.2.2.1 3 rfl ?_
        refine R_iconst e_X12_walks_2.2.2.2.2.2.2.2.1 ?_
        refine R_icmp_ne 51 e_X12_walks_2.2.2.2.2.2.2.2.2.1 (by decide) q3 (by decide) (fun q => ?_) (fun q => ?_)
        · replace h := h.1 q
          refine R_iconst e_X12_walks_3.2.1 ?_
          refine R_ls (ls2 := [(0, vA G 0), (1, vI l1), (2, vI l2), (3, vI (r1 + (-1)))]) [1, 2, 3, 0] rfl ?_
          exact h
        · replace h := h.2 q
          refine R_iconst e_X12_walks_2.2.2.2.2.2.2.2.2.2 ?_
          refine R_goto 52 e_X12_walks_3.1 (by decide) ?_
          refine R_ls (ls2 := [(0, vA G 0), (1, vI l1), (2, vI l2), (3, vI (r1 + (-1)))]) [1, 2, 3, 0] rfl ?_
          exact h
      · replace h := h.2 q
        refine R_iconst e_X12_walks_2.2.2.2.2.1 ?_
        refine R_goto 52 e_X12_walks_2.2.2.2.2.2.1 (by decide) ?_
        refine R_ls (ls2 := [(0, vA G 0), (1, vI l1), (2, vI l2), (3, vI (r1 + (-1)))]) [1, 2, 3, 0] rfl ?_
        exact h
  · replace h := h.2 q
    refine R_iconst e_X12_walks_0.2.2.2.2.2.2.2.1 ?_
    refine R_goto 25 e_X12_walks_0.2.2.2.2.2.2.2.2.1 (by decide) ?_
    refine R_iadd e_X12_walks_1.2.2.2.2.2.1 ?_
    refine R_istore_n (ls2 := [(3, vI (r1 + 1)), (0, vA G 0), (1, vI l1), (2, vI l2)]) e_X12_walks_1.2.2.2.2.2.2.1 (by decide) rfl ?_
    refine R_aload_n e_X12_walks_1.2.2.2.2.2.2.2.1 1 rfl ?_
    refine R_iload_n e_X12_walks_1.2.2.2.2.2.2.2.2.1 2 rfl ?_
    refine R_iconst e_X12_walks_1.2.2.2.2.2.2.2.2.2 ?_
    refine R_callV (mc := 0) (ms := 0) (mc' := 0) (ms' := 0) (M' := M_X12_of) (d' := 1) (as := [vI l1, vI 1]) (st := []) 12 2 e_X12_walks_2.1 (kCVof m_X12_of l_X12_268) rfl (by decide) km_0 (by decide) (by decide) rfl rfl (by show (0 : Nat) ≤ 8; decide) ?_
    refine Run.mono h (fun r8 s9 h => ?_)
    refine R_eqs (st2 := [vI r8]) rfl rfl ?_
    refine R_iload_n e_X12_walks_2.2.1 3 rfl ?_
    refine R_iconst e_X12_walks_2.2.2.1 ?_
    refine R_icmp_ne 42 e_X12_walks_2.2.2.2.1 (by decide) q3 (by decide) (fun q => ?_) (fun q => ?_)
    · replace h := h.1 q
      refine R_iload_n e_X12_walks_2.2.2.2.2.2.2.1 3 rfl ?_
      refine R_iconst e_X12_walks_2.2.2.2.2.2.2.2.1 ?_
      refine R_icmp_ne 51 e_X12_walks_2.2.2.2.2.2.2.2.2.1 (by decide) q3 (by decide) (fun q => ?_) (fun q => ?_)
      · replace h := h.1 q
        refine R_iconst e_X12_walks_3.2.1 ?_
        refine R_ls (ls2 := [(0, vA G 0), (1, vI l1), (2, vI l2), (3, vI (r1 + 1))]) [1, 2, 3, 0] rfl ?_
        exact h
      · replace h := h.2 q
        refine R_iconst e_X12_walks_2.2.2.2.2.2.2.2.2.2 ?_
        refine R_goto 52 e_X12_walks_3.1 (by decide) ?_
        refine R_ls (ls2 := [(0, vA G 0), (1, vI l1), (2, vI l2), (3, vI (r1 + 1))]) [1, 2, 3, 0] rfl ?_
        exact h
    · replace h := h.2 q
      refine R_iconst e_X12_walks_2.2.2.2.2.1 ?_
      refine R_goto 52 e_X12_walks_2.2.2.2.2.2.1 (by decide) ?_
      refine R_ls (ls2 := [(0, vA G 0), (1, vI l1), (2, vI l2), (3, vI (r1 + 1))]) [1, 2, 3, 0] rfl ?_
      exact h
theorem S_X12_walks_52 {G : Kg} {σ : Kmem} {Q : Int → Kmem → Prop} {l1 l2 l3 p0 p1 : Int}  (h : Run G WM M_X12_isField 0 0 0 [vA G 0, vI l3, vI (p1 + p0)] σ (fun r10 s11 => (rI r10) ∧ ((r10 ≠ 0 → Run G WM M_X12_kiteRow 0 0 0 [vI l1] s11 (fun r13 s14 => (0 ≤ r13 ∧ r13 < 3598) ∧ Run G WM M_X12_kiteRow 0 0 0 [vI l1] (kup s14 1 r13 l3) (fun r16 s17 => (0 ≤ r16 + 1 ∧ r16 + 1 < 3598) ∧ Run G WM M_X12_kiteRow 0 0 0 [vI l1] (kup s17 1 (r16 + 1) (p1 + p0)) (fun r19 s20 => (0 ≤ r19 + 6 ∧ r19 + 6 < 3598) ∧ (rI l2) ∧ ((l2 ≠ 0 → (0 ≤ r19 + 6 ∧ r19 + 6 < 3598) ∧ Q 1 (kup s20 1 (r19 + 6) ((s20 1 (r19 + 6)) + 1))) ∧ (l2 = 0 → (0 ≤ r19 + 6 ∧ r19 + 6 < 3598) ∧ Q 1 (kup s20 1 (r19 + 6) ((s20 1 (r19 + 6)) + 0)))))))) ∧ (r10 = 0 → Q 0 s11)))) : E_X12_walks_52 G l1 l2 l3 p0 p1 σ Q := by
  refine R_iadd e_X12_walks_3.2.2.1 ?_
  refine R_istore (ls2 := [(4, vI (p1 + p0)), (0, vA G 0), (1, vI l1), (2, vI l2), (3, vI l3)]) e_X12_walks_3.2.2.2.1 (by decide) rfl ?_
  refine R_aload_n e_X12_walks_3.2.2.2.2.1 1 rfl ?_
  refine R_iload_n e_X12_walks_3.2.2.2.2.2.1 4 rfl ?_
  refine R_iload e_X12_walks_3.2.2.2.2.2.2.1 0 rfl ?_
  refine R_callV (mc := 0) (ms := 0) (mc' := 0) (ms' := 0) (M' := M_X12_isField) (d' := 0) (as := [vI l3, vI (p1 + p0)]) (st := []) 12 2 e_X12_walks_3.2.2.2.2.2.2.2.1 (kCVof m_X12_isField l_X12_355) rfl (by decide) km_0 (by decide) (by decide) rfl rfl (by show (0 : Nat) ≤ 8; decide) ?_
  refine Run.mono h (fun r10 s11 h => ?_)
  refine R_eqs (st2 := [vI r10]) rfl rfl ?_
  obtain ⟨q12, h⟩ := h
  refine R_if_ne 67 e_X12_walks_3.2.2.2.2.2.2.2.2.1 (by decide) q12  (fun q => ?_) (fun q => ?_)
  · replace h := h.1 q
    refine R_aload_n e_X12_walks_4.2.1 1 rfl ?_
    refine R_getA 12 0 1 e_X12_walks_4.2.2.1 f_X12_7 km_0 (fun _ _ => rfl) rm_0_0 (by decide) ?_
    refine R_iload_n e_X12_walks_4.2.2.2.1 2 rfl ?_
    refine R_callS (mc := 0) (ms := 0) (mc' := 0) (ms' := 0) (M' := M_X12_kiteRow) (d' := 0) (as := [vI l1]) (st := [vA G 1]) 1 e_X12_walks_4.2.2.2.2.1 (kCSof m_X12_kiteRow l_X12_265) (by decide) (by decide) rfl rfl (by show (1 : Nat) ≤ 8; decide) ?_
    refine Run.mono h (fun r13 s14 h => ?_)
    refine R_eqs (st2 := [vI r13, vA G 1]) rfl rfl ?_
    refine R_iload_n e_X12_walks_4.2.2.2.2.2.1 4 rfl ?_
    obtain ⟨q15, h⟩ := h
    refine R_iast 3598 WM_ok e_X12_walks_4.2.2.2.2.2.2.1 kma_1 q15 ?_
    refine R_aload_n e_X12_walks_4.2.2.2.2.2.2.2.1 1 rfl ?_
    refine R_getA 12 0 1 e_X12_walks_4.2.2.2.2.2.2.2.2.1 f_X12_7 km_0 (fun _ _ => rfl) rm_0_0 (by decide) ?_
    refine R_iload_n e_X12_walks_4.2.2.2.2.2.2.2.2.2 2 rfl ?_
    refine R_callS (mc := 0) (ms := 0) (mc' := 0) (ms' := 0) (M' := M_X12_kiteRow) (d' := 0) (as := [vI l1]) (st := [vA G 1]) 1 e_X12_walks_5.1 (kCSof m_X12_kiteRow l_X12_265) (by decide) (by decide) rfl rfl (by show (1 : Nat) ≤ 8; decide) ?_
    refine Run.mono h (fun r16 s17 h => ?_)
    refine R_eqs (st2 := [vI r16, vA G 1]) rfl rfl ?_
    refine R_iconst e_X12_walks_5.2.1 ?_
    refine R_iadd e_X12_walks_5.2.2.1 ?_
    refine R_iload e_X12_walks_5.2.2.2.1 0 rfl ?_
    obtain ⟨q18, h⟩ := h
    refine R_iast 3598 WM_ok e_X12_walks_5.2.2.2.2.1 kma_1 q18 ?_
    refine R_aload_n e_X12_walks_5.2.2.2.2.2.1 1 rfl ?_
    refine R_getA 12 0 1 e_X12_walks_5.2.2.2.2.2.2.1 f_X12_7 km_0 (fun _ _ => rfl) rm_0_0 (by decide) ?_
    refine R_iload_n e_X12_walks_5.2.2.2.2.2.2.2.1 2 rfl ?_
    refine R_callS (mc := 0) (ms := 0) (mc' := 0) (ms' := 0) (M' := M_X12_kiteRow) (d' := 0) (as := [vI l1]) (st := [vA G 1]) 1 e_X12_walks_5.2.2.2.2.2.2.2.2.1 (kCSof m_X12_kiteRow l_X12_265) (by decide) (by decide) rfl rfl (by show (1 : Nat) ≤ 8; decide) ?_
    refine Run.mono h (fun r19 s20 h => ?_)
    refine R_eqs (st2 := [vI r19, vA G 1]) rfl rfl ?_
    refine R_bipush e_X12_walks_5.2.2.2.2.2.2.2.2.2 (by decide) ?_
    refine R_iadd e_X12_walks_6.1 ?_
    refine R_dup2 e_X12_walks_6.2.1 rfl rfl ?_
    obtain ⟨q21, h⟩ := h
    refine R_iald 3598 e_X12_walks_6.2.2.1 kma_1 q21 ?_
    refine R_iload_n e_X12_walks_6.2.2.2.1 3 rfl ?_
    obtain ⟨q22, h⟩ := h
    refine R_if_ne 111 e_X12_walks_6.2.2.2.2.1 (by decide) q22  (fun q => ?_) (fun q => ?_)
    · replace h := h.1 q
      refine R_iconst e_X12_walks_6.2.2.2.2.2.2.2.1 ?_
      refine R_iadd e_X12_walks_6.2.2.2.2.2.2.2.2.1 ?_
      obtain ⟨q23, h⟩ := h
      refine R_iast 3598 WM_ok e_X12_walks_6.2.2.2.2.2.2.2.2.2 kma_1 q23 ?_
      refine R_iconst e_X12_walks_7.1 ?_
      exact R_zreturn e_X12_walks_7.2 rfl (Or.inr rfl) h
    · replace h := h.2 q
      refine R_iconst e_X12_walks_6.2.2.2.2.2.1 ?_
      refine R_goto 112 e_X12_walks_6.2.2.2.2.2.2.1 (by decide) ?_
      refine R_iadd e_X12_walks_6.2.2.2.2.2.2.2.2.1 ?_
      obtain ⟨q24, h⟩ := h
      refine R_iast 3598 WM_ok e_X12_walks_6.2.2.2.2.2.2.2.2.2 kma_1 q24 ?_
      refine R_iconst e_X12_walks_7.1 ?_
      exact R_zreturn e_X12_walks_7.2 rfl (Or.inr rfl) h
  · replace h := h.2 q
    refine R_iconst e_X12_walks_3.2.2.2.2.2.2.2.2.2 ?_
    exact R_zreturn e_X12_walks_4.1 rfl (Or.inl rfl) h
/-! KiteLandModel.walk(II)I -/
theorem e_X12_walk_0 : decode cX12_walk 0 = .ok (.aload_n 0, 1) ∧ decode cX12_walk 1 = .ok (.iload_n 1, 1) ∧ decode cX12_walk 2 = .ok (.invokevirtual 343, 3) ∧ decode cX12_walk 5 = .ok (.ifCond .eq 15, 3) ∧ decode cX12_walk 8 = .ok (.iload_n 2, 1) ∧ decode cX12_walk 9 = .ok (.i2l, 1) ∧ decode cX12_walk 10 = .ok (.lconst 0, 1) ∧ decode cX12_walk 11 = .ok (.ldc2_w 400, 3) ∧ decode cX12_walk 14 = .ok (.invokestatic 393, 3) ∧ decode cX12_walk 17 = .ok (.ifCond .ne 9, 3) := by decide +kernel
theorem e_X12_walk_1 : decode cX12_walk 20 = .ok (.aload_n 0, 1) ∧ decode cX12_walk 21 = .ok (.iconst 1, 1) ∧ decode cX12_walk 22 = .ok (.invokevirtual 93, 3) ∧ decode cX12_walk 25 = .ok (.ireturn, 1) ∧ decode cX12_walk 26 = .ok (.aload_n 0, 1) ∧ decode cX12_walk 27 = .ok (.iload_n 1, 1) ∧ decode cX12_walk 28 = .ok (.iload_n 2, 1) ∧ decode cX12_walk 29 = .ok (.invokevirtual 402, 3) ∧ decode cX12_walk 32 = .ok (.ifCond .eq 26, 3) ∧ decode cX12_walk 35 = .ok (.aload_n 0, 1) := by decide +kernel
theorem e_X12_walk_2 : decode cX12_walk 36 = .ok (.bipush 10, 2) ∧ decode cX12_walk 38 = .ok (.aload_n 0, 1) ∧ decode cX12_walk 39 = .ok (.iload_n 1, 1) ∧ decode cX12_walk 40 = .ok (.iconst 1, 1) ∧ decode cX12_walk 41 = .ok (.invokevirtual 268, 3) ∧ decode cX12_walk 44 = .ok (.imul, 1) ∧ decode cX12_walk 45 = .ok (.aload_n 0, 1) ∧ decode cX12_walk 46 = .ok (.iload_n 1, 1) ∧ decode cX12_walk 47 = .ok (.iconst 0, 1) ∧ decode cX12_walk 48 = .ok (.invokevirtual 268, 3) := by decide +kernel
theorem e_X12_walk_3 : decode cX12_walk 51 = .ok (.iadd, 1) ∧ decode cX12_walk 52 = .ok (.invokevirtual 97, 3) ∧ decode cX12_walk 55 = .ok (.goto 9, 3) ∧ decode cX12_walk 58 = .ok (.aload_n 0, 1) ∧ decode cX12_walk 59 = .ok (.bipush 7, 2) ∧ decode cX12_walk 61 = .ok (.invokevirtual 93, 3) ∧ decode cX12_walk 64 = .ok (.ireturn, 1) := by decide +kernel
theorem S_X12_walk {G : Kg} {σ : Kmem} {Q : Int → Kmem → Prop} {l1 l2 : Int}  (h : Run G WM M_X12_isKite 0 0 0 [vA G 0, vI l1] σ (fun r1 s2 => (rI r1) ∧ ((r1 = 0 → Run G WM M_X12_refuse 0 0 0 [vA G 0, vI 1] s2 (fun r4 s5 => Q r4 s5)) ∧ (r1 ≠ 0 → (rI l2) ∧ Run G WM M_X12_isFrom 0 0 0 [vL l2, vL 0, vL 4] s2 (fun r7 s8 => (rI r7) ∧ ((r7 ≠ 0 → Run G WM M_X12_walks 2 0 0 [vA G 0, vI l1, vI l2] s8 (fun r10 s11 => (rI r10) ∧ ((r10 = 0 → Run G WM M_X12_refuse 0 0 0 [vA G 0, vI 7] s11 (fun r13 s14 => Q r13 s14)) ∧ (r10 ≠ 0 → Run G WM M_X12_of 1 0 0 [vA G 0, vI l1, vI 1] s11 (fun r15 s16 => Run G WM M_X12_of 1 0 0 [vA G 0, vI l1, vI 0] s16 (fun r17 s18 => Run G WM M_X12_gives 0 0 0 [vA G 0, vI ((10 * r15) + r17)] s18 (fun r19 s20 => Q r19 s20))))))) ∧ (r7 = 0 → Run G WM M_X12_refuse 0 0 0 [vA G 0, vI 1] s8 (fun r21 s22 => Q r21 s22)))))))) : Run G WM M_X12_walk 3 0 0 [vA G 0, vI l1, vI l2] σ Q := by
  refine Run.of (by decide +kernel) (by show (3 : Nat) ≤ 3; decide) ?_
  show Ex G WM M_X12_walk 3 0 0 0 [(0, vA G 0), (1, vI l1), (2, vI l2)] [] σ Q
  refine R_aload_n e_X12_walk_0.1 0 rfl ?_
  refine R_iload_n e_X12_walk_0.2.1 1 rfl ?_
  refine R_callV (mc := 0) (ms := 0) (mc' := 0) (ms' := 0) (M' := M_X12_isKite) (d' := 0) (as := [vI l1]) (st := []) 12 1 e_X12_walk_0.2.2.1 (kCVof m_X12_isKite l_X12_343) rfl (by decide) km_0 (by decide) (by decide) rfl rfl (by show (0 : Nat) ≤ 8; decide) ?_
  refine Run.mono h (fun r1 s2 h => ?_)
  refine R_eqs (st2 := [vI r1]) rfl rfl ?_
  obtain ⟨q3, h⟩ := h
  refine R_if_eq 20 e_X12_walk_0.2.2.2.1 (by decide) q3  (fun q => ?_) (fun q => ?_)
  · replace h := h.1 q
    refine R_aload_n e_X12_walk_1.1 0 rfl ?_
    refine R_iconst e_X12_walk_1.2.1 ?_
    refine R_callV (mc := 0) (ms := 0) (mc' := 0) (ms' := 0) (M' := M_X12_refuse) (d' := 0) (as := [vI 1]) (st := []) 12 1 e_X12_walk_1.2.2.1 (kCVof m_X12_refuse l_X12_93) rfl (by decide) km_0 (by decide) (by decide) rfl rfl (by show (0 : Nat) ≤ 8; decide) ?_
    refine Run.mono h (fun r4 s5 h => ?_)
    refine R_eqs (st2 := [vI r4]) rfl rfl ?_
    exact R_ireturn e_X12_walk_1.2.2.2.1 rfl h
  · replace h := h.2 q
    refine R_iload_n e_X12_walk_0.2.2.2.2.1 2 rfl ?_
    obtain ⟨q6, h⟩ := h
    refine R_i2l e_X12_walk_0.2.2.2.2.2.1 q6 ?_
    refine R_lconst 0 e_X12_walk_0.2.2.2.2.2.2.1 (by decide) ?_
    refine R_ldc2 (4) k_X12_400 e_X12_walk_0.2.2.2.2.2.2.2.1 ?_
    refine R_callS (mc := 0) (ms := 0) (mc' := 0) (ms' := 0) (M' := M_X12_isFrom) (d' := 0) (as := [vL l2, vL 0, vL 4]) (st := []) 3 e_X12_walk_0.2.2.2.2.2.2.2.2.1 (kCSof m_X12_isFrom l_X12_393) (by decide) (by decide) rfl rfl (by show (0 : Nat) ≤ 8; decide) ?_
    refine Run.mono h (fun r7 s8 h => ?_)
    refine R_eqs (st2 := [vI r7]) rfl rfl ?_
    obtain ⟨q9, h⟩ := h
    refine R_if_ne 26 e_X12_walk_0.2.2.2.2.2.2.2.2.2 (by decide) q9  (fun q => ?_) (fun q => ?_)
    · replace h := h.1 q
      refine R_aload_n e_X12_walk_1.2.2.2.2.1 0 rfl ?_
      refine R_iload_n e_X12_walk_1.2.2.2.2.2.1 1 rfl ?_
      refine R_iload_n e_X12_walk_1.2.2.2.2.2.2.1 2 rfl ?_
      refine R_callV (mc := 0) (ms := 0) (mc' := 0) (ms' := 0) (M' := M_X12_walks) (d' := 2) (as := [vI l1, vI l2]) (st := []) 12 2 e_X12_walk_1.2.2.2.2.2.2.2.1 (kCVof m_X12_walks l_X12_402) rfl (by decide) km_0 (by decide) (by decide) rfl rfl (by show (0 : Nat) ≤ 8; decide) ?_
      refine Run.mono h (fun r10 s11 h => ?_)
      refine R_eqs (st2 := [vI r10]) rfl rfl ?_
      obtain ⟨q12, h⟩ := h
      refine R_if_eq 58 e_X12_walk_1.2.2.2.2.2.2.2.2.1 (by decide) q12  (fun q => ?_) (fun q => ?_)
      · replace h := h.1 q
        refine R_aload_n e_X12_walk_3.2.2.2.1 0 rfl ?_
        refine R_bipush e_X12_walk_3.2.2.2.2.1 (by decide) ?_
        refine R_callV (mc := 0) (ms := 0) (mc' := 0) (ms' := 0) (M' := M_X12_refuse) (d' := 0) (as := [vI 7]) (st := []) 12 1 e_X12_walk_3.2.2.2.2.2.1 (kCVof m_X12_refuse l_X12_93) rfl (by decide) km_0 (by decide) (by decide) rfl rfl (by show (0 : Nat) ≤ 8; decide) ?_
        refine Run.mono h (fun r13 s14 h => ?_)
        refine R_eqs (st2 := [vI r13]) rfl rfl ?_
        exact R_ireturn e_X12_walk_3.2.2.2.2.2.2 rfl h
      · replace h := h.2 q
        refine R_aload_n e_X12_walk_1.2.2.2.2.2.2.2.2.2 0 rfl ?_
        refine R_bipush e_X12_walk_2.1 (by decide) ?_
        refine R_aload_n e_X12_walk_2.2.1 0 rfl ?_
        refine R_iload_n e_X12_walk_2.2.2.1 1 rfl ?_
        refine R_iconst e_X12_walk_2.2.2.2.1 ?_
        refine R_callV (mc := 0) (ms := 0) (mc' := 0) (ms' := 0) (M' := M_X12_of) (d' := 1) (as := [vI l1, vI 1]) (st := [vI 10, vA G 0]) 12 2 e_X12_walk_2.2.2.2.2.1 (kCVof m_X12_of l_X12_268) rfl (by decide) km_0 (by decide) (by decide) rfl rfl (by show (2 : Nat) ≤ 8; decide) ?_
        refine Run.mono h (fun r15 s16 h => ?_)
        refine R_eqs (st2 := [vI r15, vI 10, vA G 0]) rfl rfl ?_
        refine R_imul e_X12_walk_2.2.2.2.2.2.1 ?_
        refine R_aload_n e_X12_walk_2.2.2.2.2.2.2.1 0 rfl ?_
        refine R_iload_n e_X12_walk_2.2.2.2.2.2.2.2.1 1 rfl ?_
        refine R_iconst e_X12_walk_2.2.2.2.2.2.2.2.2.1 ?_
        refine R_callV (mc := 0) (ms := 0) (mc' := 0) (ms' := 0) (M' := M_X12_of) (d' := 1) (as := [vI l1, vI 0]) (st := [vI (10 * r15), vA G 0]) 12 2 e_X12_walk_2.2.2.2.2.2.2.2.2.2 (kCVof m_X12_of l_X12_268) rfl (by decide) km_0 (by decide) (by decide) rfl rfl (by show (2 : Nat) ≤ 8; decide) ?_
        refine Run.mono h (fun r17 s18 h => ?_)
        refine R_eqs (st2 := [vI r17, vI (10 * r15), vA G 0]) rfl rfl ?_
        refine R_iadd e_X12_walk_3.1 ?_
        refine R_callV (mc := 0) (ms := 0) (mc' := 0) (ms' := 0) (M' := M_X12_gives) (d' := 0) (as := [vI ((10 * r15) + r17)]) (st := []) 12 1 e_X12_walk_3.2.1 (kCVof m_X12_gives l_X12_97) rfl (by decide) km_0 (by decide) (by decide) rfl rfl (by show (0 : Nat) ≤ 8; decide) ?_
        refine Run.mono h (fun r19 s20 h => ?_)
        refine R_eqs (st2 := [vI r19]) rfl rfl ?_
        refine R_goto 64 e_X12_walk_3.2.2.1 (by decide) ?_
        exact R_ireturn e_X12_walk_3.2.2.2.2.2.2 rfl h
    · replace h := h.2 q
      refine R_aload_n e_X12_walk_1.1 0 rfl ?_
      refine R_iconst e_X12_walk_1.2.1 ?_
      refine R_callV (mc := 0) (ms := 0) (mc' := 0) (ms' := 0) (M' := M_X12_refuse) (d' := 0) (as := [vI 1]) (st := []) 12 1 e_X12_walk_1.2.2.1 (kCVof m_X12_refuse l_X12_93) rfl (by decide) km_0 (by decide) (by decide) rfl rfl (by show (0 : Nat) ≤ 8; decide) ?_
      refine Run.mono h (fun r21 s22 h => ?_)
      refine R_eqs (st2 := [vI r21]) rfl rfl ?_
      exact R_ireturn e_X12_walk_1.2.2.2.1 rfl h
/-! KiteLandModel.turnsCut(IZ)Z -/
theorem e_X12_turnsCut_0 : decode cX12_turnsCut 0 = .ok (.aload_n 0, 1) ∧ decode cX12_turnsCut 1 = .ok (.iload_n 1, 1) ∧ decode cX12_turnsCut 2 = .ok (.invokevirtual 271, 3) ∧ decode cX12_turnsCut 5 = .ok (.iload_n 2, 1) ∧ decode cX12_turnsCut 6 = .ok (.if_icmp .ne 5, 3) ∧ decode cX12_turnsCut 9 = .ok (.iconst 0, 1) ∧ decode cX12_turnsCut 10 = .ok (.ireturn, 1) ∧ decode cX12_turnsCut 11 = .ok (.aload_n 0, 1) ∧ decode cX12_turnsCut 12 = .ok (.getfield 7, 3) ∧ decode cX12_turnsCut 15 = .ok (.iload_n 1, 1) := by decide +kernel
theorem e_X12_turnsCut_1 : decode cX12_turnsCut 16 = .ok (.invokestatic 265, 3) ∧ decode cX12_turnsCut 19 = .ok (.bipush 8, 2) ∧ decode cX12_turnsCut 21 = .ok (.iadd, 1) ∧ decode cX12_turnsCut 22 = .ok (.iload_n 2, 1) ∧ decode cX12_turnsCut 23 = .ok (.ifCond .eq 7, 3) ∧ decode cX12_turnsCut 26 = .ok (.iconst 1, 1) ∧ decode cX12_turnsCut 27 = .ok (.goto 4, 3) ∧ decode cX12_turnsCut 30 = .ok (.iconst 0, 1) ∧ decode cX12_turnsCut 31 = .ok (.iastore, 1) ∧ decode cX12_turnsCut 32 = .ok (.iconst 1, 1) := by decide +kernel
theorem e_X12_turnsCut_2 : decode cX12_turnsCut 33 = .ok (.ireturn, 1) := by decide +kernel
theorem S_X12_turnsCut {G : Kg} {σ : Kmem} {Q : Int → Kmem → Prop} {l1 l2 : Int}  (h : Run G WM M_X12_isCut 2 0 0 [vA G 0, vI l1] σ (fun r1 s2 => (rI r1) ∧ (rI l2) ∧ ((r1 ≠ l2 → Run G WM M_X12_kiteRow 0 0 0 [vI l1] s2 (fun r5 s6 => ((l2 = 0 → (0 ≤ r5 + 8 ∧ r5 + 8 < 3598) ∧ Q 1 (kup s6 1 (r5 + 8) 0)) ∧ (l2 ≠ 0 → (0 ≤ r5 + 8 ∧ r5 + 8 < 3598) ∧ Q 1 (kup s6 1 (r5 + 8) 1))))) ∧ (r1 = l2 → Q 0 s2)))) : Run G WM M_X12_turnsCut 3 0 0 [vA G 0, vI l1, vI l2] σ Q := by
  refine Run.of (by decide +kernel) (by show (3 : Nat) ≤ 3; decide) ?_
  show Ex G WM M_X12_turnsCut 3 0 0 0 [(0, vA G 0), (1, vI l1), (2, vI l2)] [] σ Q
  refine R_aload_n e_X12_turnsCut_0.1 0 rfl ?_
  refine R_iload_n e_X12_turnsCut_0.2.1 1 rfl ?_
  refine R_callV (mc := 0) (ms := 0) (mc' := 0) (ms' := 0) (M' := M_X12_isCut) (d' := 2) (as := [vI l1]) (st := []) 12 1 e_X12_turnsCut_0.2.2.1 (kCVof m_X12_isCut l_X12_271) rfl (by decide) km_0 (by decide) (by decide) rfl rfl (by show (0 : Nat) ≤ 8; decide) ?_
  refine Run.mono h (fun r1 s2 h => ?_)
  refine R_eqs (st2 := [vI r1]) rfl rfl ?_
  refine R_iload_n e_X12_turnsCut_0.2.2.2.1 2 rfl ?_
  obtain ⟨q3, h⟩ := h
  obtain ⟨q4, h⟩ := h
  refine R_icmp_ne 11 e_X12_turnsCut_0.2.2.2.2.1 (by decide) q3 q4 (fun q => ?_) (fun q => ?_)
  · replace h := h.1 q
    refine R_aload_n e_X12_turnsCut_0.2.2.2.2.2.2.2.1 0 rfl ?_
    refine R_getA 12 0 1 e_X12_turnsCut_0.2.2.2.2.2.2.2.2.1 f_X12_7 km_0 (fun _ _ => rfl) rm_0_0 (by decide) ?_
    refine R_iload_n e_X12_turnsCut_0.2.2.2.2.2.2.2.2.2 1 rfl ?_
    refine R_callS (mc := 0) (ms := 0) (mc' := 0) (ms' := 0) (M' := M_X12_kiteRow) (d' := 0) (as := [vI l1]) (st := [vA G 1]) 1 e_X12_turnsCut_1.1 (kCSof m_X12_kiteRow l_X12_265) (by decide) (by decide) rfl rfl (by show (1 : Nat) ≤ 8; decide) ?_
    refine Run.mono h (fun r5 s6 h => ?_)
    refine R_eqs (st2 := [vI r5, vA G 1]) rfl rfl ?_
    refine R_bipush e_X12_turnsCut_1.2.1 (by decide) ?_
    refine R_iadd e_X12_turnsCut_1.2.2.1 ?_
    refine R_iload_n e_X12_turnsCut_1.2.2.2.1 2 rfl ?_
    refine R_if_eq 30 e_X12_turnsCut_1.2.2.2.2.1 (by decide) q4  (fun q => ?_) (fun q => ?_)
    · replace h := h.1 q
      refine R_iconst e_X12_turnsCut_1.2.2.2.2.2.2.2.1 ?_
      obtain ⟨q7, h⟩ := h
      refine R_iast 3598 WM_ok e_X12_turnsCut_1.2.2.2.2.2.2.2.2.1 kma_1 q7 ?_
      refine R_iconst e_X12_turnsCut_1.2.2.2.2.2.2.2.2.2 ?_
      exact R_zreturn e_X12_turnsCut_2 rfl (Or.inr rfl) h
    · replace h := h.2 q
      refine R_iconst e_X12_turnsCut_1.2.2.2.2.2.1 ?_
      refine R_goto 31 e_X12_turnsCut_1.2.2.2.2.2.2.1 (by decide) ?_
      obtain ⟨q8, h⟩ := h
      refine R_iast 3598 WM_ok e_X12_turnsCut_1.2.2.2.2.2.2.2.2.1 kma_1 q8 ?_
      refine R_iconst e_X12_turnsCut_1.2.2.2.2.2.2.2.2.2 ?_
      exact R_zreturn e_X12_turnsCut_2 rfl (Or.inr rfl) h
  · replace h := h.2 q
    refine R_iconst e_X12_turnsCut_0.2.2.2.2.2.1 ?_
    exact R_zreturn e_X12_turnsCut_0.2.2.2.2.2.2.1 rfl (Or.inl rfl) h
/-! KiteLandModel.cut(IZ)Z -/
theorem e_X12_cut_0 : decode cX12_cut 0 = .ok (.aload_n 0, 1) ∧ decode cX12_cut 1 = .ok (.aload_n 0, 1) ∧ decode cX12_cut 2 = .ok (.iload_n 1, 1) ∧ decode cX12_cut 3 = .ok (.invokevirtual 343, 3) ∧ decode cX12_cut 6 = .ok (.ifCond .ne 7, 3) ∧ decode cX12_cut 9 = .ok (.iconst 1, 1) ∧ decode cX12_cut 10 = .ok (.goto 18, 3) ∧ decode cX12_cut 13 = .ok (.aload_n 0, 1) ∧ decode cX12_cut 14 = .ok (.iload_n 1, 1) ∧ decode cX12_cut 15 = .ok (.iload_n 2, 1) := by decide +kernel
theorem e_X12_cut_1 : decode cX12_cut 16 = .ok (.invokevirtual 405, 3) ∧ decode cX12_cut 19 = .ok (.ifCond .eq 7, 3) ∧ decode cX12_cut 22 = .ok (.iconst 0, 1) ∧ decode cX12_cut 23 = .ok (.goto 5, 3) ∧ decode cX12_cut 26 = .ok (.bipush 7, 2) ∧ decode cX12_cut 28 = .ok (.invokevirtual 100, 3) ∧ decode cX12_cut 31 = .ok (.ireturn, 1) := by decide +kernel
theorem S_X12_cut {G : Kg} {σ : Kmem} {Q : Int → Kmem → Prop} {l1 l2 : Int}  (h : Run G WM M_X12_isKite 0 0 0 [vA G 0, vI l1] σ (fun r1 s2 => (rI r1) ∧ ((r1 ≠ 0 → Run G WM M_X12_turnsCut 3 0 0 [vA G 0, vI l1, vI l2] s2 (fun r4 s5 => (rI r4) ∧ ((r4 = 0 → Run G WM M_X12_is 0 0 0 [vA G 0, vI 7] s5 (fun r7 s8 => (r7 = 0 ∨ r7 = 1) ∧ Q r7 s8)) ∧ (r4 ≠ 0 → Run G WM M_X12_is 0 0 0 [vA G 0, vI 0] s5 (fun r10 s11 => (r10 = 0 ∨ r10 = 1) ∧ Q r10 s11))))) ∧ (r1 = 0 → Run G WM M_X12_is 0 0 0 [vA G 0, vI 1] s2 (fun r13 s14 => (r13 = 0 ∨ r13 = 1) ∧ Q r13 s14))))) : Run G WM M_X12_cut 4 0 0 [vA G 0, vI l1, vI l2] σ Q := by
  refine Run.of (by decide +kernel) (by show (3 : Nat) ≤ 3; decide) ?_
  show Ex G WM M_X12_cut 4 0 0 0 [(0, vA G 0), (1, vI l1), (2, vI l2)] [] σ Q
  refine R_aload_n e_X12_cut_0.1 0 rfl ?_
  refine R_aload_n e_X12_cut_0.2.1 0 rfl ?_
  refine R_iload_n e_X12_cut_0.2.2.1 1 rfl ?_
  refine R_callV (mc := 0) (ms := 0) (mc' := 0) (ms' := 0) (M' := M_X12_isKite) (d' := 0) (as := [vI l1]) (st := [vA G 0]) 12 1 e_X12_cut_0.2.2.2.1 (kCVof m_X12_isKite l_X12_343) rfl (by decide) km_0 (by decide) (by decide) rfl rfl (by show (1 : Nat) ≤ 8; decide) ?_
  refine Run.mono h (fun r1 s2 h => ?_)
  refine R_eqs (st2 := [vI r1, vA G 0]) rfl rfl ?_
  obtain ⟨q3, h⟩ := h
  refine R_if_ne 13 e_X12_cut_0.2.2.2.2.1 (by decide) q3  (fun q => ?_) (fun q => ?_)
  · replace h := h.1 q
    refine R_aload_n e_X12_cut_0.2.2.2.2.2.2.2.1 0 rfl ?_
    refine R_iload_n e_X12_cut_0.2.2.2.2.2.2.2.2.1 1 rfl ?_
    refine R_iload_n e_X12_cut_0.2.2.2.2.2.2.2.2.2 2 rfl ?_
    refine R_callV (mc := 0) (ms := 0) (mc' := 0) (ms' := 0) (M' := M_X12_turnsCut) (d' := 3) (as := [vI l1, vI l2]) (st := [vA G 0]) 12 2 e_X12_cut_1.1 (kCVof m_X12_turnsCut l_X12_405) rfl (by decide) km_0 (by decide) (by decide) rfl rfl (by show (1 : Nat) ≤ 8; decide) ?_
    refine Run.mono h (fun r4 s5 h => ?_)
    refine R_eqs (st2 := [vI r4, vA G 0]) rfl rfl ?_
    obtain ⟨q6, h⟩ := h
    refine R_if_eq 26 e_X12_cut_1.2.1 (by decide) q6  (fun q => ?_) (fun q => ?_)
    · replace h := h.1 q
      refine R_bipush e_X12_cut_1.2.2.2.2.1 (by decide) ?_
      refine R_callV (mc := 0) (ms := 0) (mc' := 0) (ms' := 0) (M' := M_X12_is) (d' := 0) (as := [vI 7]) (st := []) 12 1 e_X12_cut_1.2.2.2.2.2.1 (kCVof m_X12_is l_X12_100) rfl (by decide) km_0 (by decide) (by decide) rfl rfl (by show (0 : Nat) ≤ 8; decide) ?_
      refine Run.mono h (fun r7 s8 h => ?_)
      refine R_eqs (st2 := [vI r7]) rfl rfl ?_
      obtain ⟨q9, h⟩ := h
      exact R_zreturn e_X12_cut_1.2.2.2.2.2.2 rfl q9 h
    · replace h := h.2 q
      refine R_iconst e_X12_cut_1.2.2.1 ?_
      refine R_goto 28 e_X12_cut_1.2.2.2.1 (by decide) ?_
      refine R_callV (mc := 0) (ms := 0) (mc' := 0) (ms' := 0) (M' := M_X12_is) (d' := 0) (as := [vI 0]) (st := []) 12 1 e_X12_cut_1.2.2.2.2.2.1 (kCVof m_X12_is l_X12_100) rfl (by decide) km_0 (by decide) (by decide) rfl rfl (by show (0 : Nat) ≤ 8; decide) ?_
      refine Run.mono h (fun r10 s11 h => ?_)
      refine R_eqs (st2 := [vI r10]) rfl rfl ?_
      obtain ⟨q12, h⟩ := h
      exact R_zreturn e_X12_cut_1.2.2.2.2.2.2 rfl q12 h
  · replace h := h.2 q
    refine R_iconst e_X12_cut_0.2.2.2.2.2.1 ?_
    refine R_goto 28 e_X12_cut_0.2.2.2.2.2.2.1 (by decide) ?_
    refine R_callV (mc := 0) (ms := 0) (mc' := 0) (ms' := 0) (M' := M_X12_is) (d' := 0) (as := [vI 1]) (st := []) 12 1 e_X12_cut_1.2.2.2.2.2.1 (kCVof m_X12_is l_X12_100) rfl (by decide) km_0 (by decide) (by decide) rfl rfl (by show (0 : Nat) ≤ 8; decide) ?_
    refine Run.mono h (fun r13 s14 h => ?_)
    refine R_eqs (st2 := [vI r13]) rfl rfl ?_
    obtain ⟨q15, h⟩ := h
    exact R_zreturn e_X12_cut_1.2.2.2.2.2.2 rfl q15 h
/-! KiteLandModel.sell(II)I -/
theorem e_X12_sell_0 : decode cX12_sell 0 = .ok (.aload_n 0, 1) ∧ decode cX12_sell 1 = .ok (.iload_n 1, 1) ∧ decode cX12_sell 2 = .ok (.invokevirtual 343, 3) ∧ decode cX12_sell 5 = .ok (.ifCond .eq 17, 3) ∧ decode cX12_sell 8 = .ok (.iload_n 2, 1) ∧ decode cX12_sell 9 = .ok (.i2l, 1) ∧ decode cX12_sell 10 = .ok (.ldc2_w 409, 3) ∧ decode cX12_sell 13 = .ok (.ldc2_w 411, 3) ∧ decode cX12_sell 16 = .ok (.invokestatic 393, 3) ∧ decode cX12_sell 19 = .ok (.ifCond .ne 9, 3) := by decide +kernel
theorem e_X12_sell_1 : decode cX12_sell 22 = .ok (.aload_n 0, 1) ∧ decode cX12_sell 23 = .ok (.iconst 1, 1) ∧ decode cX12_sell 24 = .ok (.invokevirtual 93, 3) ∧ decode cX12_sell 27 = .ok (.ireturn, 1) ∧ decode cX12_sell 28 = .ok (.aload_n 0, 1) ∧ decode cX12_sell 29 = .ok (.iload_n 1, 1) ∧ decode cX12_sell 30 = .ok (.iconst 3, 1) ∧ decode cX12_sell 31 = .ok (.invokevirtual 268, 3) ∧ decode cX12_sell 34 = .ok (.iload_n 2, 1) ∧ decode cX12_sell 35 = .ok (.iadd, 1) := by decide +kernel
theorem e_X12_sell_2 : decode cX12_sell 36 = .ok (.i2l, 1) ∧ decode cX12_sell 37 = .ok (.lconst 0, 1) ∧ decode cX12_sell 38 = .ok (.ldc2_w 411, 3) ∧ decode cX12_sell 41 = .ok (.invokestatic 393, 3) ∧ decode cX12_sell 44 = .ok (.ifCond .ne 10, 3) ∧ decode cX12_sell 47 = .ok (.aload_n 0, 1) ∧ decode cX12_sell 48 = .ok (.bipush 7, 2) ∧ decode cX12_sell 50 = .ok (.invokevirtual 93, 3) ∧ decode cX12_sell 53 = .ok (.ireturn, 1) ∧ decode cX12_sell 54 = .ok (.aload_n 0, 1) := by decide +kernel
theorem e_X12_sell_3 : decode cX12_sell 55 = .ok (.getfield 7, 3) ∧ decode cX12_sell 58 = .ok (.iload_n 1, 1) ∧ decode cX12_sell 59 = .ok (.invokestatic 265, 3) ∧ decode cX12_sell 62 = .ok (.iconst 3, 1) ∧ decode cX12_sell 63 = .ok (.iadd, 1) ∧ decode cX12_sell 64 = .ok (.dup2, 1) ∧ decode cX12_sell 65 = .ok (.iaload, 1) ∧ decode cX12_sell 66 = .ok (.iload_n 2, 1) ∧ decode cX12_sell 67 = .ok (.iadd, 1) ∧ decode cX12_sell 68 = .ok (.iastore, 1) := by decide +kernel
theorem e_X12_sell_4 : decode cX12_sell 69 = .ok (.aload_n 0, 1) ∧ decode cX12_sell 70 = .ok (.aload_n 0, 1) ∧ decode cX12_sell 71 = .ok (.iload_n 1, 1) ∧ decode cX12_sell 72 = .ok (.iconst 3, 1) ∧ decode cX12_sell 73 = .ok (.invokevirtual 268, 3) ∧ decode cX12_sell 76 = .ok (.invokevirtual 97, 3) ∧ decode cX12_sell 79 = .ok (.ireturn, 1) := by decide +kernel
theorem S_X12_sell {G : Kg} {σ : Kmem} {Q : Int → Kmem → Prop} {l1 l2 : Int}  (h : Run G WM M_X12_isKite 0 0 0 [vA G 0, vI l1] σ (fun r1 s2 => (rI r1) ∧ ((r1 = 0 → Run G WM M_X12_refuse 0 0 0 [vA G 0, vI 1] s2 (fun r4 s5 => Q r4 s5)) ∧ (r1 ≠ 0 → (rI l2) ∧ Run G WM M_X12_isFrom 0 0 0 [vL l2, vL (-9), vL 9] s2 (fun r7 s8 => (rI r7) ∧ ((r7 ≠ 0 → Run G WM M_X12_of 1 0 0 [vA G 0, vI l1, vI 3] s8 (fun r10 s11 => (rI (r10 + l2)) ∧ Run G WM M_X12_isFrom 0 0 0 [vL (r10 + l2), vL 0, vL 9] s11 (fun r13 s14 => (rI r13) ∧ ((r13 ≠ 0 → Run G WM M_X12_kiteRow 0 0 0 [vI l1] s14 (fun r16 s17 => (0 ≤ r16 + 3 ∧ r16 + 3 < 3598) ∧ (0 ≤ r16 + 3 ∧ r16 + 3 < 3598) ∧ Run G WM M_X12_of 1 0 0 [vA G 0, vI l1, vI 3] (kup s17 1 (r16 + 3) ((s17 1 (r16 + 3)) + l2)) (fun r20 s21 => Run G WM M_X12_gives 0 0 0 [vA G 0, vI r20] s21 (fun r22 s23 => Q r22 s23)))) ∧ (r13 = 0 → Run G WM M_X12_refuse 0 0 0 [vA G 0, vI 7] s14 (fun r24 s25 => Q r24 s25)))))) ∧ (r7 = 0 → Run G WM M_X12_refuse 0 0 0 [vA G 0, vI 1] s8 (fun r26 s27 => Q r26 s27)))))))) : Run G WM M_X12_sell 2 0 0 [vA G 0, vI l1, vI l2] σ Q := by
  refine Run.of (by decide +kernel) (by show (3 : Nat) ≤ 3; decide) ?_
  show Ex G WM M_X12_sell 2 0 0 0 [(0, vA G 0), (1, vI l1), (2, vI l2)] [] σ Q
  refine R_aload_n e_X12_sell_0.1 0 rfl ?_
  refine R_iload_n e_X12_sell_0.2.1 1 rfl ?_
  refine R_callV (mc := 0) (ms := 0) (mc' := 0) (ms' := 0) (M' := M_X12_isKite) (d' := 0) (as := [vI l1]) (st := []) 12 1 e_X12_sell_0.2.2.1 (kCVof m_X12_isKite l_X12_343) rfl (by decide) km_0 (by decide) (by decide) rfl rfl (by show (0 : Nat) ≤ 8; decide) ?_
  refine Run.mono h (fun r1 s2 h => ?_)
  refine R_eqs (st2 := [vI r1]) rfl rfl ?_
  obtain ⟨q3, h⟩ := h
  refine R_if_eq 22 e_X12_sell_0.2.2.2.1 (by decide) q3  (fun q => ?_) (fun q => ?_)
  · replace h := h.1 q
    refine R_aload_n e_X12_sell_1.1 0 rfl ?_
    refine R_iconst e_X12_sell_1.2.1 ?_
    refine R_callV (mc := 0) (ms := 0) (mc' := 0) (ms' := 0) (M' := M_X12_refuse) (d' := 0) (as := [vI 1]) (st := []) 12 1 e_X12_sell_1.2.2.1 (kCVof m_X12_refuse l_X12_93) rfl (by decide) km_0 (by decide) (by decide) rfl rfl (by show (0 : Nat) ≤ 8; decide) ?_
    refine Run.mono h (fun r4 s5 h => ?_)
    refine R_eqs (st2 := [vI r4]) rfl rfl ?_
    exact R_ireturn e_X12_sell_1.2.2.2.1 rfl h
  · replace h := h.2 q
    refine R_iload_n e_X12_sell_0.2.2.2.2.1 2 rfl ?_
    obtain ⟨q6, h⟩ := h
    refine R_i2l e_X12_sell_0.2.2.2.2.2.1 q6 ?_
    refine R_ldc2 (-9) k_X12_409 e_X12_sell_0.2.2.2.2.2.2.1 ?_
    refine R_ldc2 (9) k_X12_411 e_X12_sell_0.2.2.2.2.2.2.2.1 ?_
    refine R_callS (mc := 0) (ms := 0) (mc' := 0) (ms' := 0) (M' := M_X12_isFrom) (d' := 0) (as := [vL l2, vL (-9), vL 9]) (st := []) 3 e_X12_sell_0.2.2.2.2.2.2.2.2.1 (kCSof m_X12_isFrom l_X12_393) (by decide) (by decide) rfl rfl (by show (0 : Nat) ≤ 8; decide) ?_
    refine Run.mono h (fun r7 s8 h => ?_)
    refine R_eqs (st2 := [vI r7]) rfl rfl ?_
    obtain ⟨q9, h⟩ := h
    refine R_if_ne 28 e_X12_sell_0.2.2.2.2.2.2.2.2.2 (by decide) q9  (fun q => ?_) (fun q => ?_)
    · replace h := h.1 q
      refine R_aload_n e_X12_sell_1.2.2.2.2.1 0 rfl ?_
      refine R_iload_n e_X12_sell_1.2.2.2.2.2.1 1 rfl ?_
      refine R_iconst e_X12_sell_1.2.2.2.2.2.2.1 ?_
      refine R_callV (mc := 0) (ms := 0) (mc' := 0) (ms' := 0) (M' := M_X12_of) (d' := 1) (as := [vI l1, vI 3]) (st := []) 12 2 e_X12_sell_1.2.2.2.2.2.2.2.1 (kCVof m_X12_of l_X12_268) rfl (by decide) km_0 (by decide) (by decide) rfl rfl (by show (0 : Nat) ≤ 8; decide) ?_
      refine Run.mono h (fun r10 s11 h => ?_)
      refine R_eqs (st2 := [vI r10]) rfl rfl ?_
      refine R_iload_n e_X12_sell_1.2.2.2.2.2.2.2.2.1 2 rfl ?_
      refine R_iadd e_X12_sell_1.2.2.2.2.2.2.2.2.2 ?_
      obtain ⟨q12, h⟩ := h
      refine R_i2l e_X12_sell_2.1 q12 ?_
      refine R_lconst 0 e_X12_sell_2.2.1 (by decide) ?_
      refine R_ldc2 (9) k_X12_411 e_X12_sell_2.2.2.1 ?_
      refine R_callS (mc := 0) (ms := 0) (mc' := 0) (ms' := 0) (M' := M_X12_isFrom) (d' := 0) (as := [vL (r10 + l2), vL 0, vL 9]) (st := []) 3 e_X12_sell_2.2.2.2.1 (kCSof m_X12_isFrom l_X12_393) (by decide) (by decide) rfl rfl (by show (0 : Nat) ≤ 8; decide) ?_
      refine Run.mono h (fun r13 s14 h => ?_)
      refine R_eqs (st2 := [vI r13]) rfl rfl ?_
      obtain ⟨q15, h⟩ := h
      refine R_if_ne 54 e_X12_sell_2.2.2.2.2.1 (by decide) q15  (fun q => ?_) (fun q => ?_)
      · replace h := h.1 q
        refine R_aload_n e_X12_sell_2.2.2.2.2.2.2.2.2.2 0 rfl ?_
        refine R_getA 12 0 1 e_X12_sell_3.1 f_X12_7 km_0 (fun _ _ => rfl) rm_0_0 (by decide) ?_
        refine R_iload_n e_X12_sell_3.2.1 1 rfl ?_
        refine R_callS (mc := 0) (ms := 0) (mc' := 0) (ms' := 0) (M' := M_X12_kiteRow) (d' := 0) (as := [vI l1]) (st := [vA G 1]) 1 e_X12_sell_3.2.2.1 (kCSof m_X12_kiteRow l_X12_265) (by decide) (by decide) rfl rfl (by show (1 : Nat) ≤ 8; decide) ?_
        refine Run.mono h (fun r16 s17 h => ?_)
        refine R_eqs (st2 := [vI r16, vA G 1]) rfl rfl ?_
        refine R_iconst e_X12_sell_3.2.2.2.1 ?_
        refine R_iadd e_X12_sell_3.2.2.2.2.1 ?_
        refine R_dup2 e_X12_sell_3.2.2.2.2.2.1 rfl rfl ?_
        obtain ⟨q18, h⟩ := h
        refine R_iald 3598 e_X12_sell_3.2.2.2.2.2.2.1 kma_1 q18 ?_
        refine R_iload_n e_X12_sell_3.2.2.2.2.2.2.2.1 2 rfl ?_
        refine R_iadd e_X12_sell_3.2.2.2.2.2.2.2.2.1 ?_
        obtain ⟨q19, h⟩ := h
        refine R_iast 3598 WM_ok e_X12_sell_3.2.2.2.2.2.2.2.2.2 kma_1 q19 ?_
        refine R_aload_n e_X12_sell_4.1 0 rfl ?_
        refine R_aload_n e_X12_sell_4.2.1 0 rfl ?_
        refine R_iload_n e_X12_sell_4.2.2.1 1 rfl ?_
        refine R_iconst e_X12_sell_4.2.2.2.1 ?_
        refine R_callV (mc := 0) (ms := 0) (mc' := 0) (ms' := 0) (M' := M_X12_of) (d' := 1) (as := [vI l1, vI 3]) (st := [vA G 0]) 12 2 e_X12_sell_4.2.2.2.2.1 (kCVof m_X12_of l_X12_268) rfl (by decide) km_0 (by decide) (by decide) rfl rfl (by show (1 : Nat) ≤ 8; decide) ?_
        refine Run.mono h (fun r20 s21 h => ?_)
        refine R_eqs (st2 := [vI r20, vA G 0]) rfl rfl ?_
        refine R_callV (mc := 0) (ms := 0) (mc' := 0) (ms' := 0) (M' := M_X12_gives) (d' := 0) (as := [vI r20]) (st := []) 12 1 e_X12_sell_4.2.2.2.2.2.1 (kCVof m_X12_gives l_X12_97) rfl (by decide) km_0 (by decide) (by decide) rfl rfl (by show (0 : Nat) ≤ 8; decide) ?_
        refine Run.mono h (fun r22 s23 h => ?_)
        refine R_eqs (st2 := [vI r22]) rfl rfl ?_
        exact R_ireturn e_X12_sell_4.2.2.2.2.2.2 rfl h
      · replace h := h.2 q
        refine R_aload_n e_X12_sell_2.2.2.2.2.2.1 0 rfl ?_
        refine R_bipush e_X12_sell_2.2.2.2.2.2.2.1 (by decide) ?_
        refine R_callV (mc := 0) (ms := 0) (mc' := 0) (ms' := 0) (M' := M_X12_refuse) (d' := 0) (as := [vI 7]) (st := []) 12 1 e_X12_sell_2.2.2.2.2.2.2.2.1 (kCVof m_X12_refuse l_X12_93) rfl (by decide) km_0 (by decide) (by decide) rfl rfl (by show (0 : Nat) ≤ 8; decide) ?_
        refine Run.mono h (fun r24 s25 h => ?_)
        refine R_eqs (st2 := [vI r24]) rfl rfl ?_
        exact R_ireturn e_X12_sell_2.2.2.2.2.2.2.2.2.1 rfl h
    · replace h := h.2 q
      refine R_aload_n e_X12_sell_1.1 0 rfl ?_
      refine R_iconst e_X12_sell_1.2.1 ?_
      refine R_callV (mc := 0) (ms := 0) (mc' := 0) (ms' := 0) (M' := M_X12_refuse) (d' := 0) (as := [vI 1]) (st := []) 12 1 e_X12_sell_1.2.2.1 (kCVof m_X12_refuse l_X12_93) rfl (by decide) km_0 (by decide) (by decide) rfl rfl (by show (0 : Nat) ≤ 8; decide) ?_
      refine Run.mono h (fun r26 s27 h => ?_)
      refine R_eqs (st2 := [vI r26]) rfl rfl ?_
      exact R_ireturn e_X12_sell_1.2.2.2.1 rfl h
/-! KiteLandModel.blow(III)Z -/
theorem e_X12_blow_0 : decode cX12_blow 0 = .ok (.iload_n 1, 1) ∧ decode cX12_blow 1 = .ok (.invokestatic 340, 3) ∧ decode cX12_blow 4 = .ok (.ifCond .eq 27, 3) ∧ decode cX12_blow 7 = .ok (.iload_n 2, 1) ∧ decode cX12_blow 8 = .ok (.i2l, 1) ∧ decode cX12_blow 9 = .ok (.lconst 0, 1) ∧ decode cX12_blow 10 = .ok (.ldc2_w 413, 3) ∧ decode cX12_blow 13 = .ok (.invokestatic 393, 3) ∧ decode cX12_blow 16 = .ok (.ifCond .eq 15, 3) ∧ decode cX12_blow 19 = .ok (.iload_n 3, 1) := by decide +kernel
theorem e_X12_blow_1 : decode cX12_blow 20 = .ok (.i2l, 1) ∧ decode cX12_blow 21 = .ok (.lconst 0, 1) ∧ decode cX12_blow 22 = .ok (.ldc2_w 415, 3) ∧ decode cX12_blow 25 = .ok (.invokestatic 393, 3) ∧ decode cX12_blow 28 = .ok (.ifCond .ne 9, 3) ∧ decode cX12_blow 31 = .ok (.aload_n 0, 1) ∧ decode cX12_blow 32 = .ok (.iconst 1, 1) ∧ decode cX12_blow 33 = .ok (.invokevirtual 100, 3) ∧ decode cX12_blow 36 = .ok (.ireturn, 1) ∧ decode cX12_blow 37 = .ok (.aload_n 0, 1) := by decide +kernel
theorem e_X12_blow_2 : decode cX12_blow 38 = .ok (.getfield 7, 3) ∧ decode cX12_blow 41 = .ok (.bipush 10, 2) ∧ decode cX12_blow 43 = .ok (.iconst 2, 1) ∧ decode cX12_blow 44 = .ok (.iload_n 1, 1) ∧ decode cX12_blow 45 = .ok (.imul, 1) ∧ decode cX12_blow 46 = .ok (.iadd, 1) ∧ decode cX12_blow 47 = .ok (.iload_n 2, 1) ∧ decode cX12_blow 48 = .ok (.iastore, 1) ∧ decode cX12_blow 49 = .ok (.aload_n 0, 1) ∧ decode cX12_blow 50 = .ok (.getfield 7, 3) := by decide +kernel
theorem e_X12_blow_3 : decode cX12_blow 53 = .ok (.bipush 10, 2) ∧ decode cX12_blow 55 = .ok (.iconst 2, 1) ∧ decode cX12_blow 56 = .ok (.iload_n 1, 1) ∧ decode cX12_blow 57 = .ok (.imul, 1) ∧ decode cX12_blow 58 = .ok (.iadd, 1) ∧ decode cX12_blow 59 = .ok (.iconst 1, 1) ∧ decode cX12_blow 60 = .ok (.iadd, 1) ∧ decode cX12_blow 61 = .ok (.iload_n 3, 1) ∧ decode cX12_blow 62 = .ok (.iastore, 1) ∧ decode cX12_blow 63 = .ok (.aload_n 0, 1) := by decide +kernel
theorem e_X12_blow_4 : decode cX12_blow 64 = .ok (.iconst 0, 1) ∧ decode cX12_blow 65 = .ok (.invokevirtual 100, 3) ∧ decode cX12_blow 68 = .ok (.ireturn, 1) := by decide +kernel
theorem S_X12_blow {G : Kg} {σ : Kmem} {Q : Int → Kmem → Prop} {l1 l2 l3 : Int}  (h : Run G WM M_X12_isHour 0 0 0 [vI l1] σ (fun r1 s2 => (rI r1) ∧ ((r1 = 0 → Run G WM M_X12_is 0 0 0 [vA G 0, vI 1] s2 (fun r4 s5 => (r4 = 0 ∨ r4 = 1) ∧ Q r4 s5)) ∧ (r1 ≠ 0 → (rI l2) ∧ Run G WM M_X12_isFrom 0 0 0 [vL l2, vL 0, vL 7] s2 (fun r8 s9 => (rI r8) ∧ ((r8 = 0 → Run G WM M_X12_is 0 0 0 [vA G 0, vI 1] s9 (fun r11 s12 => (r11 = 0 ∨ r11 = 1) ∧ Q r11 s12)) ∧ (r8 ≠ 0 → (rI l3) ∧ Run G WM M_X12_isFrom 0 0 0 [vL l3, vL 0, vL 3] s9 (fun r15 s16 => (rI r15) ∧ ((r15 ≠ 0 → (0 ≤ 10 + (2 * l1) ∧ 10 + (2 * l1) < 3598) ∧ (0 ≤ (10 + (2 * l1)) + 1 ∧ (10 + (2 * l1)) + 1 < 3598) ∧ Run G WM M_X12_is 0 0 0 [vA G 0, vI 0] (kup (kup s16 1 (10 + (2 * l1)) l2) 1 ((10 + (2 * l1)) + 1) l3) (fun r20 s21 => (r20 = 0 ∨ r20 = 1) ∧ Q r20 s21)) ∧ (r15 = 0 → Run G WM M_X12_is 0 0 0 [vA G 0, vI 1] s16 (fun r23 s24 => (r23 = 0 ∨ r23 = 1) ∧ Q r23 s24))))))))))) : Run G WM M_X12_blow 1 0 0 [vA G 0, vI l1, vI l2, vI l3] σ Q := by
  refine Run.of (by decide +kernel) (by show (4 : Nat) ≤ 4; decide) ?_
  show Ex G WM M_X12_blow 1 0 0 0 [(0, vA G 0), (1, vI l1), (2, vI l2), (3, vI l3)] [] σ Q
  refine R_iload_n e_X12_blow_0.1 1 rfl ?_
  refine R_callS (mc := 0) (ms := 0) (mc' := 0) (ms' := 0) (M' := M_X12_isHour) (d' := 0) (as := [vI l1]) (st := []) 1 e_X12_blow_0.2.1 (kCSof m_X12_isHour l_X12_340) (by decide) (by decide) rfl rfl (by show (0 : Nat) ≤ 8; decide) ?_
  refine Run.mono h (fun r1 s2 h => ?_)
  refine R_eqs (st2 := [vI r1]) rfl rfl ?_
  obtain ⟨q3, h⟩ := h
  refine R_if_eq 31 e_X12_blow_0.2.2.1 (by decide) q3  (fun q => ?_) (fun q => ?_)
  · replace h := h.1 q
    refine R_aload_n e_X12_blow_1.2.2.2.2.2.1 0 rfl ?_
    refine R_iconst e_X12_blow_1.2.2.2.2.2.2.1 ?_
    refine R_callV (mc := 0) (ms := 0) (mc' := 0) (ms' := 0) (M' := M_X12_is) (d' := 0) (as := [vI 1]) (st := []) 12 1 e_X12_blow_1.2.2.2.2.2.2.2.1 (kCVof m_X12_is l_X12_100) rfl (by decide) km_0 (by decide) (by decide) rfl rfl (by show (0 : Nat) ≤ 8; decide) ?_
    refine Run.mono h (fun r4 s5 h => ?_)
    refine R_eqs (st2 := [vI r4]) rfl rfl ?_
    obtain ⟨q6, h⟩ := h
    exact R_zreturn e_X12_blow_1.2.2.2.2.2.2.2.2.1 rfl q6 h
  · replace h := h.2 q
    refine R_iload_n e_X12_blow_0.2.2.2.1 2 rfl ?_
    obtain ⟨q7, h⟩ := h
    refine R_i2l e_X12_blow_0.2.2.2.2.1 q7 ?_
    refine R_lconst 0 e_X12_blow_0.2.2.2.2.2.1 (by decide) ?_
    refine R_ldc2 (7) k_X12_413 e_X12_blow_0.2.2.2.2.2.2.1 ?_
    refine R_callS (mc := 0) (ms := 0) (mc' := 0) (ms' := 0) (M' := M_X12_isFrom) (d' := 0) (as := [vL l2, vL 0, vL 7]) (st := []) 3 e_X12_blow_0.2.2.2.2.2.2.2.1 (kCSof m_X12_isFrom l_X12_393) (by decide) (by decide) rfl rfl (by show (0 : Nat) ≤ 8; decide) ?_
    refine Run.mono h (fun r8 s9 h => ?_)
    refine R_eqs (st2 := [vI r8]) rfl rfl ?_
    obtain ⟨q10, h⟩ := h
    refine R_if_eq 31 e_X12_blow_0.2.2.2.2.2.2.2.2.1 (by decide) q10  (fun q => ?_) (fun q => ?_)
    · replace h := h.1 q
      refine R_aload_n e_X12_blow_1.2.2.2.2.2.1 0 rfl ?_
      refine R_iconst e_X12_blow_1.2.2.2.2.2.2.1 ?_
      refine R_callV (mc := 0) (ms := 0) (mc' := 0) (ms' := 0) (M' := M_X12_is) (d' := 0) (as := [vI 1]) (st := []) 12 1 e_X12_blow_1.2.2.2.2.2.2.2.1 (kCVof m_X12_is l_X12_100) rfl (by decide) km_0 (by decide) (by decide) rfl rfl (by show (0 : Nat) ≤ 8; decide) ?_
      refine Run.mono h (fun r11 s12 h => ?_)
      refine R_eqs (st2 := [vI r11]) rfl rfl ?_
      obtain ⟨q13, h⟩ := h
      exact R_zreturn e_X12_blow_1.2.2.2.2.2.2.2.2.1 rfl q13 h
    · replace h := h.2 q
      refine R_iload_n e_X12_blow_0.2.2.2.2.2.2.2.2.2 3 rfl ?_
      obtain ⟨q14, h⟩ := h
      refine R_i2l e_X12_blow_1.1 q14 ?_
      refine R_lconst 0 e_X12_blow_1.2.1 (by decide) ?_
      refine R_ldc2 (3) k_X12_415 e_X12_blow_1.2.2.1 ?_
      refine R_callS (mc := 0) (ms := 0) (mc' := 0) (ms' := 0) (M' := M_X12_isFrom) (d' := 0) (as := [vL l3, vL 0, vL 3]) (st := []) 3 e_X12_blow_1.2.2.2.1 (kCSof m_X12_isFrom l_X12_393) (by decide) (by decide) rfl rfl (by show (0 : Nat) ≤ 8; decide) ?_
      refine Run.mono h (fun r15 s16 h => ?_)
      refine R_eqs (st2 := [vI r15]) rfl rfl ?_
      obtain ⟨q17, h⟩ := h
      refine R_if_ne 37 e_X12_blow_1.2.2.2.2.1 (by decide) q17  (fun q => ?_) (fun q => ?_)
      · replace h := h.1 q
        refine R_aload_n e_X12_blow_1.2.2.2.2.2.2.2.2.2 0 rfl ?_
        refine R_getA 12 0 1 e_X12_blow_2.1 f_X12_7 km_0 (fun _ _ => rfl) rm_0_0 (by decide) ?_
        refine R_bipush e_X12_blow_2.2.1 (by decide) ?_
        refine R_iconst e_X12_blow_2.2.2.1 ?_
        refine R_iload_n e_X12_blow_2.2.2.2.1 1 rfl ?_
        refine R_imul e_X12_blow_2.2.2.2.2.1 ?_
        refine R_iadd e_X12_blow_2.2.2.2.2.2.1 ?_
        refine R_iload_n e_X12_blow_2.2.2.2.2.2.2.1 2 rfl ?_
        obtain ⟨q18, h⟩ := h
        refine R_iast 3598 WM_ok e_X12_blow_2.2.2.2.2.2.2.2.1 kma_1 q18 ?_
        refine R_aload_n e_X12_blow_2.2.2.2.2.2.2.2.2.1 0 rfl ?_
        refine R_getA 12 0 1 e_X12_blow_2.2.2.2.2.2.2.2.2.2 f_X12_7 km_0 (fun _ _ => rfl) rm_0_0 (by decide) ?_
        refine R_bipush e_X12_blow_3.1 (by decide) ?_
        refine R_iconst e_X12_blow_3.2.1 ?_
        refine R_iload_n e_X12_blow_3.2.2.1 1 rfl ?_
        refine R_imul e_X12_blow_3.2.2.2.1 ?_
        refine R_iadd e_X12_blow_3.2.2.2.2.1 ?_
        refine R_iconst e_X12_blow_3.2.2.2.2.2.1 ?_
        refine R_iadd e_X12_blow_3.2.2.2.2.2.2.1 ?_
        refine R_iload_n e_X12_blow_3.2.2.2.2.2.2.2.1 3 rfl ?_
        obtain ⟨q19, h⟩ := h
        refine R_iast 3598 WM_ok e_X12_blow_3.2.2.2.2.2.2.2.2.1 kma_1 q19 ?_
        refine R_aload_n e_X12_blow_3.2.2.2.2.2.2.2.2.2 0 rfl ?_
        refine R_iconst e_X12_blow_4.1 ?_
        refine R_callV (mc := 0) (ms := 0) (mc' := 0) (ms' := 0) (M' := M_X12_is) (d' := 0) (as := [vI 0]) (st := []) 12 1 e_X12_blow_4.2.1 (kCVof m_X12_is l_X12_100) rfl (by decide) km_0 (by decide) (by decide) rfl rfl (by show (0 : Nat) ≤ 8; decide) ?_
        refine Run.mono h (fun r20 s21 h => ?_)
        refine R_eqs (st2 := [vI r20]) rfl rfl ?_
        obtain ⟨q22, h⟩ := h
        exact R_zreturn e_X12_blow_4.2.2 rfl q22 h
      · replace h := h.2 q
        refine R_aload_n e_X12_blow_1.2.2.2.2.2.1 0 rfl ?_
        refine R_iconst e_X12_blow_1.2.2.2.2.2.2.1 ?_
        refine R_callV (mc := 0) (ms := 0) (mc' := 0) (ms' := 0) (M' := M_X12_is) (d' := 0) (as := [vI 1]) (st := []) 12 1 e_X12_blow_1.2.2.2.2.2.2.2.1 (kCVof m_X12_is l_X12_100) rfl (by decide) km_0 (by decide) (by decide) rfl rfl (by show (0 : Nat) ≤ 8; decide) ?_
        refine Run.mono h (fun r23 s24 h => ?_)
        refine R_eqs (st2 := [vI r23]) rfl rfl ?_
        obtain ⟨q25, h⟩ := h
        exact R_zreturn e_X12_blow_1.2.2.2.2.2.2.2.2.1 rfl q25 h
/-! KiteLandModel.rule(I)Z -/
theorem e_X12_rule_0 : decode cX12_rule 0 = .ok (.iload_n 1, 1) ∧ decode cX12_rule 1 = .ok (.i2l, 1) ∧ decode cX12_rule 2 = .ok (.lconst 0, 1) ∧ decode cX12_rule 3 = .ok (.ldc2_w 417, 3) ∧ decode cX12_rule 6 = .ok (.invokestatic 393, 3) ∧ decode cX12_rule 9 = .ok (.ifCond .ne 9, 3) ∧ decode cX12_rule 12 = .ok (.aload_n 0, 1) ∧ decode cX12_rule 13 = .ok (.iconst 1, 1) ∧ decode cX12_rule 14 = .ok (.invokevirtual 100, 3) ∧ decode cX12_rule 17 = .ok (.ireturn, 1) := by decide +kernel
theorem e_X12_rule_1 : decode cX12_rule 18 = .ok (.aload_n 0, 1) ∧ decode cX12_rule 19 = .ok (.getfield 7, 3) ∧ decode cX12_rule 22 = .ok (.bipush 6, 2) ∧ decode cX12_rule 24 = .ok (.iload_n 1, 1) ∧ decode cX12_rule 25 = .ok (.iastore, 1) ∧ decode cX12_rule 26 = .ok (.aload_n 0, 1) ∧ decode cX12_rule 27 = .ok (.iconst 0, 1) ∧ decode cX12_rule 28 = .ok (.invokevirtual 100, 3) ∧ decode cX12_rule 31 = .ok (.ireturn, 1) := by decide +kernel
theorem S_X12_rule {G : Kg} {σ : Kmem} {Q : Int → Kmem → Prop} {l1 : Int}  (h : (rI l1) ∧ Run G WM M_X12_isFrom 0 0 0 [vL l1, vL 0, vL 2] σ (fun r2 s3 => (rI r2) ∧ ((r2 ≠ 0 → Run G WM M_X12_is 0 0 0 [vA G 0, vI 0] (kup s3 1 6 l1) (fun r5 s6 => (r5 = 0 ∨ r5 = 1) ∧ Q r5 s6)) ∧ (r2 = 0 → Run G WM M_X12_is 0 0 0 [vA G 0, vI 1] s3 (fun r8 s9 => (r8 = 0 ∨ r8 = 1) ∧ Q r8 s9))))) : Run G WM M_X12_rule 1 0 0 [vA G 0, vI l1] σ Q := by
  refine Run.of (by decide +kernel) (by show (2 : Nat) ≤ 2; decide) ?_
  show Ex G WM M_X12_rule 1 0 0 0 [(0, vA G 0), (1, vI l1)] [] σ Q
  refine R_iload_n e_X12_rule_0.1 1 rfl ?_
  obtain ⟨q1, h⟩ := h
  refine R_i2l e_X12_rule_0.2.1 q1 ?_
  refine R_lconst 0 e_X12_rule_0.2.2.1 (by decide) ?_
  refine R_ldc2 (2) k_X12_417 e_X12_rule_0.2.2.2.1 ?_
  refine R_callS (mc := 0) (ms := 0) (mc' := 0) (ms' := 0) (M' := M_X12_isFrom) (d' := 0) (as := [vL l1, vL 0, vL 2]) (st := []) 3 e_X12_rule_0.2.2.2.2.1 (kCSof m_X12_isFrom l_X12_393) (by decide) (by decide) rfl rfl (by show (0 : Nat) ≤ 8; decide) ?_
  refine Run.mono h (fun r2 s3 h => ?_)
  refine R_eqs (st2 := [vI r2]) rfl rfl ?_
  obtain ⟨q4, h⟩ := h
  refine R_if_ne 18 e_X12_rule_0.2.2.2.2.2.1 (by decide) q4  (fun q => ?_) (fun q => ?_)
  · replace h := h.1 q
    refine R_aload_n e_X12_rule_1.1 0 rfl ?_
    refine R_getA 12 0 1 e_X12_rule_1.2.1 f_X12_7 km_0 (fun _ _ => rfl) rm_0_0 (by decide) ?_
    refine R_bipush e_X12_rule_1.2.2.1 (by decide) ?_
    refine R_iload_n e_X12_rule_1.2.2.2.1 1 rfl ?_
    refine R_iast 3598 WM_ok e_X12_rule_1.2.2.2.2.1 kma_1 (by decide) ?_
    refine R_aload_n e_X12_rule_1.2.2.2.2.2.1 0 rfl ?_
    refine R_iconst e_X12_rule_1.2.2.2.2.2.2.1 ?_
    refine R_callV (mc := 0) (ms := 0) (mc' := 0) (ms' := 0) (M' := M_X12_is) (d' := 0) (as := [vI 0]) (st := []) 12 1 e_X12_rule_1.2.2.2.2.2.2.2.1 (kCVof m_X12_is l_X12_100) rfl (by decide) km_0 (by decide) (by decide) rfl rfl (by show (0 : Nat) ≤ 8; decide) ?_
    refine Run.mono h (fun r5 s6 h => ?_)
    refine R_eqs (st2 := [vI r5]) rfl rfl ?_
    obtain ⟨q7, h⟩ := h
    exact R_zreturn e_X12_rule_1.2.2.2.2.2.2.2.2 rfl q7 h
  · replace h := h.2 q
    refine R_aload_n e_X12_rule_0.2.2.2.2.2.2.1 0 rfl ?_
    refine R_iconst e_X12_rule_0.2.2.2.2.2.2.2.1 ?_
    refine R_callV (mc := 0) (ms := 0) (mc' := 0) (ms' := 0) (M' := M_X12_is) (d' := 0) (as := [vI 1]) (st := []) 12 1 e_X12_rule_0.2.2.2.2.2.2.2.2.1 (kCVof m_X12_is l_X12_100) rfl (by decide) km_0 (by decide) (by decide) rfl rfl (by show (0 : Nat) ≤ 8; decide) ?_
    refine Run.mono h (fun r8 s9 h => ?_)
    refine R_eqs (st2 := [vI r8]) rfl rfl ?_
    obtain ⟨q10, h⟩ := h
    exact R_zreturn e_X12_rule_0.2.2.2.2.2.2.2.2.2 rfl q10 h
/-! KiteLandModel.lease(II)Z -/
theorem e_X12_lease_0 : decode cX12_lease 0 = .ok (.aload_n 0, 1) ∧ decode cX12_lease 1 = .ok (.iload_n 1, 1) ∧ decode cX12_lease 2 = .ok (.invokevirtual 349, 3) ∧ decode cX12_lease 5 = .ok (.ifCond .eq 11, 3) ∧ decode cX12_lease 8 = .ok (.aload_n 0, 1) ∧ decode cX12_lease 9 = .ok (.iload_n 2, 1) ∧ decode cX12_lease 10 = .ok (.invokevirtual 343, 3) ∧ decode cX12_lease 13 = .ok (.ifCond .ne 9, 3) ∧ decode cX12_lease 16 = .ok (.aload_n 0, 1) ∧ decode cX12_lease 17 = .ok (.iconst 1, 1) := by decide +kernel
theorem e_X12_lease_1 : decode cX12_lease 18 = .ok (.invokevirtual 100, 3) ∧ decode cX12_lease 21 = .ok (.ireturn, 1) ∧ decode cX12_lease 22 = .ok (.aload_n 0, 1) ∧ decode cX12_lease 23 = .ok (.getfield 7, 3) ∧ decode cX12_lease 26 = .ok (.iload_n 1, 1) ∧ decode cX12_lease 27 = .ok (.invokestatic 352, 3) ∧ decode cX12_lease 30 = .ok (.iconst 2, 1) ∧ decode cX12_lease 31 = .ok (.iadd, 1) ∧ decode cX12_lease 32 = .ok (.iaload, 1) ∧ decode cX12_lease 33 = .ok (.iload_n 2, 1) := by decide +kernel
theorem e_X12_lease_2 : decode cX12_lease 34 = .ok (.if_icmp .ne 10, 3) ∧ decode cX12_lease 37 = .ok (.aload_n 0, 1) ∧ decode cX12_lease 38 = .ok (.bipush 7, 2) ∧ decode cX12_lease 40 = .ok (.invokevirtual 100, 3) ∧ decode cX12_lease 43 = .ok (.ireturn, 1) ∧ decode cX12_lease 44 = .ok (.aload_n 0, 1) ∧ decode cX12_lease 45 = .ok (.getfield 7, 3) ∧ decode cX12_lease 48 = .ok (.iload_n 1, 1) ∧ decode cX12_lease 49 = .ok (.invokestatic 352, 3) ∧ decode cX12_lease 52 = .ok (.iconst 2, 1) := by decide +kernel
theorem e_X12_lease_3 : decode cX12_lease 53 = .ok (.iadd, 1) ∧ decode cX12_lease 54 = .ok (.iload_n 2, 1) ∧ decode cX12_lease 55 = .ok (.iastore, 1) ∧ decode cX12_lease 56 = .ok (.aload_n 0, 1) ∧ decode cX12_lease 57 = .ok (.iconst 0, 1) ∧ decode cX12_lease 58 = .ok (.invokevirtual 100, 3) ∧ decode cX12_lease 61 = .ok (.ireturn, 1) := by decide +kernel
theorem S_X12_lease {G : Kg} {σ : Kmem} {Q : Int → Kmem → Prop} {l1 l2 : Int}  (h : Run G WM M_X12_isTenant 0 0 0 [vA G 0, vI l1] σ (fun r1 s2 => (rI r1) ∧ ((r1 = 0 → Run G WM M_X12_is 0 0 0 [vA G 0, vI 1] s2 (fun r4 s5 => (r4 = 0 ∨ r4 = 1) ∧ Q r4 s5)) ∧ (r1 ≠ 0 → Run G WM M_X12_isKite 0 0 0 [vA G 0, vI l2] s2 (fun r7 s8 => (rI r7) ∧ ((r7 ≠ 0 → Run G WM M_X12_tenantRow 0 0 0 [vI l1] s8 (fun r10 s11 => (0 ≤ r10 + 2 ∧ r10 + 2 < 3598) ∧ (rI (s11 1 (r10 + 2))) ∧ (rI l2) ∧ ((s11 1 (r10 + 2) ≠ l2 → Run G WM M_X12_tenantRow 0 0 0 [vI l1] s11 (fun r15 s16 => (0 ≤ r15 + 2 ∧ r15 + 2 < 3598) ∧ Run G WM M_X12_is 0 0 0 [vA G 0, vI 0] (kup s16 1 (r15 + 2) l2) (fun r18 s19 => (r18 = 0 ∨ r18 = 1) ∧ Q r18 s19))) ∧ (s11 1 (r10 + 2) = l2 → Run G WM M_X12_is 0 0 0 [vA G 0, vI 7] s11 (fun r21 s22 => (r21 = 0 ∨ r21 = 1) ∧ Q r21 s22))))) ∧ (r7 = 0 → Run G WM M_X12_is 0 0 0 [vA G 0, vI 1] s8 (fun r24 s25 => (r24 = 0 ∨ r24 = 1) ∧ Q r24 s25)))))))) : Run G WM M_X12_lease 1 0 0 [vA G 0, vI l1, vI l2] σ Q := by
  refine Run.of (by decide +kernel) (by show (3 : Nat) ≤ 3; decide) ?_
  show Ex G WM M_X12_lease 1 0 0 0 [(0, vA G 0), (1, vI l1), (2, vI l2)] [] σ Q
  refine R_aload_n e_X12_lease_0.1 0 rfl ?_
  refine R_iload_n e_X12_lease_0.2.1 1 rfl ?_
  refine R_callV (mc := 0) (ms := 0) (mc' := 0) (ms' := 0) (M' := M_X12_isTenant) (d' := 0) (as := [vI l1]) (st := []) 12 1 e_X12_lease_0.2.2.1 (kCVof m_X12_isTenant l_X12_349) rfl (by decide) km_0 (by decide) (by decide) rfl rfl (by show (0 : Nat) ≤ 8; decide) ?_
  refine Run.mono h (fun r1 s2 h => ?_)
  refine R_eqs (st2 := [vI r1]) rfl rfl ?_
  obtain ⟨q3, h⟩ := h
  refine R_if_eq 16 e_X12_lease_0.2.2.2.1 (by decide) q3  (fun q => ?_) (fun q => ?_)
  · replace h := h.1 q
    refine R_aload_n e_X12_lease_0.2.2.2.2.2.2.2.2.1 0 rfl ?_
    refine R_iconst e_X12_lease_0.2.2.2.2.2.2.2.2.2 ?_
    refine R_callV (mc := 0) (ms := 0) (mc' := 0) (ms' := 0) (M' := M_X12_is) (d' := 0) (as := [vI 1]) (st := []) 12 1 e_X12_lease_1.1 (kCVof m_X12_is l_X12_100) rfl (by decide) km_0 (by decide) (by decide) rfl rfl (by show (0 : Nat) ≤ 8; decide) ?_
    refine Run.mono h (fun r4 s5 h => ?_)
    refine R_eqs (st2 := [vI r4]) rfl rfl ?_
    obtain ⟨q6, h⟩ := h
    exact R_zreturn e_X12_lease_1.2.1 rfl q6 h
  · replace h := h.2 q
    refine R_aload_n e_X12_lease_0.2.2.2.2.1 0 rfl ?_
    refine R_iload_n e_X12_lease_0.2.2.2.2.2.1 2 rfl ?_
    refine R_callV (mc := 0) (ms := 0) (mc' := 0) (ms' := 0) (M' := M_X12_isKite) (d' := 0) (as := [vI l2]) (st := []) 12 1 e_X12_lease_0.2.2.2.2.2.2.1 (kCVof m_X12_isKite l_X12_343) rfl (by decide) km_0 (by decide) (by decide) rfl rfl (by show (0 : Nat) ≤ 8; decide) ?_
    refine Run.mono h (fun r7 s8 h => ?_)
    refine R_eqs (st2 := [vI r7]) rfl rfl ?_
    obtain ⟨q9, h⟩ := h
    refine R_if_ne 22 e_X12_lease_0.2.2.2.2.2.2.2.1 (by decide) q9  (fun q => ?_) (fun q => ?_)
    · replace h := h.1 q
      refine R_aload_n e_X12_lease_1.2.2.1 0 rfl ?_
      refine R_getA 12 0 1 e_X12_lease_1.2.2.2.1 f_X12_7 km_0 (fun _ _ => rfl) rm_0_0 (by decide) ?_
      refine R_iload_n e_X12_lease_1.2.2.2.2.1 1 rfl ?_
      refine R_callS (mc := 0) (ms := 0) (mc' := 0) (ms' := 0) (M' := M_X12_tenantRow) (d' := 0) (as := [vI l1]) (st := [vA G 1]) 1 e_X12_lease_1.2.2.2.2.2.1 (kCSof m_X12_tenantRow l_X12_352) (by decide) (by decide) rfl rfl (by show (1 : Nat) ≤ 8; decide) ?_
      refine Run.mono h (fun r10 s11 h => ?_)
      refine R_eqs (st2 := [vI r10, vA G 1]) rfl rfl ?_
      refine R_iconst e_X12_lease_1.2.2.2.2.2.2.1 ?_
      refine R_iadd e_X12_lease_1.2.2.2.2.2.2.2.1 ?_
      obtain ⟨q12, h⟩ := h
      refine R_iald 3598 e_X12_lease_1.2.2.2.2.2.2.2.2.1 kma_1 q12 ?_
      refine R_iload_n e_X12_lease_1.2.2.2.2.2.2.2.2.2 2 rfl ?_
      obtain ⟨q13, h⟩ := h
      obtain ⟨q14, h⟩ := h
      refine R_icmp_ne 44 e_X12_lease_2.1 (by decide) q13 q14 (fun q => ?_) (fun q => ?_)
      · replace h := h.1 q
        refine R_aload_n e_X12_lease_2.2.2.2.2.2.1 0 rfl ?_
        refine R_getA 12 0 1 e_X12_lease_2.2.2.2.2.2.2.1 f_X12_7 km_0 (fun _ _ => rfl) rm_0_0 (by decide) ?_
        refine R_iload_n e_X12_lease_2.2.2.2.2.2.2.2.1 1 rfl ?_
        refine R_callS (mc := 0) (ms := 0) (mc' := 0) (ms' := 0) (M' := M_X12_tenantRow) (d' := 0) (as := [vI l1]) (st := [vA G 1]) 1 e_X12_lease_2.2.2.2.2.2.2.2.2.1 (kCSof m_X12_tenantRow l_X12_352) (by decide) (by decide) rfl rfl (by show (1 : Nat) ≤ 8; decide) ?_
        refine Run.mono h (fun r15 s16 h => ?_)
        refine R_eqs (st2 := [vI r15, vA G 1]) rfl rfl ?_
        refine R_iconst e_X12_lease_2.2.2.2.2.2.2.2.2.2 ?_
        refine R_iadd e_X12_lease_3.1 ?_
        refine R_iload_n e_X12_lease_3.2.1 2 rfl ?_
        obtain ⟨q17, h⟩ := h
        refine R_iast 3598 WM_ok e_X12_lease_3.2.2.1 kma_1 q17 ?_
        refine R_aload_n e_X12_lease_3.2.2.2.1 0 rfl ?_
        refine R_iconst e_X12_lease_3.2.2.2.2.1 ?_
        refine R_callV (mc := 0) (ms := 0) (mc' := 0) (ms' := 0) (M' := M_X12_is) (d' := 0) (as := [vI 0]) (st := []) 12 1 e_X12_lease_3.2.2.2.2.2.1 (kCVof m_X12_is l_X12_100) rfl (by decide) km_0 (by decide) (by decide) rfl rfl (by show (0 : Nat) ≤ 8; decide) ?_
        refine Run.mono h (fun r18 s19 h => ?_)
        refine R_eqs (st2 := [vI r18]) rfl rfl ?_
        obtain ⟨q20, h⟩ := h
        exact R_zreturn e_X12_lease_3.2.2.2.2.2.2 rfl q20 h
      · replace h := h.2 q
        refine R_aload_n e_X12_lease_2.2.1 0 rfl ?_
        refine R_bipush e_X12_lease_2.2.2.1 (by decide) ?_
        refine R_callV (mc := 0) (ms := 0) (mc' := 0) (ms' := 0) (M' := M_X12_is) (d' := 0) (as := [vI 7]) (st := []) 12 1 e_X12_lease_2.2.2.2.1 (kCVof m_X12_is l_X12_100) rfl (by decide) km_0 (by decide) (by decide) rfl rfl (by show (0 : Nat) ≤ 8; decide) ?_
        refine Run.mono h (fun r21 s22 h => ?_)
        refine R_eqs (st2 := [vI r21]) rfl rfl ?_
        obtain ⟨q23, h⟩ := h
        exact R_zreturn e_X12_lease_2.2.2.2.2.1 rfl q23 h
    · replace h := h.2 q
      refine R_aload_n e_X12_lease_0.2.2.2.2.2.2.2.2.1 0 rfl ?_
      refine R_iconst e_X12_lease_0.2.2.2.2.2.2.2.2.2 ?_
      refine R_callV (mc := 0) (ms := 0) (mc' := 0) (ms' := 0) (M' := M_X12_is) (d' := 0) (as := [vI 1]) (st := []) 12 1 e_X12_lease_1.1 (kCVof m_X12_is l_X12_100) rfl (by decide) km_0 (by decide) (by decide) rfl rfl (by show (0 : Nat) ≤ 8; decide) ?_
      refine Run.mono h (fun r24 s25 h => ?_)
      refine R_eqs (st2 := [vI r24]) rfl rfl ?_
      obtain ⟨q26, h⟩ := h
      exact R_zreturn e_X12_lease_1.2.1 rfl q26 h
/-! KiteLandModel.reap(I)I -/
theorem e_X12_reap_0 : decode cX12_reap 0 = .ok (.aload_n 0, 1) ∧ decode cX12_reap 1 = .ok (.iload_n 1, 1) ∧ decode cX12_reap 2 = .ok (.invokevirtual 346, 3) ∧ decode cX12_reap 5 = .ok (.ifCond .ne 9, 3) ∧ decode cX12_reap 8 = .ok (.aload_n 0, 1) ∧ decode cX12_reap 9 = .ok (.iconst 1, 1) ∧ decode cX12_reap 10 = .ok (.invokevirtual 93, 3) ∧ decode cX12_reap 13 = .ok (.ireturn, 1) ∧ decode cX12_reap 14 = .ok (.aload_n 0, 1) ∧ decode cX12_reap 15 = .ok (.iload_n 1, 1) := by decide +kernel
theorem e_X12_reap_1 : decode cX12_reap 16 = .ok (.invokevirtual 331, 3) ∧ decode cX12_reap 19 = .ok (.ifCond .ne 10, 3) ∧ decode cX12_reap 22 = .ok (.aload_n 0, 1) ∧ decode cX12_reap 23 = .ok (.bipush 7, 2) ∧ decode cX12_reap 25 = .ok (.invokevirtual 93, 3) ∧ decode cX12_reap 28 = .ok (.ireturn, 1) ∧ decode cX12_reap 29 = .ok (.iload_n 1, 1) ∧ decode cX12_reap 30 = .ok (.invokestatic 334, 3) ∧ decode cX12_reap 33 = .ok (.istore_n 2, 1) ∧ decode cX12_reap 34 = .ok (.aload_n 0, 1) := by decide +kernel
theorem e_X12_reap_2 : decode cX12_reap 35 = .ok (.aload_n 0, 1) ∧ decode cX12_reap 36 = .ok (.getfield 7, 3) ∧ decode cX12_reap 39 = .ok (.iload_n 2, 1) ∧ decode cX12_reap 40 = .ok (.iaload, 1) ∧ decode cX12_reap 41 = .ok (.aload_n 0, 1) ∧ decode cX12_reap 42 = .ok (.getfield 7, 3) ∧ decode cX12_reap 45 = .ok (.iload_n 2, 1) ∧ decode cX12_reap 46 = .ok (.iconst 1, 1) ∧ decode cX12_reap 47 = .ok (.iadd, 1) ∧ decode cX12_reap 48 = .ok (.iaload, 1) := by decide +kernel
theorem e_X12_reap_3 : decode cX12_reap 49 = .ok (.aload_n 0, 1) ∧ decode cX12_reap 50 = .ok (.invokevirtual 325, 3) ∧ decode cX12_reap 53 = .ok (.invokevirtual 312, 3) ∧ decode cX12_reap 56 = .ok (.istore_n 3, 1) ∧ decode cX12_reap 57 = .ok (.iload_n 3, 1) ∧ decode cX12_reap 58 = .ok (.iconst (-1), 1) ∧ decode cX12_reap 59 = .ok (.if_icmp .ne 10, 3) ∧ decode cX12_reap 62 = .ok (.aload_n 0, 1) ∧ decode cX12_reap 63 = .ok (.bipush 6, 2) ∧ decode cX12_reap 65 = .ok (.invokevirtual 93, 3) := by decide +kernel
theorem e_X12_reap_4 : decode cX12_reap 68 = .ok (.ireturn, 1) ∧ decode cX12_reap 69 = .ok (.aload_n 0, 1) ∧ decode cX12_reap 70 = .ok (.getfield 7, 3) ∧ decode cX12_reap 73 = .ok (.iload_n 2, 1) ∧ decode cX12_reap 74 = .ok (.iconst 3, 1) ∧ decode cX12_reap 75 = .ok (.iadd, 1) ∧ decode cX12_reap 76 = .ok (.iconst 0, 1) ∧ decode cX12_reap 77 = .ok (.iastore, 1) ∧ decode cX12_reap 78 = .ok (.aload_n 0, 1) ∧ decode cX12_reap 79 = .ok (.iload_n 3, 1) := by decide +kernel
theorem e_X12_reap_5 : decode cX12_reap 80 = .ok (.aload_n 0, 1) ∧ decode cX12_reap 81 = .ok (.getfield 7, 3) ∧ decode cX12_reap 84 = .ok (.iload_n 2, 1) ∧ decode cX12_reap 85 = .ok (.iconst 2, 1) ∧ decode cX12_reap 86 = .ok (.iadd, 1) ∧ decode cX12_reap 87 = .ok (.iaload, 1) ∧ decode cX12_reap 88 = .ok (.invokevirtual 373, 3) ∧ decode cX12_reap 91 = .ok (.aload_n 0, 1) ∧ decode cX12_reap 92 = .ok (.iload_n 3, 1) ∧ decode cX12_reap 93 = .ok (.invokevirtual 97, 3) := by decide +kernel
theorem e_X12_reap_6 : decode cX12_reap 96 = .ok (.ireturn, 1) := by decide +kernel
theorem S_X12_reap {G : Kg} {σ : Kmem} {Q : Int → Kmem → Prop} {l1 : Int}  (h : Run G WM M_X12_isCrop 0 0 0 [vA G 0, vI l1] σ (fun r1 s2 => (rI r1) ∧ ((r1 ≠ 0 → Run G WM M_X12_isRipe 1 0 0 [vA G 0, vI l1] s2 (fun r4 s5 => (rI r4) ∧ ((r4 ≠ 0 → Run G WM M_X12_cropRow 0 0 0 [vI l1] s5 (fun r7 s8 => (0 ≤ r7 ∧ r7 < 3598) ∧ (0 ≤ r7 + 1 ∧ r7 + 1 < 3598) ∧ Run G WM M_X12_now 0 0 0 [vA G 0] s8 (fun r11 s12 => Run G WM M_X12_ownerOf 6 0 0 [vA G 0, vI (s8 1 r7), vI (s8 1 (r7 + 1)), vI r11] s12 (fun r13 s14 => (rI r13) ∧ ((r13 ≠ -1 → (0 ≤ r7 + 3 ∧ r7 + 3 < 3598) ∧ (0 ≤ r7 + 2 ∧ r7 + 2 < 3598) ∧ Run G WM M_X12_earns 2 0 0 [vA G 0, vI r13, vI ((kup s14 1 (r7 + 3) 0) 1 (r7 + 2))] (kup s14 1 (r7 + 3) 0) (fun r18 s19 => Run G WM M_X12_gives 0 0 0 [vA G 0, vI r13] s19 (fun r20 s21 => Q r20 s21))) ∧ (r13 = -1 → Run G WM M_X12_refuse 0 0 0 [vA G 0, vI 6] s14 (fun r22 s23 => Q r22 s23))))))) ∧ (r4 = 0 → Run G WM M_X12_refuse 0 0 0 [vA G 0, vI 7] s5 (fun r24 s25 => Q r24 s25))))) ∧ (r1 = 0 → Run G WM M_X12_refuse 0 0 0 [vA G 0, vI 1] s2 (fun r26 s27 => Q r26 s27))))) : Run G WM M_X12_reap 7 0 0 [vA G 0, vI l1] σ Q := by
  refine Run.of (by decide +kernel) (by show (2 : Nat) ≤ 4; decide) ?_
  show Ex G WM M_X12_reap 7 0 0 0 [(0, vA G 0), (1, vI l1)] [] σ Q
  refine R_aload_n e_X12_reap_0.1 0 rfl ?_
  refine R_iload_n e_X12_reap_0.2.1 1 rfl ?_
  refine R_callV (mc := 0) (ms := 0) (mc' := 0) (ms' := 0) (M' := M_X12_isCrop) (d' := 0) (as := [vI l1]) (st := []) 12 1 e_X12_reap_0.2.2.1 (kCVof m_X12_isCrop l_X12_346) rfl (by decide) km_0 (by decide) (by decide) rfl rfl (by show (0 : Nat) ≤ 8; decide) ?_
  refine Run.mono h (fun r1 s2 h => ?_)
  refine R_eqs (st2 := [vI r1]) rfl rfl ?_
  obtain ⟨q3, h⟩ := h
  refine R_if_ne 14 e_X12_reap_0.2.2.2.1 (by decide) q3  (fun q => ?_) (fun q => ?_)
  · replace h := h.1 q
    refine R_aload_n e_X12_reap_0.2.2.2.2.2.2.2.2.1 0 rfl ?_
    refine R_iload_n e_X12_reap_0.2.2.2.2.2.2.2.2.2 1 rfl ?_
    refine R_callV (mc := 0) (ms := 0) (mc' := 0) (ms' := 0) (M' := M_X12_isRipe) (d' := 1) (as := [vI l1]) (st := []) 12 1 e_X12_reap_1.1 (kCVof m_X12_isRipe l_X12_331) rfl (by decide) km_0 (by decide) (by decide) rfl rfl (by show (0 : Nat) ≤ 8; decide) ?_
    refine Run.mono h (fun r4 s5 h => ?_)
    refine R_eqs (st2 := [vI r4]) rfl rfl ?_
    obtain ⟨q6, h⟩ := h
    refine R_if_ne 29 e_X12_reap_1.2.1 (by decide) q6  (fun q => ?_) (fun q => ?_)
    · replace h := h.1 q
      refine R_iload_n e_X12_reap_1.2.2.2.2.2.2.1 1 rfl ?_
      refine R_callS (mc := 0) (ms := 0) (mc' := 0) (ms' := 0) (M' := M_X12_cropRow) (d' := 0) (as := [vI l1]) (st := []) 1 e_X12_reap_1.2.2.2.2.2.2.2.1 (kCSof m_X12_cropRow l_X12_334) (by decide) (by decide) rfl rfl (by show (0 : Nat) ≤ 8; decide) ?_
      refine Run.mono h (fun r7 s8 h => ?_)
      refine R_eqs (st2 := [vI r7]) rfl rfl ?_
      refine R_istore_n (ls2 := [(2, vI r7), (0, vA G 0), (1, vI l1)]) e_X12_reap_1.2.2.2.2.2.2.2.2.1 (by decide) rfl ?_
      refine R_aload_n e_X12_reap_1.2.2.2.2.2.2.2.2.2 1 rfl ?_
      refine R_aload_n e_X12_reap_2.1 1 rfl ?_
      refine R_getA 12 0 1 e_X12_reap_2.2.1 f_X12_7 km_0 (fun _ _ => rfl) rm_0_0 (by decide) ?_
      refine R_iload_n e_X12_reap_2.2.2.1 0 rfl ?_
      obtain ⟨q9, h⟩ := h
      refine R_iald 3598 e_X12_reap_2.2.2.2.1 kma_1 q9 ?_
      refine R_aload_n e_X12_reap_2.2.2.2.2.1 1 rfl ?_
      refine R_getA 12 0 1 e_X12_reap_2.2.2.2.2.2.1 f_X12_7 km_0 (fun _ _ => rfl) rm_0_0 (by decide) ?_
      refine R_iload_n e_X12_reap_2.2.2.2.2.2.2.1 0 rfl ?_
      refine R_iconst e_X12_reap_2.2.2.2.2.2.2.2.1 ?_
      refine R_iadd e_X12_reap_2.2.2.2.2.2.2.2.2.1 ?_
      obtain ⟨q10, h⟩ := h
      refine R_iald 3598 e_X12_reap_2.2.2.2.2.2.2.2.2.2 kma_1 q10 ?_
      refine R_aload_n e_X12_reap_3.1 1 rfl ?_
      refine R_callV (mc := 0) (ms := 0) (mc' := 0) (ms' := 0) (M' := M_X12_now) (d' := 0) (as := []) (st := [vI (s8 1 (r7 + 1)), vI (s8 1 r7), vA G 0]) 12 0 e_X12_reap_3.2.1 (kCVof m_X12_now l_X12_325) rfl (by decide) km_0 (by decide) (by decide) rfl rfl (by show (3 : Nat) ≤ 8; decide) ?_
      refine Run.mono h (fun r11 s12 h => ?_)
      refine R_eqs (st2 := [vI r11, vI (s8 1 (r7 + 1)), vI (s8 1 r7), vA G 0]) rfl rfl ?_
      refine R_callV (mc := 0) (ms := 0) (mc' := 0) (ms' := 0) (M' := M_X12_ownerOf) (d' := 6) (as := [vI (s8 1 r7), vI (s8 1 (r7 + 1)), vI r11]) (st := []) 12 3 e_X12_reap_3.2.2.1 (kCVof m_X12_ownerOf l_X12_312) rfl (by decide) km_0 (by decide) (by decide) rfl rfl (by show (0 : Nat) ≤ 8; decide) ?_
      refine Run.mono h (fun r13 s14 h => ?_)
      refine R_eqs (st2 := [vI r13]) rfl rfl ?_
      refine R_istore_n (ls2 := [(3, vI r13), (2, vI r7), (0, vA G 0), (1, vI l1)]) e_X12_reap_3.2.2.2.1 (by decide) rfl ?_
      refine R_iload_n e_X12_reap_3.2.2.2.2.1 0 rfl ?_
      refine R_iconst e_X12_reap_3.2.2.2.2.2.1 ?_
      obtain ⟨q15, h⟩ := h
      refine R_icmp_ne 69 e_X12_reap_3.2.2.2.2.2.2.1 (by decide) q15 (by decide) (fun q => ?_) (fun q => ?_)
      · replace h := h.1 q
        refine R_aload_n e_X12_reap_4.2.1 2 rfl ?_
        refine R_getA 12 0 1 e_X12_reap_4.2.2.1 f_X12_7 km_0 (fun _ _ => rfl) rm_0_0 (by decide) ?_
        refine R_iload_n e_X12_reap_4.2.2.2.1 1 rfl ?_
        refine R_iconst e_X12_reap_4.2.2.2.2.1 ?_
        refine R_iadd e_X12_reap_4.2.2.2.2.2.1 ?_
        refine R_iconst e_X12_reap_4.2.2.2.2.2.2.1 ?_
        obtain ⟨q16, h⟩ := h
        refine R_iast 3598 WM_ok e_X12_reap_4.2.2.2.2.2.2.2.1 kma_1 q16 ?_
        refine R_aload_n e_X12_reap_4.2.2.2.2.2.2.2.2.1 2 rfl ?_
        refine R_iload_n e_X12_reap_4.2.2.2.2.2.2.2.2.2 0 rfl ?_
        refine R_aload_n e_X12_reap_5.1 2 rfl ?_
        refine R_getA 12 0 1 e_X12_reap_5.2.1 f_X12_7 km_0 (fun _ _ => rfl) rm_0_0 (by decide) ?_
        refine R_iload_n e_X12_reap_5.2.2.1 1 rfl ?_
        refine R_iconst e_X12_reap_5.2.2.2.1 ?_
        refine R_iadd e_X12_reap_5.2.2.2.2.1 ?_
        obtain ⟨q17, h⟩ := h
        refine R_iald 3598 e_X12_reap_5.2.2.2.2.2.1 kma_1 q17 ?_
        refine R_callV (mc := 0) (ms := 0) (mc' := 0) (ms' := 0) (M' := M_X12_earns) (d' := 2) (as := [vI r13, vI ((kup s14 1 (r7 + 3) 0) 1 (r7 + 2))]) (st := []) 12 2 e_X12_reap_5.2.2.2.2.2.2.1 (kCVof m_X12_earns l_X12_373) rfl (by decide) km_0 (by decide) (by decide) rfl rfl (by show (0 : Nat) ≤ 8; decide) ?_
        refine Run.mono h (fun r18 s19 h => ?_)
        refine R_eqs (st2 := []) rfl rfl ?_
        refine R_aload_n e_X12_reap_5.2.2.2.2.2.2.2.1 2 rfl ?_
        refine R_iload_n e_X12_reap_5.2.2.2.2.2.2.2.2.1 0 rfl ?_
        refine R_callV (mc := 0) (ms := 0) (mc' := 0) (ms' := 0) (M' := M_X12_gives) (d' := 0) (as := [vI r13]) (st := []) 12 1 e_X12_reap_5.2.2.2.2.2.2.2.2.2 (kCVof m_X12_gives l_X12_97) rfl (by decide) km_0 (by decide) (by decide) rfl rfl (by show (0 : Nat) ≤ 8; decide) ?_
        refine Run.mono h (fun r20 s21 h => ?_)
        refine R_eqs (st2 := [vI r20]) rfl rfl ?_
        exact R_ireturn e_X12_reap_6 rfl h
      · replace h := h.2 q
        refine R_aload_n e_X12_reap_3.2.2.2.2.2.2.2.1 2 rfl ?_
        refine R_bipush e_X12_reap_3.2.2.2.2.2.2.2.2.1 (by decide) ?_
        refine R_callV (mc := 0) (ms := 0) (mc' := 0) (ms' := 0) (M' := M_X12_refuse) (d' := 0) (as := [vI 6]) (st := []) 12 1 e_X12_reap_3.2.2.2.2.2.2.2.2.2 (kCVof m_X12_refuse l_X12_93) rfl (by decide) km_0 (by decide) (by decide) rfl rfl (by show (0 : Nat) ≤ 8; decide) ?_
        refine Run.mono h (fun r22 s23 h => ?_)
        refine R_eqs (st2 := [vI r22]) rfl rfl ?_
        exact R_ireturn e_X12_reap_4.1 rfl h
    · replace h := h.2 q
      refine R_aload_n e_X12_reap_1.2.2.1 0 rfl ?_
      refine R_bipush e_X12_reap_1.2.2.2.1 (by decide) ?_
      refine R_callV (mc := 0) (ms := 0) (mc' := 0) (ms' := 0) (M' := M_X12_refuse) (d' := 0) (as := [vI 7]) (st := []) 12 1 e_X12_reap_1.2.2.2.2.1 (kCVof m_X12_refuse l_X12_93) rfl (by decide) km_0 (by decide) (by decide) rfl rfl (by show (0 : Nat) ≤ 8; decide) ?_
      refine Run.mono h (fun r24 s25 h => ?_)
      refine R_eqs (st2 := [vI r24]) rfl rfl ?_
      exact R_ireturn e_X12_reap_1.2.2.2.2.2.1 rfl h
  · replace h := h.2 q
    refine R_aload_n e_X12_reap_0.2.2.2.2.1 0 rfl ?_
    refine R_iconst e_X12_reap_0.2.2.2.2.2.1 ?_
    refine R_callV (mc := 0) (ms := 0) (mc' := 0) (ms' := 0) (M' := M_X12_refuse) (d' := 0) (as := [vI 1]) (st := []) 12 1 e_X12_reap_0.2.2.2.2.2.2.1 (kCVof m_X12_refuse l_X12_93) rfl (by decide) km_0 (by decide) (by decide) rfl rfl (by show (0 : Nat) ≤ 8; decide) ?_
    refine Run.mono h (fun r26 s27 h => ?_)
    refine R_eqs (st2 := [vI r26]) rfl rfl ?_
    exact R_ireturn e_X12_reap_0.2.2.2.2.2.2.2.1 rfl h
/-! KiteLandModel.keeps(I)V -/
theorem e_X12_keeps_0 : decode cX12_keeps 0 = .ok (.iconst 0, 1) ∧ decode cX12_keeps 1 = .ok (.istore_n 2, 1) ∧ decode cX12_keeps 2 = .ok (.iload_n 2, 1) ∧ decode cX12_keeps 3 = .ok (.sipush 150, 3) ∧ decode cX12_keeps 6 = .ok (.if_icmp .ge 23, 3) ∧ decode cX12_keeps 9 = .ok (.aload_n 0, 1) ∧ decode cX12_keeps 10 = .ok (.getfield 7, 3) ∧ decode cX12_keeps 13 = .ok (.iload_n 1, 1) ∧ decode cX12_keeps 14 = .ok (.iload_n 2, 1) ∧ decode cX12_keeps 15 = .ok (.iadd, 1) := by decide +kernel
theorem e_X12_keeps_1 : decode cX12_keeps 16 = .ok (.aload_n 0, 1) ∧ decode cX12_keeps 17 = .ok (.getfield 7, 3) ∧ decode cX12_keeps 20 = .ok (.iload_n 2, 1) ∧ decode cX12_keeps 21 = .ok (.iaload, 1) ∧ decode cX12_keeps 22 = .ok (.iastore, 1) ∧ decode cX12_keeps 23 = .ok (.iinc 2 1, 3) ∧ decode cX12_keeps 26 = .ok (.goto (-24), 3) ∧ decode cX12_keeps 29 = .ok (.return_, 1) := by decide +kernel
abbrev E_X12_keeps_2 (G : Kg) (l1 l2 : Int) (σ : Kmem) (Q : Int → Kmem → Prop) : Prop := Ex G WM M_X12_keeps 0 0 0 2 [(0, vA G 0), (1, vI l1), (2, vI l2)] [] σ Q
theorem S_X12_keeps {G : Kg} {σ : Kmem} {Q : Int → Kmem → Prop} {l1 : Int}  (h : E_X12_keeps_2 G l1 0 σ Q) : Run G WM M_X12_keeps 0 0 0 [vA G 0, vI l1] σ Q := by
  refine Run.of (by decide +kernel) (by show (2 : Nat) ≤ 3; decide) ?_
  show Ex G WM M_X12_keeps 0 0 0 0 [(0, vA G 0), (1, vI l1)] [] σ Q
  refine R_iconst e_X12_keeps_0.1 ?_
  refine R_istore_n (ls2 := [(2, vI 0), (0, vA G 0), (1, vI l1)]) e_X12_keeps_0.2.1 (by decide) rfl ?_
  refine R_ls (ls2 := [(0, vA G 0), (1, vI l1), (2, vI 0)]) [1, 2, 0] rfl ?_
  exact h
theorem S_X12_keeps_2 {G : Kg} {σ : Kmem} {Q : Int → Kmem → Prop} {l1 l2 : Int}  (h : (rI l2) ∧ ((150 ≤ l2 → Q 0 σ) ∧ (l2 < 150 → (0 ≤ l2 ∧ l2 < 3598) ∧ (0 ≤ l1 + l2 ∧ l1 + l2 < 3598) ∧ E_X12_keeps_2 G l1 (l2 + 1) (kup σ 1 (l1 + l2) (σ 1 l2)) Q))) : E_X12_keeps_2 G l1 l2 σ Q := by
  refine R_iload_n e_X12_keeps_0.2.2.1 2 rfl ?_
  refine R_sipush e_X12_keeps_0.2.2.2.1 (by decide) ?_
  obtain ⟨q1, h⟩ := h
  refine R_icmp_ge 29 e_X12_keeps_0.2.2.2.2.1 (by decide) q1 (by decide) (fun q => ?_) (fun q => ?_)
  · replace h := h.1 q
    exact R_return e_X12_keeps_1.2.2.2.2.2.2.2 rfl h
  · replace h := h.2 q
    refine R_aload_n e_X12_keeps_0.2.2.2.2.2.1 0 rfl ?_
    refine R_getA 12 0 1 e_X12_keeps_0.2.2.2.2.2.2.1 f_X12_7 km_0 (fun _ _ => rfl) rm_0_0 (by decide) ?_
    refine R_iload_n e_X12_keeps_0.2.2.2.2.2.2.2.1 1 rfl ?_
    refine R_iload_n e_X12_keeps_0.2.2.2.2.2.2.2.2.1 2 rfl ?_
    refine R_iadd e_X12_keeps_0.2.2.2.2.2.2.2.2.2 ?_
    refine R_aload_n e_X12_keeps_1.1 0 rfl ?_
    refine R_getA 12 0 1 e_X12_keeps_1.2.1 f_X12_7 km_0 (fun _ _ => rfl) rm_0_0 (by decide) ?_
    refine R_iload_n e_X12_keeps_1.2.2.1 2 rfl ?_
    obtain ⟨q2, h⟩ := h
    refine R_iald 3598 e_X12_keeps_1.2.2.2.1 kma_1 q2 ?_
    obtain ⟨q3, h⟩ := h
    refine R_iast 3598 WM_ok e_X12_keeps_1.2.2.2.2.1 kma_1 q3 ?_
    refine R_iinc (ls2 := [(2, vI (l2 + 1)), (0, vA G 0), (1, vI l1)]) e_X12_keeps_1.2.2.2.2.2.1 2 rfl (by decide) rfl ?_
    refine R_goto 2 e_X12_keeps_1.2.2.2.2.2.2.1 (by decide) ?_
    refine R_ls (ls2 := [(0, vA G 0), (1, vI l1), (2, vI (l2 + 1))]) [1, 2, 0] rfl ?_
    exact h
/-! KiteLandModel.restores(I)V -/
theorem e_X12_restores_0 : decode cX12_restores 0 = .ok (.iconst 0, 1) ∧ decode cX12_restores 1 = .ok (.istore_n 2, 1) ∧ decode cX12_restores 2 = .ok (.iload_n 2, 1) ∧ decode cX12_restores 3 = .ok (.sipush 150, 3) ∧ decode cX12_restores 6 = .ok (.if_icmp .ge 23, 3) ∧ decode cX12_restores 9 = .ok (.aload_n 0, 1) ∧ decode cX12_restores 10 = .ok (.getfield 7, 3) ∧ decode cX12_restores 13 = .ok (.iload_n 2, 1) ∧ decode cX12_restores 14 = .ok (.aload_n 0, 1) ∧ decode cX12_restores 15 = .ok (.getfield 7, 3) := by decide +kernel
theorem e_X12_restores_1 : decode cX12_restores 18 = .ok (.iload_n 1, 1) ∧ decode cX12_restores 19 = .ok (.iload_n 2, 1) ∧ decode cX12_restores 20 = .ok (.iadd, 1) ∧ decode cX12_restores 21 = .ok (.iaload, 1) ∧ decode cX12_restores 22 = .ok (.iastore, 1) ∧ decode cX12_restores 23 = .ok (.iinc 2 1, 3) ∧ decode cX12_restores 26 = .ok (.goto (-24), 3) ∧ decode cX12_restores 29 = .ok (.return_, 1) := by decide +kernel
abbrev E_X12_restores_2 (G : Kg) (l1 l2 : Int) (σ : Kmem) (Q : Int → Kmem → Prop) : Prop := Ex G WM M_X12_restores 0 0 0 2 [(0, vA G 0), (1, vI l1), (2, vI l2)] [] σ Q
theorem S_X12_restores {G : Kg} {σ : Kmem} {Q : Int → Kmem → Prop} {l1 : Int}  (h : E_X12_restores_2 G l1 0 σ Q) : Run G WM M_X12_restores 0 0 0 [vA G 0, vI l1] σ Q := by
  refine Run.of (by decide +kernel) (by show (2 : Nat) ≤ 3; decide) ?_
  show Ex G WM M_X12_restores 0 0 0 0 [(0, vA G 0), (1, vI l1)] [] σ Q
  refine R_iconst e_X12_restores_0.1 ?_
  refine R_istore_n (ls2 := [(2, vI 0), (0, vA G 0), (1, vI l1)]) e_X12_restores_0.2.1 (by decide) rfl ?_
  refine R_ls (ls2 := [(0, vA G 0), (1, vI l1), (2, vI 0)]) [1, 2, 0] rfl ?_
  exact h
theorem S_X12_restores_2 {G : Kg} {σ : Kmem} {Q : Int → Kmem → Prop} {l1 l2 : Int}  (h : (rI l2) ∧ ((150 ≤ l2 → Q 0 σ) ∧ (l2 < 150 → (0 ≤ l1 + l2 ∧ l1 + l2 < 3598) ∧ (0 ≤ l2 ∧ l2 < 3598) ∧ E_X12_restores_2 G l1 (l2 + 1) (kup σ 1 l2 (σ 1 (l1 + l2))) Q))) : E_X12_restores_2 G l1 l2 σ Q := by
  refine R_iload_n e_X12_restores_0.2.2.1 2 rfl ?_
  refine R_sipush e_X12_restores_0.2.2.2.1 (by decide) ?_
  obtain ⟨q1, h⟩ := h
  refine R_icmp_ge 29 e_X12_restores_0.2.2.2.2.1 (by decide) q1 (by decide) (fun q => ?_) (fun q => ?_)
  · replace h := h.1 q
    exact R_return e_X12_restores_1.2.2.2.2.2.2.2 rfl h
  · replace h := h.2 q
    refine R_aload_n e_X12_restores_0.2.2.2.2.2.1 0 rfl ?_
    refine R_getA 12 0 1 e_X12_restores_0.2.2.2.2.2.2.1 f_X12_7 km_0 (fun _ _ => rfl) rm_0_0 (by decide) ?_
    refine R_iload_n e_X12_restores_0.2.2.2.2.2.2.2.1 2 rfl ?_
    refine R_aload_n e_X12_restores_0.2.2.2.2.2.2.2.2.1 0 rfl ?_
    refine R_getA 12 0 1 e_X12_restores_0.2.2.2.2.2.2.2.2.2 f_X12_7 km_0 (fun _ _ => rfl) rm_0_0 (by decide) ?_
    refine R_iload_n e_X12_restores_1.1 1 rfl ?_
    refine R_iload_n e_X12_restores_1.2.1 2 rfl ?_
    refine R_iadd e_X12_restores_1.2.2.1 ?_
    obtain ⟨q2, h⟩ := h
    refine R_iald 3598 e_X12_restores_1.2.2.2.1 kma_1 q2 ?_
    obtain ⟨q3, h⟩ := h
    refine R_iast 3598 WM_ok e_X12_restores_1.2.2.2.2.1 kma_1 q3 ?_
    refine R_iinc (ls2 := [(2, vI (l2 + 1)), (0, vA G 0), (1, vI l1)]) e_X12_restores_1.2.2.2.2.2.1 2 rfl (by decide) rfl ?_
    refine R_goto 2 e_X12_restores_1.2.2.2.2.2.2.1 (by decide) ?_
    refine R_ls (ls2 := [(0, vA G 0), (1, vI l1), (2, vI (l2 + 1))]) [1, 2, 0] rfl ?_
    exact h
/-! KiteLandModel.hoursTill(III)I -/
theorem e_X12_hoursTill_0 : decode cX12_hoursTill 0 = .ok (.aload_n 0, 1) ∧ decode cX12_hoursTill 1 = .ok (.sipush 3084, 3) ∧ decode cX12_hoursTill 4 = .ok (.invokevirtual 419, 3) ∧ decode cX12_hoursTill 7 = .ok (.iconst 0, 1) ∧ decode cX12_hoursTill 8 = .ok (.istore 4, 2) ∧ decode cX12_hoursTill 10 = .ok (.iload 4, 2) ∧ decode cX12_hoursTill 12 = .ok (.iload_n 3, 1) ∧ decode cX12_hoursTill 13 = .ok (.if_icmp .gt 35, 3) ∧ decode cX12_hoursTill 16 = .ok (.aload_n 0, 1) ∧ decode cX12_hoursTill 17 = .ok (.aload_n 0, 1) := by decide +kernel
theorem e_X12_hoursTill_1 : decode cX12_hoursTill 18 = .ok (.iload_n 1, 1) ∧ decode cX12_hoursTill 19 = .ok (.ifCond .ne 7, 3) ∧ decode cX12_hoursTill 22 = .ok (.iconst 2, 1) ∧ decode cX12_hoursTill 23 = .ok (.goto 4, 3) ∧ decode cX12_hoursTill 26 = .ok (.iconst 1, 1) ∧ decode cX12_hoursTill 27 = .ok (.invokevirtual 337, 3) ∧ decode cX12_hoursTill 30 = .ok (.iload_n 2, 1) ∧ decode cX12_hoursTill 31 = .ok (.invokevirtual 299, 3) ∧ decode cX12_hoursTill 34 = .ok (.ifCond .ne 14, 3) ∧ decode cX12_hoursTill 37 = .ok (.aload_n 0, 1) := by decide +kernel
theorem e_X12_hoursTill_2 : decode cX12_hoursTill 38 = .ok (.invokevirtual 397, 3) ∧ decode cX12_hoursTill 41 = .ok (.pop, 1) ∧ decode cX12_hoursTill 42 = .ok (.iinc 4 1, 3) ∧ decode cX12_hoursTill 45 = .ok (.goto (-35), 3) ∧ decode cX12_hoursTill 48 = .ok (.aload_n 0, 1) ∧ decode cX12_hoursTill 49 = .ok (.sipush 3084, 3) ∧ decode cX12_hoursTill 52 = .ok (.invokevirtual 422, 3) ∧ decode cX12_hoursTill 55 = .ok (.iload 4, 2) ∧ decode cX12_hoursTill 57 = .ok (.iload_n 3, 1) ∧ decode cX12_hoursTill 58 = .ok (.if_icmp .le 7, 3) := by decide +kernel
theorem e_X12_hoursTill_3 : decode cX12_hoursTill 61 = .ok (.iconst (-1), 1) ∧ decode cX12_hoursTill 62 = .ok (.goto 5, 3) ∧ decode cX12_hoursTill 65 = .ok (.iload 4, 2) ∧ decode cX12_hoursTill 67 = .ok (.ireturn, 1) := by decide +kernel
abbrev E_X12_hoursTill_10 (G : Kg) (l1 l2 l3 l4 : Int) (σ : Kmem) (Q : Int → Kmem → Prop) : Prop := Ex G WM M_X12_hoursTill 9 0 0 10 [(0, vA G 0), (1, vI l1), (2, vI l2), (3, vI l3), (4, vI l4)] [] σ Q
theorem S_X12_hoursTill {G : Kg} {σ : Kmem} {Q : Int → Kmem → Prop} {l1 l2 l3 : Int}  (h : Run G WM M_X12_keeps 0 0 0 [vA G 0, vI 3084] σ (fun r1 s2 => E_X12_hoursTill_10 G l1 l2 l3 0 s2 Q)) : Run G WM M_X12_hoursTill 9 0 0 [vA G 0, vI l1, vI l2, vI l3] σ Q := by
  refine Run.of (by decide +kernel) (by show (4 : Nat) ≤ 5; decide) ?_
  show Ex G WM M_X12_hoursTill 9 0 0 0 [(0, vA G 0), (1, vI l1), (2, vI l2), (3, vI l3)] [] σ Q
  refine R_aload_n e_X12_hoursTill_0.1 0 rfl ?_
  refine R_sipush e_X12_hoursTill_0.2.1 (by decide) ?_
  refine R_callV (mc := 0) (ms := 0) (mc' := 0) (ms' := 0) (M' := M_X12_keeps) (d' := 0) (as := [vI 3084]) (st := []) 12 1 e_X12_hoursTill_0.2.2.1 (kCVof m_X12_keeps l_X12_419) rfl (by decide) km_0 (by decide) (by decide) rfl rfl (by show (0 : Nat) ≤ 8; decide) ?_
  refine Run.mono h (fun r1 s2 h => ?_)
  refine R_eqs (st2 := []) rfl rfl ?_
  refine R_iconst e_X12_hoursTill_0.2.2.2.1 ?_
  refine R_istore (ls2 := [(4, vI 0), (0, vA G 0), (1, vI l1), (2, vI l2), (3, vI l3)]) e_X12_hoursTill_0.2.2.2.2.1 (by decide) rfl ?_
  refine R_ls (ls2 := [(0, vA G 0), (1, vI l1), (2, vI l2), (3, vI l3), (4, vI 0)]) [1, 2, 3, 4, 0] rfl ?_
  exact h
theorem S_X12_hoursTill_10 {G : Kg} {σ : Kmem} {Q : Int → Kmem → Prop} {l1 l2 l3 l4 : Int}  (h : (rI l4) ∧ (rI l3) ∧ ((l3 < l4 → Run G WM M_X12_restores 0 0 0 [vA G 0, vI 3084] σ (fun r5 s6 => ((l4 ≤ l3 → Q l4 s6) ∧ (l3 < l4 → Q (-1) s6)))) ∧ (l4 ≤ l3 → (rI l1) ∧ ((l1 ≠ 0 → Run G WM M_X12_setOf 4 0 0 [vA G 0, vI 1] σ (fun r8 s9 => Run G WM M_X12_isIn 0 0 0 [vA G 0, vI r8, vI l2] s9 (fun r10 s11 => (rI r10) ∧ ((r10 ≠ 0 → Run G WM M_X12_restores 0 0 0 [vA G 0, vI 3084] s11 (fun r13 s14 => ((l4 ≤ l3 → Q l4 s14) ∧ (l3 < l4 → Q (-1) s14)))) ∧ (r10 = 0 → Run G WM M_X12_goesBy 8 0 0 [vA G 0] s11 (fun r15 s16 => E_X12_hoursTill_10 G l1 l2 l3 (l4 + 1) s16 Q)))))) ∧ (l1 = 0 → Run G WM M_X12_setOf 4 0 0 [vA G 0, vI 2] σ (fun r17 s18 => Run G WM M_X12_isIn 0 0 0 [vA G 0, vI r17, vI l2] s18 (fun r19 s20 => (rI r19) ∧ ((r19 ≠ 0 → Run G WM M_X12_restores 0 0 0 [vA G 0, vI 3084] s20 (fun r22 s23 => ((l4 ≤ l3 → Q l4 s23) ∧ (l3 < l4 → Q (-1) s23)))) ∧ (r19 = 0 → Run G WM M_X12_goesBy 8 0 0 [vA G 0] s20 (fun r24 s25 => E_X12_hoursTill_10 G l1 l2 l3 (l4 + 1) s25 Q)))))))))) : E_X12_hoursTill_10 G l1 l2 l3 l4 σ Q := by
  refine R_iload e_X12_hoursTill_0.2.2.2.2.2.1 4 rfl ?_
  refine R_iload_n e_X12_hoursTill_0.2.2.2.2.2.2.1 3 rfl ?_
  obtain ⟨q3, h⟩ := h
  obtain ⟨q4, h⟩ := h
  refine R_icmp_gt 48 e_X12_hoursTill_0.2.2.2.2.2.2.2.1 (by decide) q3 q4 (fun q => ?_) (fun q => ?_)
  · replace h := h.1 q
    refine R_aload_n e_X12_hoursTill_2.2.2.2.2.1 0 rfl ?_
    refine R_sipush e_X12_hoursTill_2.2.2.2.2.2.1 (by decide) ?_
    refine R_callV (mc := 0) (ms := 0) (mc' := 0) (ms' := 0) (M' := M_X12_restores) (d' := 0) (as := [vI 3084]) (st := []) 12 1 e_X12_hoursTill_2.2.2.2.2.2.2.1 (kCVof m_X12_restores l_X12_422) rfl (by decide) km_0 (by decide) (by decide) rfl rfl (by show (0 : Nat) ≤ 8; decide) ?_
    refine Run.mono h (fun r5 s6 h => ?_)
    refine R_eqs (st2 := []) rfl rfl ?_
    refine R_iload e_X12_hoursTill_2.2.2.2.2.2.2.2.1 4 rfl ?_
    refine R_iload_n e_X12_hoursTill_2.2.2.2.2.2.2.2.2.1 3 rfl ?_
    refine R_icmp_le 65 e_X12_hoursTill_2.2.2.2.2.2.2.2.2.2 (by decide) q3 q4 (fun q => ?_) (fun q => ?_)
    · replace h := h.1 q
      refine R_iload e_X12_hoursTill_3.2.2.1 4 rfl ?_
      exact R_ireturn e_X12_hoursTill_3.2.2.2 rfl h
    · replace h := h.2 q
      refine R_iconst e_X12_hoursTill_3.1 ?_
      refine R_goto 67 e_X12_hoursTill_3.2.1 (by decide) ?_
      exact R_ireturn e_X12_hoursTill_3.2.2.2 rfl h
  · replace h := h.2 q
    refine R_aload_n e_X12_hoursTill_0.2.2.2.2.2.2.2.2.1 0 rfl ?_
    refine R_aload_n e_X12_hoursTill_0.2.2.2.2.2.2.2.2.2 0 rfl ?_
    refine R_iload_n e_X12_hoursTill_1.1 1 rfl ?_
    obtain ⟨q7, h⟩ := h
    refine R_if_ne 26 e_X12_hoursTill_1.2.1 (by decide) q7  (fun q => ?_) (fun q => ?_)
    · replace h := h.1 q
      refine R_iconst e_X12_hoursTill_1.2.2.2.2.1 ?_
      refine R_callV (mc := 0) (ms := 0) (mc' := 0) (ms' := 0) (M' := M_X12_setOf) (d' := 4) (as := [vI 1]) (st := [vA G 0]) 12 1 e_X12_hoursTill_1.2.2.2.2.2.1 (kCVof m_X12_setOf l_X12_337) rfl (by decide) km_0 (by decide) (by decide) rfl rfl (by show (1 : Nat) ≤ 8; decide) ?_
      refine Run.mono h (fun r8 s9 h => ?_)
      refine R_eqs (st2 := [vI r8, vA G 0]) rfl rfl ?_
      refine R_iload_n e_X12_hoursTill_1.2.2.2.2.2.2.1 2 rfl ?_
      refine R_callV (mc := 0) (ms := 0) (mc' := 0) (ms' := 0) (M' := M_X12_isIn) (d' := 0) (as := [vI r8, vI l2]) (st := []) 12 2 e_X12_hoursTill_1.2.2.2.2.2.2.2.1 (kCVof m_X12_isIn l_X12_299) rfl (by decide) km_0 (by decide) (by decide) rfl rfl (by show (0 : Nat) ≤ 8; decide) ?_
      refine Run.mono h (fun r10 s11 h => ?_)
      refine R_eqs (st2 := [vI r10]) rfl rfl ?_
      obtain ⟨q12, h⟩ := h
      refine R_if_ne 48 e_X12_hoursTill_1.2.2.2.2.2.2.2.2.1 (by decide) q12  (fun q => ?_) (fun q => ?_)
      · replace h := h.1 q
        refine R_aload_n e_X12_hoursTill_2.2.2.2.2.1 0 rfl ?_
        refine R_sipush e_X12_hoursTill_2.2.2.2.2.2.1 (by decide) ?_
        refine R_callV (mc := 0) (ms := 0) (mc' := 0) (ms' := 0) (M' := M_X12_restores) (d' := 0) (as := [vI 3084]) (st := []) 12 1 e_X12_hoursTill_2.2.2.2.2.2.2.1 (kCVof m_X12_restores l_X12_422) rfl (by decide) km_0 (by decide) (by decide) rfl rfl (by show (0 : Nat) ≤ 8; decide) ?_
        refine Run.mono h (fun r13 s14 h => ?_)
        refine R_eqs (st2 := []) rfl rfl ?_
        refine R_iload e_X12_hoursTill_2.2.2.2.2.2.2.2.1 4 rfl ?_
        refine R_iload_n e_X12_hoursTill_2.2.2.2.2.2.2.2.2.1 3 rfl ?_
        refine R_icmp_le 65 e_X12_hoursTill_2.2.2.2.2.2.2.2.2.2 (by decide) q3 q4 (fun q => ?_) (fun q => ?_)
        · replace h := h.1 q
          refine R_iload e_X12_hoursTill_3.2.2.1 4 rfl ?_
          exact R_ireturn e_X12_hoursTill_3.2.2.2 rfl h
        · replace h := h.2 q
          refine R_iconst e_X12_hoursTill_3.1 ?_
          refine R_goto 67 e_X12_hoursTill_3.2.1 (by decide) ?_
          exact R_ireturn e_X12_hoursTill_3.2.2.2 rfl h
      · replace h := h.2 q
        refine R_aload_n e_X12_hoursTill_1.2.2.2.2.2.2.2.2.2 0 rfl ?_
        refine R_callV (mc := 0) (ms := 0) (mc' := 0) (ms' := 0) (M' := M_X12_goesBy) (d' := 8) (as := []) (st := []) 12 0 e_X12_hoursTill_2.1 (kCVof m_X12_goesBy l_X12_397) rfl (by decide) km_0 (by decide) (by decide) rfl rfl (by show (0 : Nat) ≤ 8; decide) ?_
        refine Run.mono h (fun r15 s16 h => ?_)
        refine R_eqs (st2 := [vI r15]) rfl rfl ?_
        refine R_pop e_X12_hoursTill_2.2.1 rfl ?_
        refine R_iinc (ls2 := [(4, vI (l4 + 1)), (0, vA G 0), (1, vI l1), (2, vI l2), (3, vI l3)]) e_X12_hoursTill_2.2.2.1 4 rfl (by decide) rfl ?_
        refine R_goto 10 e_X12_hoursTill_2.2.2.2.1 (by decide) ?_
        refine R_ls (ls2 := [(0, vA G 0), (1, vI l1), (2, vI l2), (3, vI l3), (4, vI (l4 + 1))]) [1, 2, 3, 4, 0] rfl ?_
        exact h
    · replace h := h.2 q
      refine R_iconst e_X12_hoursTill_1.2.2.1 ?_
      refine R_goto 27 e_X12_hoursTill_1.2.2.2.1 (by decide) ?_
      refine R_callV (mc := 0) (ms := 0) (mc' := 0) (ms' := 0) (M' := M_X12_setOf) (d' := 4) (as := [vI 2]) (st := [vA G 0]) 12 1 e_X12_hoursTill_1.2.2.2.2.2.1 (kCVof m_X12_setOf l_X12_337) rfl (by decide) km_0 (by decide) (by decide) rfl rfl (by show (1 : Nat) ≤ 8; decide) ?_
      refine Run.mono h (fun r17 s18 h => ?_)
      refine R_eqs (st2 := [vI r17, vA G 0]) rfl rfl ?_
      refine R_iload_n e_X12_hoursTill_1.2.2.2.2.2.2.1 2 rfl ?_
      refine R_callV (mc := 0) (ms := 0) (mc' := 0) (ms' := 0) (M' := M_X12_isIn) (d' := 0) (as := [vI r17, vI l2]) (st := []) 12 2 e_X12_hoursTill_1.2.2.2.2.2.2.2.1 (kCVof m_X12_isIn l_X12_299) rfl (by decide) km_0 (by decide) (by decide) rfl rfl (by show (0 : Nat) ≤ 8; decide) ?_
      refine Run.mono h (fun r19 s20 h => ?_)
      refine R_eqs (st2 := [vI r19]) rfl rfl ?_
      obtain ⟨q21, h⟩ := h
      refine R_if_ne 48 e_X12_hoursTill_1.2.2.2.2.2.2.2.2.1 (by decide) q21  (fun q => ?_) (fun q => ?_)
      · replace h := h.1 q
        refine R_aload_n e_X12_hoursTill_2.2.2.2.2.1 0 rfl ?_
        refine R_sipush e_X12_hoursTill_2.2.2.2.2.2.1 (by decide) ?_
        refine R_callV (mc := 0) (ms := 0) (mc' := 0) (ms' := 0) (M' := M_X12_restores) (d' := 0) (as := [vI 3084]) (st := []) 12 1 e_X12_hoursTill_2.2.2.2.2.2.2.1 (kCVof m_X12_restores l_X12_422) rfl (by decide) km_0 (by decide) (by decide) rfl rfl (by show (0 : Nat) ≤ 8; decide) ?_
        refine Run.mono h (fun r22 s23 h => ?_)
        refine R_eqs (st2 := []) rfl rfl ?_
        refine R_iload e_X12_hoursTill_2.2.2.2.2.2.2.2.1 4 rfl ?_
        refine R_iload_n e_X12_hoursTill_2.2.2.2.2.2.2.2.2.1 3 rfl ?_
        refine R_icmp_le 65 e_X12_hoursTill_2.2.2.2.2.2.2.2.2.2 (by decide) q3 q4 (fun q => ?_) (fun q => ?_)
        · replace h := h.1 q
          refine R_iload e_X12_hoursTill_3.2.2.1 4 rfl ?_
          exact R_ireturn e_X12_hoursTill_3.2.2.2 rfl h
        · replace h := h.2 q
          refine R_iconst e_X12_hoursTill_3.1 ?_
          refine R_goto 67 e_X12_hoursTill_3.2.1 (by decide) ?_
          exact R_ireturn e_X12_hoursTill_3.2.2.2 rfl h
      · replace h := h.2 q
        refine R_aload_n e_X12_hoursTill_1.2.2.2.2.2.2.2.2.2 0 rfl ?_
        refine R_callV (mc := 0) (ms := 0) (mc' := 0) (ms' := 0) (M' := M_X12_goesBy) (d' := 8) (as := []) (st := []) 12 0 e_X12_hoursTill_2.1 (kCVof m_X12_goesBy l_X12_397) rfl (by decide) km_0 (by decide) (by decide) rfl rfl (by show (0 : Nat) ≤ 8; decide) ?_
        refine Run.mono h (fun r24 s25 h => ?_)
        refine R_eqs (st2 := [vI r24]) rfl rfl ?_
        refine R_pop e_X12_hoursTill_2.2.1 rfl ?_
        refine R_iinc (ls2 := [(4, vI (l4 + 1)), (0, vA G 0), (1, vI l1), (2, vI l2), (3, vI l3)]) e_X12_hoursTill_2.2.2.1 4 rfl (by decide) rfl ?_
        refine R_goto 10 e_X12_hoursTill_2.2.2.2.1 (by decide) ?_
        refine R_ls (ls2 := [(0, vA G 0), (1, vI l1), (2, vI l2), (3, vI l3), (4, vI (l4 + 1))]) [1, 2, 3, 4, 0] rfl ?_
        exact h
/-! KiteLandModel.ripe(I)I -/
theorem e_X12_ripe_0 : decode cX12_ripe 0 = .ok (.aload_n 0, 1) ∧ decode cX12_ripe 1 = .ok (.iload_n 1, 1) ∧ decode cX12_ripe 2 = .ok (.invokevirtual 346, 3) ∧ decode cX12_ripe 5 = .ok (.ifCond .eq 19, 3) ∧ decode cX12_ripe 8 = .ok (.aload_n 0, 1) ∧ decode cX12_ripe 9 = .ok (.aload_n 0, 1) ∧ decode cX12_ripe 10 = .ok (.iconst 0, 1) ∧ decode cX12_ripe 11 = .ok (.iload_n 1, 1) ∧ decode cX12_ripe 12 = .ok (.sipush 999, 3) ∧ decode cX12_ripe 15 = .ok (.invokevirtual 425, 3) := by decide +kernel
theorem e_X12_ripe_1 : decode cX12_ripe 18 = .ok (.invokevirtual 358, 3) ∧ decode cX12_ripe 21 = .ok (.goto 8, 3) ∧ decode cX12_ripe 24 = .ok (.aload_n 0, 1) ∧ decode cX12_ripe 25 = .ok (.iconst 1, 1) ∧ decode cX12_ripe 26 = .ok (.invokevirtual 93, 3) ∧ decode cX12_ripe 29 = .ok (.ireturn, 1) := by decide +kernel
theorem S_X12_ripe {G : Kg} {σ : Kmem} {Q : Int → Kmem → Prop} {l1 : Int}  (h : Run G WM M_X12_isCrop 0 0 0 [vA G 0, vI l1] σ (fun r1 s2 => (rI r1) ∧ ((r1 = 0 → Run G WM M_X12_refuse 0 0 0 [vA G 0, vI 1] s2 (fun r4 s5 => Q r4 s5)) ∧ (r1 ≠ 0 → Run G WM M_X12_hoursTill 9 0 0 [vA G 0, vI 0, vI l1, vI 999] s2 (fun r6 s7 => Run G WM M_X12_orNone 1 0 0 [vA G 0, vI r6] s7 (fun r8 s9 => Q r8 s9)))))) : Run G WM M_X12_ripe 10 0 0 [vA G 0, vI l1] σ Q := by
  refine Run.of (by decide +kernel) (by show (2 : Nat) ≤ 2; decide) ?_
  show Ex G WM M_X12_ripe 10 0 0 0 [(0, vA G 0), (1, vI l1)] [] σ Q
  refine R_aload_n e_X12_ripe_0.1 0 rfl ?_
  refine R_iload_n e_X12_ripe_0.2.1 1 rfl ?_
  refine R_callV (mc := 0) (ms := 0) (mc' := 0) (ms' := 0) (M' := M_X12_isCrop) (d' := 0) (as := [vI l1]) (st := []) 12 1 e_X12_ripe_0.2.2.1 (kCVof m_X12_isCrop l_X12_346) rfl (by decide) km_0 (by decide) (by decide) rfl rfl (by show (0 : Nat) ≤ 8; decide) ?_
  refine Run.mono h (fun r1 s2 h => ?_)
  refine R_eqs (st2 := [vI r1]) rfl rfl ?_
  obtain ⟨q3, h⟩ := h
  refine R_if_eq 24 e_X12_ripe_0.2.2.2.1 (by decide) q3  (fun q => ?_) (fun q => ?_)
  · replace h := h.1 q
    refine R_aload_n e_X12_ripe_1.2.2.1 0 rfl ?_
    refine R_iconst e_X12_ripe_1.2.2.2.1 ?_
    refine R_callV (mc := 0) (ms := 0) (mc' := 0) (ms' := 0) (M' := M_X12_refuse) (d' := 0) (as := [vI 1]) (st := []) 12 1 e_X12_ripe_1.2.2.2.2.1 (kCVof m_X12_refuse l_X12_93) rfl (by decide) km_0 (by decide) (by decide) rfl rfl (by show (0 : Nat) ≤ 8; decide) ?_
    refine Run.mono h (fun r4 s5 h => ?_)
    refine R_eqs (st2 := [vI r4]) rfl rfl ?_
    exact R_ireturn e_X12_ripe_1.2.2.2.2.2 rfl h
  · replace h := h.2 q
    refine R_aload_n e_X12_ripe_0.2.2.2.2.1 0 rfl ?_
    refine R_aload_n e_X12_ripe_0.2.2.2.2.2.1 0 rfl ?_
    refine R_iconst e_X12_ripe_0.2.2.2.2.2.2.1 ?_
    refine R_iload_n e_X12_ripe_0.2.2.2.2.2.2.2.1 1 rfl ?_
    refine R_sipush e_X12_ripe_0.2.2.2.2.2.2.2.2.1 (by decide) ?_
    refine R_callV (mc := 0) (ms := 0) (mc' := 0) (ms' := 0) (M' := M_X12_hoursTill) (d' := 9) (as := [vI 0, vI l1, vI 999]) (st := [vA G 0]) 12 3 e_X12_ripe_0.2.2.2.2.2.2.2.2.2 (kCVof m_X12_hoursTill l_X12_425) rfl (by decide) km_0 (by decide) (by decide) rfl rfl (by show (1 : Nat) ≤ 8; decide) ?_
    refine Run.mono h (fun r6 s7 h => ?_)
    refine R_eqs (st2 := [vI r6, vA G 0]) rfl rfl ?_
    refine R_callV (mc := 0) (ms := 0) (mc' := 0) (ms' := 0) (M' := M_X12_orNone) (d' := 1) (as := [vI r6]) (st := []) 12 1 e_X12_ripe_1.1 (kCVof m_X12_orNone l_X12_358) rfl (by decide) km_0 (by decide) (by decide) rfl rfl (by show (0 : Nat) ≤ 8; decide) ?_
    refine Run.mono h (fun r8 s9 h => ?_)
    refine R_eqs (st2 := [vI r8]) rfl rfl ?_
    refine R_goto 29 e_X12_ripe_1.2.1 (by decide) ?_
    exact R_ireturn e_X12_ripe_1.2.2.2.2.2 rfl h
/-! KiteLandModel.cutIn(I)I -/
theorem e_X12_cutIn_0 : decode cX12_cutIn 0 = .ok (.aload_n 0, 1) ∧ decode cX12_cutIn 1 = .ok (.iload_n 1, 1) ∧ decode cX12_cutIn 2 = .ok (.invokevirtual 343, 3) ∧ decode cX12_cutIn 5 = .ok (.ifCond .eq 18, 3) ∧ decode cX12_cutIn 8 = .ok (.aload_n 0, 1) ∧ decode cX12_cutIn 9 = .ok (.aload_n 0, 1) ∧ decode cX12_cutIn 10 = .ok (.iconst 1, 1) ∧ decode cX12_cutIn 11 = .ok (.iload_n 1, 1) ∧ decode cX12_cutIn 12 = .ok (.bipush 99, 2) ∧ decode cX12_cutIn 14 = .ok (.invokevirtual 425, 3) := by decide +kernel
theorem e_X12_cutIn_1 : decode cX12_cutIn 17 = .ok (.invokevirtual 358, 3) ∧ decode cX12_cutIn 20 = .ok (.goto 8, 3) ∧ decode cX12_cutIn 23 = .ok (.aload_n 0, 1) ∧ decode cX12_cutIn 24 = .ok (.iconst 1, 1) ∧ decode cX12_cutIn 25 = .ok (.invokevirtual 93, 3) ∧ decode cX12_cutIn 28 = .ok (.ireturn, 1) := by decide +kernel
theorem S_X12_cutIn {G : Kg} {σ : Kmem} {Q : Int → Kmem → Prop} {l1 : Int}  (h : Run G WM M_X12_isKite 0 0 0 [vA G 0, vI l1] σ (fun r1 s2 => (rI r1) ∧ ((r1 = 0 → Run G WM M_X12_refuse 0 0 0 [vA G 0, vI 1] s2 (fun r4 s5 => Q r4 s5)) ∧ (r1 ≠ 0 → Run G WM M_X12_hoursTill 9 0 0 [vA G 0, vI 1, vI l1, vI 99] s2 (fun r6 s7 => Run G WM M_X12_orNone 1 0 0 [vA G 0, vI r6] s7 (fun r8 s9 => Q r8 s9)))))) : Run G WM M_X12_cutIn 10 0 0 [vA G 0, vI l1] σ Q := by
  refine Run.of (by decide +kernel) (by show (2 : Nat) ≤ 2; decide) ?_
  show Ex G WM M_X12_cutIn 10 0 0 0 [(0, vA G 0), (1, vI l1)] [] σ Q
  refine R_aload_n e_X12_cutIn_0.1 0 rfl ?_
  refine R_iload_n e_X12_cutIn_0.2.1 1 rfl ?_
  refine R_callV (mc := 0) (ms := 0) (mc' := 0) (ms' := 0) (M' := M_X12_isKite) (d' := 0) (as := [vI l1]) (st := []) 12 1 e_X12_cutIn_0.2.2.1 (kCVof m_X12_isKite l_X12_343) rfl (by decide) km_0 (by decide) (by decide) rfl rfl (by show (0 : Nat) ≤ 8; decide) ?_
  refine Run.mono h (fun r1 s2 h => ?_)
  refine R_eqs (st2 := [vI r1]) rfl rfl ?_
  obtain ⟨q3, h⟩ := h
  refine R_if_eq 23 e_X12_cutIn_0.2.2.2.1 (by decide) q3  (fun q => ?_) (fun q => ?_)
  · replace h := h.1 q
    refine R_aload_n e_X12_cutIn_1.2.2.1 0 rfl ?_
    refine R_iconst e_X12_cutIn_1.2.2.2.1 ?_
    refine R_callV (mc := 0) (ms := 0) (mc' := 0) (ms' := 0) (M' := M_X12_refuse) (d' := 0) (as := [vI 1]) (st := []) 12 1 e_X12_cutIn_1.2.2.2.2.1 (kCVof m_X12_refuse l_X12_93) rfl (by decide) km_0 (by decide) (by decide) rfl rfl (by show (0 : Nat) ≤ 8; decide) ?_
    refine Run.mono h (fun r4 s5 h => ?_)
    refine R_eqs (st2 := [vI r4]) rfl rfl ?_
    exact R_ireturn e_X12_cutIn_1.2.2.2.2.2 rfl h
  · replace h := h.2 q
    refine R_aload_n e_X12_cutIn_0.2.2.2.2.1 0 rfl ?_
    refine R_aload_n e_X12_cutIn_0.2.2.2.2.2.1 0 rfl ?_
    refine R_iconst e_X12_cutIn_0.2.2.2.2.2.2.1 ?_
    refine R_iload_n e_X12_cutIn_0.2.2.2.2.2.2.2.1 1 rfl ?_
    refine R_bipush e_X12_cutIn_0.2.2.2.2.2.2.2.2.1 (by decide) ?_
    refine R_callV (mc := 0) (ms := 0) (mc' := 0) (ms' := 0) (M' := M_X12_hoursTill) (d' := 9) (as := [vI 1, vI l1, vI 99]) (st := [vA G 0]) 12 3 e_X12_cutIn_0.2.2.2.2.2.2.2.2.2 (kCVof m_X12_hoursTill l_X12_425) rfl (by decide) km_0 (by decide) (by decide) rfl rfl (by show (1 : Nat) ≤ 8; decide) ?_
    refine Run.mono h (fun r6 s7 h => ?_)
    refine R_eqs (st2 := [vI r6, vA G 0]) rfl rfl ?_
    refine R_callV (mc := 0) (ms := 0) (mc' := 0) (ms' := 0) (M' := M_X12_orNone) (d' := 1) (as := [vI r6]) (st := []) 12 1 e_X12_cutIn_1.1 (kCVof m_X12_orNone l_X12_358) rfl (by decide) km_0 (by decide) (by decide) rfl rfl (by show (0 : Nat) ≤ 8; decide) ?_
    refine Run.mono h (fun r8 s9 h => ?_)
    refine R_eqs (st2 := [vI r8]) rfl rfl ?_
    refine R_goto 28 e_X12_cutIn_1.2.1 (by decide) ?_
    exact R_ireturn e_X12_cutIn_1.2.2.2.2.2 rfl h
/-! KiteLandModel.isSpan(I)Z -/
theorem e_X12_isSpan_0 : decode cX12_isSpan 0 = .ok (.iload_n 0, 1) ∧ decode cX12_isSpan 1 = .ok (.i2l, 1) ∧ decode cX12_isSpan 2 = .ok (.lconst 0, 1) ∧ decode cX12_isSpan 3 = .ok (.ldc2_w 391, 3) ∧ decode cX12_isSpan 6 = .ok (.invokestatic 393, 3) ∧ decode cX12_isSpan 9 = .ok (.ireturn, 1) := by decide +kernel
theorem S_X12_isSpan {G : Kg} {σ : Kmem} {Q : Int → Kmem → Prop} {l0 : Int}  (h : (rI l0) ∧ Run G WM M_X12_isFrom 0 0 0 [vL l0, vL 0, vL 99] σ (fun r2 s3 => (r2 = 0 ∨ r2 = 1) ∧ Q r2 s3)) : Run G WM M_X12_isSpan 1 0 0 [vI l0] σ Q := by
  refine Run.of (by decide +kernel) (by show (1 : Nat) ≤ 1; decide) ?_
  show Ex G WM M_X12_isSpan 1 0 0 0 [(0, vI l0)] [] σ Q
  refine R_iload_n e_X12_isSpan_0.1 0 rfl ?_
  obtain ⟨q1, h⟩ := h
  refine R_i2l e_X12_isSpan_0.2.1 q1 ?_
  refine R_lconst 0 e_X12_isSpan_0.2.2.1 (by decide) ?_
  refine R_ldc2 (99) k_X12_391 e_X12_isSpan_0.2.2.2.1 ?_
  refine R_callS (mc := 0) (ms := 0) (mc' := 0) (ms' := 0) (M' := M_X12_isFrom) (d' := 0) (as := [vL l0, vL 0, vL 99]) (st := []) 3 e_X12_isSpan_0.2.2.2.2.1 (kCSof m_X12_isFrom l_X12_393) (by decide) (by decide) rfl rfl (by show (0 : Nat) ≤ 8; decide) ?_
  refine Run.mono h (fun r2 s3 h => ?_)
  refine R_eqs (st2 := [vI r2]) rfl rfl ?_
  obtain ⟨q4, h⟩ := h
  exact R_zreturn e_X12_isSpan_0.2.2.2.2.2 rfl q4 h
/-! KiteLandModel.laysHours(II)V -/
theorem e_X12_laysHours_0 : decode cX12_laysHours 0 = .ok (.iconst 0, 1) ∧ decode cX12_laysHours 1 = .ok (.istore_n 3, 1) ∧ decode cX12_laysHours 2 = .ok (.iload_n 3, 1) ∧ decode cX12_laysHours 3 = .ok (.bipush 70, 2) ∧ decode cX12_laysHours 5 = .ok (.if_icmp .ge 16, 3) ∧ decode cX12_laysHours 8 = .ok (.aload_n 0, 1) ∧ decode cX12_laysHours 9 = .ok (.getfield 47, 3) ∧ decode cX12_laysHours 12 = .ok (.iload_n 3, 1) ∧ decode cX12_laysHours 13 = .ok (.iconst 0, 1) ∧ decode cX12_laysHours 14 = .ok (.iastore, 1) := by decide +kernel
theorem e_X12_laysHours_1 : decode cX12_laysHours 15 = .ok (.iinc 3 1, 3) ∧ decode cX12_laysHours 18 = .ok (.goto (-16), 3) ∧ decode cX12_laysHours 21 = .ok (.aload_n 0, 1) ∧ decode cX12_laysHours 22 = .ok (.sipush 3084, 3) ∧ decode cX12_laysHours 25 = .ok (.invokevirtual 419, 3) ∧ decode cX12_laysHours 28 = .ok (.iconst 0, 1) ∧ decode cX12_laysHours 29 = .ok (.istore_n 3, 1) ∧ decode cX12_laysHours 30 = .ok (.iload_n 3, 1) ∧ decode cX12_laysHours 31 = .ok (.iload_n 1, 1) ∧ decode cX12_laysHours 32 = .ok (.if_icmp .ge 117, 3) := by decide +kernel
theorem e_X12_laysHours_2 : decode cX12_laysHours 35 = .ok (.aload_n 0, 1) ∧ decode cX12_laysHours 36 = .ok (.invokevirtual 385, 3) ∧ decode cX12_laysHours 39 = .ok (.pop, 1) ∧ decode cX12_laysHours 40 = .ok (.iconst 0, 1) ∧ decode cX12_laysHours 41 = .ok (.istore 4, 2) ∧ decode cX12_laysHours 43 = .ok (.iload 4, 2) ∧ decode cX12_laysHours 45 = .ok (.aload_n 0, 1) ∧ decode cX12_laysHours 46 = .ok (.getfield 7, 3) ∧ decode cX12_laysHours 49 = .ok (.iconst 0, 1) ∧ decode cX12_laysHours 50 = .ok (.iaload, 1) := by decide +kernel
theorem e_X12_laysHours_3 : decode cX12_laysHours 51 = .ok (.if_icmp .ge 81, 3) ∧ decode cX12_laysHours 54 = .ok (.iconst 0, 1) ∧ decode cX12_laysHours 55 = .ok (.istore 5, 2) ∧ decode cX12_laysHours 57 = .ok (.iload 5, 2) ∧ decode cX12_laysHours 59 = .ok (.aload_n 0, 1) ∧ decode cX12_laysHours 60 = .ok (.getfield 7, 3) ∧ decode cX12_laysHours 63 = .ok (.iconst 1, 1) ∧ decode cX12_laysHours 64 = .ok (.iaload, 1) ∧ decode cX12_laysHours 65 = .ok (.if_icmp .ge 61, 3) ∧ decode cX12_laysHours 68 = .ok (.aload_n 0, 1) := by decide +kernel
theorem e_X12_laysHours_4 : decode cX12_laysHours 69 = .ok (.iload 4, 2) ∧ decode cX12_laysHours 71 = .ok (.iload 5, 2) ∧ decode cX12_laysHours 73 = .ok (.aload_n 0, 1) ∧ decode cX12_laysHours 74 = .ok (.invokevirtual 325, 3) ∧ decode cX12_laysHours 77 = .ok (.invokevirtual 312, 3) ∧ decode cX12_laysHours 80 = .ok (.istore 6, 2) ∧ decode cX12_laysHours 82 = .ok (.aload_n 0, 1) ∧ decode cX12_laysHours 83 = .ok (.getfield 47, 3) ∧ decode cX12_laysHours 86 = .ok (.bipush 10, 2) ∧ decode cX12_laysHours 88 = .ok (.iload 5, 2) := by decide +kernel
theorem e_X12_laysHours_5 : decode cX12_laysHours 90 = .ok (.imul, 1) ∧ decode cX12_laysHours 91 = .ok (.iload 4, 2) ∧ decode cX12_laysHours 93 = .ok (.iadd, 1) ∧ decode cX12_laysHours 94 = .ok (.dup2, 1) ∧ decode cX12_laysHours 95 = .ok (.iaload, 1) ∧ decode cX12_laysHours 96 = .ok (.iload 6, 2) ∧ decode cX12_laysHours 98 = .ok (.iconst (-1), 1) ∧ decode cX12_laysHours 99 = .ok (.if_icmp .eq 18, 3) ∧ decode cX12_laysHours 102 = .ok (.iload_n 2, 1) ∧ decode cX12_laysHours 103 = .ok (.iconst (-1), 1) := by decide +kernel
theorem e_X12_laysHours_6 : decode cX12_laysHours 104 = .ok (.if_icmp .eq 9, 3) ∧ decode cX12_laysHours 107 = .ok (.iload 6, 2) ∧ decode cX12_laysHours 109 = .ok (.iload_n 2, 1) ∧ decode cX12_laysHours 110 = .ok (.if_icmp .ne 7, 3) ∧ decode cX12_laysHours 113 = .ok (.iconst 1, 1) ∧ decode cX12_laysHours 114 = .ok (.goto 4, 3) ∧ decode cX12_laysHours 117 = .ok (.iconst 0, 1) ∧ decode cX12_laysHours 118 = .ok (.iadd, 1) ∧ decode cX12_laysHours 119 = .ok (.iastore, 1) ∧ decode cX12_laysHours 120 = .ok (.iinc 5 1, 3) := by decide +kernel
theorem e_X12_laysHours_7 : decode cX12_laysHours 123 = .ok (.goto (-66), 3) ∧ decode cX12_laysHours 126 = .ok (.iinc 4 1, 3) ∧ decode cX12_laysHours 129 = .ok (.goto (-86), 3) ∧ decode cX12_laysHours 132 = .ok (.aload_n 0, 1) ∧ decode cX12_laysHours 133 = .ok (.getfield 7, 3) ∧ decode cX12_laysHours 136 = .ok (.bipush 7, 2) ∧ decode cX12_laysHours 138 = .ok (.dup2, 1) ∧ decode cX12_laysHours 139 = .ok (.iaload, 1) ∧ decode cX12_laysHours 140 = .ok (.iconst 1, 1) ∧ decode cX12_laysHours 141 = .ok (.iadd, 1) := by decide +kernel
theorem e_X12_laysHours_8 : decode cX12_laysHours 142 = .ok (.iastore, 1) ∧ decode cX12_laysHours 143 = .ok (.iinc 3 1, 3) ∧ decode cX12_laysHours 146 = .ok (.goto (-116), 3) ∧ decode cX12_laysHours 149 = .ok (.aload_n 0, 1) ∧ decode cX12_laysHours 150 = .ok (.sipush 3084, 3) ∧ decode cX12_laysHours 153 = .ok (.invokevirtual 422, 3) ∧ decode cX12_laysHours 156 = .ok (.return_, 1) := by decide +kernel
abbrev E_X12_laysHours_2 (G : Kg) (l1 l2 l3 : Int) (σ : Kmem) (Q : Int → Kmem → Prop) : Prop := Ex G WM M_X12_laysHours 8 0 0 2 [(0, vA G 0), (1, vI l1), (2, vI l2), (3, vI l3)] [] σ Q
abbrev E_X12_laysHours_30 (G : Kg) (l1 l2 l3 : Int) (σ : Kmem) (Q : Int → Kmem → Prop) : Prop := Ex G WM M_X12_laysHours 8 0 0 30 [(0, vA G 0), (1, vI l1), (2, vI l2), (3, vI l3)] [] σ Q
abbrev E_X12_laysHours_43 (G : Kg) (l1 l2 l3 l4 : Int) (σ : Kmem) (Q : Int → Kmem → Prop) : Prop := Ex G WM M_X12_laysHours 8 0 0 43 [(0, vA G 0), (1, vI l1), (2, vI l2), (3, vI l3), (4, vI l4)] [] σ Q
abbrev E_X12_laysHours_57 (G : Kg) (l1 l2 l3 l4 l5 : Int) (σ : Kmem) (Q : Int → Kmem → Prop) : Prop := Ex G WM M_X12_laysHours 8 0 0 57 [(0, vA G 0), (1, vI l1), (2, vI l2), (3, vI l3), (4, vI l4), (5, vI l5)] [] σ Q
theorem S_X12_laysHours {G : Kg} {σ : Kmem} {Q : Int → Kmem → Prop} {l1 l2 : Int}  (h : E_X12_laysHours_2 G l1 l2 0 σ Q) : Run G WM M_X12_laysHours 8 0 0 [vA G 0, vI l1, vI l2] σ Q := by
  refine Run.of (by decide +kernel) (by show (3 : Nat) ≤ 7; decide) ?_
  show Ex G WM M_X12_laysHours 8 0 0 0 [(0, vA G 0), (1, vI l1), (2, vI l2)] [] σ Q
  refine R_iconst e_X12_laysHours_0.1 ?_
  refine R_istore_n (ls2 := [(3, vI 0), (0, vA G 0), (1, vI l1), (2, vI l2)]) e_X12_laysHours_0.2.1 (by decide) rfl ?_
  refine R_ls (ls2 := [(0, vA G 0), (1, vI l1), (2, vI l2), (3, vI 0)]) [1, 2, 3, 0] rfl ?_
  exact h
theorem S_X12_laysHours_2 {G : Kg} {σ : Kmem} {Q : Int → Kmem → Prop} {l1 l2 l3 : Int}  (h : (rI l3) ∧ ((70 ≤ l3 → Run G WM M_X12_keeps 0 0 0 [vA G 0, vI 3084] σ (fun r2 s3 => E_X12_laysHours_30 G l1 l2 0 s3 Q)) ∧ (l3 < 70 → (0 ≤ l3 ∧ l3 < 70) ∧ E_X12_laysHours_2 G l1 l2 (l3 + 1) (kup σ 9 l3 0) Q))) : E_X12_laysHours_2 G l1 l2 l3 σ Q := by
  refine R_iload_n e_X12_laysHours_0.2.2.1 3 rfl ?_
  refine R_bipush e_X12_laysHours_0.2.2.2.1 (by decide) ?_
  obtain ⟨q1, h⟩ := h
  refine R_icmp_ge 21 e_X12_laysHours_0.2.2.2.2.1 (by decide) q1 (by decide) (fun q => ?_) (fun q => ?_)
  · replace h := h.1 q
    refine R_aload_n e_X12_laysHours_1.2.2.1 0 rfl ?_
    refine R_sipush e_X12_laysHours_1.2.2.2.1 (by decide) ?_
    refine R_callV (mc := 0) (ms := 0) (mc' := 0) (ms' := 0) (M' := M_X12_keeps) (d' := 0) (as := [vI 3084]) (st := []) 12 1 e_X12_laysHours_1.2.2.2.2.1 (kCVof m_X12_keeps l_X12_419) rfl (by decide) km_0 (by decide) (by decide) rfl rfl (by show (0 : Nat) ≤ 8; decide) ?_
    refine Run.mono h (fun r2 s3 h => ?_)
    refine R_eqs (st2 := []) rfl rfl ?_
    refine R_iconst e_X12_laysHours_1.2.2.2.2.2.1 ?_
    refine R_istore_n (ls2 := [(3, vI 0), (0, vA G 0), (1, vI l1), (2, vI l2)]) e_X12_laysHours_1.2.2.2.2.2.2.1 (by decide) rfl ?_
    refine R_ls (ls2 := [(0, vA G 0), (1, vI l1), (2, vI l2), (3, vI 0)]) [1, 2, 3, 0] rfl ?_
    exact h
  · replace h := h.2 q
    refine R_aload_n e_X12_laysHours_0.2.2.2.2.2.1 0 rfl ?_
    refine R_getA 12 24 9 e_X12_laysHours_0.2.2.2.2.2.2.1 f_X12_47 km_0 (fun _ _ => rfl) rm_0_24 (by decide) ?_
    refine R_iload_n e_X12_laysHours_0.2.2.2.2.2.2.2.1 3 rfl ?_
    refine R_iconst e_X12_laysHours_0.2.2.2.2.2.2.2.2.1 ?_
    obtain ⟨q4, h⟩ := h
    refine R_iast 70 WM_ok e_X12_laysHours_0.2.2.2.2.2.2.2.2.2 kma_9 q4 ?_
    refine R_iinc (ls2 := [(3, vI (l3 + 1)), (0, vA G 0), (1, vI l1), (2, vI l2)]) e_X12_laysHours_1.1 3 rfl (by decide) rfl ?_
    refine R_goto 2 e_X12_laysHours_1.2.1 (by decide) ?_
    refine R_ls (ls2 := [(0, vA G 0), (1, vI l1), (2, vI l2), (3, vI (l3 + 1))]) [1, 2, 3, 0] rfl ?_
    exact h
theorem S_X12_laysHours_30 {G : Kg} {σ : Kmem} {Q : Int → Kmem → Prop} {l1 l2 l3 : Int}  (h : (rI l3) ∧ (rI l1) ∧ ((l1 ≤ l3 → Run G WM M_X12_restores 0 0 0 [vA G 0, vI 3084] σ (fun r7 s8 => Q 0 s8)) ∧ (l3 < l1 → Run G WM M_X12_cuts 7 0 0 [vA G 0] σ (fun r9 s10 => E_X12_laysHours_43 G l1 l2 l3 0 s10 Q)))) : E_X12_laysHours_30 G l1 l2 l3 σ Q := by
  refine R_iload_n e_X12_laysHours_1.2.2.2.2.2.2.2.1 3 rfl ?_
  refine R_iload_n e_X12_laysHours_1.2.2.2.2.2.2.2.2.1 1 rfl ?_
  obtain ⟨q5, h⟩ := h
  obtain ⟨q6, h⟩ := h
  refine R_icmp_ge 149 e_X12_laysHours_1.2.2.2.2.2.2.2.2.2 (by decide) q5 q6 (fun q => ?_) (fun q => ?_)
  · replace h := h.1 q
    refine R_aload_n e_X12_laysHours_8.2.2.2.1 0 rfl ?_
    refine R_sipush e_X12_laysHours_8.2.2.2.2.1 (by decide) ?_
    refine R_callV (mc := 0) (ms := 0) (mc' := 0) (ms' := 0) (M' := M_X12_restores) (d' := 0) (as := [vI 3084]) (st := []) 12 1 e_X12_laysHours_8.2.2.2.2.2.1 (kCVof m_X12_restores l_X12_422) rfl (by decide) km_0 (by decide) (by decide) rfl rfl (by show (0 : Nat) ≤ 8; decide) ?_
    refine Run.mono h (fun r7 s8 h => ?_)
    refine R_eqs (st2 := []) rfl rfl ?_
    exact R_return e_X12_laysHours_8.2.2.2.2.2.2 rfl h
  · replace h := h.2 q
    refine R_aload_n e_X12_laysHours_2.1 0 rfl ?_
    refine R_callV (mc := 0) (ms := 0) (mc' := 0) (ms' := 0) (M' := M_X12_cuts) (d' := 7) (as := []) (st := []) 12 0 e_X12_laysHours_2.2.1 (kCVof m_X12_cuts l_X12_385) rfl (by decide) km_0 (by decide) (by decide) rfl rfl (by show (0 : Nat) ≤ 8; decide) ?_
    refine Run.mono h (fun r9 s10 h => ?_)
    refine R_eqs (st2 := [vI r9]) rfl rfl ?_
    refine R_pop e_X12_laysHours_2.2.2.1 rfl ?_
    refine R_iconst e_X12_laysHours_2.2.2.2.1 ?_
    refine R_istore (ls2 := [(4, vI 0), (0, vA G 0), (1, vI l1), (2, vI l2), (3, vI l3)]) e_X12_laysHours_2.2.2.2.2.1 (by decide) rfl ?_
    refine R_ls (ls2 := [(0, vA G 0), (1, vI l1), (2, vI l2), (3, vI l3), (4, vI 0)]) [1, 2, 3, 4, 0] rfl ?_
    exact h
theorem S_X12_laysHours_43 {G : Kg} {σ : Kmem} {Q : Int → Kmem → Prop} {l1 l2 l3 l4 : Int}  (h : (rI l4) ∧ (rI (σ 1 0)) ∧ ((σ 1 0 ≤ l4 → E_X12_laysHours_30 G l1 l2 (l3 + 1) (kup σ 1 7 ((σ 1 7) + 1)) Q) ∧ (l4 < σ 1 0 → E_X12_laysHours_57 G l1 l2 l3 l4 0 σ Q))) : E_X12_laysHours_43 G l1 l2 l3 l4 σ Q := by
  refine R_iload e_X12_laysHours_2.2.2.2.2.2.1 4 rfl ?_
  refine R_aload_n e_X12_laysHours_2.2.2.2.2.2.2.1 0 rfl ?_
  refine R_getA 12 0 1 e_X12_laysHours_2.2.2.2.2.2.2.2.1 f_X12_7 km_0 (fun _ _ => rfl) rm_0_0 (by decide) ?_
  refine R_iconst e_X12_laysHours_2.2.2.2.2.2.2.2.2.1 ?_
  refine R_iald 3598 e_X12_laysHours_2.2.2.2.2.2.2.2.2.2 kma_1 (by decide) ?_
  obtain ⟨q11, h⟩ := h
  obtain ⟨q12, h⟩ := h
  refine R_icmp_ge 132 e_X12_laysHours_3.1 (by decide) q11 q12 (fun q => ?_) (fun q => ?_)
  · replace h := h.1 q
    refine R_aload_n e_X12_laysHours_7.2.2.2.1 0 rfl ?_
    refine R_getA 12 0 1 e_X12_laysHours_7.2.2.2.2.1 f_X12_7 km_0 (fun _ _ => rfl) rm_0_0 (by decide) ?_
    refine R_bipush e_X12_laysHours_7.2.2.2.2.2.1 (by decide) ?_
    refine R_dup2 e_X12_laysHours_7.2.2.2.2.2.2.1 rfl rfl ?_
    refine R_iald 3598 e_X12_laysHours_7.2.2.2.2.2.2.2.1 kma_1 (by decide) ?_
    refine R_iconst e_X12_laysHours_7.2.2.2.2.2.2.2.2.1 ?_
    refine R_iadd e_X12_laysHours_7.2.2.2.2.2.2.2.2.2 ?_
    refine R_iast 3598 WM_ok e_X12_laysHours_8.1 kma_1 (by decide) ?_
    refine R_iinc (ls2 := [(3, vI (l3 + 1)), (0, vA G 0), (1, vI l1), (2, vI l2), (4, vI l4)]) e_X12_laysHours_8.2.1 3 rfl (by decide) rfl ?_
    refine R_goto 30 e_X12_laysHours_8.2.2.1 (by decide) ?_
    refine R_ls (ls2 := [(0, vA G 0), (1, vI l1), (2, vI l2), (3, vI (l3 + 1))]) [1, 2, 3, 0] rfl ?_
    exact h
  · replace h := h.2 q
    refine R_iconst e_X12_laysHours_3.2.1 ?_
    refine R_istore (ls2 := [(5, vI 0), (0, vA G 0), (1, vI l1), (2, vI l2), (3, vI l3), (4, vI l4)]) e_X12_laysHours_3.2.2.1 (by decide) rfl ?_
    refine R_ls (ls2 := [(0, vA G 0), (1, vI l1), (2, vI l2), (3, vI l3), (4, vI l4), (5, vI 0)]) [1, 2, 3, 4, 5, 0] rfl ?_
    exact h
theorem S_X12_laysHours_57 {G : Kg} {σ : Kmem} {Q : Int → Kmem → Prop} {l1 l2 l3 l4 l5 : Int}  (h : (rI l5) ∧ (rI (σ 1 1)) ∧ ((σ 1 1 ≤ l5 → E_X12_laysHours_43 G l1 l2 l3 (l4 + 1) σ Q) ∧ (l5 < σ 1 1 → Run G WM M_X12_now 0 0 0 [vA G 0] σ (fun r15 s16 => Run G WM M_X12_ownerOf 6 0 0 [vA G 0, vI l4, vI l5, vI r15] s16 (fun r17 s18 => (0 ≤ (10 * l5) + l4 ∧ (10 * l5) + l4 < 70) ∧ (rI r17) ∧ ((r17 = -1 → (0 ≤ (10 * l5) + l4 ∧ (10 * l5) + l4 < 70) ∧ E_X12_laysHours_57 G l1 l2 l3 l4 (l5 + 1) (kup s18 9 ((10 * l5) + l4) ((s18 9 ((10 * l5) + l4)) + 0)) Q) ∧ (r17 ≠ -1 → (rI l2) ∧ ((l2 = -1 → (0 ≤ (10 * l5) + l4 ∧ (10 * l5) + l4 < 70) ∧ E_X12_laysHours_57 G l1 l2 l3 l4 (l5 + 1) (kup s18 9 ((10 * l5) + l4) ((s18 9 ((10 * l5) + l4)) + 1)) Q) ∧ (l2 ≠ -1 → ((r17 ≠ l2 → (0 ≤ (10 * l5) + l4 ∧ (10 * l5) + l4 < 70) ∧ E_X12_laysHours_57 G l1 l2 l3 l4 (l5 + 1) (kup s18 9 ((10 * l5) + l4) ((s18 9 ((10 * l5) + l4)) + 0)) Q) ∧ (r17 = l2 → (0 ≤ (10 * l5) + l4 ∧ (10 * l5) + l4 < 70) ∧ E_X12_laysHours_57 G l1 l2 l3 l4 (l5 + 1) (kup s18 9 ((10 * l5) + l4) ((s18 9 ((10 * l5) + l4)) + 1)) Q))))))))))) : E_X12_laysHours_57 G l1 l2 l3 l4 l5 σ Q := by
  refine R_iload e_X12_laysHours_3.2.2.2.1 5 rfl ?_
  refine R_aload_n e_X12_laysHours_3.2.2.2.2.1 0 rfl ?_
  refine R_getA 12 0 1 e_X12_laysHours_3.2.2.2.2.2.1 f_X12_7 km_0 (fun _ _ => rfl) rm_0_0 (by decide) ?_
  refine R_iconst e_X12_laysHours_3.2.2.2.2.2.2.1 ?_
  refine R_iald 3598 e_X12_laysHours_3.2.2.2.2.2.2.2.1 kma_1 (by decide) ?_
  obtain ⟨q13, h⟩ := h
  obtain ⟨q14, h⟩ := h
  refine R_icmp_ge 126 e_X12_laysHours_3.2.2.2.2.2.2.2.2.1 (by decide) q13 q14 (fun q => ?_) (fun q => ?_)
  · replace h := h.1 q
    refine R_iinc (ls2 := [(4, vI (l4 + 1)), (0, vA G 0), (1, vI l1), (2, vI l2), (3, vI l3), (5, vI l5)]) e_X12_laysHours_7.2.1 4 rfl (by decide) rfl ?_
    refine R_goto 43 e_X12_laysHours_7.2.2.1 (by decide) ?_
    refine R_ls (ls2 := [(0, vA G 0), (1, vI l1), (2, vI l2), (3, vI l3), (4, vI (l4 + 1))]) [1, 2, 3, 4, 0] rfl ?_
    exact h
  · replace h := h.2 q
    refine R_aload_n e_X12_laysHours_3.2.2.2.2.2.2.2.2.2 0 rfl ?_
    refine R_iload e_X12_laysHours_4.1 4 rfl ?_
    refine R_iload e_X12_laysHours_4.2.1 5 rfl ?_
    refine R_aload_n e_X12_laysHours_4.2.2.1 0 rfl ?_
    refine R_callV (mc := 0) (ms := 0) (mc' := 0) (ms' := 0) (M' := M_X12_now) (d' := 0) (as := []) (st := [vI l5, vI l4, vA G 0]) 12 0 e_X12_laysHours_4.2.2.2.1 (kCVof m_X12_now l_X12_325) rfl (by decide) km_0 (by decide) (by decide) rfl rfl (by show (3 : Nat) ≤ 8; decide) ?_
    refine Run.mono h (fun r15 s16 h => ?_)
    refine R_eqs (st2 := [vI r15, vI l5, vI l4, vA G 0]) rfl rfl ?_
    refine R_callV (mc := 0) (ms := 0) (mc' := 0) (ms' := 0) (M' := M_X12_ownerOf) (d' := 6) (as := [vI l4, vI l5, vI r15]) (st := []) 12 3 e_X12_laysHours_4.2.2.2.2.1 (kCVof m_X12_ownerOf l_X12_312) rfl (by decide) km_0 (by decide) (by decide) rfl rfl (by show (0 : Nat) ≤ 8; decide) ?_
    refine Run.mono h (fun r17 s18 h => ?_)
    refine R_eqs (st2 := [vI r17]) rfl rfl ?_
    refine R_istore (ls2 := [(6, vI r17), (0, vA G 0), (1, vI l1), (2, vI l2), (3, vI l3), (4, vI l4), (5, vI l5)]) e_X12_laysHours_4.2.2.2.2.2.1 (by decide) rfl ?_
    refine R_aload_n e_X12_laysHours_4.2.2.2.2.2.2.1 1 rfl ?_
    refine R_getA 12 24 9 e_X12_laysHours_4.2.2.2.2.2.2.2.1 f_X12_47 km_0 (fun _ _ => rfl) rm_0_24 (by decide) ?_
    refine R_bipush e_X12_laysHours_4.2.2.2.2.2.2.2.2.1 (by decide) ?_
    refine R_iload e_X12_laysHours_4.2.2.2.2.2.2.2.2.2 6 rfl ?_
    refine R_imul e_X12_laysHours_5.1 ?_
    refine R_iload e_X12_laysHours_5.2.1 5 rfl ?_
    refine R_iadd e_X12_laysHours_5.2.2.1 ?_
    refine R_dup2 e_X12_laysHours_5.2.2.2.1 rfl rfl ?_
    obtain ⟨q19, h⟩ := h
    refine R_iald 70 e_X12_laysHours_5.2.2.2.2.1 kma_9 q19 ?_
    refine R_iload e_X12_laysHours_5.2.2.2.2.2.1 0 rfl ?_
    refine R_iconst e_X12_laysHours_5.2.2.2.2.2.2.1 ?_
    obtain ⟨q20, h⟩ := h
    refine R_icmp_eq 117 e_X12_laysHours_5.2.2.2.2.2.2.2.1 (by decide) q20 (by decide) (fun q => ?_) (fun q => ?_)
    · replace h := h.1 q
      refine R_iconst e_X12_laysHours_6.2.2.2.2.2.2.1 ?_
      refine R_iadd e_X12_laysHours_6.2.2.2.2.2.2.2.1 ?_
      obtain ⟨q21, h⟩ := h
      refine R_iast 70 WM_ok e_X12_laysHours_6.2.2.2.2.2.2.2.2.1 kma_9 q21 ?_
      refine R_iinc (ls2 := [(5, vI (l5 + 1)), (6, vI r17), (0, vA G 0), (1, vI l1), (2, vI l2), (3, vI l3), (4, vI l4)]) e_X12_laysHours_6.2.2.2.2.2.2.2.2.2 6 rfl (by decide) rfl ?_
      refine R_goto 57 e_X12_laysHours_7.1 (by decide) ?_
      refine R_ls (ls2 := [(0, vA G 0), (1, vI l1), (2, vI l2), (3, vI l3), (4, vI l4), (5, vI (l5 + 1))]) [2, 3, 4, 5, 6, 0] rfl ?_
      exact h
    · replace h := h.2 q
      refine R_iload_n e_X12_laysHours_5.2.2.2.2.2.2.2.2.1 3 rfl ?_
      refine R_iconst e_X12_laysHours_5.2.2.2.2.2.2.2.2.2 ?_
      obtain ⟨q22, h⟩ := h
      refine R_icmp_eq 113 e_X12_laysHours_6.1 (by decide) q22 (by decide) (fun q => ?_) (fun q => ?_)
      · replace h := h.1 q
        refine R_iconst e_X12_laysHours_6.2.2.2.2.1 ?_
        refine R_goto 118 e_X12_laysHours_6.2.2.2.2.2.1 (by decide) ?_
        refine R_iadd e_X12_laysHours_6.2.2.2.2.2.2.2.1 ?_
        obtain ⟨q23, h⟩ := h
        refine R_iast 70 WM_ok e_X12_laysHours_6.2.2.2.2.2.2.2.2.1 kma_9 q23 ?_
        refine R_iinc (ls2 := [(5, vI (l5 + 1)), (6, vI r17), (0, vA G 0), (1, vI l1), (2, vI l2), (3, vI l3), (4, vI l4)]) e_X12_laysHours_6.2.2.2.2.2.2.2.2.2 6 rfl (by decide) rfl ?_
        refine R_goto 57 e_X12_laysHours_7.1 (by decide) ?_
        refine R_ls (ls2 := [(0, vA G 0), (1, vI l1), (2, vI l2), (3, vI l3), (4, vI l4), (5, vI (l5 + 1))]) [2, 3, 4, 5, 6, 0] rfl ?_
        exact h
      · replace h := h.2 q
        refine R_iload e_X12_laysHours_6.2.1 0 rfl ?_
        refine R_iload_n e_X12_laysHours_6.2.2.1 3 rfl ?_
        refine R_icmp_ne 117 e_X12_laysHours_6.2.2.2.1 (by decide) q20 q22 (fun q => ?_) (fun q => ?_)
        · replace h := h.1 q
          refine R_iconst e_X12_laysHours_6.2.2.2.2.2.2.1 ?_
          refine R_iadd e_X12_laysHours_6.2.2.2.2.2.2.2.1 ?_
          obtain ⟨q24, h⟩ := h
          refine R_iast 70 WM_ok e_X12_laysHours_6.2.2.2.2.2.2.2.2.1 kma_9 q24 ?_
          refine R_iinc (ls2 := [(5, vI (l5 + 1)), (6, vI r17), (0, vA G 0), (1, vI l1), (2, vI l2), (3, vI l3), (4, vI l4)]) e_X12_laysHours_6.2.2.2.2.2.2.2.2.2 6 rfl (by decide) rfl ?_
          refine R_goto 57 e_X12_laysHours_7.1 (by decide) ?_
          refine R_ls (ls2 := [(0, vA G 0), (1, vI l1), (2, vI l2), (3, vI l3), (4, vI l4), (5, vI (l5 + 1))]) [2, 3, 4, 5, 6, 0] rfl ?_
          exact h
        · replace h := h.2 q
          refine R_iconst e_X12_laysHours_6.2.2.2.2.1 ?_
          refine R_goto 118 e_X12_laysHours_6.2.2.2.2.2.1 (by decide) ?_
          refine R_iadd e_X12_laysHours_6.2.2.2.2.2.2.2.1 ?_
          obtain ⟨q25, h⟩ := h
          refine R_iast 70 WM_ok e_X12_laysHours_6.2.2.2.2.2.2.2.2.1 kma_9 q25 ?_
          refine R_iinc (ls2 := [(5, vI (l5 + 1)), (6, vI r17), (0, vA G 0), (1, vI l1), (2, vI l2), (3, vI l3), (4, vI l4)]) e_X12_laysHours_6.2.2.2.2.2.2.2.2.2 6 rfl (by decide) rfl ?_
          refine R_goto 57 e_X12_laysHours_7.1 (by decide) ?_
          refine R_ls (ls2 := [(0, vA G 0), (1, vI l1), (2, vI l2), (3, vI l3), (4, vI l4), (5, vI (l5 + 1))]) [2, 3, 4, 5, 6, 0] rfl ?_
          exact h
/-! KiteLandModel.leaseOf(IIII)I -/
theorem e_X12_leaseOf_0 : decode cX12_leaseOf 0 = .ok (.aload_n 0, 1) ∧ decode cX12_leaseOf 1 = .ok (.iload_n 1, 1) ∧ decode cX12_leaseOf 2 = .ok (.iload_n 2, 1) ∧ decode cX12_leaseOf 3 = .ok (.invokevirtual 355, 3) ∧ decode cX12_leaseOf 6 = .ok (.ifCond .eq 19, 3) ∧ decode cX12_leaseOf 9 = .ok (.aload_n 0, 1) ∧ decode cX12_leaseOf 10 = .ok (.iload_n 3, 1) ∧ decode cX12_leaseOf 11 = .ok (.invokevirtual 343, 3) ∧ decode cX12_leaseOf 14 = .ok (.ifCond .eq 11, 3) ∧ decode cX12_leaseOf 17 = .ok (.iload 4, 2) := by decide +kernel
theorem e_X12_leaseOf_1 : decode cX12_leaseOf 19 = .ok (.invokestatic 428, 3) ∧ decode cX12_leaseOf 22 = .ok (.ifCond .ne 9, 3) ∧ decode cX12_leaseOf 25 = .ok (.aload_n 0, 1) ∧ decode cX12_leaseOf 26 = .ok (.iconst 1, 1) ∧ decode cX12_leaseOf 27 = .ok (.invokevirtual 93, 3) ∧ decode cX12_leaseOf 30 = .ok (.ireturn, 1) ∧ decode cX12_leaseOf 31 = .ok (.aload_n 0, 1) ∧ decode cX12_leaseOf 32 = .ok (.iload 4, 2) ∧ decode cX12_leaseOf 34 = .ok (.iload_n 3, 1) ∧ decode cX12_leaseOf 35 = .ok (.invokevirtual 431, 3) := by decide +kernel
theorem e_X12_leaseOf_2 : decode cX12_leaseOf 38 = .ok (.aload_n 0, 1) ∧ decode cX12_leaseOf 39 = .ok (.aload_n 0, 1) ∧ decode cX12_leaseOf 40 = .ok (.getfield 47, 3) ∧ decode cX12_leaseOf 43 = .ok (.bipush 10, 2) ∧ decode cX12_leaseOf 45 = .ok (.iload_n 2, 1) ∧ decode cX12_leaseOf 46 = .ok (.imul, 1) ∧ decode cX12_leaseOf 47 = .ok (.iload_n 1, 1) ∧ decode cX12_leaseOf 48 = .ok (.iadd, 1) ∧ decode cX12_leaseOf 49 = .ok (.iaload, 1) ∧ decode cX12_leaseOf 50 = .ok (.invokevirtual 97, 3) := by decide +kernel
theorem e_X12_leaseOf_3 : decode cX12_leaseOf 53 = .ok (.ireturn, 1) := by decide +kernel
theorem S_X12_leaseOf {G : Kg} {σ : Kmem} {Q : Int → Kmem → Prop} {l1 l2 l3 l4 : Int}  (h : Run G WM M_X12_isField 0 0 0 [vA G 0, vI l1, vI l2] σ (fun r1 s2 => (rI r1) ∧ ((r1 = 0 → Run G WM M_X12_refuse 0 0 0 [vA G 0, vI 1] s2 (fun r4 s5 => Q r4 s5)) ∧ (r1 ≠ 0 → Run G WM M_X12_isKite 0 0 0 [vA G 0, vI l3] s2 (fun r6 s7 => (rI r6) ∧ ((r6 = 0 → Run G WM M_X12_refuse 0 0 0 [vA G 0, vI 1] s7 (fun r9 s10 => Q r9 s10)) ∧ (r6 ≠ 0 → Run G WM M_X12_isSpan 1 0 0 [vI l4] s7 (fun r11 s12 => (rI r11) ∧ ((r11 ≠ 0 → Run G WM M_X12_laysHours 8 0 0 [vA G 0, vI l4, vI l3] s12 (fun r14 s15 => (0 ≤ (10 * l2) + l1 ∧ (10 * l2) + l1 < 70) ∧ Run G WM M_X12_gives 0 0 0 [vA G 0, vI (s15 9 ((10 * l2) + l1))] s15 (fun r17 s18 => Q r17 s18))) ∧ (r11 = 0 → Run G WM M_X12_refuse 0 0 0 [vA G 0, vI 1] s12 (fun r19 s20 => Q r19 s20))))))))))) : Run G WM M_X12_leaseOf 9 0 0 [vA G 0, vI l1, vI l2, vI l3, vI l4] σ Q := by
  refine Run.of (by decide +kernel) (by show (5 : Nat) ≤ 5; decide) ?_
  show Ex G WM M_X12_leaseOf 9 0 0 0 [(0, vA G 0), (1, vI l1), (2, vI l2), (3, vI l3), (4, vI l4)] [] σ Q
  refine R_aload_n e_X12_leaseOf_0.1 0 rfl ?_
  refine R_iload_n e_X12_leaseOf_0.2.1 1 rfl ?_
  refine R_iload_n e_X12_leaseOf_0.2.2.1 2 rfl ?_
  refine R_callV (mc := 0) (ms := 0) (mc' := 0) (ms' := 0) (M' := M_X12_isField) (d' := 0) (as := [vI l1, vI l2]) (st := []) 12 2 e_X12_leaseOf_0.2.2.2.1 (kCVof m_X12_isField l_X12_355) rfl (by decide) km_0 (by decide) (by decide) rfl rfl (by show (0 : Nat) ≤ 8; decide) ?_
  refine Run.mono h (fun r1 s2 h => ?_)
  refine R_eqs (st2 := [vI r1]) rfl rfl ?_
  obtain ⟨q3, h⟩ := h
  refine R_if_eq 25 e_X12_leaseOf_0.2.2.2.2.1 (by decide) q3  (fun q => ?_) (fun q => ?_)
  · replace h := h.1 q
    refine R_aload_n e_X12_leaseOf_1.2.2.1 0 rfl ?_
    refine R_iconst e_X12_leaseOf_1.2.2.2.1 ?_
    refine R_callV (mc := 0) (ms := 0) (mc' := 0) (ms' := 0) (M' := M_X12_refuse) (d' := 0) (as := [vI 1]) (st := []) 12 1 e_X12_leaseOf_1.2.2.2.2.1 (kCVof m_X12_refuse l_X12_93) rfl (by decide) km_0 (by decide) (by decide) rfl rfl (by show (0 : Nat) ≤ 8; decide) ?_
    refine Run.mono h (fun r4 s5 h => ?_)
    refine R_eqs (st2 := [vI r4]) rfl rfl ?_
    exact R_ireturn e_X12_leaseOf_1.2.2.2.2.2.1 rfl h
  · replace h := h.2 q
    refine R_aload_n e_X12_leaseOf_0.2.2.2.2.2.1 0 rfl ?_
    refine R_iload_n e_X12_leaseOf_0.2.2.2.2.2.2.1 3 rfl ?_
    refine R_callV (mc := 0) (ms := 0) (mc' := 0) (ms' := 0) (M' := M_X12_isKite) (d' := 0) (as := [vI l3]) (st := []) 12 1 e_X12_leaseOf_0.2.2.2.2.2.2.2.1 (kCVof m_X12_isKite l_X12_343) rfl (by decide) km_0 (by decide) (by decide) rfl rfl (by show (0 : Nat) ≤ 8; decide) ?_
    refine Run.mono h (fun r6 s7 h => ?_)
    refine R_eqs (st2 := [vI r6]) rfl rfl ?_
    obtain ⟨q8, h⟩ := h
    refine R_if_eq 25 e_X12_leaseOf_0.2.2.2.2.2.2.2.2.1 (by decide) q8  (fun q => ?_) (fun q => ?_)
    · replace h := h.1 q
      refine R_aload_n e_X12_leaseOf_1.2.2.1 0 rfl ?_
      refine R_iconst e_X12_leaseOf_1.2.2.2.1 ?_
      refine R_callV (mc := 0) (ms := 0) (mc' := 0) (ms' := 0) (M' := M_X12_refuse) (d' := 0) (as := [vI 1]) (st := []) 12 1 e_X12_leaseOf_1.2.2.2.2.1 (kCVof m_X12_refuse l_X12_93) rfl (by decide) km_0 (by decide) (by decide) rfl rfl (by show (0 : Nat) ≤ 8; decide) ?_
      refine Run.mono h (fun r9 s10 h => ?_)
      refine R_eqs (st2 := [vI r9]) rfl rfl ?_
      exact R_ireturn e_X12_leaseOf_1.2.2.2.2.2.1 rfl h
    · replace h := h.2 q
      refine R_iload e_X12_leaseOf_0.2.2.2.2.2.2.2.2.2 4 rfl ?_
      refine R_callS (mc := 0) (ms := 0) (mc' := 0) (ms' := 0) (M' := M_X12_isSpan) (d' := 1) (as := [vI l4]) (st := []) 1 e_X12_leaseOf_1.1 (kCSof m_X12_isSpan l_X12_428) (by decide) (by decide) rfl rfl (by show (0 : Nat) ≤ 8; decide) ?_
      refine Run.mono h (fun r11 s12 h => ?_)
      refine R_eqs (st2 := [vI r11]) rfl rfl ?_
      obtain ⟨q13, h⟩ := h
      refine R_if_ne 31 e_X12_leaseOf_1.2.1 (by decide) q13  (fun q => ?_) (fun q => ?_)
      · replace h := h.1 q
        refine R_aload_n e_X12_leaseOf_1.2.2.2.2.2.2.1 0 rfl ?_
        refine R_iload e_X12_leaseOf_1.2.2.2.2.2.2.2.1 4 rfl ?_
        refine R_iload_n e_X12_leaseOf_1.2.2.2.2.2.2.2.2.1 3 rfl ?_
        refine R_callV (mc := 0) (ms := 0) (mc' := 0) (ms' := 0) (M' := M_X12_laysHours) (d' := 8) (as := [vI l4, vI l3]) (st := []) 12 2 e_X12_leaseOf_1.2.2.2.2.2.2.2.2.2 (kCVof m_X12_laysHours l_X12_431) rfl (by decide) km_0 (by decide) (by decide) rfl rfl (by show (0 : Nat) ≤ 8; decide) ?_
        refine Run.mono h (fun r14 s15 h => ?_)
        refine R_eqs (st2 := []) rfl rfl ?_
        refine R_aload_n e_X12_leaseOf_2.1 0 rfl ?_
        refine R_aload_n e_X12_leaseOf_2.2.1 0 rfl ?_
        refine R_getA 12 24 9 e_X12_leaseOf_2.2.2.1 f_X12_47 km_0 (fun _ _ => rfl) rm_0_24 (by decide) ?_
        refine R_bipush e_X12_leaseOf_2.2.2.2.1 (by decide) ?_
        refine R_iload_n e_X12_leaseOf_2.2.2.2.2.1 2 rfl ?_
        refine R_imul e_X12_leaseOf_2.2.2.2.2.2.1 ?_
        refine R_iload_n e_X12_leaseOf_2.2.2.2.2.2.2.1 1 rfl ?_
        refine R_iadd e_X12_leaseOf_2.2.2.2.2.2.2.2.1 ?_
        obtain ⟨q16, h⟩ := h
        refine R_iald 70 e_X12_leaseOf_2.2.2.2.2.2.2.2.2.1 kma_9 q16 ?_
        refine R_callV (mc := 0) (ms := 0) (mc' := 0) (ms' := 0) (M' := M_X12_gives) (d' := 0) (as := [vI (s15 9 ((10 * l2) + l1))]) (st := []) 12 1 e_X12_leaseOf_2.2.2.2.2.2.2.2.2.2 (kCVof m_X12_gives l_X12_97) rfl (by decide) km_0 (by decide) (by decide) rfl rfl (by show (0 : Nat) ≤ 8; decide) ?_
        refine Run.mono h (fun r17 s18 h => ?_)
        refine R_eqs (st2 := [vI r17]) rfl rfl ?_
        exact R_ireturn e_X12_leaseOf_3 rfl h
      · replace h := h.2 q
        refine R_aload_n e_X12_leaseOf_1.2.2.1 0 rfl ?_
        refine R_iconst e_X12_leaseOf_1.2.2.2.1 ?_
        refine R_callV (mc := 0) (ms := 0) (mc' := 0) (ms' := 0) (M' := M_X12_refuse) (d' := 0) (as := [vI 1]) (st := []) 12 1 e_X12_leaseOf_1.2.2.2.2.1 (kCVof m_X12_refuse l_X12_93) rfl (by decide) km_0 (by decide) (by decide) rfl rfl (by show (0 : Nat) ≤ 8; decide) ?_
        refine Run.mono h (fun r19 s20 h => ?_)
        refine R_eqs (st2 := [vI r19]) rfl rfl ?_
        exact R_ireturn e_X12_leaseOf_1.2.2.2.2.2.1 rfl h
/-! KiteLandModel.plantOf(I)I -/
theorem e_X12_plantOf_0 : decode cX12_plantOf 0 = .ok (.aload_n 0, 1) ∧ decode cX12_plantOf 1 = .ok (.iload_n 1, 1) ∧ decode cX12_plantOf 2 = .ok (.iconst (-1), 1) ∧ decode cX12_plantOf 3 = .ok (.invokevirtual 431, 3) ∧ decode cX12_plantOf 6 = .ok (.iconst (-1), 1) ∧ decode cX12_plantOf 7 = .ok (.istore_n 2, 1) ∧ decode cX12_plantOf 8 = .ok (.iconst 0, 1) ∧ decode cX12_plantOf 9 = .ok (.istore_n 3, 1) ∧ decode cX12_plantOf 10 = .ok (.iload_n 3, 1) ∧ decode cX12_plantOf 11 = .ok (.bipush 70, 2) := by decide +kernel
theorem e_X12_plantOf_1 : decode cX12_plantOf 13 = .ok (.if_icmp .ge 46, 3) ∧ decode cX12_plantOf 16 = .ok (.aload_n 0, 1) ∧ decode cX12_plantOf 17 = .ok (.iload_n 3, 1) ∧ decode cX12_plantOf 18 = .ok (.bipush 10, 2) ∧ decode cX12_plantOf 20 = .ok (.irem, 1) ∧ decode cX12_plantOf 21 = .ok (.iload_n 3, 1) ∧ decode cX12_plantOf 22 = .ok (.bipush 10, 2) ∧ decode cX12_plantOf 24 = .ok (.idiv, 1) ∧ decode cX12_plantOf 25 = .ok (.invokevirtual 355, 3) ∧ decode cX12_plantOf 28 = .ok (.ifCond .eq 25, 3) := by decide +kernel
theorem e_X12_plantOf_2 : decode cX12_plantOf 31 = .ok (.iload_n 2, 1) ∧ decode cX12_plantOf 32 = .ok (.iconst (-1), 1) ∧ decode cX12_plantOf 33 = .ok (.if_icmp .eq 18, 3) ∧ decode cX12_plantOf 36 = .ok (.aload_n 0, 1) ∧ decode cX12_plantOf 37 = .ok (.getfield 47, 3) ∧ decode cX12_plantOf 40 = .ok (.iload_n 3, 1) ∧ decode cX12_plantOf 41 = .ok (.iaload, 1) ∧ decode cX12_plantOf 42 = .ok (.aload_n 0, 1) ∧ decode cX12_plantOf 43 = .ok (.getfield 47, 3) ∧ decode cX12_plantOf 46 = .ok (.iload_n 2, 1) := by decide +kernel
theorem e_X12_plantOf_3 : decode cX12_plantOf 47 = .ok (.iaload, 1) ∧ decode cX12_plantOf 48 = .ok (.if_icmp .le 5, 3) ∧ decode cX12_plantOf 51 = .ok (.iload_n 3, 1) ∧ decode cX12_plantOf 52 = .ok (.istore_n 2, 1) ∧ decode cX12_plantOf 53 = .ok (.iinc 3 1, 3) ∧ decode cX12_plantOf 56 = .ok (.goto (-46), 3) ∧ decode cX12_plantOf 59 = .ok (.iload_n 2, 1) ∧ decode cX12_plantOf 60 = .ok (.ireturn, 1) := by decide +kernel
abbrev E_X12_plantOf_10 (G : Kg) (l2 l3 : Int) (σ : Kmem) (Q : Int → Kmem → Prop) : Prop := Ex G WM M_X12_plantOf 9 0 0 10 [(0, vA G 0), (2, vI l2), (3, vI l3)] [] σ Q
theorem S_X12_plantOf {G : Kg} {σ : Kmem} {Q : Int → Kmem → Prop} {l1 : Int}  (h : Run G WM M_X12_laysHours 8 0 0 [vA G 0, vI l1, vI (-1)] σ (fun r1 s2 => E_X12_plantOf_10 G (-1) 0 s2 Q)) : Run G WM M_X12_plantOf 9 0 0 [vA G 0, vI l1] σ Q := by
  refine Run.of (by decide +kernel) (by show (2 : Nat) ≤ 4; decide) ?_
  show Ex G WM M_X12_plantOf 9 0 0 0 [(0, vA G 0), (1, vI l1)] [] σ Q
  refine R_aload_n e_X12_plantOf_0.1 0 rfl ?_
  refine R_iload_n e_X12_plantOf_0.2.1 1 rfl ?_
  refine R_iconst e_X12_plantOf_0.2.2.1 ?_
  refine R_callV (mc := 0) (ms := 0) (mc' := 0) (ms' := 0) (M' := M_X12_laysHours) (d' := 8) (as := [vI l1, vI (-1)]) (st := []) 12 2 e_X12_plantOf_0.2.2.2.1 (kCVof m_X12_laysHours l_X12_431) rfl (by decide) km_0 (by decide) (by decide) rfl rfl (by show (0 : Nat) ≤ 8; decide) ?_
  refine Run.mono h (fun r1 s2 h => ?_)
  refine R_eqs (st2 := []) rfl rfl ?_
  refine R_iconst e_X12_plantOf_0.2.2.2.2.1 ?_
  refine R_istore_n (ls2 := [(2, vI (-1)), (0, vA G 0), (1, vI l1)]) e_X12_plantOf_0.2.2.2.2.2.1 (by decide) rfl ?_
  refine R_iconst e_X12_plantOf_0.2.2.2.2.2.2.1 ?_
  refine R_istore_n (ls2 := [(3, vI 0), (2, vI (-1)), (0, vA G 0), (1, vI l1)]) e_X12_plantOf_0.2.2.2.2.2.2.2.1 (by decide) rfl ?_
  refine R_ls (ls2 := [(0, vA G 0), (2, vI (-1)), (3, vI 0)]) [2, 1, 0] rfl ?_
  exact h
theorem S_X12_plantOf_10 {G : Kg} {σ : Kmem} {Q : Int → Kmem → Prop} {l1 l2 l3 : Int}  (h : (rI l3) ∧ ((70 ≤ l3 → Q l2 σ) ∧ (l3 < 70 → (0 ≤ l3 ∧ l3 ≤ 2147483647) ∧ (0 ≤ l3 ∧ l3 ≤ 2147483647) ∧ Run G WM M_X12_isField 0 0 0 [vA G 0, vI (l3 % 10), vI (l3 / 10)] σ (fun r6 s7 => (rI r6) ∧ ((r6 = 0 → E_X12_plantOf_10 G l2 (l3 + 1) s7 Q) ∧ (r6 ≠ 0 → (rI l2) ∧ ((l2 = -1 → E_X12_plantOf_10 G l3 (l3 + 1) s7 Q) ∧ (l2 ≠ -1 → (0 ≤ l3 ∧ l3 < 70) ∧ (0 ≤ l2 ∧ l2 < 70) ∧ (rI (s7 9 l3)) ∧ (rI (s7 9 l2)) ∧ ((s7 9 l3 ≤ s7 9 l2 → E_X12_plantOf_10 G l2 (l3 + 1) s7 Q) ∧ (s7 9 l2 < s7 9 l3 → E_X12_plantOf_10 G l3 (l3 + 1) s7 Q)))))))))) : E_X12_plantOf_10 G l2 l3 σ Q := by
  refine R_iload_n e_X12_plantOf_0.2.2.2.2.2.2.2.2.1 2 rfl ?_
  refine R_bipush e_X12_plantOf_0.2.2.2.2.2.2.2.2.2 (by decide) ?_
  obtain ⟨q3, h⟩ := h
  refine R_icmp_ge 59 e_X12_plantOf_1.1 (by decide) q3 (by decide) (fun q => ?_) (fun q => ?_)
  · replace h := h.1 q
    refine R_iload_n e_X12_plantOf_3.2.2.2.2.2.2.1 1 rfl ?_
    exact R_ireturn e_X12_plantOf_3.2.2.2.2.2.2.2 rfl h
  · replace h := h.2 q
    refine R_aload_n e_X12_plantOf_1.2.1 0 rfl ?_
    refine R_iload_n e_X12_plantOf_1.2.2.1 2 rfl ?_
    refine R_bipush e_X12_plantOf_1.2.2.2.1 (by decide) ?_
    obtain ⟨q4, h⟩ := h
    refine R_irem e_X12_plantOf_1.2.2.2.2.1 q4 (by decide) ?_
    refine R_iload_n e_X12_plantOf_1.2.2.2.2.2.1 2 rfl ?_
    refine R_bipush e_X12_plantOf_1.2.2.2.2.2.2.1 (by decide) ?_
    obtain ⟨q5, h⟩ := h
    refine R_idiv e_X12_plantOf_1.2.2.2.2.2.2.2.1 q5 (by decide) ?_
    refine R_callV (mc := 0) (ms := 0) (mc' := 0) (ms' := 0) (M' := M_X12_isField) (d' := 0) (as := [vI (l3 % 10), vI (l3 / 10)]) (st := []) 12 2 e_X12_plantOf_1.2.2.2.2.2.2.2.2.1 (kCVof m_X12_isField l_X12_355) rfl (by decide) km_0 (by decide) (by decide) rfl rfl (by show (0 : Nat) ≤ 8; decide) ?_
    refine Run.mono h (fun r6 s7 h => ?_)
    refine R_eqs (st2 := [vI r6]) rfl rfl ?_
    obtain ⟨q8, h⟩ := h
    refine R_if_eq 53 e_X12_plantOf_1.2.2.2.2.2.2.2.2.2 (by decide) q8  (fun q => ?_) (fun q => ?_)
    · replace h := h.1 q
      refine R_iinc (ls2 := [(3, vI (l3 + 1)), (0, vA G 0), (2, vI l2)]) e_X12_plantOf_3.2.2.2.2.1 2 rfl (by decide) rfl ?_
      refine R_goto 10 e_X12_plantOf_3.2.2.2.2.2.1 (by decide) ?_
      refine R_ls (ls2 := [(0, vA G 0), (2, vI l2), (3, vI (l3 + 1))]) [1, 2, 0] rfl ?_
      exact h
    · replace h := h.2 q
      refine R_iload_n e_X12_plantOf_2.1 1 rfl ?_
      refine R_iconst e_X12_plantOf_2.2.1 ?_
      obtain ⟨q9, h⟩ := h
      refine R_icmp_eq 51 e_X12_plantOf_2.2.2.1 (by decide) q9 (by decide) (fun q => ?_) (fun q => ?_)
      · replace h := h.1 q
        refine R_iload_n e_X12_plantOf_3.2.2.1 2 rfl ?_
        refine R_istore_n (ls2 := [(2, vI l3), (0, vA G 0), (3, vI l3)]) e_X12_plantOf_3.2.2.2.1 (by decide) rfl ?_
        refine R_iinc (ls2 := [(3, vI (l3 + 1)), (2, vI l3), (0, vA G 0)]) e_X12_plantOf_3.2.2.2.2.1 2 rfl (by decide) rfl ?_
        refine R_goto 10 e_X12_plantOf_3.2.2.2.2.2.1 (by decide) ?_
        refine R_ls (ls2 := [(0, vA G 0), (2, vI l3), (3, vI (l3 + 1))]) [2, 1, 0] rfl ?_
        exact h
      · replace h := h.2 q
        refine R_aload_n e_X12_plantOf_2.2.2.2.1 0 rfl ?_
        refine R_getA 12 24 9 e_X12_plantOf_2.2.2.2.2.1 f_X12_47 km_0 (fun _ _ => rfl) rm_0_24 (by decide) ?_
        refine R_iload_n e_X12_plantOf_2.2.2.2.2.2.1 2 rfl ?_
        obtain ⟨q10, h⟩ := h
        refine R_iald 70 e_X12_plantOf_2.2.2.2.2.2.2.1 kma_9 q10 ?_
        refine R_aload_n e_X12_plantOf_2.2.2.2.2.2.2.2.1 0 rfl ?_
        refine R_getA 12 24 9 e_X12_plantOf_2.2.2.2.2.2.2.2.2.1 f_X12_47 km_0 (fun _ _ => rfl) rm_0_24 (by decide) ?_
        refine R_iload_n e_X12_plantOf_2.2.2.2.2.2.2.2.2.2 1 rfl ?_
        obtain ⟨q11, h⟩ := h
        refine R_iald 70 e_X12_plantOf_3.1 kma_9 q11 ?_
        obtain ⟨q12, h⟩ := h
        obtain ⟨q13, h⟩ := h
        refine R_icmp_le 53 e_X12_plantOf_3.2.1 (by decide) q12 q13 (fun q => ?_) (fun q => ?_)
        · replace h := h.1 q
          refine R_iinc (ls2 := [(3, vI (l3 + 1)), (0, vA G 0), (2, vI l2)]) e_X12_plantOf_3.2.2.2.2.1 2 rfl (by decide) rfl ?_
          refine R_goto 10 e_X12_plantOf_3.2.2.2.2.2.1 (by decide) ?_
          refine R_ls (ls2 := [(0, vA G 0), (2, vI l2), (3, vI (l3 + 1))]) [1, 2, 0] rfl ?_
          exact h
        · replace h := h.2 q
          refine R_iload_n e_X12_plantOf_3.2.2.1 2 rfl ?_
          refine R_istore_n (ls2 := [(2, vI l3), (0, vA G 0), (3, vI l3)]) e_X12_plantOf_3.2.2.2.1 (by decide) rfl ?_
          refine R_iinc (ls2 := [(3, vI (l3 + 1)), (2, vI l3), (0, vA G 0)]) e_X12_plantOf_3.2.2.2.2.1 2 rfl (by decide) rfl ?_
          refine R_goto 10 e_X12_plantOf_3.2.2.2.2.2.1 (by decide) ?_
          refine R_ls (ls2 := [(0, vA G 0), (2, vI l3), (3, vI (l3 + 1))]) [2, 1, 0] rfl ?_
          exact h
/-! KiteLandModel.plant(I)I -/
theorem e_X12_plant_0 : decode cX12_plant 0 = .ok (.iload_n 1, 1) ∧ decode cX12_plant 1 = .ok (.i2l, 1) ∧ decode cX12_plant 2 = .ok (.lconst 1, 1) ∧ decode cX12_plant 3 = .ok (.ldc2_w 391, 3) ∧ decode cX12_plant 6 = .ok (.invokestatic 393, 3) ∧ decode cX12_plant 9 = .ok (.ifCond .eq 15, 3) ∧ decode cX12_plant 12 = .ok (.aload_n 0, 1) ∧ decode cX12_plant 13 = .ok (.aload_n 0, 1) ∧ decode cX12_plant 14 = .ok (.iload_n 1, 1) ∧ decode cX12_plant 15 = .ok (.invokevirtual 434, 3) := by decide +kernel
theorem e_X12_plant_1 : decode cX12_plant 18 = .ok (.invokevirtual 358, 3) ∧ decode cX12_plant 21 = .ok (.goto 8, 3) ∧ decode cX12_plant 24 = .ok (.aload_n 0, 1) ∧ decode cX12_plant 25 = .ok (.iconst 1, 1) ∧ decode cX12_plant 26 = .ok (.invokevirtual 93, 3) ∧ decode cX12_plant 29 = .ok (.ireturn, 1) := by decide +kernel
theorem S_X12_plant {G : Kg} {σ : Kmem} {Q : Int → Kmem → Prop} {l1 : Int}  (h : (rI l1) ∧ Run G WM M_X12_isFrom 0 0 0 [vL l1, vL 1, vL 99] σ (fun r2 s3 => (rI r2) ∧ ((r2 = 0 → Run G WM M_X12_refuse 0 0 0 [vA G 0, vI 1] s3 (fun r5 s6 => Q r5 s6)) ∧ (r2 ≠ 0 → Run G WM M_X12_plantOf 9 0 0 [vA G 0, vI l1] s3 (fun r7 s8 => Run G WM M_X12_orNone 1 0 0 [vA G 0, vI r7] s8 (fun r9 s10 => Q r9 s10)))))) : Run G WM M_X12_plant 10 0 0 [vA G 0, vI l1] σ Q := by
  refine Run.of (by decide +kernel) (by show (2 : Nat) ≤ 2; decide) ?_
  show Ex G WM M_X12_plant 10 0 0 0 [(0, vA G 0), (1, vI l1)] [] σ Q
  refine R_iload_n e_X12_plant_0.1 1 rfl ?_
  obtain ⟨q1, h⟩ := h
  refine R_i2l e_X12_plant_0.2.1 q1 ?_
  refine R_lconst 1 e_X12_plant_0.2.2.1 (by decide) ?_
  refine R_ldc2 (99) k_X12_391 e_X12_plant_0.2.2.2.1 ?_
  refine R_callS (mc := 0) (ms := 0) (mc' := 0) (ms' := 0) (M' := M_X12_isFrom) (d' := 0) (as := [vL l1, vL 1, vL 99]) (st := []) 3 e_X12_plant_0.2.2.2.2.1 (kCSof m_X12_isFrom l_X12_393) (by decide) (by decide) rfl rfl (by show (0 : Nat) ≤ 8; decide) ?_
  refine Run.mono h (fun r2 s3 h => ?_)
  refine R_eqs (st2 := [vI r2]) rfl rfl ?_
  obtain ⟨q4, h⟩ := h
  refine R_if_eq 24 e_X12_plant_0.2.2.2.2.2.1 (by decide) q4  (fun q => ?_) (fun q => ?_)
  · replace h := h.1 q
    refine R_aload_n e_X12_plant_1.2.2.1 0 rfl ?_
    refine R_iconst e_X12_plant_1.2.2.2.1 ?_
    refine R_callV (mc := 0) (ms := 0) (mc' := 0) (ms' := 0) (M' := M_X12_refuse) (d' := 0) (as := [vI 1]) (st := []) 12 1 e_X12_plant_1.2.2.2.2.1 (kCVof m_X12_refuse l_X12_93) rfl (by decide) km_0 (by decide) (by decide) rfl rfl (by show (0 : Nat) ≤ 8; decide) ?_
    refine Run.mono h (fun r5 s6 h => ?_)
    refine R_eqs (st2 := [vI r5]) rfl rfl ?_
    exact R_ireturn e_X12_plant_1.2.2.2.2.2 rfl h
  · replace h := h.2 q
    refine R_aload_n e_X12_plant_0.2.2.2.2.2.2.1 0 rfl ?_
    refine R_aload_n e_X12_plant_0.2.2.2.2.2.2.2.1 0 rfl ?_
    refine R_iload_n e_X12_plant_0.2.2.2.2.2.2.2.2.1 1 rfl ?_
    refine R_callV (mc := 0) (ms := 0) (mc' := 0) (ms' := 0) (M' := M_X12_plantOf) (d' := 9) (as := [vI l1]) (st := [vA G 0]) 12 1 e_X12_plant_0.2.2.2.2.2.2.2.2.2 (kCVof m_X12_plantOf l_X12_434) rfl (by decide) km_0 (by decide) (by decide) rfl rfl (by show (1 : Nat) ≤ 8; decide) ?_
    refine Run.mono h (fun r7 s8 h => ?_)
    refine R_eqs (st2 := [vI r7, vA G 0]) rfl rfl ?_
    refine R_callV (mc := 0) (ms := 0) (mc' := 0) (ms' := 0) (M' := M_X12_orNone) (d' := 1) (as := [vI r7]) (st := []) 12 1 e_X12_plant_1.1 (kCVof m_X12_orNone l_X12_358) rfl (by decide) km_0 (by decide) (by decide) rfl rfl (by show (0 : Nat) ≤ 8; decide) ?_
    refine Run.mono h (fun r9 s10 h => ?_)
    refine R_eqs (st2 := [vI r9]) rfl rfl ?_
    refine R_goto 29 e_X12_plant_1.2.1 (by decide) ?_
    exact R_ireturn e_X12_plant_1.2.2.2.2.2 rfl h
/-! KiteLandModel.planted(I)I -/
theorem e_X12_planted_0 : decode cX12_planted 0 = .ok (.iload_n 1, 1) ∧ decode cX12_planted 1 = .ok (.i2l, 1) ∧ decode cX12_planted 2 = .ok (.lconst 1, 1) ∧ decode cX12_planted 3 = .ok (.ldc2_w 391, 3) ∧ decode cX12_planted 6 = .ok (.invokestatic 393, 3) ∧ decode cX12_planted 9 = .ok (.ifCond .ne 9, 3) ∧ decode cX12_planted 12 = .ok (.aload_n 0, 1) ∧ decode cX12_planted 13 = .ok (.iconst 1, 1) ∧ decode cX12_planted 14 = .ok (.invokevirtual 93, 3) ∧ decode cX12_planted 17 = .ok (.ireturn, 1) := by decide +kernel
theorem e_X12_planted_1 : decode cX12_planted 18 = .ok (.aload_n 0, 1) ∧ decode cX12_planted 19 = .ok (.iload_n 1, 1) ∧ decode cX12_planted 20 = .ok (.invokevirtual 434, 3) ∧ decode cX12_planted 23 = .ok (.istore_n 2, 1) ∧ decode cX12_planted 24 = .ok (.iload_n 2, 1) ∧ decode cX12_planted 25 = .ok (.iconst (-1), 1) ∧ decode cX12_planted 26 = .ok (.if_icmp .ne 12, 3) ∧ decode cX12_planted 29 = .ok (.aload_n 0, 1) ∧ decode cX12_planted 30 = .ok (.bipush 6, 2) ∧ decode cX12_planted 32 = .ok (.invokevirtual 93, 3) := by decide +kernel
theorem e_X12_planted_2 : decode cX12_planted 35 = .ok (.goto 13, 3) ∧ decode cX12_planted 38 = .ok (.aload_n 0, 1) ∧ decode cX12_planted 39 = .ok (.aload_n 0, 1) ∧ decode cX12_planted 40 = .ok (.getfield 47, 3) ∧ decode cX12_planted 43 = .ok (.iload_n 2, 1) ∧ decode cX12_planted 44 = .ok (.iaload, 1) ∧ decode cX12_planted 45 = .ok (.invokevirtual 97, 3) ∧ decode cX12_planted 48 = .ok (.ireturn, 1) := by decide +kernel
theorem S_X12_planted {G : Kg} {σ : Kmem} {Q : Int → Kmem → Prop} {l1 : Int}  (h : (rI l1) ∧ Run G WM M_X12_isFrom 0 0 0 [vL l1, vL 1, vL 99] σ (fun r2 s3 => (rI r2) ∧ ((r2 ≠ 0 → Run G WM M_X12_plantOf 9 0 0 [vA G 0, vI l1] s3 (fun r5 s6 => (rI r5) ∧ ((r5 ≠ -1 → (0 ≤ r5 ∧ r5 < 70) ∧ Run G WM M_X12_gives 0 0 0 [vA G 0, vI (s6 9 r5)] s6 (fun r9 s10 => Q r9 s10)) ∧ (r5 = -1 → Run G WM M_X12_refuse 0 0 0 [vA G 0, vI 6] s6 (fun r11 s12 => Q r11 s12))))) ∧ (r2 = 0 → Run G WM M_X12_refuse 0 0 0 [vA G 0, vI 1] s3 (fun r13 s14 => Q r13 s14))))) : Run G WM M_X12_planted 10 0 0 [vA G 0, vI l1] σ Q := by
  refine Run.of (by decide +kernel) (by show (2 : Nat) ≤ 3; decide) ?_
  show Ex G WM M_X12_planted 10 0 0 0 [(0, vA G 0), (1, vI l1)] [] σ Q
  refine R_iload_n e_X12_planted_0.1 1 rfl ?_
  obtain ⟨q1, h⟩ := h
  refine R_i2l e_X12_planted_0.2.1 q1 ?_
  refine R_lconst 1 e_X12_planted_0.2.2.1 (by decide) ?_
  refine R_ldc2 (99) k_X12_391 e_X12_planted_0.2.2.2.1 ?_
  refine R_callS (mc := 0) (ms := 0) (mc' := 0) (ms' := 0) (M' := M_X12_isFrom) (d' := 0) (as := [vL l1, vL 1, vL 99]) (st := []) 3 e_X12_planted_0.2.2.2.2.1 (kCSof m_X12_isFrom l_X12_393) (by decide) (by decide) rfl rfl (by show (0 : Nat) ≤ 8; decide) ?_
  refine Run.mono h (fun r2 s3 h => ?_)
  refine R_eqs (st2 := [vI r2]) rfl rfl ?_
  obtain ⟨q4, h⟩ := h
  refine R_if_ne 18 e_X12_planted_0.2.2.2.2.2.1 (by decide) q4  (fun q => ?_) (fun q => ?_)
  · replace h := h.1 q
    refine R_aload_n e_X12_planted_1.1 0 rfl ?_
    refine R_iload_n e_X12_planted_1.2.1 1 rfl ?_
    refine R_callV (mc := 0) (ms := 0) (mc' := 0) (ms' := 0) (M' := M_X12_plantOf) (d' := 9) (as := [vI l1]) (st := []) 12 1 e_X12_planted_1.2.2.1 (kCVof m_X12_plantOf l_X12_434) rfl (by decide) km_0 (by decide) (by decide) rfl rfl (by show (0 : Nat) ≤ 8; decide) ?_
    refine Run.mono h (fun r5 s6 h => ?_)
    refine R_eqs (st2 := [vI r5]) rfl rfl ?_
    refine R_istore_n (ls2 := [(2, vI r5), (0, vA G 0), (1, vI l1)]) e_X12_planted_1.2.2.2.1 (by decide) rfl ?_
    refine R_iload_n e_X12_planted_1.2.2.2.2.1 0 rfl ?_
    refine R_iconst e_X12_planted_1.2.2.2.2.2.1 ?_
    obtain ⟨q7, h⟩ := h
    refine R_icmp_ne 38 e_X12_planted_1.2.2.2.2.2.2.1 (by decide) q7 (by decide) (fun q => ?_) (fun q => ?_)
    · replace h := h.1 q
      refine R_aload_n e_X12_planted_2.2.1 1 rfl ?_
      refine R_aload_n e_X12_planted_2.2.2.1 1 rfl ?_
      refine R_getA 12 24 9 e_X12_planted_2.2.2.2.1 f_X12_47 km_0 (fun _ _ => rfl) rm_0_24 (by decide) ?_
      refine R_iload_n e_X12_planted_2.2.2.2.2.1 0 rfl ?_
      obtain ⟨q8, h⟩ := h
      refine R_iald 70 e_X12_planted_2.2.2.2.2.2.1 kma_9 q8 ?_
      refine R_callV (mc := 0) (ms := 0) (mc' := 0) (ms' := 0) (M' := M_X12_gives) (d' := 0) (as := [vI (s6 9 r5)]) (st := []) 12 1 e_X12_planted_2.2.2.2.2.2.2.1 (kCVof m_X12_gives l_X12_97) rfl (by decide) km_0 (by decide) (by decide) rfl rfl (by show (0 : Nat) ≤ 8; decide) ?_
      refine Run.mono h (fun r9 s10 h => ?_)
      refine R_eqs (st2 := [vI r9]) rfl rfl ?_
      exact R_ireturn e_X12_planted_2.2.2.2.2.2.2.2 rfl h
    · replace h := h.2 q
      refine R_aload_n e_X12_planted_1.2.2.2.2.2.2.2.1 1 rfl ?_
      refine R_bipush e_X12_planted_1.2.2.2.2.2.2.2.2.1 (by decide) ?_
      refine R_callV (mc := 0) (ms := 0) (mc' := 0) (ms' := 0) (M' := M_X12_refuse) (d' := 0) (as := [vI 6]) (st := []) 12 1 e_X12_planted_1.2.2.2.2.2.2.2.2.2 (kCVof m_X12_refuse l_X12_93) rfl (by decide) km_0 (by decide) (by decide) rfl rfl (by show (0 : Nat) ≤ 8; decide) ?_
      refine Run.mono h (fun r11 s12 h => ?_)
      refine R_eqs (st2 := [vI r11]) rfl rfl ?_
      refine R_goto 48 e_X12_planted_2.1 (by decide) ?_
      exact R_ireturn e_X12_planted_2.2.2.2.2.2.2.2 rfl h
  · replace h := h.2 q
    refine R_aload_n e_X12_planted_0.2.2.2.2.2.2.1 0 rfl ?_
    refine R_iconst e_X12_planted_0.2.2.2.2.2.2.2.1 ?_
    refine R_callV (mc := 0) (ms := 0) (mc' := 0) (ms' := 0) (M' := M_X12_refuse) (d' := 0) (as := [vI 1]) (st := []) 12 1 e_X12_planted_0.2.2.2.2.2.2.2.2.1 (kCVof m_X12_refuse l_X12_93) rfl (by decide) km_0 (by decide) (by decide) rfl rfl (by show (0 : Nat) ≤ 8; decide) ?_
    refine Run.mono h (fun r13 s14 h => ?_)
    refine R_eqs (st2 := [vI r13]) rfl rfl ?_
    exact R_ireturn e_X12_planted_0.2.2.2.2.2.2.2.2.2 rfl h
/-! KiteLandModel.goesOn(I)V -/
theorem e_X12_goesOn_0 : decode cX12_goesOn 0 = .ok (.iconst 0, 1) ∧ decode cX12_goesOn 1 = .ok (.istore_n 2, 1) ∧ decode cX12_goesOn 2 = .ok (.iload_n 2, 1) ∧ decode cX12_goesOn 3 = .ok (.iload_n 1, 1) ∧ decode cX12_goesOn 4 = .ok (.if_icmp .ge 14, 3) ∧ decode cX12_goesOn 7 = .ok (.aload_n 0, 1) ∧ decode cX12_goesOn 8 = .ok (.invokevirtual 397, 3) ∧ decode cX12_goesOn 11 = .ok (.pop, 1) ∧ decode cX12_goesOn 12 = .ok (.iinc 2 1, 3) ∧ decode cX12_goesOn 15 = .ok (.goto (-13), 3) := by decide +kernel
theorem e_X12_goesOn_1 : decode cX12_goesOn 18 = .ok (.return_, 1) := by decide +kernel
abbrev E_X12_goesOn_2 (G : Kg) (l1 l2 : Int) (σ : Kmem) (Q : Int → Kmem → Prop) : Prop := Ex G WM M_X12_goesOn 9 0 0 2 [(0, vA G 0), (1, vI l1), (2, vI l2)] [] σ Q
theorem S_X12_goesOn {G : Kg} {σ : Kmem} {Q : Int → Kmem → Prop} {l1 : Int}  (h : E_X12_goesOn_2 G l1 0 σ Q) : Run G WM M_X12_goesOn 9 0 0 [vA G 0, vI l1] σ Q := by
  refine Run.of (by decide +kernel) (by show (2 : Nat) ≤ 3; decide) ?_
  show Ex G WM M_X12_goesOn 9 0 0 0 [(0, vA G 0), (1, vI l1)] [] σ Q
  refine R_iconst e_X12_goesOn_0.1 ?_
  refine R_istore_n (ls2 := [(2, vI 0), (0, vA G 0), (1, vI l1)]) e_X12_goesOn_0.2.1 (by decide) rfl ?_
  refine R_ls (ls2 := [(0, vA G 0), (1, vI l1), (2, vI 0)]) [1, 2, 0] rfl ?_
  exact h
theorem S_X12_goesOn_2 {G : Kg} {σ : Kmem} {Q : Int → Kmem → Prop} {l1 l2 : Int}  (h : (rI l2) ∧ (rI l1) ∧ ((l1 ≤ l2 → Q 0 σ) ∧ (l2 < l1 → Run G WM M_X12_goesBy 8 0 0 [vA G 0] σ (fun r3 s4 => E_X12_goesOn_2 G l1 (l2 + 1) s4 Q)))) : E_X12_goesOn_2 G l1 l2 σ Q := by
  refine R_iload_n e_X12_goesOn_0.2.2.1 2 rfl ?_
  refine R_iload_n e_X12_goesOn_0.2.2.2.1 1 rfl ?_
  obtain ⟨q1, h⟩ := h
  obtain ⟨q2, h⟩ := h
  refine R_icmp_ge 18 e_X12_goesOn_0.2.2.2.2.1 (by decide) q1 q2 (fun q => ?_) (fun q => ?_)
  · replace h := h.1 q
    exact R_return e_X12_goesOn_1 rfl h
  · replace h := h.2 q
    refine R_aload_n e_X12_goesOn_0.2.2.2.2.2.1 0 rfl ?_
    refine R_callV (mc := 0) (ms := 0) (mc' := 0) (ms' := 0) (M' := M_X12_goesBy) (d' := 8) (as := []) (st := []) 12 0 e_X12_goesOn_0.2.2.2.2.2.2.1 (kCVof m_X12_goesBy l_X12_397) rfl (by decide) km_0 (by decide) (by decide) rfl rfl (by show (0 : Nat) ≤ 8; decide) ?_
    refine Run.mono h (fun r3 s4 h => ?_)
    refine R_eqs (st2 := [vI r3]) rfl rfl ?_
    refine R_pop e_X12_goesOn_0.2.2.2.2.2.2.2.1 rfl ?_
    refine R_iinc (ls2 := [(2, vI (l2 + 1)), (0, vA G 0), (1, vI l1)]) e_X12_goesOn_0.2.2.2.2.2.2.2.2.1 2 rfl (by decide) rfl ?_
    refine R_goto 2 e_X12_goesOn_0.2.2.2.2.2.2.2.2.2 (by decide) ?_
    refine R_ls (ls2 := [(0, vA G 0), (1, vI l1), (2, vI (l2 + 1))]) [1, 2, 0] rfl ?_
    exact h
/-! KiteLandModel.purseIn(II)I -/
theorem e_X12_purseIn_0 : decode cX12_purseIn 0 = .ok (.aload_n 0, 1) ∧ decode cX12_purseIn 1 = .ok (.iload_n 1, 1) ∧ decode cX12_purseIn 2 = .ok (.invokevirtual 343, 3) ∧ decode cX12_purseIn 5 = .ok (.ifCond .eq 10, 3) ∧ decode cX12_purseIn 8 = .ok (.iload_n 2, 1) ∧ decode cX12_purseIn 9 = .ok (.invokestatic 428, 3) ∧ decode cX12_purseIn 12 = .ok (.ifCond .ne 9, 3) ∧ decode cX12_purseIn 15 = .ok (.aload_n 0, 1) ∧ decode cX12_purseIn 16 = .ok (.iconst 1, 1) ∧ decode cX12_purseIn 17 = .ok (.invokevirtual 93, 3) := by decide +kernel
theorem e_X12_purseIn_1 : decode cX12_purseIn 20 = .ok (.ireturn, 1) ∧ decode cX12_purseIn 21 = .ok (.aload_n 0, 1) ∧ decode cX12_purseIn 22 = .ok (.sipush 3084, 3) ∧ decode cX12_purseIn 25 = .ok (.invokevirtual 419, 3) ∧ decode cX12_purseIn 28 = .ok (.aload_n 0, 1) ∧ decode cX12_purseIn 29 = .ok (.iload_n 2, 1) ∧ decode cX12_purseIn 30 = .ok (.invokevirtual 437, 3) ∧ decode cX12_purseIn 33 = .ok (.aload_n 0, 1) ∧ decode cX12_purseIn 34 = .ok (.iload_n 1, 1) ∧ decode cX12_purseIn 35 = .ok (.iconst 5, 1) := by decide +kernel
theorem e_X12_purseIn_2 : decode cX12_purseIn 36 = .ok (.invokevirtual 268, 3) ∧ decode cX12_purseIn 39 = .ok (.istore_n 3, 1) ∧ decode cX12_purseIn 40 = .ok (.aload_n 0, 1) ∧ decode cX12_purseIn 41 = .ok (.sipush 3084, 3) ∧ decode cX12_purseIn 44 = .ok (.invokevirtual 422, 3) ∧ decode cX12_purseIn 47 = .ok (.aload_n 0, 1) ∧ decode cX12_purseIn 48 = .ok (.iload_n 3, 1) ∧ decode cX12_purseIn 49 = .ok (.invokevirtual 97, 3) ∧ decode cX12_purseIn 52 = .ok (.ireturn, 1) := by decide +kernel
theorem S_X12_purseIn {G : Kg} {σ : Kmem} {Q : Int → Kmem → Prop} {l1 l2 : Int}  (h : Run G WM M_X12_isKite 0 0 0 [vA G 0, vI l1] σ (fun r1 s2 => (rI r1) ∧ ((r1 = 0 → Run G WM M_X12_refuse 0 0 0 [vA G 0, vI 1] s2 (fun r4 s5 => Q r4 s5)) ∧ (r1 ≠ 0 → Run G WM M_X12_isSpan 1 0 0 [vI l2] s2 (fun r6 s7 => (rI r6) ∧ ((r6 ≠ 0 → Run G WM M_X12_keeps 0 0 0 [vA G 0, vI 3084] s7 (fun r9 s10 => Run G WM M_X12_goesOn 9 0 0 [vA G 0, vI l2] s10 (fun r11 s12 => Run G WM M_X12_of 1 0 0 [vA G 0, vI l1, vI 5] s12 (fun r13 s14 => Run G WM M_X12_restores 0 0 0 [vA G 0, vI 3084] s14 (fun r15 s16 => Run G WM M_X12_gives 0 0 0 [vA G 0, vI r13] s16 (fun r17 s18 => Q r17 s18)))))) ∧ (r6 = 0 → Run G WM M_X12_refuse 0 0 0 [vA G 0, vI 1] s7 (fun r19 s20 => Q r19 s20)))))))) : Run G WM M_X12_purseIn 10 0 0 [vA G 0, vI l1, vI l2] σ Q := by
  refine Run.of (by decide +kernel) (by show (3 : Nat) ≤ 4; decide) ?_
  show Ex G WM M_X12_purseIn 10 0 0 0 [(0, vA G 0), (1, vI l1), (2, vI l2)] [] σ Q
  refine R_aload_n e_X12_purseIn_0.1 0 rfl ?_
  refine R_iload_n e_X12_purseIn_0.2.1 1 rfl ?_
  refine R_callV (mc := 0) (ms := 0) (mc' := 0) (ms' := 0) (M' := M_X12_isKite) (d' := 0) (as := [vI l1]) (st := []) 12 1 e_X12_purseIn_0.2.2.1 (kCVof m_X12_isKite l_X12_343) rfl (by decide) km_0 (by decide) (by decide) rfl rfl (by show (0 : Nat) ≤ 8; decide) ?_
  refine Run.mono h (fun r1 s2 h => ?_)
  refine R_eqs (st2 := [vI r1]) rfl rfl ?_
  obtain ⟨q3, h⟩ := h
  refine R_if_eq 15 e_X12_purseIn_0.2.2.2.1 (by decide) q3  (fun q => ?_) (fun q => ?_)
  · replace h := h.1 q
    refine R_aload_n e_X12_purseIn_0.2.2.2.2.2.2.2.1 0 rfl ?_
    refine R_iconst e_X12_purseIn_0.2.2.2.2.2.2.2.2.1 ?_
    refine R_callV (mc := 0) (ms := 0) (mc' := 0) (ms' := 0) (M' := M_X12_refuse) (d' := 0) (as := [vI 1]) (st := []) 12 1 e_X12_purseIn_0.2.2.2.2.2.2.2.2.2 (kCVof m_X12_refuse l_X12_93) rfl (by decide) km_0 (by decide) (by decide) rfl rfl (by show (0 : Nat) ≤ 8; decide) ?_
    refine Run.mono h (fun r4 s5 h => ?_)
    refine R_eqs (st2 := [vI r4]) rfl rfl ?_
    exact R_ireturn e_X12_purseIn_1.1 rfl h
  · replace h := h.2 q
    refine R_iload_n e_X12_purseIn_0.2.2.2.2.1 2 rfl ?_
    refine R_callS (mc := 0) (ms := 0) (mc' := 0) (ms' := 0) (M' := M_X12_isSpan) (d' := 1) (as := [vI l2]) (st := []) 1 e_X12_purseIn_0.2.2.2.2.2.1 (kCSof m_X12_isSpan l_X12_428) (by decide) (by decide) rfl rfl (by show (0 : Nat) ≤ 8; decide) ?_
    refine Run.mono h (fun r6 s7 h => ?_)
    refine R_eqs (st2 := [vI r6]) rfl rfl ?_
    obtain ⟨q8, h⟩ := h
    refine R_if_ne 21 e_X12_purseIn_0.2.2.2.2.2.2.1 (by decide) q8  (fun q => ?_) (fun q => ?_)
    · replace h := h.1 q
      refine R_aload_n e_X12_purseIn_1.2.1 0 rfl ?_
      refine R_sipush e_X12_purseIn_1.2.2.1 (by decide) ?_
      refine R_callV (mc := 0) (ms := 0) (mc' := 0) (ms' := 0) (M' := M_X12_keeps) (d' := 0) (as := [vI 3084]) (st := []) 12 1 e_X12_purseIn_1.2.2.2.1 (kCVof m_X12_keeps l_X12_419) rfl (by decide) km_0 (by decide) (by decide) rfl rfl (by show (0 : Nat) ≤ 8; decide) ?_
      refine Run.mono h (fun r9 s10 h => ?_)
      refine R_eqs (st2 := []) rfl rfl ?_
      refine R_aload_n e_X12_purseIn_1.2.2.2.2.1 0 rfl ?_
      refine R_iload_n e_X12_purseIn_1.2.2.2.2.2.1 2 rfl ?_
      refine R_callV (mc := 0) (ms := 0) (mc' := 0) (ms' := 0) (M' := M_X12_goesOn) (d' := 9) (as := [vI l2]) (st := []) 12 1 e_X12_purseIn_1.2.2.2.2.2.2.1 (kCVof m_X12_goesOn l_X12_437) rfl (by decide) km_0 (by decide) (by decide) rfl rfl (by show (0 : Nat) ≤ 8; decide) ?_
      refine Run.mono h (fun r11 s12 h => ?_)
      refine R_eqs (st2 := []) rfl rfl ?_
      refine R_aload_n e_X12_purseIn_1.2.2.2.2.2.2.2.1 0 rfl ?_
      refine R_iload_n e_X12_purseIn_1.2.2.2.2.2.2.2.2.1 1 rfl ?_
      refine R_iconst e_X12_purseIn_1.2.2.2.2.2.2.2.2.2 ?_
      refine R_callV (mc := 0) (ms := 0) (mc' := 0) (ms' := 0) (M' := M_X12_of) (d' := 1) (as := [vI l1, vI 5]) (st := []) 12 2 e_X12_purseIn_2.1 (kCVof m_X12_of l_X12_268) rfl (by decide) km_0 (by decide) (by decide) rfl rfl (by show (0 : Nat) ≤ 8; decide) ?_
      refine Run.mono h (fun r13 s14 h => ?_)
      refine R_eqs (st2 := [vI r13]) rfl rfl ?_
      refine R_istore_n (ls2 := [(3, vI r13), (0, vA G 0), (1, vI l1), (2, vI l2)]) e_X12_purseIn_2.2.1 (by decide) rfl ?_
      refine R_aload_n e_X12_purseIn_2.2.2.1 1 rfl ?_
      refine R_sipush e_X12_purseIn_2.2.2.2.1 (by decide) ?_
      refine R_callV (mc := 0) (ms := 0) (mc' := 0) (ms' := 0) (M' := M_X12_restores) (d' := 0) (as := [vI 3084]) (st := []) 12 1 e_X12_purseIn_2.2.2.2.2.1 (kCVof m_X12_restores l_X12_422) rfl (by decide) km_0 (by decide) (by decide) rfl rfl (by show (0 : Nat) ≤ 8; decide) ?_
      refine Run.mono h (fun r15 s16 h => ?_)
      refine R_eqs (st2 := []) rfl rfl ?_
      refine R_aload_n e_X12_purseIn_2.2.2.2.2.2.1 1 rfl ?_
      refine R_iload_n e_X12_purseIn_2.2.2.2.2.2.2.1 0 rfl ?_
      refine R_callV (mc := 0) (ms := 0) (mc' := 0) (ms' := 0) (M' := M_X12_gives) (d' := 0) (as := [vI r13]) (st := []) 12 1 e_X12_purseIn_2.2.2.2.2.2.2.2.1 (kCVof m_X12_gives l_X12_97) rfl (by decide) km_0 (by decide) (by decide) rfl rfl (by show (0 : Nat) ≤ 8; decide) ?_
      refine Run.mono h (fun r17 s18 h => ?_)
      refine R_eqs (st2 := [vI r17]) rfl rfl ?_
      exact R_ireturn e_X12_purseIn_2.2.2.2.2.2.2.2.2 rfl h
    · replace h := h.2 q
      refine R_aload_n e_X12_purseIn_0.2.2.2.2.2.2.2.1 0 rfl ?_
      refine R_iconst e_X12_purseIn_0.2.2.2.2.2.2.2.2.1 ?_
      refine R_callV (mc := 0) (ms := 0) (mc' := 0) (ms' := 0) (M' := M_X12_refuse) (d' := 0) (as := [vI 1]) (st := []) 12 1 e_X12_purseIn_0.2.2.2.2.2.2.2.2.2 (kCVof m_X12_refuse l_X12_93) rfl (by decide) km_0 (by decide) (by decide) rfl rfl (by show (0 : Nat) ≤ 8; decide) ?_
      refine Run.mono h (fun r19 s20 h => ?_)
      refine R_eqs (st2 := [vI r19]) rfl rfl ?_
      exact R_ireturn e_X12_purseIn_1.1 rfl h
/-! KiteLandModel.tenantIn(II)I -/
theorem e_X12_tenantIn_0 : decode cX12_tenantIn 0 = .ok (.aload_n 0, 1) ∧ decode cX12_tenantIn 1 = .ok (.iload_n 1, 1) ∧ decode cX12_tenantIn 2 = .ok (.invokevirtual 349, 3) ∧ decode cX12_tenantIn 5 = .ok (.ifCond .eq 10, 3) ∧ decode cX12_tenantIn 8 = .ok (.iload_n 2, 1) ∧ decode cX12_tenantIn 9 = .ok (.invokestatic 428, 3) ∧ decode cX12_tenantIn 12 = .ok (.ifCond .ne 9, 3) ∧ decode cX12_tenantIn 15 = .ok (.aload_n 0, 1) ∧ decode cX12_tenantIn 16 = .ok (.iconst 1, 1) ∧ decode cX12_tenantIn 17 = .ok (.invokevirtual 93, 3) := by decide +kernel
theorem e_X12_tenantIn_1 : decode cX12_tenantIn 20 = .ok (.ireturn, 1) ∧ decode cX12_tenantIn 21 = .ok (.aload_n 0, 1) ∧ decode cX12_tenantIn 22 = .ok (.sipush 3084, 3) ∧ decode cX12_tenantIn 25 = .ok (.invokevirtual 419, 3) ∧ decode cX12_tenantIn 28 = .ok (.aload_n 0, 1) ∧ decode cX12_tenantIn 29 = .ok (.iload_n 2, 1) ∧ decode cX12_tenantIn 30 = .ok (.invokevirtual 437, 3) ∧ decode cX12_tenantIn 33 = .ok (.bipush 10, 2) ∧ decode cX12_tenantIn 35 = .ok (.aload_n 0, 1) ∧ decode cX12_tenantIn 36 = .ok (.getfield 7, 3) := by decide +kernel
theorem e_X12_tenantIn_2 : decode cX12_tenantIn 39 = .ok (.iload_n 1, 1) ∧ decode cX12_tenantIn 40 = .ok (.invokestatic 352, 3) ∧ decode cX12_tenantIn 43 = .ok (.iconst 1, 1) ∧ decode cX12_tenantIn 44 = .ok (.iadd, 1) ∧ decode cX12_tenantIn 45 = .ok (.iaload, 1) ∧ decode cX12_tenantIn 46 = .ok (.imul, 1) ∧ decode cX12_tenantIn 47 = .ok (.aload_n 0, 1) ∧ decode cX12_tenantIn 48 = .ok (.getfield 7, 3) ∧ decode cX12_tenantIn 51 = .ok (.iload_n 1, 1) ∧ decode cX12_tenantIn 52 = .ok (.invokestatic 352, 3) := by decide +kernel
theorem e_X12_tenantIn_3 : decode cX12_tenantIn 55 = .ok (.iaload, 1) ∧ decode cX12_tenantIn 56 = .ok (.iadd, 1) ∧ decode cX12_tenantIn 57 = .ok (.istore_n 3, 1) ∧ decode cX12_tenantIn 58 = .ok (.aload_n 0, 1) ∧ decode cX12_tenantIn 59 = .ok (.sipush 3084, 3) ∧ decode cX12_tenantIn 62 = .ok (.invokevirtual 422, 3) ∧ decode cX12_tenantIn 65 = .ok (.aload_n 0, 1) ∧ decode cX12_tenantIn 66 = .ok (.iload_n 3, 1) ∧ decode cX12_tenantIn 67 = .ok (.invokevirtual 97, 3) ∧ decode cX12_tenantIn 70 = .ok (.ireturn, 1) := by decide +kernel
theorem S_X12_tenantIn {G : Kg} {σ : Kmem} {Q : Int → Kmem → Prop} {l1 l2 : Int}  (h : Run G WM M_X12_isTenant 0 0 0 [vA G 0, vI l1] σ (fun r1 s2 => (rI r1) ∧ ((r1 = 0 → Run G WM M_X12_refuse 0 0 0 [vA G 0, vI 1] s2 (fun r4 s5 => Q r4 s5)) ∧ (r1 ≠ 0 → Run G WM M_X12_isSpan 1 0 0 [vI l2] s2 (fun r6 s7 => (rI r6) ∧ ((r6 ≠ 0 → Run G WM M_X12_keeps 0 0 0 [vA G 0, vI 3084] s7 (fun r9 s10 => Run G WM M_X12_goesOn 9 0 0 [vA G 0, vI l2] s10 (fun r11 s12 => Run G WM M_X12_tenantRow 0 0 0 [vI l1] s12 (fun r13 s14 => (0 ≤ r13 + 1 ∧ r13 + 1 < 3598) ∧ Run G WM M_X12_tenantRow 0 0 0 [vI l1] s14 (fun r16 s17 => (0 ≤ r16 ∧ r16 < 3598) ∧ Run G WM M_X12_restores 0 0 0 [vA G 0, vI 3084] s17 (fun r19 s20 => Run G WM M_X12_gives 0 0 0 [vA G 0, vI ((10 * (s14 1 (r13 + 1))) + (s17 1 r16))] s20 (fun r21 s22 => Q r21 s22))))))) ∧ (r6 = 0 → Run G WM M_X12_refuse 0 0 0 [vA G 0, vI 1] s7 (fun r23 s24 => Q r23 s24)))))))) : Run G WM M_X12_tenantIn 10 0 0 [vA G 0, vI l1, vI l2] σ Q := by
  refine Run.of (by decide +kernel) (by show (3 : Nat) ≤ 4; decide) ?_
  show Ex G WM M_X12_tenantIn 10 0 0 0 [(0, vA G 0), (1, vI l1), (2, vI l2)] [] σ Q
  refine R_aload_n e_X12_tenantIn_0.1 0 rfl ?_
  refine R_iload_n e_X12_tenantIn_0.2.1 1 rfl ?_
  refine R_callV (mc := 0) (ms := 0) (mc' := 0) (ms' := 0) (M' := M_X12_isTenant) (d' := 0) (as := [vI l1]) (st := []) 12 1 e_X12_tenantIn_0.2.2.1 (kCVof m_X12_isTenant l_X12_349) rfl (by decide) km_0 (by decide) (by decide) rfl rfl (by show (0 : Nat) ≤ 8; decide) ?_
  refine Run.mono h (fun r1 s2 h => ?_)
  refine R_eqs (st2 := [vI r1]) rfl rfl ?_
  obtain ⟨q3, h⟩ := h
  refine R_if_eq 15 e_X12_tenantIn_0.2.2.2.1 (by decide) q3  (fun q => ?_) (fun q => ?_)
  · replace h := h.1 q
    refine R_aload_n e_X12_tenantIn_0.2.2.2.2.2.2.2.1 0 rfl ?_
    refine R_iconst e_X12_tenantIn_0.2.2.2.2.2.2.2.2.1 ?_
    refine R_callV (mc := 0) (ms := 0) (mc' := 0) (ms' := 0) (M' := M_X12_refuse) (d' := 0) (as := [vI 1]) (st := []) 12 1 e_X12_tenantIn_0.2.2.2.2.2.2.2.2.2 (kCVof m_X12_refuse l_X12_93) rfl (by decide) km_0 (by decide) (by decide) rfl rfl (by show (0 : Nat) ≤ 8; decide) ?_
    refine Run.mono h (fun r4 s5 h => ?_)
    refine R_eqs (st2 := [vI r4]) rfl rfl ?_
    exact R_ireturn e_X12_tenantIn_1.1 rfl h
  · replace h := h.2 q
    refine R_iload_n e_X12_tenantIn_0.2.2.2.2.1 2 rfl ?_
    refine R_callS (mc := 0) (ms := 0) (mc' := 0) (ms' := 0) (M' := M_X12_isSpan) (d' := 1) (as := [vI l2]) (st := []) 1 e_X12_tenantIn_0.2.2.2.2.2.1 (kCSof m_X12_isSpan l_X12_428) (by decide) (by decide) rfl rfl (by show (0 : Nat) ≤ 8; decide) ?_
    refine Run.mono h (fun r6 s7 h => ?_)
    refine R_eqs (st2 := [vI r6]) rfl rfl ?_
    obtain ⟨q8, h⟩ := h
    refine R_if_ne 21 e_X12_tenantIn_0.2.2.2.2.2.2.1 (by decide) q8  (fun q => ?_) (fun q => ?_)
    · replace h := h.1 q
      refine R_aload_n e_X12_tenantIn_1.2.1 0 rfl ?_
      refine R_sipush e_X12_tenantIn_1.2.2.1 (by decide) ?_
      refine R_callV (mc := 0) (ms := 0) (mc' := 0) (ms' := 0) (M' := M_X12_keeps) (d' := 0) (as := [vI 3084]) (st := []) 12 1 e_X12_tenantIn_1.2.2.2.1 (kCVof m_X12_keeps l_X12_419) rfl (by decide) km_0 (by decide) (by decide) rfl rfl (by show (0 : Nat) ≤ 8; decide) ?_
      refine Run.mono h (fun r9 s10 h => ?_)
      refine R_eqs (st2 := []) rfl rfl ?_
      refine R_aload_n e_X12_tenantIn_1.2.2.2.2.1 0 rfl ?_
      refine R_iload_n e_X12_tenantIn_1.2.2.2.2.2.1 2 rfl ?_
      refine R_callV (mc := 0) (ms := 0) (mc' := 0) (ms' := 0) (M' := M_X12_goesOn) (d' := 9) (as := [vI l2]) (st := []) 12 1 e_X12_tenantIn_1.2.2.2.2.2.2.1 (kCVof m_X12_goesOn l_X12_437) rfl (by decide) km_0 (by decide) (by decide) rfl rfl (by show (0 : Nat) ≤ 8; decide) ?_
      refine Run.mono h (fun r11 s12 h => ?_)
      refine R_eqs (st2 := []) rfl rfl ?_
      refine R_bipush e_X12_tenantIn_1.2.2.2.2.2.2.2.1 (by decide) ?_
      refine R_aload_n e_X12_tenantIn_1.2.2.2.2.2.2.2.2.1 0 rfl ?_
      refine R_getA 12 0 1 e_X12_tenantIn_1.2.2.2.2.2.2.2.2.2 f_X12_7 km_0 (fun _ _ => rfl) rm_0_0 (by decide) ?_
      refine R_iload_n e_X12_tenantIn_2.1 1 rfl ?_
      refine R_callS (mc := 0) (ms := 0) (mc' := 0) (ms' := 0) (M' := M_X12_tenantRow) (d' := 0) (as := [vI l1]) (st := [vA G 1, vI 10]) 1 e_X12_tenantIn_2.2.1 (kCSof m_X12_tenantRow l_X12_352) (by decide) (by decide) rfl rfl (by show (2 : Nat) ≤ 8; decide) ?_
      refine Run.mono h (fun r13 s14 h => ?_)
      refine R_eqs (st2 := [vI r13, vA G 1, vI 10]) rfl rfl ?_
      refine R_iconst e_X12_tenantIn_2.2.2.1 ?_
      refine R_iadd e_X12_tenantIn_2.2.2.2.1 ?_
      obtain ⟨q15, h⟩ := h
      refine R_iald 3598 e_X12_tenantIn_2.2.2.2.2.1 kma_1 q15 ?_
      refine R_imul e_X12_tenantIn_2.2.2.2.2.2.1 ?_
      refine R_aload_n e_X12_tenantIn_2.2.2.2.2.2.2.1 0 rfl ?_
      refine R_getA 12 0 1 e_X12_tenantIn_2.2.2.2.2.2.2.2.1 f_X12_7 km_0 (fun _ _ => rfl) rm_0_0 (by decide) ?_
      refine R_iload_n e_X12_tenantIn_2.2.2.2.2.2.2.2.2.1 1 rfl ?_
      refine R_callS (mc := 0) (ms := 0) (mc' := 0) (ms' := 0) (M' := M_X12_tenantRow) (d' := 0) (as := [vI l1]) (st := [vA G 1, vI (10 * (s14 1 (r13 + 1)))]) 1 e_X12_tenantIn_2.2.2.2.2.2.2.2.2.2 (kCSof m_X12_tenantRow l_X12_352) (by decide) (by decide) rfl rfl (by show (2 : Nat) ≤ 8; decide) ?_
      refine Run.mono h (fun r16 s17 h => ?_)
      refine R_eqs (st2 := [vI r16, vA G 1, vI (10 * (s14 1 (r13 + 1)))]) rfl rfl ?_
      obtain ⟨q18, h⟩ := h
      refine R_iald 3598 e_X12_tenantIn_3.1 kma_1 q18 ?_
      refine R_iadd e_X12_tenantIn_3.2.1 ?_
      refine R_istore_n (ls2 := [(3, vI ((10 * (s14 1 (r13 + 1))) + (s17 1 r16))), (0, vA G 0), (1, vI l1), (2, vI l2)]) e_X12_tenantIn_3.2.2.1 (by decide) rfl ?_
      refine R_aload_n e_X12_tenantIn_3.2.2.2.1 1 rfl ?_
      refine R_sipush e_X12_tenantIn_3.2.2.2.2.1 (by decide) ?_
      refine R_callV (mc := 0) (ms := 0) (mc' := 0) (ms' := 0) (M' := M_X12_restores) (d' := 0) (as := [vI 3084]) (st := []) 12 1 e_X12_tenantIn_3.2.2.2.2.2.1 (kCVof m_X12_restores l_X12_422) rfl (by decide) km_0 (by decide) (by decide) rfl rfl (by show (0 : Nat) ≤ 8; decide) ?_
      refine Run.mono h (fun r19 s20 h => ?_)
      refine R_eqs (st2 := []) rfl rfl ?_
      refine R_aload_n e_X12_tenantIn_3.2.2.2.2.2.2.1 1 rfl ?_
      refine R_iload_n e_X12_tenantIn_3.2.2.2.2.2.2.2.1 0 rfl ?_
      refine R_callV (mc := 0) (ms := 0) (mc' := 0) (ms' := 0) (M' := M_X12_gives) (d' := 0) (as := [vI ((10 * (s14 1 (r13 + 1))) + (s17 1 r16))]) (st := []) 12 1 e_X12_tenantIn_3.2.2.2.2.2.2.2.2.1 (kCVof m_X12_gives l_X12_97) rfl (by decide) km_0 (by decide) (by decide) rfl rfl (by show (0 : Nat) ≤ 8; decide) ?_
      refine Run.mono h (fun r21 s22 h => ?_)
      refine R_eqs (st2 := [vI r21]) rfl rfl ?_
      exact R_ireturn e_X12_tenantIn_3.2.2.2.2.2.2.2.2.2 rfl h
    · replace h := h.2 q
      refine R_aload_n e_X12_tenantIn_0.2.2.2.2.2.2.2.1 0 rfl ?_
      refine R_iconst e_X12_tenantIn_0.2.2.2.2.2.2.2.2.1 ?_
      refine R_callV (mc := 0) (ms := 0) (mc' := 0) (ms' := 0) (M' := M_X12_refuse) (d' := 0) (as := [vI 1]) (st := []) 12 1 e_X12_tenantIn_0.2.2.2.2.2.2.2.2.2 (kCVof m_X12_refuse l_X12_93) rfl (by decide) km_0 (by decide) (by decide) rfl rfl (by show (0 : Nat) ≤ 8; decide) ?_
      refine Run.mono h (fun r23 s24 h => ?_)
      refine R_eqs (st2 := [vI r23]) rfl rfl ?_
      exact R_ireturn e_X12_tenantIn_1.1 rfl h
/-! KiteLandModel.flies(IIIII)I -/
theorem e_X12_flies_0 : decode cX12_flies 0 = .ok (.iconst 0, 1) ∧ decode cX12_flies 1 = .ok (.istore 6, 2) ∧ decode cX12_flies 3 = .ok (.iconst 1, 1) ∧ decode cX12_flies 4 = .ok (.istore 7, 2) ∧ decode cX12_flies 6 = .ok (.iconst 1, 1) ∧ decode cX12_flies 7 = .ok (.istore 8, 2) ∧ decode cX12_flies 9 = .ok (.iload 8, 2) ∧ decode cX12_flies 11 = .ok (.iload 4, 2) ∧ decode cX12_flies 13 = .ok (.if_icmp .ge 15, 3) ∧ decode cX12_flies 16 = .ok (.iload 7, 2) := by decide +kernel
theorem e_X12_flies_1 : decode cX12_flies 18 = .ok (.iconst 5, 1) ∧ decode cX12_flies 19 = .ok (.imul, 1) ∧ decode cX12_flies 20 = .ok (.istore 7, 2) ∧ decode cX12_flies 22 = .ok (.iinc 8 1, 3) ∧ decode cX12_flies 25 = .ok (.goto (-16), 3) ∧ decode cX12_flies 28 = .ok (.iload 5, 2) ∧ decode cX12_flies 30 = .ok (.istore 8, 2) ∧ decode cX12_flies 32 = .ok (.iload 7, 2) ∧ decode cX12_flies 34 = .ok (.ifCond .le 74, 3) ∧ decode cX12_flies 37 = .ok (.aload_n 0, 1) := by decide +kernel
theorem e_X12_flies_2 : decode cX12_flies 38 = .ok (.iload_n 1, 1) ∧ decode cX12_flies 39 = .ok (.iload 8, 2) ∧ decode cX12_flies 41 = .ok (.iload 7, 2) ∧ decode cX12_flies 43 = .ok (.idiv, 1) ∧ decode cX12_flies 44 = .ok (.invokevirtual 402, 3) ∧ decode cX12_flies 47 = .ok (.ifCond .ne 5, 3) ∧ decode cX12_flies 50 = .ok (.iconst (-1), 1) ∧ decode cX12_flies 51 = .ok (.ireturn, 1) ∧ decode cX12_flies 52 = .ok (.iload 8, 2) ∧ decode cX12_flies 54 = .ok (.iload 7, 2) := by decide +kernel
theorem e_X12_flies_3 : decode cX12_flies 56 = .ok (.irem, 1) ∧ decode cX12_flies 57 = .ok (.istore 8, 2) ∧ decode cX12_flies 59 = .ok (.aload_n 0, 1) ∧ decode cX12_flies 60 = .ok (.invokevirtual 385, 3) ∧ decode cX12_flies 63 = .ok (.pop, 1) ∧ decode cX12_flies 64 = .ok (.iload 6, 2) ∧ decode cX12_flies 66 = .ok (.aload_n 0, 1) ∧ decode cX12_flies 67 = .ok (.iload_n 2, 1) ∧ decode cX12_flies 68 = .ok (.iload_n 3, 1) ∧ decode cX12_flies 69 = .ok (.aload_n 0, 1) := by decide +kernel
theorem e_X12_flies_4 : decode cX12_flies 70 = .ok (.invokevirtual 325, 3) ∧ decode cX12_flies 73 = .ok (.invokevirtual 312, 3) ∧ decode cX12_flies 76 = .ok (.iload_n 1, 1) ∧ decode cX12_flies 77 = .ok (.if_icmp .ne 7, 3) ∧ decode cX12_flies 80 = .ok (.iconst 1, 1) ∧ decode cX12_flies 81 = .ok (.goto 4, 3) ∧ decode cX12_flies 84 = .ok (.iconst 0, 1) ∧ decode cX12_flies 85 = .ok (.iadd, 1) ∧ decode cX12_flies 86 = .ok (.istore 6, 2) ∧ decode cX12_flies 88 = .ok (.aload_n 0, 1) := by decide +kernel
theorem e_X12_flies_5 : decode cX12_flies 89 = .ok (.getfield 7, 3) ∧ decode cX12_flies 92 = .ok (.bipush 7, 2) ∧ decode cX12_flies 94 = .ok (.dup2, 1) ∧ decode cX12_flies 95 = .ok (.iaload, 1) ∧ decode cX12_flies 96 = .ok (.iconst 1, 1) ∧ decode cX12_flies 97 = .ok (.iadd, 1) ∧ decode cX12_flies 98 = .ok (.iastore, 1) ∧ decode cX12_flies 99 = .ok (.iload 7, 2) ∧ decode cX12_flies 101 = .ok (.iconst 5, 1) ∧ decode cX12_flies 102 = .ok (.idiv, 1) := by decide +kernel
theorem e_X12_flies_6 : decode cX12_flies 103 = .ok (.istore 7, 2) ∧ decode cX12_flies 105 = .ok (.goto (-73), 3) ∧ decode cX12_flies 108 = .ok (.iload 6, 2) ∧ decode cX12_flies 110 = .ok (.ireturn, 1) := by decide +kernel
abbrev E_X12_flies_9 (G : Kg) (l1 l2 l3 l4 l5 l6 l7 l8 : Int) (σ : Kmem) (Q : Int → Kmem → Prop) : Prop := Ex G WM M_X12_flies 8 0 0 9 [(0, vA G 0), (1, vI l1), (2, vI l2), (3, vI l3), (4, vI l4), (5, vI l5), (6, vI l6), (7, vI l7), (8, vI l8)] [] σ Q
abbrev E_X12_flies_32 (G : Kg) (l1 l2 l3 l6 l7 l8 : Int) (σ : Kmem) (Q : Int → Kmem → Prop) : Prop := Ex G WM M_X12_flies 8 0 0 32 [(0, vA G 0), (1, vI l1), (2, vI l2), (3, vI l3), (6, vI l6), (7, vI l7), (8, vI l8)] [] σ Q
theorem S_X12_flies {G : Kg} {σ : Kmem} {Q : Int → Kmem → Prop} {l1 l2 l3 l4 l5 : Int}  (h : E_X12_flies_9 G l1 l2 l3 l4 l5 0 1 1 σ Q) : Run G WM M_X12_flies 8 0 0 [vA G 0, vI l1, vI l2, vI l3, vI l4, vI l5] σ Q := by
  refine Run.of (by decide +kernel) (by show (6 : Nat) ≤ 9; decide) ?_
  show Ex G WM M_X12_flies 8 0 0 0 [(0, vA G 0), (1, vI l1), (2, vI l2), (3, vI l3), (4, vI l4), (5, vI l5)] [] σ Q
  refine R_iconst e_X12_flies_0.1 ?_
  refine R_istore (ls2 := [(6, vI 0), (0, vA G 0), (1, vI l1), (2, vI l2), (3, vI l3), (4, vI l4), (5, vI l5)]) e_X12_flies_0.2.1 (by decide) rfl ?_
  refine R_iconst e_X12_flies_0.2.2.1 ?_
  refine R_istore (ls2 := [(7, vI 1), (6, vI 0), (0, vA G 0), (1, vI l1), (2, vI l2), (3, vI l3), (4, vI l4), (5, vI l5)]) e_X12_flies_0.2.2.2.1 (by decide) rfl ?_
  refine R_iconst e_X12_flies_0.2.2.2.2.1 ?_
  refine R_istore (ls2 := [(8, vI 1), (7, vI 1), (6, vI 0), (0, vA G 0), (1, vI l1), (2, vI l2), (3, vI l3), (4, vI l4), (5, vI l5)]) e_X12_flies_0.2.2.2.2.2.1 (by decide) rfl ?_
  refine R_ls (ls2 := [(0, vA G 0), (1, vI l1), (2, vI l2), (3, vI l3), (4, vI l4), (5, vI l5), (6, vI 0), (7, vI 1), (8, vI 1)]) [3, 4, 5, 6, 7, 8, 2, 1, 0] rfl ?_
  exact h
theorem S_X12_flies_9 {G : Kg} {σ : Kmem} {Q : Int → Kmem → Prop} {l1 l2 l3 l4 l5 l6 l7 l8 : Int}  (h : (rI l8) ∧ (rI l4) ∧ ((l4 ≤ l8 → E_X12_flies_32 G l1 l2 l3 l6 l7 l5 σ Q) ∧ (l8 < l4 → E_X12_flies_9 G l1 l2 l3 l4 l5 l6 (l7 * 5) (l8 + 1) σ Q))) : E_X12_flies_9 G l1 l2 l3 l4 l5 l6 l7 l8 σ Q := by
  refine R_iload e_X12_flies_0.2.2.2.2.2.2.1 8 rfl ?_
  refine R_iload e_X12_flies_0.2.2.2.2.2.2.2.1 4 rfl ?_
  obtain ⟨q1, h⟩ := h
  obtain ⟨q2, h⟩ := h
  refine R_icmp_ge 28 e_X12_flies_0.2.2.2.2.2.2.2.2.1 (by decide) q1 q2 (fun q => ?_) (fun q => ?_)
  · replace h := h.1 q
    refine R_iload e_X12_flies_1.2.2.2.2.2.1 5 rfl ?_
    refine R_istore (ls2 := [(8, vI l5), (0, vA G 0), (1, vI l1), (2, vI l2), (3, vI l3), (4, vI l4), (5, vI l5), (6, vI l6), (7, vI l7)]) e_X12_flies_1.2.2.2.2.2.2.1 (by decide) rfl ?_
    refine R_ls (ls2 := [(0, vA G 0), (1, vI l1), (2, vI l2), (3, vI l3), (6, vI l6), (7, vI l7), (8, vI l5)]) [1, 2, 3, 4, 7, 8, 0] rfl ?_
    exact h
  · replace h := h.2 q
    refine R_iload e_X12_flies_0.2.2.2.2.2.2.2.2.2 7 rfl ?_
    refine R_iconst e_X12_flies_1.1 ?_
    refine R_imul e_X12_flies_1.2.1 ?_
    refine R_istore (ls2 := [(7, vI (l7 * 5)), (0, vA G 0), (1, vI l1), (2, vI l2), (3, vI l3), (4, vI l4), (5, vI l5), (6, vI l6), (8, vI l8)]) e_X12_flies_1.2.2.1 (by decide) rfl ?_
    refine R_iinc (ls2 := [(8, vI (l8 + 1)), (7, vI (l7 * 5)), (0, vA G 0), (1, vI l1), (2, vI l2), (3, vI l3), (4, vI l4), (5, vI l5), (6, vI l6)]) e_X12_flies_1.2.2.2.1 8 rfl (by decide) rfl ?_
    refine R_goto 9 e_X12_flies_1.2.2.2.2.1 (by decide) ?_
    refine R_ls (ls2 := [(0, vA G 0), (1, vI l1), (2, vI l2), (3, vI l3), (4, vI l4), (5, vI l5), (6, vI l6), (7, vI (l7 * 5)), (8, vI (l8 + 1))]) [2, 3, 4, 5, 6, 7, 8, 1, 0] rfl ?_
    exact h
theorem S_X12_flies_32 {G : Kg} {σ : Kmem} {Q : Int → Kmem → Prop} {l1 l2 l3 l4 l5 l6 l7 l8 : Int}  (h : (rI l7) ∧ ((l7 ≤ 0 → Q l6 σ) ∧ (0 < l7 → (0 ≤ l8 ∧ l8 ≤ 2147483647) ∧ (0 < l7 ∧ l7 ≤ 2147483647) ∧ Run G WM M_X12_walks 2 0 0 [vA G 0, vI l1, vI (l8 / l7)] σ (fun r6 s7 => (rI r6) ∧ ((r6 ≠ 0 → (0 ≤ l8 ∧ l8 ≤ 2147483647) ∧ (0 < l7 ∧ l7 ≤ 2147483647) ∧ Run G WM M_X12_cuts 7 0 0 [vA G 0] s7 (fun r11 s12 => Run G WM M_X12_now 0 0 0 [vA G 0] s12 (fun r13 s14 => Run G WM M_X12_ownerOf 6 0 0 [vA G 0, vI l2, vI l3, vI r13] s14 (fun r15 s16 => (rI r15) ∧ (rI l1) ∧ ((r15 ≠ l1 → (0 ≤ l7 ∧ l7 ≤ 2147483647) ∧ E_X12_flies_32 G l1 l2 l3 (l6 + 0) (l7 / 5) (l8 % l7) (kup s16 1 7 ((s16 1 7) + 1)) Q) ∧ (r15 = l1 → (0 ≤ l7 ∧ l7 ≤ 2147483647) ∧ E_X12_flies_32 G l1 l2 l3 (l6 + 1) (l7 / 5) (l8 % l7) (kup s16 1 7 ((s16 1 7) + 1)) Q)))))) ∧ (r6 = 0 → Q (-1) s7)))))) : E_X12_flies_32 G l1 l2 l3 l6 l7 l8 σ Q := by
  refine R_iload e_X12_flies_1.2.2.2.2.2.2.2.1 5 rfl ?_
  obtain ⟨q3, h⟩ := h
  refine R_if_le 108 e_X12_flies_1.2.2.2.2.2.2.2.2.1 (by decide) q3  (fun q => ?_) (fun q => ?_)
  · replace h := h.1 q
    refine R_iload e_X12_flies_6.2.2.1 4 rfl ?_
    exact R_ireturn e_X12_flies_6.2.2.2 rfl h
  · replace h := h.2 q
    refine R_aload_n e_X12_flies_1.2.2.2.2.2.2.2.2.2 0 rfl ?_
    refine R_iload_n e_X12_flies_2.1 1 rfl ?_
    refine R_iload e_X12_flies_2.2.1 6 rfl ?_
    refine R_iload e_X12_flies_2.2.2.1 5 rfl ?_
    obtain ⟨q4, h⟩ := h
    obtain ⟨q5, h⟩ := h
    refine R_idiv e_X12_flies_2.2.2.2.1 q4 q5 ?_
    refine R_callV (mc := 0) (ms := 0) (mc' := 0) (ms' := 0) (M' := M_X12_walks) (d' := 2) (as := [vI l1, vI (l8 / l7)]) (st := []) 12 2 e_X12_flies_2.2.2.2.2.1 (kCVof m_X12_walks l_X12_402) rfl (by decide) km_0 (by decide) (by decide) rfl rfl (by show (0 : Nat) ≤ 8; decide) ?_
    refine Run.mono h (fun r6 s7 h => ?_)
    refine R_eqs (st2 := [vI r6]) rfl rfl ?_
    obtain ⟨q8, h⟩ := h
    refine R_if_ne 52 e_X12_flies_2.2.2.2.2.2.1 (by decide) q8  (fun q => ?_) (fun q => ?_)
    · replace h := h.1 q
      refine R_iload e_X12_flies_2.2.2.2.2.2.2.2.2.1 6 rfl ?_
      refine R_iload e_X12_flies_2.2.2.2.2.2.2.2.2.2 5 rfl ?_
      obtain ⟨q9, h⟩ := h
      obtain ⟨q10, h⟩ := h
      refine R_irem e_X12_flies_3.1 q9 q10 ?_
      refine R_istore (ls2 := [(8, vI (l8 % l7)), (0, vA G 0), (1, vI l1), (2, vI l2), (3, vI l3), (6, vI l6), (7, vI l7)]) e_X12_flies_3.2.1 (by decide) rfl ?_
      refine R_aload_n e_X12_flies_3.2.2.1 1 rfl ?_
      refine R_callV (mc := 0) (ms := 0) (mc' := 0) (ms' := 0) (M' := M_X12_cuts) (d' := 7) (as := []) (st := []) 12 0 e_X12_flies_3.2.2.2.1 (kCVof m_X12_cuts l_X12_385) rfl (by decide) km_0 (by decide) (by decide) rfl rfl (by show (0 : Nat) ≤ 8; decide) ?_
      refine Run.mono h (fun r11 s12 h => ?_)
      refine R_eqs (st2 := [vI r11]) rfl rfl ?_
      refine R_pop e_X12_flies_3.2.2.2.2.1 rfl ?_
      refine R_iload e_X12_flies_3.2.2.2.2.2.1 5 rfl ?_
      refine R_aload_n e_X12_flies_3.2.2.2.2.2.2.1 1 rfl ?_
      refine R_iload_n e_X12_flies_3.2.2.2.2.2.2.2.1 3 rfl ?_
      refine R_iload_n e_X12_flies_3.2.2.2.2.2.2.2.2.1 4 rfl ?_
      refine R_aload_n e_X12_flies_3.2.2.2.2.2.2.2.2.2 1 rfl ?_
      refine R_callV (mc := 0) (ms := 0) (mc' := 0) (ms' := 0) (M' := M_X12_now) (d' := 0) (as := []) (st := [vI l3, vI l2, vA G 0, vI l6]) 12 0 e_X12_flies_4.1 (kCVof m_X12_now l_X12_325) rfl (by decide) km_0 (by decide) (by decide) rfl rfl (by show (4 : Nat) ≤ 8; decide) ?_
      refine Run.mono h (fun r13 s14 h => ?_)
      refine R_eqs (st2 := [vI r13, vI l3, vI l2, vA G 0, vI l6]) rfl rfl ?_
      refine R_callV (mc := 0) (ms := 0) (mc' := 0) (ms' := 0) (M' := M_X12_ownerOf) (d' := 6) (as := [vI l2, vI l3, vI r13]) (st := [vI l6]) 12 3 e_X12_flies_4.2.1 (kCVof m_X12_ownerOf l_X12_312) rfl (by decide) km_0 (by decide) (by decide) rfl rfl (by show (1 : Nat) ≤ 8; decide) ?_
      refine Run.mono h (fun r15 s16 h => ?_)
      refine R_eqs (st2 := [vI r15, vI l6]) rfl rfl ?_
      refine R_iload_n e_X12_flies_4.2.2.1 2 rfl ?_
      obtain ⟨q17, h⟩ := h
      obtain ⟨q18, h⟩ := h
      refine R_icmp_ne 84 e_X12_flies_4.2.2.2.1 (by decide) q17 q18 (fun q => ?_) (fun q => ?_)
      · replace h := h.1 q
        refine R_iconst e_X12_flies_4.2.2.2.2.2.2.1 ?_
        refine R_iadd e_X12_flies_4.2.2.2.2.2.2.2.1 ?_
        refine R_istore (ls2 := [(6, vI (l6 + 0)), (8, vI (l8 % l7)), (0, vA G 0), (1, vI l1), (2, vI l2), (3, vI l3), (7, vI l7)]) e_X12_flies_4.2.2.2.2.2.2.2.2.1 (by decide) rfl ?_
        refine R_aload_n e_X12_flies_4.2.2.2.2.2.2.2.2.2 2 rfl ?_
        refine R_getA 12 0 1 e_X12_flies_5.1 f_X12_7 km_0 (fun _ _ => rfl) rm_0_0 (by decide) ?_
        refine R_bipush e_X12_flies_5.2.1 (by decide) ?_
        refine R_dup2 e_X12_flies_5.2.2.1 rfl rfl ?_
        refine R_iald 3598 e_X12_flies_5.2.2.2.1 kma_1 (by decide) ?_
        refine R_iconst e_X12_flies_5.2.2.2.2.1 ?_
        refine R_iadd e_X12_flies_5.2.2.2.2.2.1 ?_
        refine R_iast 3598 WM_ok e_X12_flies_5.2.2.2.2.2.2.1 kma_1 (by decide) ?_
        refine R_iload e_X12_flies_5.2.2.2.2.2.2.2.1 6 rfl ?_
        refine R_iconst e_X12_flies_5.2.2.2.2.2.2.2.2.1 ?_
        obtain ⟨q19, h⟩ := h
        refine R_idiv e_X12_flies_5.2.2.2.2.2.2.2.2.2 q19 (by decide) ?_
        refine R_istore (ls2 := [(7, vI (l7 / 5)), (6, vI (l6 + 0)), (8, vI (l8 % l7)), (0, vA G 0), (1, vI l1), (2, vI l2), (3, vI l3)]) e_X12_flies_6.1 (by decide) rfl ?_
        refine R_goto 32 e_X12_flies_6.2.1 (by decide) ?_
        refine R_ls (ls2 := [(0, vA G 0), (1, vI l1), (2, vI l2), (3, vI l3), (6, vI (l6 + 0)), (7, vI (l7 / 5)), (8, vI (l8 % l7))]) [3, 4, 5, 6, 1, 0, 2] rfl ?_
        exact h
      · replace h := h.2 q
        refine R_iconst e_X12_flies_4.2.2.2.2.1 ?_
        refine R_goto 85 e_X12_flies_4.2.2.2.2.2.1 (by decide) ?_
        refine R_iadd e_X12_flies_4.2.2.2.2.2.2.2.1 ?_
        refine R_istore (ls2 := [(6, vI (l6 + 1)), (8, vI (l8 % l7)), (0, vA G 0), (1, vI l1), (2, vI l2), (3, vI l3), (7, vI l7)]) e_X12_flies_4.2.2.2.2.2.2.2.2.1 (by decide) rfl ?_
        refine R_aload_n e_X12_flies_4.2.2.2.2.2.2.2.2.2 2 rfl ?_
        refine R_getA 12 0 1 e_X12_flies_5.1 f_X12_7 km_0 (fun _ _ => rfl) rm_0_0 (by decide) ?_
        refine R_bipush e_X12_flies_5.2.1 (by decide) ?_
        refine R_dup2 e_X12_flies_5.2.2.1 rfl rfl ?_
        refine R_iald 3598 e_X12_flies_5.2.2.2.1 kma_1 (by decide) ?_
        refine R_iconst e_X12_flies_5.2.2.2.2.1 ?_
        refine R_iadd e_X12_flies_5.2.2.2.2.2.1 ?_
        refine R_iast 3598 WM_ok e_X12_flies_5.2.2.2.2.2.2.1 kma_1 (by decide) ?_
        refine R_iload e_X12_flies_5.2.2.2.2.2.2.2.1 6 rfl ?_
        refine R_iconst e_X12_flies_5.2.2.2.2.2.2.2.2.1 ?_
        obtain ⟨q20, h⟩ := h
        refine R_idiv e_X12_flies_5.2.2.2.2.2.2.2.2.2 q20 (by decide) ?_
        refine R_istore (ls2 := [(7, vI (l7 / 5)), (6, vI (l6 + 1)), (8, vI (l8 % l7)), (0, vA G 0), (1, vI l1), (2, vI l2), (3, vI l3)]) e_X12_flies_6.1 (by decide) rfl ?_
        refine R_goto 32 e_X12_flies_6.2.1 (by decide) ?_
        refine R_ls (ls2 := [(0, vA G 0), (1, vI l1), (2, vI l2), (3, vI l3), (6, vI (l6 + 1)), (7, vI (l7 / 5)), (8, vI (l8 % l7))]) [3, 4, 5, 6, 1, 0, 2] rfl ?_
        exact h
    · replace h := h.2 q
      refine R_iconst e_X12_flies_2.2.2.2.2.2.2.1 ?_
      exact R_ireturn e_X12_flies_2.2.2.2.2.2.2.2.1 rfl h
/-! KiteLandModel.fly(IIII)I -/
theorem e_X12_fly_0 : decode cX12_fly 0 = .ok (.aload_n 0, 1) ∧ decode cX12_fly 1 = .ok (.iload_n 1, 1) ∧ decode cX12_fly 2 = .ok (.invokevirtual 343, 3) ∧ decode cX12_fly 5 = .ok (.ifCond .eq 25, 3) ∧ decode cX12_fly 8 = .ok (.aload_n 0, 1) ∧ decode cX12_fly 9 = .ok (.iload_n 2, 1) ∧ decode cX12_fly 10 = .ok (.iload_n 3, 1) ∧ decode cX12_fly 11 = .ok (.invokevirtual 355, 3) ∧ decode cX12_fly 14 = .ok (.ifCond .eq 16, 3) ∧ decode cX12_fly 17 = .ok (.iload 4, 2) := by decide +kernel
theorem e_X12_fly_1 : decode cX12_fly 19 = .ok (.i2l, 1) ∧ decode cX12_fly 20 = .ok (.lconst 1, 1) ∧ decode cX12_fly 21 = .ok (.ldc2_w 440, 3) ∧ decode cX12_fly 24 = .ok (.invokestatic 393, 3) ∧ decode cX12_fly 27 = .ok (.ifCond .ne 9, 3) ∧ decode cX12_fly 30 = .ok (.aload_n 0, 1) ∧ decode cX12_fly 31 = .ok (.iconst 1, 1) ∧ decode cX12_fly 32 = .ok (.invokevirtual 93, 3) ∧ decode cX12_fly 35 = .ok (.ireturn, 1) ∧ decode cX12_fly 36 = .ok (.iconst 1, 1) := by decide +kernel
theorem e_X12_fly_2 : decode cX12_fly 37 = .ok (.istore 5, 2) ∧ decode cX12_fly 39 = .ok (.iconst 0, 1) ∧ decode cX12_fly 40 = .ok (.istore 6, 2) ∧ decode cX12_fly 42 = .ok (.iload 6, 2) ∧ decode cX12_fly 44 = .ok (.iload 4, 2) ∧ decode cX12_fly 46 = .ok (.if_icmp .ge 15, 3) ∧ decode cX12_fly 49 = .ok (.iload 5, 2) ∧ decode cX12_fly 51 = .ok (.iconst 5, 1) ∧ decode cX12_fly 52 = .ok (.imul, 1) ∧ decode cX12_fly 53 = .ok (.istore 5, 2) := by decide +kernel
theorem e_X12_fly_3 : decode cX12_fly 55 = .ok (.iinc 6 1, 3) ∧ decode cX12_fly 58 = .ok (.goto (-16), 3) ∧ decode cX12_fly 61 = .ok (.iconst (-1), 1) ∧ decode cX12_fly 62 = .ok (.istore 6, 2) ∧ decode cX12_fly 64 = .ok (.iconst 0, 1) ∧ decode cX12_fly 65 = .ok (.istore 7, 2) ∧ decode cX12_fly 67 = .ok (.aload_n 0, 1) ∧ decode cX12_fly 68 = .ok (.sipush 3084, 3) ∧ decode cX12_fly 71 = .ok (.invokevirtual 419, 3) ∧ decode cX12_fly 74 = .ok (.iconst 0, 1) := by decide +kernel
theorem e_X12_fly_4 : decode cX12_fly 75 = .ok (.istore 8, 2) ∧ decode cX12_fly 77 = .ok (.iload 8, 2) ∧ decode cX12_fly 79 = .ok (.iload 5, 2) ∧ decode cX12_fly 81 = .ok (.if_icmp .ge 47, 3) ∧ decode cX12_fly 84 = .ok (.aload_n 0, 1) ∧ decode cX12_fly 85 = .ok (.iload_n 1, 1) ∧ decode cX12_fly 86 = .ok (.iload_n 2, 1) ∧ decode cX12_fly 87 = .ok (.iload_n 3, 1) ∧ decode cX12_fly 88 = .ok (.iload 4, 2) ∧ decode cX12_fly 90 = .ok (.iload 8, 2) := by decide +kernel
theorem e_X12_fly_5 : decode cX12_fly 92 = .ok (.invokevirtual 442, 3) ∧ decode cX12_fly 95 = .ok (.istore 9, 2) ∧ decode cX12_fly 97 = .ok (.aload_n 0, 1) ∧ decode cX12_fly 98 = .ok (.sipush 3084, 3) ∧ decode cX12_fly 101 = .ok (.invokevirtual 422, 3) ∧ decode cX12_fly 104 = .ok (.iload 9, 2) ∧ decode cX12_fly 106 = .ok (.iload 6, 2) ∧ decode cX12_fly 108 = .ok (.if_icmp .gt 6, 3) ∧ decode cX12_fly 111 = .ok (.goto 11, 3) ∧ decode cX12_fly 114 = .ok (.iload 9, 2) := by decide +kernel
theorem e_X12_fly_6 : decode cX12_fly 116 = .ok (.istore 6, 2) ∧ decode cX12_fly 118 = .ok (.iload 8, 2) ∧ decode cX12_fly 120 = .ok (.istore 7, 2) ∧ decode cX12_fly 122 = .ok (.iinc 8 1, 3) ∧ decode cX12_fly 125 = .ok (.goto (-48), 3) ∧ decode cX12_fly 128 = .ok (.aload_n 0, 1) ∧ decode cX12_fly 129 = .ok (.iload 4, 2) ∧ decode cX12_fly 131 = .ok (.putfield 446, 3) ∧ decode cX12_fly 134 = .ok (.iload 4, 2) ∧ decode cX12_fly 136 = .ok (.iconst 1, 1) := by decide +kernel
theorem e_X12_fly_7 : decode cX12_fly 137 = .ok (.isub, 1) ∧ decode cX12_fly 138 = .ok (.istore 8, 2) ∧ decode cX12_fly 140 = .ok (.iload 8, 2) ∧ decode cX12_fly 142 = .ok (.ifCond .lt 26, 3) ∧ decode cX12_fly 145 = .ok (.aload_n 0, 1) ∧ decode cX12_fly 146 = .ok (.getfield 50, 3) ∧ decode cX12_fly 149 = .ok (.iload 8, 2) ∧ decode cX12_fly 151 = .ok (.iload 7, 2) ∧ decode cX12_fly 153 = .ok (.iconst 5, 1) ∧ decode cX12_fly 154 = .ok (.irem, 1) := by decide +kernel
theorem e_X12_fly_8 : decode cX12_fly 155 = .ok (.iastore, 1) ∧ decode cX12_fly 156 = .ok (.iload 7, 2) ∧ decode cX12_fly 158 = .ok (.iconst 5, 1) ∧ decode cX12_fly 159 = .ok (.idiv, 1) ∧ decode cX12_fly 160 = .ok (.istore 7, 2) ∧ decode cX12_fly 162 = .ok (.iinc 8 (-1), 3) ∧ decode cX12_fly 165 = .ok (.goto (-25), 3) ∧ decode cX12_fly 168 = .ok (.aload_n 0, 1) ∧ decode cX12_fly 169 = .ok (.iload 6, 2) ∧ decode cX12_fly 171 = .ok (.invokevirtual 97, 3) := by decide +kernel
theorem e_X12_fly_9 : decode cX12_fly 174 = .ok (.ireturn, 1) := by decide +kernel
abbrev E_X12_fly_42 (G : Kg) (l1 l2 l3 l4 l5 l6 : Int) (σ : Kmem) (Q : Int → Kmem → Prop) : Prop := Ex G WM M_X12_fly 9 0 0 42 [(0, vA G 0), (1, vI l1), (2, vI l2), (3, vI l3), (4, vI l4), (5, vI l5), (6, vI l6)] [] σ Q
abbrev E_X12_fly_77 (G : Kg) (l1 l2 l3 l4 l5 l6 l7 l8 : Int) (σ : Kmem) (Q : Int → Kmem → Prop) : Prop := Ex G WM M_X12_fly 9 0 0 77 [(0, vA G 0), (1, vI l1), (2, vI l2), (3, vI l3), (4, vI l4), (5, vI l5), (6, vI l6), (7, vI l7), (8, vI l8)] [] σ Q
abbrev E_X12_fly_140 (G : Kg) (l6 l7 l8 : Int) (σ : Kmem) (Q : Int → Kmem → Prop) : Prop := Ex G WM M_X12_fly 9 0 0 140 [(0, vA G 0), (6, vI l6), (7, vI l7), (8, vI l8)] [] σ Q
theorem S_X12_fly {G : Kg} {σ : Kmem} {Q : Int → Kmem → Prop} {l1 l2 l3 l4 : Int}  (h : Run G WM M_X12_isKite 0 0 0 [vA G 0, vI l1] σ (fun r1 s2 => (rI r1) ∧ ((r1 = 0 → Run G WM M_X12_refuse 0 0 0 [vA G 0, vI 1] s2 (fun r4 s5 => Q r4 s5)) ∧ (r1 ≠ 0 → Run G WM M_X12_isField 0 0 0 [vA G 0, vI l2, vI l3] s2 (fun r6 s7 => (rI r6) ∧ ((r6 = 0 → Run G WM M_X12_refuse 0 0 0 [vA G 0, vI 1] s7 (fun r9 s10 => Q r9 s10)) ∧ (r6 ≠ 0 → (rI l4) ∧ Run G WM M_X12_isFrom 0 0 0 [vL l4, vL 1, vL 5] s7 (fun r12 s13 => (rI r12) ∧ ((r12 ≠ 0 → E_X12_fly_42 G l1 l2 l3 l4 1 0 s13 Q) ∧ (r12 = 0 → Run G WM M_X12_refuse 0 0 0 [vA G 0, vI 1] s13 (fun r15 s16 => Q r15 s16))))))))))) : Run G WM M_X12_fly 9 0 0 [vA G 0, vI l1, vI l2, vI l3, vI l4] σ Q := by
  refine Run.of (by decide +kernel) (by show (5 : Nat) ≤ 10; decide) ?_
  show Ex G WM M_X12_fly 9 0 0 0 [(0, vA G 0), (1, vI l1), (2, vI l2), (3, vI l3), (4, vI l4)] [] σ Q
  refine R_aload_n e_X12_fly_0.1 0 rfl ?_
  refine R_iload_n e_X12_fly_0.2.1 1 rfl ?_
  refine R_callV (mc := 0) (ms := 0) (mc' := 0) (ms' := 0) (M' := M_X12_isKite) (d' := 0) (as := [vI l1]) (st := []) 12 1 e_X12_fly_0.2.2.1 (kCVof m_X12_isKite l_X12_343) rfl (by decide) km_0 (by decide) (by decide) rfl rfl (by show (0 : Nat) ≤ 8; decide) ?_
  refine Run.mono h (fun r1 s2 h => ?_)
  refine R_eqs (st2 := [vI r1]) rfl rfl ?_
  obtain ⟨q3, h⟩ := h
  refine R_if_eq 30 e_X12_fly_0.2.2.2.1 (by decide) q3  (fun q => ?_) (fun q => ?_)
  · replace h := h.1 q
    refine R_aload_n e_X12_fly_1.2.2.2.2.2.1 0 rfl ?_
    refine R_iconst e_X12_fly_1.2.2.2.2.2.2.1 ?_
    refine R_callV (mc := 0) (ms := 0) (mc' := 0) (ms' := 0) (M' := M_X12_refuse) (d' := 0) (as := [vI 1]) (st := []) 12 1 e_X12_fly_1.2.2.2.2.2.2.2.1 (kCVof m_X12_refuse l_X12_93) rfl (by decide) km_0 (by decide) (by decide) rfl rfl (by show (0 : Nat) ≤ 8; decide) ?_
    refine Run.mono h (fun r4 s5 h => ?_)
    refine R_eqs (st2 := [vI r4]) rfl rfl ?_
    exact R_ireturn e_X12_fly_1.2.2.2.2.2.2.2.2.1 rfl h
  · replace h := h.2 q
    refine R_aload_n e_X12_fly_0.2.2.2.2.1 0 rfl ?_
    refine R_iload_n e_X12_fly_0.2.2.2.2.2.1 2 rfl ?_
    refine R_iload_n e_X12_fly_0.2.2.2.2.2.2.1 3 rfl ?_
    refine R_callV (mc := 0) (ms := 0) (mc' := 0) (ms' := 0) (M' := M_X12_isField) (d' := 0) (as := [vI l2, vI l3]) (st := []) 12 2 e_X12_fly_0.2.2.2.2.2.2.2.1 (kCVof m_X12_isField l_X12_355) rfl (by decide) km_0 (by decide) (by decide) rfl rfl (by show (0 : Nat) ≤ 8; decide) ?_
    refine Run.mono h (fun r6 s7 h => ?_)
    refine R_eqs (st2 := [vI r6]) rfl rfl ?_
    obtain ⟨q8, h⟩ := h
    refine R_if_eq 30 e_X12_fly_0.2.2.2.2.2.2.2.2.1 (by decide) q8  (fun q => ?_) (fun q => ?_)
    · replace h := h.1 q
      refine R_aload_n e_X12_fly_1.2.2.2.2.2.1 0 rfl ?_
      refine R_iconst e_X12_fly_1.2.2.2.2.2.2.1 ?_
      refine R_callV (mc := 0) (ms := 0) (mc' := 0) (ms' := 0) (M' := M_X12_refuse) (d' := 0) (as := [vI 1]) (st := []) 12 1 e_X12_fly_1.2.2.2.2.2.2.2.1 (kCVof m_X12_refuse l_X12_93) rfl (by decide) km_0 (by decide) (by decide) rfl rfl (by show (0 : Nat) ≤ 8; decide) ?_
      refine Run.mono h (fun r9 s10 h => ?_)
      refine R_eqs (st2 := [vI r9]) rfl rfl ?_
      exact R_ireturn e_X12_fly_1.2.2.2.2.2.2.2.2.1 rfl h
    · replace h := h.2 q
      refine R_iload e_X12_fly_0.2.2.2.2.2.2.2.2.2 4 rfl ?_
      obtain ⟨q11, h⟩ := h
      refine R_i2l e_X12_fly_1.1 q11 ?_
      refine R_lconst 1 e_X12_fly_1.2.1 (by decide) ?_
      refine R_ldc2 (5) k_X12_440 e_X12_fly_1.2.2.1 ?_
      refine R_callS (mc := 0) (ms := 0) (mc' := 0) (ms' := 0) (M' := M_X12_isFrom) (d' := 0) (as := [vL l4, vL 1, vL 5]) (st := []) 3 e_X12_fly_1.2.2.2.1 (kCSof m_X12_isFrom l_X12_393) (by decide) (by decide) rfl rfl (by show (0 : Nat) ≤ 8; decide) ?_
      refine Run.mono h (fun r12 s13 h => ?_)
      refine R_eqs (st2 := [vI r12]) rfl rfl ?_
      obtain ⟨q14, h⟩ := h
      refine R_if_ne 36 e_X12_fly_1.2.2.2.2.1 (by decide) q14  (fun q => ?_) (fun q => ?_)
      · replace h := h.1 q
        refine R_iconst e_X12_fly_1.2.2.2.2.2.2.2.2.2 ?_
        refine R_istore (ls2 := [(5, vI 1), (0, vA G 0), (1, vI l1), (2, vI l2), (3, vI l3), (4, vI l4)]) e_X12_fly_2.1 (by decide) rfl ?_
        refine R_iconst e_X12_fly_2.2.1 ?_
        refine R_istore (ls2 := [(6, vI 0), (5, vI 1), (0, vA G 0), (1, vI l1), (2, vI l2), (3, vI l3), (4, vI l4)]) e_X12_fly_2.2.2.1 (by decide) rfl ?_
        refine R_ls (ls2 := [(0, vA G 0), (1, vI l1), (2, vI l2), (3, vI l3), (4, vI l4), (5, vI 1), (6, vI 0)]) [2, 3, 4, 5, 6, 1, 0] rfl ?_
        exact h
      · replace h := h.2 q
        refine R_aload_n e_X12_fly_1.2.2.2.2.2.1 0 rfl ?_
        refine R_iconst e_X12_fly_1.2.2.2.2.2.2.1 ?_
        refine R_callV (mc := 0) (ms := 0) (mc' := 0) (ms' := 0) (M' := M_X12_refuse) (d' := 0) (as := [vI 1]) (st := []) 12 1 e_X12_fly_1.2.2.2.2.2.2.2.1 (kCVof m_X12_refuse l_X12_93) rfl (by decide) km_0 (by decide) (by decide) rfl rfl (by show (0 : Nat) ≤ 8; decide) ?_
        refine Run.mono h (fun r15 s16 h => ?_)
        refine R_eqs (st2 := [vI r15]) rfl rfl ?_
        exact R_ireturn e_X12_fly_1.2.2.2.2.2.2.2.2.1 rfl h
theorem S_X12_fly_42 {G : Kg} {σ : Kmem} {Q : Int → Kmem → Prop} {l1 l2 l3 l4 l5 l6 : Int}  (h : (rI l6) ∧ (rI l4) ∧ ((l4 ≤ l6 → Run G WM M_X12_keeps 0 0 0 [vA G 0, vI 3084] σ (fun r19 s20 => E_X12_fly_77 G l1 l2 l3 l4 l5 (-1) 0 0 s20 Q)) ∧ (l6 < l4 → E_X12_fly_42 G l1 l2 l3 l4 (l5 * 5) (l6 + 1) σ Q))) : E_X12_fly_42 G l1 l2 l3 l4 l5 l6 σ Q := by
  refine R_iload e_X12_fly_2.2.2.2.1 6 rfl ?_
  refine R_iload e_X12_fly_2.2.2.2.2.1 4 rfl ?_
  obtain ⟨q17, h⟩ := h
  obtain ⟨q18, h⟩ := h
  refine R_icmp_ge 61 e_X12_fly_2.2.2.2.2.2.1 (by decide) q17 q18 (fun q => ?_) (fun q => ?_)
  · replace h := h.1 q
    refine R_iconst e_X12_fly_3.2.2.1 ?_
    refine R_istore (ls2 := [(6, vI (-1)), (0, vA G 0), (1, vI l1), (2, vI l2), (3, vI l3), (4, vI l4), (5, vI l5)]) e_X12_fly_3.2.2.2.1 (by decide) rfl ?_
    refine R_iconst e_X12_fly_3.2.2.2.2.1 ?_
    refine R_istore (ls2 := [(7, vI 0), (6, vI (-1)), (0, vA G 0), (1, vI l1), (2, vI l2), (3, vI l3), (4, vI l4), (5, vI l5)]) e_X12_fly_3.2.2.2.2.2.1 (by decide) rfl ?_
    refine R_aload_n e_X12_fly_3.2.2.2.2.2.2.1 2 rfl ?_
    refine R_sipush e_X12_fly_3.2.2.2.2.2.2.2.1 (by decide) ?_
    refine R_callV (mc := 0) (ms := 0) (mc' := 0) (ms' := 0) (M' := M_X12_keeps) (d' := 0) (as := [vI 3084]) (st := []) 12 1 e_X12_fly_3.2.2.2.2.2.2.2.2.1 (kCVof m_X12_keeps l_X12_419) rfl (by decide) km_0 (by decide) (by decide) rfl rfl (by show (0 : Nat) ≤ 8; decide) ?_
    refine Run.mono h (fun r19 s20 h => ?_)
    refine R_eqs (st2 := []) rfl rfl ?_
    refine R_iconst e_X12_fly_3.2.2.2.2.2.2.2.2.2 ?_
    refine R_istore (ls2 := [(8, vI 0), (7, vI 0), (6, vI (-1)), (0, vA G 0), (1, vI l1), (2, vI l2), (3, vI l3), (4, vI l4), (5, vI l5)]) e_X12_fly_4.1 (by decide) rfl ?_
    refine R_ls (ls2 := [(0, vA G 0), (1, vI l1), (2, vI l2), (3, vI l3), (4, vI l4), (5, vI l5), (6, vI (-1)), (7, vI 0), (8, vI 0)]) [3, 4, 5, 6, 7, 8, 2, 1, 0] rfl ?_
    exact h
  · replace h := h.2 q
    refine R_iload e_X12_fly_2.2.2.2.2.2.2.1 5 rfl ?_
    refine R_iconst e_X12_fly_2.2.2.2.2.2.2.2.1 ?_
    refine R_imul e_X12_fly_2.2.2.2.2.2.2.2.2.1 ?_
    refine R_istore (ls2 := [(5, vI (l5 * 5)), (0, vA G 0), (1, vI l1), (2, vI l2), (3, vI l3), (4, vI l4), (6, vI l6)]) e_X12_fly_2.2.2.2.2.2.2.2.2.2 (by decide) rfl ?_
    refine R_iinc (ls2 := [(6, vI (l6 + 1)), (5, vI (l5 * 5)), (0, vA G 0), (1, vI l1), (2, vI l2), (3, vI l3), (4, vI l4)]) e_X12_fly_3.1 6 rfl (by decide) rfl ?_
    refine R_goto 42 e_X12_fly_3.2.1 (by decide) ?_
    refine R_ls (ls2 := [(0, vA G 0), (1, vI l1), (2, vI l2), (3, vI l3), (4, vI l4), (5, vI (l5 * 5)), (6, vI (l6 + 1))]) [2, 3, 4, 5, 6, 1, 0] rfl ?_
    exact h
theorem S_X12_fly_77 {G : Kg} {σ : Kmem} {Q : Int → Kmem → Prop} {l1 l2 l3 l4 l5 l6 l7 l8 : Int}  (h : (rI l8) ∧ (rI l5) ∧ ((l5 ≤ l8 → E_X12_fly_140 G l6 l7 (l4 - 1) (kup σ 0 26 l4) Q) ∧ (l8 < l5 → Run G WM M_X12_flies 8 0 0 [vA G 0, vI l1, vI l2, vI l3, vI l4, vI l8] σ (fun r23 s24 => Run G WM M_X12_restores 0 0 0 [vA G 0, vI 3084] s24 (fun r25 s26 => (rI r23) ∧ (rI l6) ∧ ((l6 < r23 → E_X12_fly_77 G l1 l2 l3 l4 l5 r23 l8 (l8 + 1) s26 Q) ∧ (r23 ≤ l6 → E_X12_fly_77 G l1 l2 l3 l4 l5 l6 l7 (l8 + 1) s26 Q))))))) : E_X12_fly_77 G l1 l2 l3 l4 l5 l6 l7 l8 σ Q := by
  refine R_iload e_X12_fly_4.2.1 8 rfl ?_
  refine R_iload e_X12_fly_4.2.2.1 5 rfl ?_
  obtain ⟨q21, h⟩ := h
  obtain ⟨q22, h⟩ := h
  refine R_icmp_ge 128 e_X12_fly_4.2.2.2.1 (by decide) q21 q22 (fun q => ?_) (fun q => ?_)
  · replace h := h.1 q
    refine R_aload_n e_X12_fly_6.2.2.2.2.2.1 0 rfl ?_
    refine R_iload e_X12_fly_6.2.2.2.2.2.2.1 4 rfl ?_
    refine R_putI 12 26 26 WM_ok e_X12_fly_6.2.2.2.2.2.2.2.1 f_X12_446 km_0 rfl rfl rfl ?_
    refine R_iload e_X12_fly_6.2.2.2.2.2.2.2.2.1 4 rfl ?_
    refine R_iconst e_X12_fly_6.2.2.2.2.2.2.2.2.2 ?_
    refine R_isub e_X12_fly_7.1 ?_
    refine R_istore (ls2 := [(8, vI (l4 - 1)), (0, vA G 0), (1, vI l1), (2, vI l2), (3, vI l3), (4, vI l4), (5, vI l5), (6, vI l6), (7, vI l7)]) e_X12_fly_7.2.1 (by decide) rfl ?_
    refine R_ls (ls2 := [(0, vA G 0), (6, vI l6), (7, vI l7), (8, vI (l4 - 1))]) [1, 7, 8, 0] rfl ?_
    exact h
  · replace h := h.2 q
    refine R_aload_n e_X12_fly_4.2.2.2.2.1 0 rfl ?_
    refine R_iload_n e_X12_fly_4.2.2.2.2.2.1 1 rfl ?_
    refine R_iload_n e_X12_fly_4.2.2.2.2.2.2.1 2 rfl ?_
    refine R_iload_n e_X12_fly_4.2.2.2.2.2.2.2.1 3 rfl ?_
    refine R_iload e_X12_fly_4.2.2.2.2.2.2.2.2.1 4 rfl ?_
    refine R_iload e_X12_fly_4.2.2.2.2.2.2.2.2.2 8 rfl ?_
    refine R_callV (mc := 0) (ms := 0) (mc' := 0) (ms' := 0) (M' := M_X12_flies) (d' := 8) (as := [vI l1, vI l2, vI l3, vI l4, vI l8]) (st := []) 12 5 e_X12_fly_5.1 (kCVof m_X12_flies l_X12_442) rfl (by decide) km_0 (by decide) (by decide) rfl rfl (by show (0 : Nat) ≤ 8; decide) ?_
    refine Run.mono h (fun r23 s24 h => ?_)
    refine R_eqs (st2 := [vI r23]) rfl rfl ?_
    refine R_istore (ls2 := [(9, vI r23), (0, vA G 0), (1, vI l1), (2, vI l2), (3, vI l3), (4, vI l4), (5, vI l5), (6, vI l6), (7, vI l7), (8, vI l8)]) e_X12_fly_5.2.1 (by decide) rfl ?_
    refine R_aload_n e_X12_fly_5.2.2.1 1 rfl ?_
    refine R_sipush e_X12_fly_5.2.2.2.1 (by decide) ?_
    refine R_callV (mc := 0) (ms := 0) (mc' := 0) (ms' := 0) (M' := M_X12_restores) (d' := 0) (as := [vI 3084]) (st := []) 12 1 e_X12_fly_5.2.2.2.2.1 (kCVof m_X12_restores l_X12_422) rfl (by decide) km_0 (by decide) (by decide) rfl rfl (by show (0 : Nat) ≤ 8; decide) ?_
    refine Run.mono h (fun r25 s26 h => ?_)
    refine R_eqs (st2 := []) rfl rfl ?_
    refine R_iload e_X12_fly_5.2.2.2.2.2.1 0 rfl ?_
    refine R_iload e_X12_fly_5.2.2.2.2.2.2.1 7 rfl ?_
    obtain ⟨q27, h⟩ := h
    obtain ⟨q28, h⟩ := h
    refine R_icmp_gt 114 e_X12_fly_5.2.2.2.2.2.2.2.1 (by decide) q27 q28 (fun q => ?_) (fun q => ?_)
    · replace h := h.1 q
      refine R_iload e_X12_fly_5.2.2.2.2.2.2.2.2.2 0 rfl ?_
      refine R_istore (ls2 := [(6, vI r23), (9, vI r23), (0, vA G 0), (1, vI l1), (2, vI l2), (3, vI l3), (4, vI l4), (5, vI l5), (7, vI l7), (8, vI l8)]) e_X12_fly_6.1 (by decide) rfl ?_
      refine R_iload e_X12_fly_6.2.1 9 rfl ?_
      refine R_istore (ls2 := [(7, vI l8), (6, vI r23), (9, vI r23), (0, vA G 0), (1, vI l1), (2, vI l2), (3, vI l3), (4, vI l4), (5, vI l5), (8, vI l8)]) e_X12_fly_6.2.2.1 (by decide) rfl ?_
      refine R_iinc (ls2 := [(8, vI (l8 + 1)), (7, vI l8), (6, vI r23), (9, vI r23), (0, vA G 0), (1, vI l1), (2, vI l2), (3, vI l3), (4, vI l4), (5, vI l5)]) e_X12_fly_6.2.2.2.1 9 rfl (by decide) rfl ?_
      refine R_goto 77 e_X12_fly_6.2.2.2.2.1 (by decide) ?_
      refine R_ls (ls2 := [(0, vA G 0), (1, vI l1), (2, vI l2), (3, vI l3), (4, vI l4), (5, vI l5), (6, vI r23), (7, vI l8), (8, vI (l8 + 1))]) [4, 5, 6, 7, 8, 9, 2, 1, 0] rfl ?_
      exact h
    · replace h := h.2 q
      refine R_goto 122 e_X12_fly_5.2.2.2.2.2.2.2.2.1 (by decide) ?_
      refine R_iinc (ls2 := [(8, vI (l8 + 1)), (9, vI r23), (0, vA G 0), (1, vI l1), (2, vI l2), (3, vI l3), (4, vI l4), (5, vI l5), (6, vI l6), (7, vI l7)]) e_X12_fly_6.2.2.2.1 9 rfl (by decide) rfl ?_
      refine R_goto 77 e_X12_fly_6.2.2.2.2.1 (by decide) ?_
      refine R_ls (ls2 := [(0, vA G 0), (1, vI l1), (2, vI l2), (3, vI l3), (4, vI l4), (5, vI l5), (6, vI l6), (7, vI l7), (8, vI (l8 + 1))]) [2, 3, 4, 5, 6, 7, 8, 9, 0] rfl ?_
      exact h
theorem S_X12_fly_140 {G : Kg} {σ : Kmem} {Q : Int → Kmem → Prop} {l1 l2 l3 l4 l6 l7 l8 : Int}  (h : (rI l8) ∧ ((l8 < 0 → Run G WM M_X12_gives 0 0 0 [vA G 0, vI l6] σ (fun r30 s31 => Q r30 s31)) ∧ (0 ≤ l8 → (0 ≤ l7 ∧ l7 ≤ 2147483647) ∧ (0 ≤ l8 ∧ l8 < 5) ∧ (0 ≤ l7 ∧ l7 ≤ 2147483647) ∧ E_X12_fly_140 G l6 (l7 / 5) (l8 + (-1)) (kup σ 10 l8 (l7 % 5)) Q))) : E_X12_fly_140 G l6 l7 l8 σ Q := by
  refine R_iload e_X12_fly_7.2.2.1 3 rfl ?_
  obtain ⟨q29, h⟩ := h
  refine R_if_lt 168 e_X12_fly_7.2.2.2.1 (by decide) q29  (fun q => ?_) (fun q => ?_)
  · replace h := h.1 q
    refine R_aload_n e_X12_fly_8.2.2.2.2.2.2.2.1 0 rfl ?_
    refine R_iload e_X12_fly_8.2.2.2.2.2.2.2.2.1 1 rfl ?_
    refine R_callV (mc := 0) (ms := 0) (mc' := 0) (ms' := 0) (M' := M_X12_gives) (d' := 0) (as := [vI l6]) (st := []) 12 1 e_X12_fly_8.2.2.2.2.2.2.2.2.2 (kCVof m_X12_gives l_X12_97) rfl (by decide) km_0 (by decide) (by decide) rfl rfl (by show (0 : Nat) ≤ 8; decide) ?_
    refine Run.mono h (fun r30 s31 h => ?_)
    refine R_eqs (st2 := [vI r30]) rfl rfl ?_
    exact R_ireturn e_X12_fly_9 rfl h
  · replace h := h.2 q
    refine R_aload_n e_X12_fly_7.2.2.2.2.1 0 rfl ?_
    refine R_getA 12 25 10 e_X12_fly_7.2.2.2.2.2.1 f_X12_50 km_0 (fun _ _ => rfl) rm_0_25 (by decide) ?_
    refine R_iload e_X12_fly_7.2.2.2.2.2.2.1 3 rfl ?_
    refine R_iload e_X12_fly_7.2.2.2.2.2.2.2.1 2 rfl ?_
    refine R_iconst e_X12_fly_7.2.2.2.2.2.2.2.2.1 ?_
    obtain ⟨q32, h⟩ := h
    refine R_irem e_X12_fly_7.2.2.2.2.2.2.2.2.2 q32 (by decide) ?_
    obtain ⟨q33, h⟩ := h
    refine R_iast 5 WM_ok e_X12_fly_8.1 kma_10 q33 ?_
    refine R_iload e_X12_fly_8.2.1 2 rfl ?_
    refine R_iconst e_X12_fly_8.2.2.1 ?_
    obtain ⟨q34, h⟩ := h
    refine R_idiv e_X12_fly_8.2.2.2.1 q34 (by decide) ?_
    refine R_istore (ls2 := [(7, vI (l7 / 5)), (0, vA G 0), (6, vI l6), (8, vI l8)]) e_X12_fly_8.2.2.2.2.1 (by decide) rfl ?_
    refine R_iinc (ls2 := [(8, vI (l8 + (-1))), (7, vI (l7 / 5)), (0, vA G 0), (6, vI l6)]) e_X12_fly_8.2.2.2.2.2.1 3 rfl (by decide) rfl ?_
    refine R_goto 140 e_X12_fly_8.2.2.2.2.2.2.1 (by decide) ?_
    refine R_ls (ls2 := [(0, vA G 0), (6, vI l6), (7, vI (l7 / 5)), (8, vI (l8 + (-1)))]) [2, 3, 1, 0] rfl ?_
    exact h
/-! KiteLandModel.flyAt(I)I -/
theorem e_X12_flyAt_0 : decode cX12_flyAt 0 = .ok (.iload_n 1, 1) ∧ decode cX12_flyAt 1 = .ok (.ifCond .ge 11, 3) ∧ decode cX12_flyAt 4 = .ok (.aload_n 0, 1) ∧ decode cX12_flyAt 5 = .ok (.iconst 1, 1) ∧ decode cX12_flyAt 6 = .ok (.invokevirtual 93, 3) ∧ decode cX12_flyAt 9 = .ok (.goto 30, 3) ∧ decode cX12_flyAt 12 = .ok (.iload_n 1, 1) ∧ decode cX12_flyAt 13 = .ok (.aload_n 0, 1) ∧ decode cX12_flyAt 14 = .ok (.getfield 446, 3) ∧ decode cX12_flyAt 17 = .ok (.if_icmp .lt 12, 3) := by decide +kernel
theorem e_X12_flyAt_1 : decode cX12_flyAt 20 = .ok (.aload_n 0, 1) ∧ decode cX12_flyAt 21 = .ok (.bipush 6, 2) ∧ decode cX12_flyAt 23 = .ok (.invokevirtual 93, 3) ∧ decode cX12_flyAt 26 = .ok (.goto 13, 3) ∧ decode cX12_flyAt 29 = .ok (.aload_n 0, 1) ∧ decode cX12_flyAt 30 = .ok (.aload_n 0, 1) ∧ decode cX12_flyAt 31 = .ok (.getfield 50, 3) ∧ decode cX12_flyAt 34 = .ok (.iload_n 1, 1) ∧ decode cX12_flyAt 35 = .ok (.iaload, 1) ∧ decode cX12_flyAt 36 = .ok (.invokevirtual 97, 3) := by decide +kernel
theorem e_X12_flyAt_2 : decode cX12_flyAt 39 = .ok (.ireturn, 1) := by decide +kernel
theorem S_X12_flyAt {G : Kg} {σ : Kmem} {Q : Int → Kmem → Prop} {l1 : Int}  (h : (rI l1) ∧ ((0 ≤ l1 → (rI (σ 0 26)) ∧ ((l1 < σ 0 26 → (0 ≤ l1 ∧ l1 < 5) ∧ Run G WM M_X12_gives 0 0 0 [vA G 0, vI (σ 10 l1)] σ (fun r4 s5 => Q r4 s5)) ∧ (σ 0 26 ≤ l1 → Run G WM M_X12_refuse 0 0 0 [vA G 0, vI 6] σ (fun r6 s7 => Q r6 s7)))) ∧ (l1 < 0 → Run G WM M_X12_refuse 0 0 0 [vA G 0, vI 1] σ (fun r8 s9 => Q r8 s9)))) : Run G WM M_X12_flyAt 1 0 0 [vA G 0, vI l1] σ Q := by
  refine Run.of (by decide +kernel) (by show (2 : Nat) ≤ 2; decide) ?_
  show Ex G WM M_X12_flyAt 1 0 0 0 [(0, vA G 0), (1, vI l1)] [] σ Q
  refine R_iload_n e_X12_flyAt_0.1 1 rfl ?_
  obtain ⟨q1, h⟩ := h
  refine R_if_ge 12 e_X12_flyAt_0.2.1 (by decide) q1  (fun q => ?_) (fun q => ?_)
  · replace h := h.1 q
    refine R_iload_n e_X12_flyAt_0.2.2.2.2.2.2.1 1 rfl ?_
    refine R_aload_n e_X12_flyAt_0.2.2.2.2.2.2.2.1 0 rfl ?_
    refine R_getI 12 26 26 e_X12_flyAt_0.2.2.2.2.2.2.2.2.1 f_X12_446 km_0 (fun _ _ => rfl) rfl ?_
    obtain ⟨q2, h⟩ := h
    refine R_icmp_lt 29 e_X12_flyAt_0.2.2.2.2.2.2.2.2.2 (by decide) q1 q2 (fun q => ?_) (fun q => ?_)
    · replace h := h.1 q
      refine R_aload_n e_X12_flyAt_1.2.2.2.2.1 0 rfl ?_
      refine R_aload_n e_X12_flyAt_1.2.2.2.2.2.1 0 rfl ?_
      refine R_getA 12 25 10 e_X12_flyAt_1.2.2.2.2.2.2.1 f_X12_50 km_0 (fun _ _ => rfl) rm_0_25 (by decide) ?_
      refine R_iload_n e_X12_flyAt_1.2.2.2.2.2.2.2.1 1 rfl ?_
      obtain ⟨q3, h⟩ := h
      refine R_iald 5 e_X12_flyAt_1.2.2.2.2.2.2.2.2.1 kma_10 q3 ?_
      refine R_callV (mc := 0) (ms := 0) (mc' := 0) (ms' := 0) (M' := M_X12_gives) (d' := 0) (as := [vI (σ 10 l1)]) (st := []) 12 1 e_X12_flyAt_1.2.2.2.2.2.2.2.2.2 (kCVof m_X12_gives l_X12_97) rfl (by decide) km_0 (by decide) (by decide) rfl rfl (by show (0 : Nat) ≤ 8; decide) ?_
      refine Run.mono h (fun r4 s5 h => ?_)
      refine R_eqs (st2 := [vI r4]) rfl rfl ?_
      exact R_ireturn e_X12_flyAt_2 rfl h
    · replace h := h.2 q
      refine R_aload_n e_X12_flyAt_1.1 0 rfl ?_
      refine R_bipush e_X12_flyAt_1.2.1 (by decide) ?_
      refine R_callV (mc := 0) (ms := 0) (mc' := 0) (ms' := 0) (M' := M_X12_refuse) (d' := 0) (as := [vI 6]) (st := []) 12 1 e_X12_flyAt_1.2.2.1 (kCVof m_X12_refuse l_X12_93) rfl (by decide) km_0 (by decide) (by decide) rfl rfl (by show (0 : Nat) ≤ 8; decide) ?_
      refine Run.mono h (fun r6 s7 h => ?_)
      refine R_eqs (st2 := [vI r6]) rfl rfl ?_
      refine R_goto 39 e_X12_flyAt_1.2.2.2.1 (by decide) ?_
      exact R_ireturn e_X12_flyAt_2 rfl h
  · replace h := h.2 q
    refine R_aload_n e_X12_flyAt_0.2.2.1 0 rfl ?_
    refine R_iconst e_X12_flyAt_0.2.2.2.1 ?_
    refine R_callV (mc := 0) (ms := 0) (mc' := 0) (ms' := 0) (M' := M_X12_refuse) (d' := 0) (as := [vI 1]) (st := []) 12 1 e_X12_flyAt_0.2.2.2.2.1 (kCVof m_X12_refuse l_X12_93) rfl (by decide) km_0 (by decide) (by decide) rfl rfl (by show (0 : Nat) ≤ 8; decide) ?_
    refine Run.mono h (fun r8 s9 h => ?_)
    refine R_eqs (st2 := [vI r8]) rfl rfl ?_
    refine R_goto 39 e_X12_flyAt_0.2.2.2.2.2.1 (by decide) ?_
    exact R_ireturn e_X12_flyAt_2 rfl h
/-! KiteLandModel.wrongCover(III)I -/
theorem e_X12_wrongCover_0 : decode cX12_wrongCover 0 = .ok (.iload_n 1, 1) ∧ decode cX12_wrongCover 1 = .ok (.invokestatic 104, 3) ∧ decode cX12_wrongCover 4 = .ok (.ifCond .eq 22, 3) ∧ decode cX12_wrongCover 7 = .ok (.iload_n 2, 1) ∧ decode cX12_wrongCover 8 = .ok (.i2l, 1) ∧ decode cX12_wrongCover 9 = .ok (.lconst 1, 1) ∧ decode cX12_wrongCover 10 = .ok (.ldc2_w 449, 3) ∧ decode cX12_wrongCover 13 = .ok (.invokestatic 393, 3) ∧ decode cX12_wrongCover 16 = .ok (.ifCond .eq 10, 3) ∧ decode cX12_wrongCover 19 = .ok (.iload_n 3, 1) := by decide +kernel
theorem e_X12_wrongCover_1 : decode cX12_wrongCover 20 = .ok (.invokestatic 340, 3) ∧ decode cX12_wrongCover 23 = .ok (.ifCond .ne 5, 3) ∧ decode cX12_wrongCover 26 = .ok (.iconst 1, 1) ∧ decode cX12_wrongCover 27 = .ok (.ireturn, 1) ∧ decode cX12_wrongCover 28 = .ok (.aload_n 0, 1) ∧ decode cX12_wrongCover 29 = .ok (.getfield 24, 3) ∧ decode cX12_wrongCover 32 = .ok (.iload_n 1, 1) ∧ decode cX12_wrongCover 33 = .ok (.iaload, 1) ∧ decode cX12_wrongCover 34 = .ok (.iconst (-1), 1) ∧ decode cX12_wrongCover 35 = .ok (.if_icmp .ne 5, 3) := by decide +kernel
theorem e_X12_wrongCover_2 : decode cX12_wrongCover 38 = .ok (.iconst 2, 1) ∧ decode cX12_wrongCover 39 = .ok (.ireturn, 1) ∧ decode cX12_wrongCover 40 = .ok (.aload_n 0, 1) ∧ decode cX12_wrongCover 41 = .ok (.getfield 24, 3) ∧ decode cX12_wrongCover 44 = .ok (.iload_n 1, 1) ∧ decode cX12_wrongCover 45 = .ok (.iaload, 1) ∧ decode cX12_wrongCover 46 = .ok (.iload_n 2, 1) ∧ decode cX12_wrongCover 47 = .ok (.if_icmp .ge 5, 3) ∧ decode cX12_wrongCover 50 = .ok (.iconst 3, 1) ∧ decode cX12_wrongCover 51 = .ok (.ireturn, 1) := by decide +kernel
theorem e_X12_wrongCover_3 : decode cX12_wrongCover 52 = .ok (.iconst 0, 1) ∧ decode cX12_wrongCover 53 = .ok (.istore 4, 2) ∧ decode cX12_wrongCover 55 = .ok (.iload 4, 2) ∧ decode cX12_wrongCover 57 = .ok (.iload_n 2, 1) ∧ decode cX12_wrongCover 58 = .ok (.if_icmp .ge 72, 3) ∧ decode cX12_wrongCover 61 = .ok (.aload_n 0, 1) ∧ decode cX12_wrongCover 62 = .ok (.getfield 27, 3) ∧ decode cX12_wrongCover 65 = .ok (.bipush 60, 2) ∧ decode cX12_wrongCover 67 = .ok (.iload_n 1, 1) ∧ decode cX12_wrongCover 68 = .ok (.imul, 1) := by decide +kernel
theorem e_X12_wrongCover_4 : decode cX12_wrongCover 69 = .ok (.iload 4, 2) ∧ decode cX12_wrongCover 71 = .ok (.iadd, 1) ∧ decode cX12_wrongCover 72 = .ok (.laload, 1) ∧ decode cX12_wrongCover 73 = .ok (.lconst 0, 1) ∧ decode cX12_wrongCover 74 = .ok (.ldc2_w 451, 3) ∧ decode cX12_wrongCover 77 = .ok (.invokestatic 393, 3) ∧ decode cX12_wrongCover 80 = .ok (.ifCond .eq 42, 3) ∧ decode cX12_wrongCover 83 = .ok (.aload_n 0, 1) ∧ decode cX12_wrongCover 84 = .ok (.aload_n 0, 1) ∧ decode cX12_wrongCover 85 = .ok (.getfield 27, 3) := by decide +kernel
theorem e_X12_wrongCover_5 : decode cX12_wrongCover 88 = .ok (.bipush 60, 2) ∧ decode cX12_wrongCover 90 = .ok (.iload_n 1, 1) ∧ decode cX12_wrongCover 91 = .ok (.imul, 1) ∧ decode cX12_wrongCover 92 = .ok (.iload 4, 2) ∧ decode cX12_wrongCover 94 = .ok (.iadd, 1) ∧ decode cX12_wrongCover 95 = .ok (.laload, 1) ∧ decode cX12_wrongCover 96 = .ok (.l2i, 1) ∧ decode cX12_wrongCover 97 = .ok (.bipush 10, 2) ∧ decode cX12_wrongCover 99 = .ok (.irem, 1) ∧ decode cX12_wrongCover 100 = .ok (.aload_n 0, 1) := by decide +kernel
theorem e_X12_wrongCover_6 : decode cX12_wrongCover 101 = .ok (.getfield 27, 3) ∧ decode cX12_wrongCover 104 = .ok (.bipush 60, 2) ∧ decode cX12_wrongCover 106 = .ok (.iload_n 1, 1) ∧ decode cX12_wrongCover 107 = .ok (.imul, 1) ∧ decode cX12_wrongCover 108 = .ok (.iload 4, 2) ∧ decode cX12_wrongCover 110 = .ok (.iadd, 1) ∧ decode cX12_wrongCover 111 = .ok (.laload, 1) ∧ decode cX12_wrongCover 112 = .ok (.l2i, 1) ∧ decode cX12_wrongCover 113 = .ok (.bipush 10, 2) ∧ decode cX12_wrongCover 115 = .ok (.idiv, 1) := by decide +kernel
theorem e_X12_wrongCover_7 : decode cX12_wrongCover 116 = .ok (.invokevirtual 355, 3) ∧ decode cX12_wrongCover 119 = .ok (.ifCond .ne 5, 3) ∧ decode cX12_wrongCover 122 = .ok (.iconst 5, 1) ∧ decode cX12_wrongCover 123 = .ok (.ireturn, 1) ∧ decode cX12_wrongCover 124 = .ok (.iinc 4 1, 3) ∧ decode cX12_wrongCover 127 = .ok (.goto (-72), 3) ∧ decode cX12_wrongCover 130 = .ok (.iconst 0, 1) ∧ decode cX12_wrongCover 131 = .ok (.ireturn, 1) := by decide +kernel
abbrev E_X12_wrongCover_55 (G : Kg) (l1 l2 l4 : Int) (σ : Kmem) (Q : Int → Kmem → Prop) : Prop := Ex G WM M_X12_wrongCover 1 0 0 55 [(0, vA G 0), (1, vI l1), (2, vI l2), (4, vI l4)] [] σ Q
theorem S_X12_wrongCover {G : Kg} {σ : Kmem} {Q : Int → Kmem → Prop} {l1 l2 l3 : Int}  (h : Run G WM M_X12_isTray 0 0 0 [vI l1] σ (fun r1 s2 => (rI r1) ∧ ((r1 = 0 → Q 1 s2) ∧ (r1 ≠ 0 → (rI l2) ∧ Run G WM M_X12_isFrom 0 0 0 [vL l2, vL 1, vL 20] s2 (fun r5 s6 => (rI r5) ∧ ((r5 = 0 → Q 1 s6) ∧ (r5 ≠ 0 → Run G WM M_X12_isHour 0 0 0 [vI l3] s6 (fun r8 s9 => (rI r8) ∧ ((r8 ≠ 0 → (0 ≤ l1 ∧ l1 < 4) ∧ (rI (s9 4 l1)) ∧ ((s9 4 l1 ≠ -1 → (0 ≤ l1 ∧ l1 < 4) ∧ ((l2 ≤ s9 4 l1 → E_X12_wrongCover_55 G l1 l2 0 s9 Q) ∧ (s9 4 l1 < l2 → Q 3 s9))) ∧ (s9 4 l1 = -1 → Q 2 s9))) ∧ (r8 = 0 → Q 1 s9)))))))))) : Run G WM M_X12_wrongCover 1 0 0 [vA G 0, vI l1, vI l2, vI l3] σ Q := by
  refine Run.of (by decide +kernel) (by show (4 : Nat) ≤ 5; decide) ?_
  show Ex G WM M_X12_wrongCover 1 0 0 0 [(0, vA G 0), (1, vI l1), (2, vI l2), (3, vI l3)] [] σ Q
  refine R_iload_n e_X12_wrongCover_0.1 1 rfl ?_
  refine R_callS (mc := 0) (ms := 0) (mc' := 0) (ms' := 0) (M' := M_X12_isTray) (d' := 0) (as := [vI l1]) (st := []) 1 e_X12_wrongCover_0.2.1 (kCSof m_X12_isTray l_X12_104) (by decide) (by decide) rfl rfl (by show (0 : Nat) ≤ 8; decide) ?_
  refine Run.mono h (fun r1 s2 h => ?_)
  refine R_eqs (st2 := [vI r1]) rfl rfl ?_
  obtain ⟨q3, h⟩ := h
  refine R_if_eq 26 e_X12_wrongCover_0.2.2.1 (by decide) q3  (fun q => ?_) (fun q => ?_)
  · replace h := h.1 q
    refine R_iconst e_X12_wrongCover_1.2.2.1 ?_
    exact R_ireturn e_X12_wrongCover_1.2.2.2.1 rfl h
  · replace h := h.2 q
    refine R_iload_n e_X12_wrongCover_0.2.2.2.1 2 rfl ?_
    obtain ⟨q4, h⟩ := h
    refine R_i2l e_X12_wrongCover_0.2.2.2.2.1 q4 ?_
    refine R_lconst 1 e_X12_wrongCover_0.2.2.2.2.2.1 (by decide) ?_
    refine R_ldc2 (20) k_X12_449 e_X12_wrongCover_0.2.2.2.2.2.2.1 ?_
    refine R_callS (mc := 0) (ms := 0) (mc' := 0) (ms' := 0) (M' := M_X12_isFrom) (d' := 0) (as := [vL l2, vL 1, vL 20]) (st := []) 3 e_X12_wrongCover_0.2.2.2.2.2.2.2.1 (kCSof m_X12_isFrom l_X12_393) (by decide) (by decide) rfl rfl (by show (0 : Nat) ≤ 8; decide) ?_
    refine Run.mono h (fun r5 s6 h => ?_)
    refine R_eqs (st2 := [vI r5]) rfl rfl ?_
    obtain ⟨q7, h⟩ := h
    refine R_if_eq 26 e_X12_wrongCover_0.2.2.2.2.2.2.2.2.1 (by decide) q7  (fun q => ?_) (fun q => ?_)
    · replace h := h.1 q
      refine R_iconst e_X12_wrongCover_1.2.2.1 ?_
      exact R_ireturn e_X12_wrongCover_1.2.2.2.1 rfl h
    · replace h := h.2 q
      refine R_iload_n e_X12_wrongCover_0.2.2.2.2.2.2.2.2.2 3 rfl ?_
      refine R_callS (mc := 0) (ms := 0) (mc' := 0) (ms' := 0) (M' := M_X12_isHour) (d' := 0) (as := [vI l3]) (st := []) 1 e_X12_wrongCover_1.1 (kCSof m_X12_isHour l_X12_340) (by decide) (by decide) rfl rfl (by show (0 : Nat) ≤ 8; decide) ?_
      refine Run.mono h (fun r8 s9 h => ?_)
      refine R_eqs (st2 := [vI r8]) rfl rfl ?_
      obtain ⟨q10, h⟩ := h
      refine R_if_ne 28 e_X12_wrongCover_1.2.1 (by decide) q10  (fun q => ?_) (fun q => ?_)
      · replace h := h.1 q
        refine R_aload_n e_X12_wrongCover_1.2.2.2.2.1 0 rfl ?_
        refine R_getA 12 6 4 e_X12_wrongCover_1.2.2.2.2.2.1 f_X12_24 km_0 (fun _ _ => rfl) rm_0_6 (by decide) ?_
        refine R_iload_n e_X12_wrongCover_1.2.2.2.2.2.2.1 1 rfl ?_
        obtain ⟨q11, h⟩ := h
        refine R_iald 4 e_X12_wrongCover_1.2.2.2.2.2.2.2.1 kma_4 q11 ?_
        refine R_iconst e_X12_wrongCover_1.2.2.2.2.2.2.2.2.1 ?_
        obtain ⟨q12, h⟩ := h
        refine R_icmp_ne 40 e_X12_wrongCover_1.2.2.2.2.2.2.2.2.2 (by decide) q12 (by decide) (fun q => ?_) (fun q => ?_)
        · replace h := h.1 q
          refine R_aload_n e_X12_wrongCover_2.2.2.1 0 rfl ?_
          refine R_getA 12 6 4 e_X12_wrongCover_2.2.2.2.1 f_X12_24 km_0 (fun _ _ => rfl) rm_0_6 (by decide) ?_
          refine R_iload_n e_X12_wrongCover_2.2.2.2.2.1 1 rfl ?_
          obtain ⟨q13, h⟩ := h
          refine R_iald 4 e_X12_wrongCover_2.2.2.2.2.2.1 kma_4 q13 ?_
          refine R_iload_n e_X12_wrongCover_2.2.2.2.2.2.2.1 2 rfl ?_
          refine R_icmp_ge 52 e_X12_wrongCover_2.2.2.2.2.2.2.2.1 (by decide) q12 q4 (fun q => ?_) (fun q => ?_)
          · replace h := h.1 q
            refine R_iconst e_X12_wrongCover_3.1 ?_
            refine R_istore (ls2 := [(4, vI 0), (0, vA G 0), (1, vI l1), (2, vI l2), (3, vI l3)]) e_X12_wrongCover_3.2.1 (by decide) rfl ?_
            refine R_ls (ls2 := [(0, vA G 0), (1, vI l1), (2, vI l2), (4, vI 0)]) [1, 2, 3, 0] rfl ?_
            exact h
          · replace h := h.2 q
            refine R_iconst e_X12_wrongCover_2.2.2.2.2.2.2.2.2.1 ?_
            exact R_ireturn e_X12_wrongCover_2.2.2.2.2.2.2.2.2.2 rfl h
        · replace h := h.2 q
          refine R_iconst e_X12_wrongCover_2.1 ?_
          exact R_ireturn e_X12_wrongCover_2.2.1 rfl h
      · replace h := h.2 q
        refine R_iconst e_X12_wrongCover_1.2.2.1 ?_
        exact R_ireturn e_X12_wrongCover_1.2.2.2.1 rfl h
theorem S_X12_wrongCover_55 {G : Kg} {σ : Kmem} {Q : Int → Kmem → Prop} {l1 l2 l3 l4 : Int}  (h : (rI l4) ∧ (rI l2) ∧ ((l2 ≤ l4 → Q 0 σ) ∧ (l4 < l2 → (0 ≤ (60 * l1) + l4 ∧ (60 * l1) + l4 < 240) ∧ Run G WM M_X12_isFrom 0 0 0 [vL (σ 5 ((60 * l1) + l4)), vL 0, vL 69] σ (fun r17 s18 => (rI r17) ∧ ((r17 = 0 → Q 5 s18) ∧ (r17 ≠ 0 → (0 ≤ (60 * l1) + l4 ∧ (60 * l1) + l4 < 240) ∧ (0 ≤ s18 5 ((60 * l1) + l4) ∧ s18 5 ((60 * l1) + l4) ≤ 2147483647) ∧ (0 ≤ (60 * l1) + l4 ∧ (60 * l1) + l4 < 240) ∧ (0 ≤ s18 5 ((60 * l1) + l4) ∧ s18 5 ((60 * l1) + l4) ≤ 2147483647) ∧ Run G WM M_X12_isField 0 0 0 [vA G 0, vI ((s18 5 ((60 * l1) + l4)) % 10), vI ((s18 5 ((60 * l1) + l4)) / 10)] s18 (fun r24 s25 => (rI r24) ∧ ((r24 ≠ 0 → E_X12_wrongCover_55 G l1 l2 (l4 + 1) s25 Q) ∧ (r24 = 0 → Q 5 s25))))))))) : E_X12_wrongCover_55 G l1 l2 l4 σ Q := by
  refine R_iload e_X12_wrongCover_3.2.2.1 3 rfl ?_
  refine R_iload_n e_X12_wrongCover_3.2.2.2.1 2 rfl ?_
  obtain ⟨q14, h⟩ := h
  obtain ⟨q15, h⟩ := h
  refine R_icmp_ge 130 e_X12_wrongCover_3.2.2.2.2.1 (by decide) q14 q15 (fun q => ?_) (fun q => ?_)
  · replace h := h.1 q
    refine R_iconst e_X12_wrongCover_7.2.2.2.2.2.2.1 ?_
    exact R_ireturn e_X12_wrongCover_7.2.2.2.2.2.2.2 rfl h
  · replace h := h.2 q
    refine R_aload_n e_X12_wrongCover_3.2.2.2.2.2.1 0 rfl ?_
    refine R_getA 12 7 5 e_X12_wrongCover_3.2.2.2.2.2.2.1 f_X12_27 km_0 (fun _ _ => rfl) rm_0_7 (by decide) ?_
    refine R_bipush e_X12_wrongCover_3.2.2.2.2.2.2.2.1 (by decide) ?_
    refine R_iload_n e_X12_wrongCover_3.2.2.2.2.2.2.2.2.1 1 rfl ?_
    refine R_imul e_X12_wrongCover_3.2.2.2.2.2.2.2.2.2 ?_
    refine R_iload e_X12_wrongCover_4.1 3 rfl ?_
    refine R_iadd e_X12_wrongCover_4.2.1 ?_
    obtain ⟨q16, h⟩ := h
    refine R_lald 240 e_X12_wrongCover_4.2.2.1 kma_5 q16 ?_
    refine R_lconst 0 e_X12_wrongCover_4.2.2.2.1 (by decide) ?_
    refine R_ldc2 (69) k_X12_451 e_X12_wrongCover_4.2.2.2.2.1 ?_
    refine R_callS (mc := 0) (ms := 0) (mc' := 0) (ms' := 0) (M' := M_X12_isFrom) (d' := 0) (as := [vL (σ 5 ((60 * l1) + l4)), vL 0, vL 69]) (st := []) 3 e_X12_wrongCover_4.2.2.2.2.2.1 (kCSof m_X12_isFrom l_X12_393) (by decide) (by decide) rfl rfl (by show (0 : Nat) ≤ 8; decide) ?_
    refine Run.mono h (fun r17 s18 h => ?_)
    refine R_eqs (st2 := [vI r17]) rfl rfl ?_
    obtain ⟨q19, h⟩ := h
    refine R_if_eq 122 e_X12_wrongCover_4.2.2.2.2.2.2.1 (by decide) q19  (fun q => ?_) (fun q => ?_)
    · replace h := h.1 q
      refine R_iconst e_X12_wrongCover_7.2.2.1 ?_
      exact R_ireturn e_X12_wrongCover_7.2.2.2.1 rfl h
    · replace h := h.2 q
      refine R_aload_n e_X12_wrongCover_4.2.2.2.2.2.2.2.1 0 rfl ?_
      refine R_aload_n e_X12_wrongCover_4.2.2.2.2.2.2.2.2.1 0 rfl ?_
      refine R_getA 12 7 5 e_X12_wrongCover_4.2.2.2.2.2.2.2.2.2 f_X12_27 km_0 (fun _ _ => rfl) rm_0_7 (by decide) ?_
      refine R_bipush e_X12_wrongCover_5.1 (by decide) ?_
      refine R_iload_n e_X12_wrongCover_5.2.1 1 rfl ?_
      refine R_imul e_X12_wrongCover_5.2.2.1 ?_
      refine R_iload e_X12_wrongCover_5.2.2.2.1 3 rfl ?_
      refine R_iadd e_X12_wrongCover_5.2.2.2.2.1 ?_
      obtain ⟨q20, h⟩ := h
      refine R_lald 240 e_X12_wrongCover_5.2.2.2.2.2.1 kma_5 q20 ?_
      refine R_l2i e_X12_wrongCover_5.2.2.2.2.2.2.1 ?_
      refine R_bipush e_X12_wrongCover_5.2.2.2.2.2.2.2.1 (by decide) ?_
      obtain ⟨q21, h⟩ := h
      refine R_irem e_X12_wrongCover_5.2.2.2.2.2.2.2.2.1 q21 (by decide) ?_
      refine R_aload_n e_X12_wrongCover_5.2.2.2.2.2.2.2.2.2 0 rfl ?_
      refine R_getA 12 7 5 e_X12_wrongCover_6.1 f_X12_27 km_0 (fun _ _ => rfl) rm_0_7 (by decide) ?_
      refine R_bipush e_X12_wrongCover_6.2.1 (by decide) ?_
      refine R_iload_n e_X12_wrongCover_6.2.2.1 1 rfl ?_
      refine R_imul e_X12_wrongCover_6.2.2.2.1 ?_
      refine R_iload e_X12_wrongCover_6.2.2.2.2.1 3 rfl ?_
      refine R_iadd e_X12_wrongCover_6.2.2.2.2.2.1 ?_
      obtain ⟨q22, h⟩ := h
      refine R_lald 240 e_X12_wrongCover_6.2.2.2.2.2.2.1 kma_5 q22 ?_
      refine R_l2i e_X12_wrongCover_6.2.2.2.2.2.2.2.1 ?_
      refine R_bipush e_X12_wrongCover_6.2.2.2.2.2.2.2.2.1 (by decide) ?_
      obtain ⟨q23, h⟩ := h
      refine R_idiv e_X12_wrongCover_6.2.2.2.2.2.2.2.2.2 q23 (by decide) ?_
      refine R_callV (mc := 0) (ms := 0) (mc' := 0) (ms' := 0) (M' := M_X12_isField) (d' := 0) (as := [vI ((s18 5 ((60 * l1) + l4)) % 10), vI ((s18 5 ((60 * l1) + l4)) / 10)]) (st := []) 12 2 e_X12_wrongCover_7.1 (kCVof m_X12_isField l_X12_355) rfl (by decide) km_0 (by decide) (by decide) rfl rfl (by show (0 : Nat) ≤ 8; decide) ?_
      refine Run.mono h (fun r24 s25 h => ?_)
      refine R_eqs (st2 := [vI r24]) rfl rfl ?_
      obtain ⟨q26, h⟩ := h
      refine R_if_ne 124 e_X12_wrongCover_7.2.1 (by decide) q26  (fun q => ?_) (fun q => ?_)
      · replace h := h.1 q
        refine R_iinc (ls2 := [(4, vI (l4 + 1)), (0, vA G 0), (1, vI l1), (2, vI l2)]) e_X12_wrongCover_7.2.2.2.2.1 3 rfl (by decide) rfl ?_
        refine R_goto 55 e_X12_wrongCover_7.2.2.2.2.2.1 (by decide) ?_
        refine R_ls (ls2 := [(0, vA G 0), (1, vI l1), (2, vI l2), (4, vI (l4 + 1))]) [1, 2, 3, 0] rfl ?_
        exact h
      · replace h := h.2 q
        refine R_iconst e_X12_wrongCover_7.2.2.1 ?_
        exact R_ireturn e_X12_wrongCover_7.2.2.2.1 rfl h
/-! KiteLandModel.coverOf(III)I -/
theorem e_X12_coverOf_0 : decode cX12_coverOf 0 = .ok (.iconst (-1), 1) ∧ decode cX12_coverOf 1 = .ok (.istore 4, 2) ∧ decode cX12_coverOf 3 = .ok (.iconst 0, 1) ∧ decode cX12_coverOf 4 = .ok (.istore 5, 2) ∧ decode cX12_coverOf 6 = .ok (.iload 5, 2) ∧ decode cX12_coverOf 8 = .ok (.iconst 1, 1) ∧ decode cX12_coverOf 9 = .ok (.aload_n 0, 1) ∧ decode cX12_coverOf 10 = .ok (.getfield 7, 3) ∧ decode cX12_coverOf 13 = .ok (.iconst 2, 1) ∧ decode cX12_coverOf 14 = .ok (.iaload, 1) := by decide +kernel
theorem e_X12_coverOf_1 : decode cX12_coverOf 15 = .ok (.ishl, 1) ∧ decode cX12_coverOf 16 = .ok (.if_icmp .ge 114, 3) ∧ decode cX12_coverOf 19 = .ok (.iload 4, 2) ∧ decode cX12_coverOf 21 = .ok (.iconst (-1), 1) ∧ decode cX12_coverOf 22 = .ok (.if_icmp .eq 16, 3) ∧ decode cX12_coverOf 25 = .ok (.iload 5, 2) ∧ decode cX12_coverOf 27 = .ok (.invokestatic 302, 3) ∧ decode cX12_coverOf 30 = .ok (.iload 4, 2) ∧ decode cX12_coverOf 32 = .ok (.invokestatic 302, 3) ∧ decode cX12_coverOf 35 = .ok (.if_icmp .ge 7, 3) := by decide +kernel
theorem e_X12_coverOf_2 : decode cX12_coverOf 38 = .ok (.iconst 1, 1) ∧ decode cX12_coverOf 39 = .ok (.goto 4, 3) ∧ decode cX12_coverOf 42 = .ok (.iconst 0, 1) ∧ decode cX12_coverOf 43 = .ok (.istore 6, 2) ∧ decode cX12_coverOf 45 = .ok (.iconst 0, 1) ∧ decode cX12_coverOf 46 = .ok (.istore 7, 2) ∧ decode cX12_coverOf 48 = .ok (.iload 7, 2) ∧ decode cX12_coverOf 50 = .ok (.iload_n 2, 1) ∧ decode cX12_coverOf 51 = .ok (.if_icmp .ge 64, 3) ∧ decode cX12_coverOf 54 = .ok (.iload 6, 2) := by decide +kernel
theorem e_X12_coverOf_3 : decode cX12_coverOf 56 = .ok (.ifCond .eq 50, 3) ∧ decode cX12_coverOf 59 = .ok (.aload_n 0, 1) ∧ decode cX12_coverOf 60 = .ok (.aload_n 0, 1) ∧ decode cX12_coverOf 61 = .ok (.getfield 27, 3) ∧ decode cX12_coverOf 64 = .ok (.bipush 60, 2) ∧ decode cX12_coverOf 66 = .ok (.iload_n 1, 1) ∧ decode cX12_coverOf 67 = .ok (.imul, 1) ∧ decode cX12_coverOf 68 = .ok (.iload 7, 2) ∧ decode cX12_coverOf 70 = .ok (.iadd, 1) ∧ decode cX12_coverOf 71 = .ok (.laload, 1) := by decide +kernel
theorem e_X12_coverOf_4 : decode cX12_coverOf 72 = .ok (.l2i, 1) ∧ decode cX12_coverOf 73 = .ok (.bipush 10, 2) ∧ decode cX12_coverOf 75 = .ok (.irem, 1) ∧ decode cX12_coverOf 76 = .ok (.aload_n 0, 1) ∧ decode cX12_coverOf 77 = .ok (.getfield 27, 3) ∧ decode cX12_coverOf 80 = .ok (.bipush 60, 2) ∧ decode cX12_coverOf 82 = .ok (.iload_n 1, 1) ∧ decode cX12_coverOf 83 = .ok (.imul, 1) ∧ decode cX12_coverOf 84 = .ok (.iload 7, 2) ∧ decode cX12_coverOf 86 = .ok (.iadd, 1) := by decide +kernel
theorem e_X12_coverOf_5 : decode cX12_coverOf 87 = .ok (.laload, 1) ∧ decode cX12_coverOf 88 = .ok (.l2i, 1) ∧ decode cX12_coverOf 89 = .ok (.bipush 10, 2) ∧ decode cX12_coverOf 91 = .ok (.idiv, 1) ∧ decode cX12_coverOf 92 = .ok (.iload_n 3, 1) ∧ decode cX12_coverOf 93 = .ok (.invokevirtual 305, 3) ∧ decode cX12_coverOf 96 = .ok (.iload 5, 2) ∧ decode cX12_coverOf 98 = .ok (.iand, 1) ∧ decode cX12_coverOf 99 = .ok (.ifCond .eq 7, 3) ∧ decode cX12_coverOf 102 = .ok (.iconst 1, 1) := by decide +kernel
theorem e_X12_coverOf_6 : decode cX12_coverOf 103 = .ok (.goto 4, 3) ∧ decode cX12_coverOf 106 = .ok (.iconst 0, 1) ∧ decode cX12_coverOf 107 = .ok (.istore 6, 2) ∧ decode cX12_coverOf 109 = .ok (.iinc 7 1, 3) ∧ decode cX12_coverOf 112 = .ok (.goto (-64), 3) ∧ decode cX12_coverOf 115 = .ok (.iload 6, 2) ∧ decode cX12_coverOf 117 = .ok (.ifCond .eq 7, 3) ∧ decode cX12_coverOf 120 = .ok (.iload 5, 2) ∧ decode cX12_coverOf 122 = .ok (.istore 4, 2) ∧ decode cX12_coverOf 124 = .ok (.iinc 5 1, 3) := by decide +kernel
theorem e_X12_coverOf_7 : decode cX12_coverOf 127 = .ok (.goto (-121), 3) ∧ decode cX12_coverOf 130 = .ok (.iload 4, 2) ∧ decode cX12_coverOf 132 = .ok (.ireturn, 1) := by decide +kernel
abbrev E_X12_coverOf_6 (G : Kg) (l1 l2 l3 l4 l5 : Int) (σ : Kmem) (Q : Int → Kmem → Prop) : Prop := Ex G WM M_X12_coverOf 6 0 0 6 [(0, vA G 0), (1, vI l1), (2, vI l2), (3, vI l3), (4, vI l4), (5, vI l5)] [] σ Q
abbrev E_X12_coverOf_48 (G : Kg) (l1 l2 l3 l4 l5 l6 l7 : Int) (σ : Kmem) (Q : Int → Kmem → Prop) : Prop := Ex G WM M_X12_coverOf 6 0 0 48 [(0, vA G 0), (1, vI l1), (2, vI l2), (3, vI l3), (4, vI l4), (5, vI l5), (6, vI l6), (7, vI l7)] [] σ Q
theorem S_X12_coverOf {G : Kg} {σ : Kmem} {Q : Int → Kmem → Prop} {l1 l2 l3 : Int}  (h : E_X12_coverOf_6 G l1 l2 l3 (-1) 0 σ Q) : Run G WM M_X12_coverOf 6 0 0 [vA G 0, vI l1, vI l2, vI l3] σ Q := by
  refine Run.of (by decide +kernel) (by show (4 : Nat) ≤ 8; decide) ?_
  show Ex G WM M_X12_coverOf 6 0 0 0 [(0, vA G 0), (1, vI l1), (2, vI l2), (3, vI l3)] [] σ Q
  refine R_iconst e_X12_coverOf_0.1 ?_
  refine R_istore (ls2 := [(4, vI (-1)), (0, vA G 0), (1, vI l1), (2, vI l2), (3, vI l3)]) e_X12_coverOf_0.2.1 (by decide) rfl ?_
  refine R_iconst e_X12_coverOf_0.2.2.1 ?_
  refine R_istore (ls2 := [(5, vI 0), (4, vI (-1)), (0, vA G 0), (1, vI l1), (2, vI l2), (3, vI l3)]) e_X12_coverOf_0.2.2.2.1 (by decide) rfl ?_
  refine R_ls (ls2 := [(0, vA G 0), (1, vI l1), (2, vI l2), (3, vI l3), (4, vI (-1)), (5, vI 0)]) [2, 3, 4, 5, 1, 0] rfl ?_
  exact h
theorem S_X12_coverOf_6 {G : Kg} {σ : Kmem} {Q : Int → Kmem → Prop} {l1 l2 l3 l4 l5 : Int}  (h : (rI l5) ∧ (rI (kshl 1 (σ 1 2))) ∧ ((kshl 1 (σ 1 2) ≤ l5 → Q l4 σ) ∧ (l5 < kshl 1 (σ 1 2) → (rI l4) ∧ ((l4 = -1 → E_X12_coverOf_48 G l1 l2 l3 l4 l5 1 0 σ Q) ∧ (l4 ≠ -1 → Run G WM M_X12_bits 0 0 0 [vI l5] σ (fun r4 s5 => Run G WM M_X12_bits 0 0 0 [vI l4] s5 (fun r6 s7 => (rI r4) ∧ (rI r6) ∧ ((r6 ≤ r4 → E_X12_coverOf_48 G l1 l2 l3 l4 l5 0 0 s7 Q) ∧ (r4 < r6 → E_X12_coverOf_48 G l1 l2 l3 l4 l5 1 0 s7 Q))))))))) : E_X12_coverOf_6 G l1 l2 l3 l4 l5 σ Q := by
  refine R_iload e_X12_coverOf_0.2.2.2.2.1 5 rfl ?_
  refine R_iconst e_X12_coverOf_0.2.2.2.2.2.1 ?_
  refine R_aload_n e_X12_coverOf_0.2.2.2.2.2.2.1 0 rfl ?_
  refine R_getA 12 0 1 e_X12_coverOf_0.2.2.2.2.2.2.2.1 f_X12_7 km_0 (fun _ _ => rfl) rm_0_0 (by decide) ?_
  refine R_iconst e_X12_coverOf_0.2.2.2.2.2.2.2.2.1 ?_
  refine R_iald 3598 e_X12_coverOf_0.2.2.2.2.2.2.2.2.2 kma_1 (by decide) ?_
  refine R_ishl e_X12_coverOf_1.1 ?_
  obtain ⟨q1, h⟩ := h
  obtain ⟨q2, h⟩ := h
  refine R_icmp_ge 130 e_X12_coverOf_1.2.1 (by decide) q1 q2 (fun q => ?_) (fun q => ?_)
  · replace h := h.1 q
    refine R_iload e_X12_coverOf_7.2.1 4 rfl ?_
    exact R_ireturn e_X12_coverOf_7.2.2 rfl h
  · replace h := h.2 q
    refine R_iload e_X12_coverOf_1.2.2.1 4 rfl ?_
    refine R_iconst e_X12_coverOf_1.2.2.2.1 ?_
    obtain ⟨q3, h⟩ := h
    refine R_icmp_eq 38 e_X12_coverOf_1.2.2.2.2.1 (by decide) q3 (by decide) (fun q => ?_) (fun q => ?_)
    · replace h := h.1 q
      refine R_iconst e_X12_coverOf_2.1 ?_
      refine R_goto 43 e_X12_coverOf_2.2.1 (by decide) ?_
      refine R_istore (ls2 := [(6, vI 1), (0, vA G 0), (1, vI l1), (2, vI l2), (3, vI l3), (4, vI l4), (5, vI l5)]) e_X12_coverOf_2.2.2.2.1 (by decide) rfl ?_
      refine R_iconst e_X12_coverOf_2.2.2.2.2.1 ?_
      refine R_istore (ls2 := [(7, vI 0), (6, vI 1), (0, vA G 0), (1, vI l1), (2, vI l2), (3, vI l3), (4, vI l4), (5, vI l5)]) e_X12_coverOf_2.2.2.2.2.2.1 (by decide) rfl ?_
      refine R_ls (ls2 := [(0, vA G 0), (1, vI l1), (2, vI l2), (3, vI l3), (4, vI l4), (5, vI l5), (6, vI 1), (7, vI 0)]) [2, 3, 4, 5, 6, 7, 1, 0] rfl ?_
      exact h
    · replace h := h.2 q
      refine R_iload e_X12_coverOf_1.2.2.2.2.2.1 5 rfl ?_
      refine R_callS (mc := 0) (ms := 0) (mc' := 0) (ms' := 0) (M' := M_X12_bits) (d' := 0) (as := [vI l5]) (st := []) 1 e_X12_coverOf_1.2.2.2.2.2.2.1 (kCSof m_X12_bits l_X12_302) (by decide) (by decide) rfl rfl (by show (0 : Nat) ≤ 8; decide) ?_
      refine Run.mono h (fun r4 s5 h => ?_)
      refine R_eqs (st2 := [vI r4]) rfl rfl ?_
      refine R_iload e_X12_coverOf_1.2.2.2.2.2.2.2.1 4 rfl ?_
      refine R_callS (mc := 0) (ms := 0) (mc' := 0) (ms' := 0) (M' := M_X12_bits) (d' := 0) (as := [vI l4]) (st := [vI r4]) 1 e_X12_coverOf_1.2.2.2.2.2.2.2.2.1 (kCSof m_X12_bits l_X12_302) (by decide) (by decide) rfl rfl (by show (1 : Nat) ≤ 8; decide) ?_
      refine Run.mono h (fun r6 s7 h => ?_)
      refine R_eqs (st2 := [vI r6, vI r4]) rfl rfl ?_
      obtain ⟨q8, h⟩ := h
      obtain ⟨q9, h⟩ := h
      refine R_icmp_ge 42 e_X12_coverOf_1.2.2.2.2.2.2.2.2.2 (by decide) q8 q9 (fun q => ?_) (fun q => ?_)
      · replace h := h.1 q
        refine R_iconst e_X12_coverOf_2.2.2.1 ?_
        refine R_istore (ls2 := [(6, vI 0), (0, vA G 0), (1, vI l1), (2, vI l2), (3, vI l3), (4, vI l4), (5, vI l5)]) e_X12_coverOf_2.2.2.2.1 (by decide) rfl ?_
        refine R_iconst e_X12_coverOf_2.2.2.2.2.1 ?_
        refine R_istore (ls2 := [(7, vI 0), (6, vI 0), (0, vA G 0), (1, vI l1), (2, vI l2), (3, vI l3), (4, vI l4), (5, vI l5)]) e_X12_coverOf_2.2.2.2.2.2.1 (by decide) rfl ?_
        refine R_ls (ls2 := [(0, vA G 0), (1, vI l1), (2, vI l2), (3, vI l3), (4, vI l4), (5, vI l5), (6, vI 0), (7, vI 0)]) [2, 3, 4, 5, 6, 7, 1, 0] rfl ?_
        exact h
      · replace h := h.2 q
        refine R_iconst e_X12_coverOf_2.1 ?_
        refine R_goto 43 e_X12_coverOf_2.2.1 (by decide) ?_
        refine R_istore (ls2 := [(6, vI 1), (0, vA G 0), (1, vI l1), (2, vI l2), (3, vI l3), (4, vI l4), (5, vI l5)]) e_X12_coverOf_2.2.2.2.1 (by decide) rfl ?_
        refine R_iconst e_X12_coverOf_2.2.2.2.2.1 ?_
        refine R_istore (ls2 := [(7, vI 0), (6, vI 1), (0, vA G 0), (1, vI l1), (2, vI l2), (3, vI l3), (4, vI l4), (5, vI l5)]) e_X12_coverOf_2.2.2.2.2.2.1 (by decide) rfl ?_
        refine R_ls (ls2 := [(0, vA G 0), (1, vI l1), (2, vI l2), (3, vI l3), (4, vI l4), (5, vI l5), (6, vI 1), (7, vI 0)]) [2, 3, 4, 5, 6, 7, 1, 0] rfl ?_
        exact h
theorem S_X12_coverOf_48 {G : Kg} {σ : Kmem} {Q : Int → Kmem → Prop} {l1 l2 l3 l4 l5 l6 l7 : Int}  (h : (rI l7) ∧ (rI l2) ∧ ((l2 ≤ l7 → (rI l6) ∧ ((l6 = 0 → E_X12_coverOf_6 G l1 l2 l3 l4 (l5 + 1) σ Q) ∧ (l6 ≠ 0 → E_X12_coverOf_6 G l1 l2 l3 l5 (l5 + 1) σ Q))) ∧ (l7 < l2 → (rI l6) ∧ ((l6 = 0 → E_X12_coverOf_48 G l1 l2 l3 l4 l5 0 (l7 + 1) σ Q) ∧ (l6 ≠ 0 → (0 ≤ (60 * l1) + l7 ∧ (60 * l1) + l7 < 240) ∧ (0 ≤ σ 5 ((60 * l1) + l7) ∧ σ 5 ((60 * l1) + l7) ≤ 2147483647) ∧ (0 ≤ (60 * l1) + l7 ∧ (60 * l1) + l7 < 240) ∧ (0 ≤ σ 5 ((60 * l1) + l7) ∧ σ 5 ((60 * l1) + l7) ≤ 2147483647) ∧ Run G WM M_X12_shadersOf 5 0 0 [vA G 0, vI ((σ 5 ((60 * l1) + l7)) % 10), vI ((σ 5 ((60 * l1) + l7)) / 10), vI l3] σ (fun r18 s19 => (rI (kand r18 l5)) ∧ ((kand r18 l5 = 0 → E_X12_coverOf_48 G l1 l2 l3 l4 l5 0 (l7 + 1) s19 Q) ∧ (kand r18 l5 ≠ 0 → E_X12_coverOf_48 G l1 l2 l3 l4 l5 1 (l7 + 1) s19 Q)))))))) : E_X12_coverOf_48 G l1 l2 l3 l4 l5 l6 l7 σ Q := by
  refine R_iload e_X12_coverOf_2.2.2.2.2.2.2.1 7 rfl ?_
  refine R_iload_n e_X12_coverOf_2.2.2.2.2.2.2.2.1 2 rfl ?_
  obtain ⟨q10, h⟩ := h
  obtain ⟨q11, h⟩ := h
  refine R_icmp_ge 115 e_X12_coverOf_2.2.2.2.2.2.2.2.2.1 (by decide) q10 q11 (fun q => ?_) (fun q => ?_)
  · replace h := h.1 q
    refine R_iload e_X12_coverOf_6.2.2.2.2.2.1 6 rfl ?_
    obtain ⟨q12, h⟩ := h
    refine R_if_eq 124 e_X12_coverOf_6.2.2.2.2.2.2.1 (by decide) q12  (fun q => ?_) (fun q => ?_)
    · replace h := h.1 q
      refine R_iinc (ls2 := [(5, vI (l5 + 1)), (0, vA G 0), (1, vI l1), (2, vI l2), (3, vI l3), (4, vI l4), (6, vI l6), (7, vI l7)]) e_X12_coverOf_6.2.2.2.2.2.2.2.2.2 5 rfl (by decide) rfl ?_
      refine R_goto 6 e_X12_coverOf_7.1 (by decide) ?_
      refine R_ls (ls2 := [(0, vA G 0), (1, vI l1), (2, vI l2), (3, vI l3), (4, vI l4), (5, vI (l5 + 1))]) [1, 2, 3, 4, 5, 0] rfl ?_
      exact h
    · replace h := h.2 q
      refine R_iload e_X12_coverOf_6.2.2.2.2.2.2.2.1 5 rfl ?_
      refine R_istore (ls2 := [(4, vI l5), (0, vA G 0), (1, vI l1), (2, vI l2), (3, vI l3), (5, vI l5), (6, vI l6), (7, vI l7)]) e_X12_coverOf_6.2.2.2.2.2.2.2.2.1 (by decide) rfl ?_
      refine R_iinc (ls2 := [(5, vI (l5 + 1)), (4, vI l5), (0, vA G 0), (1, vI l1), (2, vI l2), (3, vI l3), (6, vI l6), (7, vI l7)]) e_X12_coverOf_6.2.2.2.2.2.2.2.2.2 5 rfl (by decide) rfl ?_
      refine R_goto 6 e_X12_coverOf_7.1 (by decide) ?_
      refine R_ls (ls2 := [(0, vA G 0), (1, vI l1), (2, vI l2), (3, vI l3), (4, vI l5), (5, vI (l5 + 1))]) [2, 3, 4, 5, 1, 0] rfl ?_
      exact h
  · replace h := h.2 q
    refine R_iload e_X12_coverOf_2.2.2.2.2.2.2.2.2.2 6 rfl ?_
    obtain ⟨q13, h⟩ := h
    refine R_if_eq 106 e_X12_coverOf_3.1 (by decide) q13  (fun q => ?_) (fun q => ?_)
    · replace h := h.1 q
      refine R_iconst e_X12_coverOf_6.2.1 ?_
      refine R_istore (ls2 := [(6, vI 0), (0, vA G 0), (1, vI l1), (2, vI l2), (3, vI l3), (4, vI l4), (5, vI l5), (7, vI l7)]) e_X12_coverOf_6.2.2.1 (by decide) rfl ?_
      refine R_iinc (ls2 := [(7, vI (l7 + 1)), (6, vI 0), (0, vA G 0), (1, vI l1), (2, vI l2), (3, vI l3), (4, vI l4), (5, vI l5)]) e_X12_coverOf_6.2.2.2.1 7 rfl (by decide) rfl ?_
      refine R_goto 48 e_X12_coverOf_6.2.2.2.2.1 (by decide) ?_
      refine R_ls (ls2 := [(0, vA G 0), (1, vI l1), (2, vI l2), (3, vI l3), (4, vI l4), (5, vI l5), (6, vI 0), (7, vI (l7 + 1))]) [2, 3, 4, 5, 6, 7, 1, 0] rfl ?_
      exact h
    · replace h := h.2 q
      refine R_aload_n e_X12_coverOf_3.2.1 0 rfl ?_
      refine R_aload_n e_X12_coverOf_3.2.2.1 0 rfl ?_
      refine R_getA 12 7 5 e_X12_coverOf_3.2.2.2.1 f_X12_27 km_0 (fun _ _ => rfl) rm_0_7 (by decide) ?_
      refine R_bipush e_X12_coverOf_3.2.2.2.2.1 (by decide) ?_
      refine R_iload_n e_X12_coverOf_3.2.2.2.2.2.1 1 rfl ?_
      refine R_imul e_X12_coverOf_3.2.2.2.2.2.2.1 ?_
      refine R_iload e_X12_coverOf_3.2.2.2.2.2.2.2.1 7 rfl ?_
      refine R_iadd e_X12_coverOf_3.2.2.2.2.2.2.2.2.1 ?_
      obtain ⟨q14, h⟩ := h
      refine R_lald 240 e_X12_coverOf_3.2.2.2.2.2.2.2.2.2 kma_5 q14 ?_
      refine R_l2i e_X12_coverOf_4.1 ?_
      refine R_bipush e_X12_coverOf_4.2.1 (by decide) ?_
      obtain ⟨q15, h⟩ := h
      refine R_irem e_X12_coverOf_4.2.2.1 q15 (by decide) ?_
      refine R_aload_n e_X12_coverOf_4.2.2.2.1 0 rfl ?_
      refine R_getA 12 7 5 e_X12_coverOf_4.2.2.2.2.1 f_X12_27 km_0 (fun _ _ => rfl) rm_0_7 (by decide) ?_
      refine R_bipush e_X12_coverOf_4.2.2.2.2.2.1 (by decide) ?_
      refine R_iload_n e_X12_coverOf_4.2.2.2.2.2.2.1 1 rfl ?_
      refine R_imul e_X12_coverOf_4.2.2.2.2.2.2.2.1 ?_
      refine R_iload e_X12_coverOf_4.2.2.2.2.2.2.2.2.1 7 rfl ?_
      refine R_iadd e_X12_coverOf_4.2.2.2.2.2.2.2.2.2 ?_
      obtain ⟨q16, h⟩ := h
      refine R_lald 240 e_X12_coverOf_5.1 kma_5 q16 ?_
      refine R_l2i e_X12_coverOf_5.2.1 ?_
      refine R_bipush e_X12_coverOf_5.2.2.1 (by decide) ?_
      obtain ⟨q17, h⟩ := h
      refine R_idiv e_X12_coverOf_5.2.2.2.1 q17 (by decide) ?_
      refine R_iload_n e_X12_coverOf_5.2.2.2.2.1 3 rfl ?_
      refine R_callV (mc := 0) (ms := 0) (mc' := 0) (ms' := 0) (M' := M_X12_shadersOf) (d' := 5) (as := [vI ((σ 5 ((60 * l1) + l7)) % 10), vI ((σ 5 ((60 * l1) + l7)) / 10), vI l3]) (st := []) 12 3 e_X12_coverOf_5.2.2.2.2.2.1 (kCVof m_X12_shadersOf l_X12_305) rfl (by decide) km_0 (by decide) (by decide) rfl rfl (by show (0 : Nat) ≤ 8; decide) ?_
      refine Run.mono h (fun r18 s19 h => ?_)
      refine R_eqs (st2 := [vI r18]) rfl rfl ?_
      refine R_iload e_X12_coverOf_5.2.2.2.2.2.2.1 5 rfl ?_
      refine R_iand e_X12_coverOf_5.2.2.2.2.2.2.2.1 ?_
      obtain ⟨q20, h⟩ := h
      refine R_if_eq 106 e_X12_coverOf_5.2.2.2.2.2.2.2.2.1 (by decide) q20  (fun q => ?_) (fun q => ?_)
      · replace h := h.1 q
        refine R_iconst e_X12_coverOf_6.2.1 ?_
        refine R_istore (ls2 := [(6, vI 0), (0, vA G 0), (1, vI l1), (2, vI l2), (3, vI l3), (4, vI l4), (5, vI l5), (7, vI l7)]) e_X12_coverOf_6.2.2.1 (by decide) rfl ?_
        refine R_iinc (ls2 := [(7, vI (l7 + 1)), (6, vI 0), (0, vA G 0), (1, vI l1), (2, vI l2), (3, vI l3), (4, vI l4), (5, vI l5)]) e_X12_coverOf_6.2.2.2.1 7 rfl (by decide) rfl ?_
        refine R_goto 48 e_X12_coverOf_6.2.2.2.2.1 (by decide) ?_
        refine R_ls (ls2 := [(0, vA G 0), (1, vI l1), (2, vI l2), (3, vI l3), (4, vI l4), (5, vI l5), (6, vI 0), (7, vI (l7 + 1))]) [2, 3, 4, 5, 6, 7, 1, 0] rfl ?_
        exact h
      · replace h := h.2 q
        refine R_iconst e_X12_coverOf_5.2.2.2.2.2.2.2.2.2 ?_
        refine R_goto 107 e_X12_coverOf_6.1 (by decide) ?_
        refine R_istore (ls2 := [(6, vI 1), (0, vA G 0), (1, vI l1), (2, vI l2), (3, vI l3), (4, vI l4), (5, vI l5), (7, vI l7)]) e_X12_coverOf_6.2.2.1 (by decide) rfl ?_
        refine R_iinc (ls2 := [(7, vI (l7 + 1)), (6, vI 1), (0, vA G 0), (1, vI l1), (2, vI l2), (3, vI l3), (4, vI l4), (5, vI l5)]) e_X12_coverOf_6.2.2.2.1 7 rfl (by decide) rfl ?_
        refine R_goto 48 e_X12_coverOf_6.2.2.2.2.1 (by decide) ?_
        refine R_ls (ls2 := [(0, vA G 0), (1, vI l1), (2, vI l2), (3, vI l3), (4, vI l4), (5, vI l5), (6, vI 1), (7, vI (l7 + 1))]) [2, 3, 4, 5, 6, 7, 1, 0] rfl ?_
        exact h
/-! KiteLandModel.cover(III)I -/
theorem e_X12_cover_0 : decode cX12_cover 0 = .ok (.aload_n 0, 1) ∧ decode cX12_cover 1 = .ok (.iload_n 1, 1) ∧ decode cX12_cover 2 = .ok (.iload_n 2, 1) ∧ decode cX12_cover 3 = .ok (.iload_n 3, 1) ∧ decode cX12_cover 4 = .ok (.invokevirtual 453, 3) ∧ decode cX12_cover 7 = .ok (.istore 4, 2) ∧ decode cX12_cover 9 = .ok (.iload 4, 2) ∧ decode cX12_cover 11 = .ok (.ifCond .le 10, 3) ∧ decode cX12_cover 14 = .ok (.aload_n 0, 1) ∧ decode cX12_cover 15 = .ok (.iload 4, 2) := by decide +kernel
theorem e_X12_cover_1 : decode cX12_cover 17 = .ok (.invokevirtual 93, 3) ∧ decode cX12_cover 20 = .ok (.ireturn, 1) ∧ decode cX12_cover 21 = .ok (.aload_n 0, 1) ∧ decode cX12_cover 22 = .ok (.iload_n 1, 1) ∧ decode cX12_cover 23 = .ok (.iload_n 2, 1) ∧ decode cX12_cover 24 = .ok (.iload_n 3, 1) ∧ decode cX12_cover 25 = .ok (.invokevirtual 456, 3) ∧ decode cX12_cover 28 = .ok (.istore 5, 2) ∧ decode cX12_cover 30 = .ok (.iload 5, 2) ∧ decode cX12_cover 32 = .ok (.iconst (-1), 1) := by decide +kernel
theorem e_X12_cover_2 : decode cX12_cover 33 = .ok (.if_icmp .ne 12, 3) ∧ decode cX12_cover 36 = .ok (.aload_n 0, 1) ∧ decode cX12_cover 37 = .ok (.bipush 6, 2) ∧ decode cX12_cover 39 = .ok (.invokevirtual 93, 3) ∧ decode cX12_cover 42 = .ok (.goto 12, 3) ∧ decode cX12_cover 45 = .ok (.aload_n 0, 1) ∧ decode cX12_cover 46 = .ok (.iload 5, 2) ∧ decode cX12_cover 48 = .ok (.invokestatic 302, 3) ∧ decode cX12_cover 51 = .ok (.invokevirtual 97, 3) ∧ decode cX12_cover 54 = .ok (.ireturn, 1) := by decide +kernel
theorem S_X12_cover {G : Kg} {σ : Kmem} {Q : Int → Kmem → Prop} {l1 l2 l3 : Int}  (h : Run G WM M_X12_wrongCover 1 0 0 [vA G 0, vI l1, vI l2, vI l3] σ (fun r1 s2 => (rI r1) ∧ ((r1 ≤ 0 → Run G WM M_X12_coverOf 6 0 0 [vA G 0, vI l1, vI l2, vI l3] s2 (fun r4 s5 => (rI r4) ∧ ((r4 ≠ -1 → Run G WM M_X12_bits 0 0 0 [vI r4] s5 (fun r7 s8 => Run G WM M_X12_gives 0 0 0 [vA G 0, vI r7] s8 (fun r9 s10 => Q r9 s10))) ∧ (r4 = -1 → Run G WM M_X12_refuse 0 0 0 [vA G 0, vI 6] s5 (fun r11 s12 => Q r11 s12))))) ∧ (0 < r1 → Run G WM M_X12_refuse 0 0 0 [vA G 0, vI r1] s2 (fun r13 s14 => Q r13 s14))))) : Run G WM M_X12_cover 7 0 0 [vA G 0, vI l1, vI l2, vI l3] σ Q := by
  refine Run.of (by decide +kernel) (by show (4 : Nat) ≤ 6; decide) ?_
  show Ex G WM M_X12_cover 7 0 0 0 [(0, vA G 0), (1, vI l1), (2, vI l2), (3, vI l3)] [] σ Q
  refine R_aload_n e_X12_cover_0.1 0 rfl ?_
  refine R_iload_n e_X12_cover_0.2.1 1 rfl ?_
  refine R_iload_n e_X12_cover_0.2.2.1 2 rfl ?_
  refine R_iload_n e_X12_cover_0.2.2.2.1 3 rfl ?_
  refine R_callV (mc := 0) (ms := 0) (mc' := 0) (ms' := 0) (M' := M_X12_wrongCover) (d' := 1) (as := [vI l1, vI l2, vI l3]) (st := []) 12 3 e_X12_cover_0.2.2.2.2.1 (kCVof m_X12_wrongCover l_X12_453) rfl (by decide) km_0 (by decide) (by decide) rfl rfl (by show (0 : Nat) ≤ 8; decide) ?_
  refine Run.mono h (fun r1 s2 h => ?_)
  refine R_eqs (st2 := [vI r1]) rfl rfl ?_
  refine R_istore (ls2 := [(4, vI r1), (0, vA G 0), (1, vI l1), (2, vI l2), (3, vI l3)]) e_X12_cover_0.2.2.2.2.2.1 (by decide) rfl ?_
  refine R_iload e_X12_cover_0.2.2.2.2.2.2.1 0 rfl ?_
  obtain ⟨q3, h⟩ := h
  refine R_if_le 21 e_X12_cover_0.2.2.2.2.2.2.2.1 (by decide) q3  (fun q => ?_) (fun q => ?_)
  · replace h := h.1 q
    refine R_aload_n e_X12_cover_1.2.2.1 1 rfl ?_
    refine R_iload_n e_X12_cover_1.2.2.2.1 2 rfl ?_
    refine R_iload_n e_X12_cover_1.2.2.2.2.1 3 rfl ?_
    refine R_iload_n e_X12_cover_1.2.2.2.2.2.1 4 rfl ?_
    refine R_callV (mc := 0) (ms := 0) (mc' := 0) (ms' := 0) (M' := M_X12_coverOf) (d' := 6) (as := [vI l1, vI l2, vI l3]) (st := []) 12 3 e_X12_cover_1.2.2.2.2.2.2.1 (kCVof m_X12_coverOf l_X12_456) rfl (by decide) km_0 (by decide) (by decide) rfl rfl (by show (0 : Nat) ≤ 8; decide) ?_
    refine Run.mono h (fun r4 s5 h => ?_)
    refine R_eqs (st2 := [vI r4]) rfl rfl ?_
    refine R_istore (ls2 := [(5, vI r4), (4, vI r1), (0, vA G 0), (1, vI l1), (2, vI l2), (3, vI l3)]) e_X12_cover_1.2.2.2.2.2.2.2.1 (by decide) rfl ?_
    refine R_iload e_X12_cover_1.2.2.2.2.2.2.2.2.1 0 rfl ?_
    refine R_iconst e_X12_cover_1.2.2.2.2.2.2.2.2.2 ?_
    obtain ⟨q6, h⟩ := h
    refine R_icmp_ne 45 e_X12_cover_2.1 (by decide) q6 (by decide) (fun q => ?_) (fun q => ?_)
    · replace h := h.1 q
      refine R_aload_n e_X12_cover_2.2.2.2.2.2.1 2 rfl ?_
      refine R_iload e_X12_cover_2.2.2.2.2.2.2.1 0 rfl ?_
      refine R_callS (mc := 0) (ms := 0) (mc' := 0) (ms' := 0) (M' := M_X12_bits) (d' := 0) (as := [vI r4]) (st := [vA G 0]) 1 e_X12_cover_2.2.2.2.2.2.2.2.1 (kCSof m_X12_bits l_X12_302) (by decide) (by decide) rfl rfl (by show (1 : Nat) ≤ 8; decide) ?_
      refine Run.mono h (fun r7 s8 h => ?_)
      refine R_eqs (st2 := [vI r7, vA G 0]) rfl rfl ?_
      refine R_callV (mc := 0) (ms := 0) (mc' := 0) (ms' := 0) (M' := M_X12_gives) (d' := 0) (as := [vI r7]) (st := []) 12 1 e_X12_cover_2.2.2.2.2.2.2.2.2.1 (kCVof m_X12_gives l_X12_97) rfl (by decide) km_0 (by decide) (by decide) rfl rfl (by show (0 : Nat) ≤ 8; decide) ?_
      refine Run.mono h (fun r9 s10 h => ?_)
      refine R_eqs (st2 := [vI r9]) rfl rfl ?_
      exact R_ireturn e_X12_cover_2.2.2.2.2.2.2.2.2.2 rfl h
    · replace h := h.2 q
      refine R_aload_n e_X12_cover_2.2.1 2 rfl ?_
      refine R_bipush e_X12_cover_2.2.2.1 (by decide) ?_
      refine R_callV (mc := 0) (ms := 0) (mc' := 0) (ms' := 0) (M' := M_X12_refuse) (d' := 0) (as := [vI 6]) (st := []) 12 1 e_X12_cover_2.2.2.2.1 (kCVof m_X12_refuse l_X12_93) rfl (by decide) km_0 (by decide) (by decide) rfl rfl (by show (0 : Nat) ≤ 8; decide) ?_
      refine Run.mono h (fun r11 s12 h => ?_)
      refine R_eqs (st2 := [vI r11]) rfl rfl ?_
      refine R_goto 54 e_X12_cover_2.2.2.2.2.1 (by decide) ?_
      exact R_ireturn e_X12_cover_2.2.2.2.2.2.2.2.2.2 rfl h
  · replace h := h.2 q
    refine R_aload_n e_X12_cover_0.2.2.2.2.2.2.2.2.1 1 rfl ?_
    refine R_iload e_X12_cover_0.2.2.2.2.2.2.2.2.2 0 rfl ?_
    refine R_callV (mc := 0) (ms := 0) (mc' := 0) (ms' := 0) (M' := M_X12_refuse) (d' := 0) (as := [vI r1]) (st := []) 12 1 e_X12_cover_1.1 (kCVof m_X12_refuse l_X12_93) rfl (by decide) km_0 (by decide) (by decide) rfl rfl (by show (0 : Nat) ≤ 8; decide) ?_
    refine Run.mono h (fun r13 s14 h => ?_)
    refine R_eqs (st2 := [vI r13]) rfl rfl ?_
    exact R_ireturn e_X12_cover_1.2.1 rfl h
/-! KiteLandModel.coverSet(III)I -/
theorem e_X12_coverSet_0 : decode cX12_coverSet 0 = .ok (.aload_n 0, 1) ∧ decode cX12_coverSet 1 = .ok (.iload_n 1, 1) ∧ decode cX12_coverSet 2 = .ok (.iload_n 2, 1) ∧ decode cX12_coverSet 3 = .ok (.iload_n 3, 1) ∧ decode cX12_coverSet 4 = .ok (.invokevirtual 453, 3) ∧ decode cX12_coverSet 7 = .ok (.istore 4, 2) ∧ decode cX12_coverSet 9 = .ok (.iload 4, 2) ∧ decode cX12_coverSet 11 = .ok (.ifCond .le 12, 3) ∧ decode cX12_coverSet 14 = .ok (.aload_n 0, 1) ∧ decode cX12_coverSet 15 = .ok (.iload 4, 2) := by decide +kernel
theorem e_X12_coverSet_1 : decode cX12_coverSet 17 = .ok (.invokevirtual 93, 3) ∧ decode cX12_coverSet 20 = .ok (.goto 14, 3) ∧ decode cX12_coverSet 23 = .ok (.aload_n 0, 1) ∧ decode cX12_coverSet 24 = .ok (.aload_n 0, 1) ∧ decode cX12_coverSet 25 = .ok (.iload_n 1, 1) ∧ decode cX12_coverSet 26 = .ok (.iload_n 2, 1) ∧ decode cX12_coverSet 27 = .ok (.iload_n 3, 1) ∧ decode cX12_coverSet 28 = .ok (.invokevirtual 456, 3) ∧ decode cX12_coverSet 31 = .ok (.invokevirtual 358, 3) ∧ decode cX12_coverSet 34 = .ok (.ireturn, 1) := by decide +kernel
theorem S_X12_coverSet {G : Kg} {σ : Kmem} {Q : Int → Kmem → Prop} {l1 l2 l3 : Int}  (h : Run G WM M_X12_wrongCover 1 0 0 [vA G 0, vI l1, vI l2, vI l3] σ (fun r1 s2 => (rI r1) ∧ ((r1 ≤ 0 → Run G WM M_X12_coverOf 6 0 0 [vA G 0, vI l1, vI l2, vI l3] s2 (fun r4 s5 => Run G WM M_X12_orNone 1 0 0 [vA G 0, vI r4] s5 (fun r6 s7 => Q r6 s7))) ∧ (0 < r1 → Run G WM M_X12_refuse 0 0 0 [vA G 0, vI r1] s2 (fun r8 s9 => Q r8 s9))))) : Run G WM M_X12_coverSet 7 0 0 [vA G 0, vI l1, vI l2, vI l3] σ Q := by
  refine Run.of (by decide +kernel) (by show (4 : Nat) ≤ 5; decide) ?_
  show Ex G WM M_X12_coverSet 7 0 0 0 [(0, vA G 0), (1, vI l1), (2, vI l2), (3, vI l3)] [] σ Q
  refine R_aload_n e_X12_coverSet_0.1 0 rfl ?_
  refine R_iload_n e_X12_coverSet_0.2.1 1 rfl ?_
  refine R_iload_n e_X12_coverSet_0.2.2.1 2 rfl ?_
  refine R_iload_n e_X12_coverSet_0.2.2.2.1 3 rfl ?_
  refine R_callV (mc := 0) (ms := 0) (mc' := 0) (ms' := 0) (M' := M_X12_wrongCover) (d' := 1) (as := [vI l1, vI l2, vI l3]) (st := []) 12 3 e_X12_coverSet_0.2.2.2.2.1 (kCVof m_X12_wrongCover l_X12_453) rfl (by decide) km_0 (by decide) (by decide) rfl rfl (by show (0 : Nat) ≤ 8; decide) ?_
  refine Run.mono h (fun r1 s2 h => ?_)
  refine R_eqs (st2 := [vI r1]) rfl rfl ?_
  refine R_istore (ls2 := [(4, vI r1), (0, vA G 0), (1, vI l1), (2, vI l2), (3, vI l3)]) e_X12_coverSet_0.2.2.2.2.2.1 (by decide) rfl ?_
  refine R_iload e_X12_coverSet_0.2.2.2.2.2.2.1 0 rfl ?_
  obtain ⟨q3, h⟩ := h
  refine R_if_le 23 e_X12_coverSet_0.2.2.2.2.2.2.2.1 (by decide) q3  (fun q => ?_) (fun q => ?_)
  · replace h := h.1 q
    refine R_aload_n e_X12_coverSet_1.2.2.1 1 rfl ?_
    refine R_aload_n e_X12_coverSet_1.2.2.2.1 1 rfl ?_
    refine R_iload_n e_X12_coverSet_1.2.2.2.2.1 2 rfl ?_
    refine R_iload_n e_X12_coverSet_1.2.2.2.2.2.1 3 rfl ?_
    refine R_iload_n e_X12_coverSet_1.2.2.2.2.2.2.1 4 rfl ?_
    refine R_callV (mc := 0) (ms := 0) (mc' := 0) (ms' := 0) (M' := M_X12_coverOf) (d' := 6) (as := [vI l1, vI l2, vI l3]) (st := [vA G 0]) 12 3 e_X12_coverSet_1.2.2.2.2.2.2.2.1 (kCVof m_X12_coverOf l_X12_456) rfl (by decide) km_0 (by decide) (by decide) rfl rfl (by show (1 : Nat) ≤ 8; decide) ?_
    refine Run.mono h (fun r4 s5 h => ?_)
    refine R_eqs (st2 := [vI r4, vA G 0]) rfl rfl ?_
    refine R_callV (mc := 0) (ms := 0) (mc' := 0) (ms' := 0) (M' := M_X12_orNone) (d' := 1) (as := [vI r4]) (st := []) 12 1 e_X12_coverSet_1.2.2.2.2.2.2.2.2.1 (kCVof m_X12_orNone l_X12_358) rfl (by decide) km_0 (by decide) (by decide) rfl rfl (by show (0 : Nat) ≤ 8; decide) ?_
    refine Run.mono h (fun r6 s7 h => ?_)
    refine R_eqs (st2 := [vI r6]) rfl rfl ?_
    exact R_ireturn e_X12_coverSet_1.2.2.2.2.2.2.2.2.2 rfl h
  · replace h := h.2 q
    refine R_aload_n e_X12_coverSet_0.2.2.2.2.2.2.2.2.1 1 rfl ?_
    refine R_iload e_X12_coverSet_0.2.2.2.2.2.2.2.2.2 0 rfl ?_
    refine R_callV (mc := 0) (ms := 0) (mc' := 0) (ms' := 0) (M' := M_X12_refuse) (d' := 0) (as := [vI r1]) (st := []) 12 1 e_X12_coverSet_1.1 (kCVof m_X12_refuse l_X12_93) rfl (by decide) km_0 (by decide) (by decide) rfl rfl (by show (0 : Nat) ≤ 8; decide) ?_
    refine Run.mono h (fun r8 s9 h => ?_)
    refine R_eqs (st2 := [vI r8]) rfl rfl ?_
    refine R_goto 34 e_X12_coverSet_1.2.1 (by decide) ?_
    exact R_ireturn e_X12_coverSet_1.2.2.2.2.2.2.2.2.2 rfl h
/-! KiteLandModel.isFor(III)Z -/
theorem e_X12_isFor_0 : decode cX12_isFor 0 = .ok (.aload_n 0, 1) ∧ decode cX12_isFor 1 = .ok (.iload_n 2, 1) ∧ decode cX12_isFor 2 = .ok (.bipush 10, 2) ∧ decode cX12_isFor 4 = .ok (.irem, 1) ∧ decode cX12_isFor 5 = .ok (.iload_n 2, 1) ∧ decode cX12_isFor 6 = .ok (.bipush 10, 2) ∧ decode cX12_isFor 8 = .ok (.idiv, 1) ∧ decode cX12_isFor 9 = .ok (.invokevirtual 355, 3) ∧ decode cX12_isFor 12 = .ok (.ifCond .eq 54, 3) ∧ decode cX12_isFor 15 = .ok (.aload_n 0, 1) := by decide +kernel
theorem e_X12_isFor_1 : decode cX12_isFor 16 = .ok (.iload_n 2, 1) ∧ decode cX12_isFor 17 = .ok (.bipush 10, 2) ∧ decode cX12_isFor 19 = .ok (.irem, 1) ∧ decode cX12_isFor 20 = .ok (.iload_n 2, 1) ∧ decode cX12_isFor 21 = .ok (.bipush 10, 2) ∧ decode cX12_isFor 23 = .ok (.idiv, 1) ∧ decode cX12_isFor 24 = .ok (.aload_n 0, 1) ∧ decode cX12_isFor 25 = .ok (.invokevirtual 325, 3) ∧ decode cX12_isFor 28 = .ok (.invokevirtual 312, 3) ∧ decode cX12_isFor 31 = .ok (.aload_n 0, 1) := by decide +kernel
theorem e_X12_isFor_2 : decode cX12_isFor 32 = .ok (.getfield 7, 3) ∧ decode cX12_isFor 35 = .ok (.iload_n 1, 1) ∧ decode cX12_isFor 36 = .ok (.invokestatic 352, 3) ∧ decode cX12_isFor 39 = .ok (.iconst 2, 1) ∧ decode cX12_isFor 40 = .ok (.iadd, 1) ∧ decode cX12_isFor 41 = .ok (.iaload, 1) ∧ decode cX12_isFor 42 = .ok (.if_icmp .ne 24, 3) ∧ decode cX12_isFor 45 = .ok (.aload_n 0, 1) ∧ decode cX12_isFor 46 = .ok (.iload_n 1, 1) ∧ decode cX12_isFor 47 = .ok (.iload_n 2, 1) := by decide +kernel
theorem e_X12_isFor_3 : decode cX12_isFor 48 = .ok (.bipush 10, 2) ∧ decode cX12_isFor 50 = .ok (.irem, 1) ∧ decode cX12_isFor 51 = .ok (.iload_n 2, 1) ∧ decode cX12_isFor 52 = .ok (.bipush 10, 2) ∧ decode cX12_isFor 54 = .ok (.idiv, 1) ∧ decode cX12_isFor 55 = .ok (.invokevirtual 378, 3) ∧ decode cX12_isFor 58 = .ok (.iload_n 3, 1) ∧ decode cX12_isFor 59 = .ok (.if_icmp .gt 7, 3) ∧ decode cX12_isFor 62 = .ok (.iconst 1, 1) ∧ decode cX12_isFor 63 = .ok (.goto 4, 3) := by decide +kernel
theorem e_X12_isFor_4 : decode cX12_isFor 66 = .ok (.iconst 0, 1) ∧ decode cX12_isFor 67 = .ok (.ireturn, 1) := by decide +kernel
theorem S_X12_isFor {G : Kg} {σ : Kmem} {Q : Int → Kmem → Prop} {l1 l2 l3 : Int}  (h : (0 ≤ l2 ∧ l2 ≤ 2147483647) ∧ (0 ≤ l2 ∧ l2 ≤ 2147483647) ∧ Run G WM M_X12_isField 0 0 0 [vA G 0, vI (l2 % 10), vI (l2 / 10)] σ (fun r3 s4 => (rI r3) ∧ ((r3 = 0 → Q 0 s4) ∧ (r3 ≠ 0 → (0 ≤ l2 ∧ l2 ≤ 2147483647) ∧ (0 ≤ l2 ∧ l2 ≤ 2147483647) ∧ Run G WM M_X12_now 0 0 0 [vA G 0] s4 (fun r8 s9 => Run G WM M_X12_ownerOf 6 0 0 [vA G 0, vI (l2 % 10), vI (l2 / 10), vI r8] s9 (fun r10 s11 => Run G WM M_X12_tenantRow 0 0 0 [vI l1] s11 (fun r12 s13 => (0 ≤ r12 + 2 ∧ r12 + 2 < 3598) ∧ (rI r10) ∧ (rI (s13 1 (r12 + 2))) ∧ ((r10 ≠ s13 1 (r12 + 2) → Q 0 s13) ∧ (r10 = s13 1 (r12 + 2) → (0 ≤ l2 ∧ l2 ≤ 2147483647) ∧ (0 ≤ l2 ∧ l2 ≤ 2147483647) ∧ Run G WM M_X12_stepsTo 1 0 0 [vA G 0, vI l1, vI (l2 % 10), vI (l2 / 10)] s13 (fun r19 s20 => (rI r19) ∧ (rI l3) ∧ ((l3 < r19 → Q 0 s20) ∧ (r19 ≤ l3 → Q 1 s20)))))))))))) : Run G WM M_X12_isFor 7 0 0 [vA G 0, vI l1, vI l2, vI l3] σ Q := by
  refine Run.of (by decide +kernel) (by show (4 : Nat) ≤ 4; decide) ?_
  show Ex G WM M_X12_isFor 7 0 0 0 [(0, vA G 0), (1, vI l1), (2, vI l2), (3, vI l3)] [] σ Q
  refine R_aload_n e_X12_isFor_0.1 0 rfl ?_
  refine R_iload_n e_X12_isFor_0.2.1 2 rfl ?_
  refine R_bipush e_X12_isFor_0.2.2.1 (by decide) ?_
  obtain ⟨q1, h⟩ := h
  refine R_irem e_X12_isFor_0.2.2.2.1 q1 (by decide) ?_
  refine R_iload_n e_X12_isFor_0.2.2.2.2.1 2 rfl ?_
  refine R_bipush e_X12_isFor_0.2.2.2.2.2.1 (by decide) ?_
  obtain ⟨q2, h⟩ := h
  refine R_idiv e_X12_isFor_0.2.2.2.2.2.2.1 q2 (by decide) ?_
  refine R_callV (mc := 0) (ms := 0) (mc' := 0) (ms' := 0) (M' := M_X12_isField) (d' := 0) (as := [vI (l2 % 10), vI (l2 / 10)]) (st := []) 12 2 e_X12_isFor_0.2.2.2.2.2.2.2.1 (kCVof m_X12_isField l_X12_355) rfl (by decide) km_0 (by decide) (by decide) rfl rfl (by show (0 : Nat) ≤ 8; decide) ?_
  refine Run.mono h (fun r3 s4 h => ?_)
  refine R_eqs (st2 := [vI r3]) rfl rfl ?_
  obtain ⟨q5, h⟩ := h
  refine R_if_eq 66 e_X12_isFor_0.2.2.2.2.2.2.2.2.1 (by decide) q5  (fun q => ?_) (fun q => ?_)
  · replace h := h.1 q
    refine R_iconst e_X12_isFor_4.1 ?_
    exact R_zreturn e_X12_isFor_4.2 rfl (Or.inl rfl) h
  · replace h := h.2 q
    refine R_aload_n e_X12_isFor_0.2.2.2.2.2.2.2.2.2 0 rfl ?_
    refine R_iload_n e_X12_isFor_1.1 2 rfl ?_
    refine R_bipush e_X12_isFor_1.2.1 (by decide) ?_
    obtain ⟨q6, h⟩ := h
    refine R_irem e_X12_isFor_1.2.2.1 q6 (by decide) ?_
    refine R_iload_n e_X12_isFor_1.2.2.2.1 2 rfl ?_
    refine R_bipush e_X12_isFor_1.2.2.2.2.1 (by decide) ?_
    obtain ⟨q7, h⟩ := h
    refine R_idiv e_X12_isFor_1.2.2.2.2.2.1 q7 (by decide) ?_
    refine R_aload_n e_X12_isFor_1.2.2.2.2.2.2.1 0 rfl ?_
    refine R_callV (mc := 0) (ms := 0) (mc' := 0) (ms' := 0) (M' := M_X12_now) (d' := 0) (as := []) (st := [vI (l2 / 10), vI (l2 % 10), vA G 0]) 12 0 e_X12_isFor_1.2.2.2.2.2.2.2.1 (kCVof m_X12_now l_X12_325) rfl (by decide) km_0 (by decide) (by decide) rfl rfl (by show (3 : Nat) ≤ 8; decide) ?_
    refine Run.mono h (fun r8 s9 h => ?_)
    refine R_eqs (st2 := [vI r8, vI (l2 / 10), vI (l2 % 10), vA G 0]) rfl rfl ?_
    refine R_callV (mc := 0) (ms := 0) (mc' := 0) (ms' := 0) (M' := M_X12_ownerOf) (d' := 6) (as := [vI (l2 % 10), vI (l2 / 10), vI r8]) (st := []) 12 3 e_X12_isFor_1.2.2.2.2.2.2.2.2.1 (kCVof m_X12_ownerOf l_X12_312) rfl (by decide) km_0 (by decide) (by decide) rfl rfl (by show (0 : Nat) ≤ 8; decide) ?_
    refine Run.mono h (fun r10 s11 h => ?_)
    refine R_eqs (st2 := [vI r10]) rfl rfl ?_
    refine R_aload_n e_X12_isFor_1.2.2.2.2.2.2.2.2.2 0 rfl ?_
    refine R_getA 12 0 1 e_X12_isFor_2.1 f_X12_7 km_0 (fun _ _ => rfl) rm_0_0 (by decide) ?_
    refine R_iload_n e_X12_isFor_2.2.1 1 rfl ?_
    refine R_callS (mc := 0) (ms := 0) (mc' := 0) (ms' := 0) (M' := M_X12_tenantRow) (d' := 0) (as := [vI l1]) (st := [vA G 1, vI r10]) 1 e_X12_isFor_2.2.2.1 (kCSof m_X12_tenantRow l_X12_352) (by decide) (by decide) rfl rfl (by show (2 : Nat) ≤ 8; decide) ?_
    refine Run.mono h (fun r12 s13 h => ?_)
    refine R_eqs (st2 := [vI r12, vA G 1, vI r10]) rfl rfl ?_
    refine R_iconst e_X12_isFor_2.2.2.2.1 ?_
    refine R_iadd e_X12_isFor_2.2.2.2.2.1 ?_
    obtain ⟨q14, h⟩ := h
    refine R_iald 3598 e_X12_isFor_2.2.2.2.2.2.1 kma_1 q14 ?_
    obtain ⟨q15, h⟩ := h
    obtain ⟨q16, h⟩ := h
    refine R_icmp_ne 66 e_X12_isFor_2.2.2.2.2.2.2.1 (by decide) q15 q16 (fun q => ?_) (fun q => ?_)
    · replace h := h.1 q
      refine R_iconst e_X12_isFor_4.1 ?_
      exact R_zreturn e_X12_isFor_4.2 rfl (Or.inl rfl) h
    · replace h := h.2 q
      refine R_aload_n e_X12_isFor_2.2.2.2.2.2.2.2.1 0 rfl ?_
      refine R_iload_n e_X12_isFor_2.2.2.2.2.2.2.2.2.1 1 rfl ?_
      refine R_iload_n e_X12_isFor_2.2.2.2.2.2.2.2.2.2 2 rfl ?_
      refine R_bipush e_X12_isFor_3.1 (by decide) ?_
      obtain ⟨q17, h⟩ := h
      refine R_irem e_X12_isFor_3.2.1 q17 (by decide) ?_
      refine R_iload_n e_X12_isFor_3.2.2.1 2 rfl ?_
      refine R_bipush e_X12_isFor_3.2.2.2.1 (by decide) ?_
      obtain ⟨q18, h⟩ := h
      refine R_idiv e_X12_isFor_3.2.2.2.2.1 q18 (by decide) ?_
      refine R_callV (mc := 0) (ms := 0) (mc' := 0) (ms' := 0) (M' := M_X12_stepsTo) (d' := 1) (as := [vI l1, vI (l2 % 10), vI (l2 / 10)]) (st := []) 12 3 e_X12_isFor_3.2.2.2.2.2.1 (kCVof m_X12_stepsTo l_X12_378) rfl (by decide) km_0 (by decide) (by decide) rfl rfl (by show (0 : Nat) ≤ 8; decide) ?_
      refine Run.mono h (fun r19 s20 h => ?_)
      refine R_eqs (st2 := [vI r19]) rfl rfl ?_
      refine R_iload_n e_X12_isFor_3.2.2.2.2.2.2.1 3 rfl ?_
      obtain ⟨q21, h⟩ := h
      obtain ⟨q22, h⟩ := h
      refine R_icmp_gt 66 e_X12_isFor_3.2.2.2.2.2.2.2.1 (by decide) q21 q22 (fun q => ?_) (fun q => ?_)
      · replace h := h.1 q
        refine R_iconst e_X12_isFor_4.1 ?_
        exact R_zreturn e_X12_isFor_4.2 rfl (Or.inl rfl) h
      · replace h := h.2 q
        refine R_iconst e_X12_isFor_3.2.2.2.2.2.2.2.2.1 ?_
        refine R_goto 67 e_X12_isFor_3.2.2.2.2.2.2.2.2.2 (by decide) ?_
        exact R_zreturn e_X12_isFor_4.2 rfl (Or.inr rfl) h
/-! KiteLandModel.settles(II)Z -/
theorem e_X12_settles_0 : decode cX12_settles 0 = .ok (.iconst 0, 1) ∧ decode cX12_settles 1 = .ok (.istore_n 3, 1) ∧ decode cX12_settles 2 = .ok (.iload_n 3, 1) ∧ decode cX12_settles 3 = .ok (.bipush 70, 2) ∧ decode cX12_settles 5 = .ok (.if_icmp .ge 16, 3) ∧ decode cX12_settles 8 = .ok (.aload_n 0, 1) ∧ decode cX12_settles 9 = .ok (.getfield 56, 3) ∧ decode cX12_settles 12 = .ok (.iload_n 3, 1) ∧ decode cX12_settles 13 = .ok (.iconst (-1), 1) ∧ decode cX12_settles 14 = .ok (.iastore, 1) := by decide +kernel
theorem e_X12_settles_1 : decode cX12_settles 15 = .ok (.iinc 3 1, 3) ∧ decode cX12_settles 18 = .ok (.goto (-16), 3) ∧ decode cX12_settles 21 = .ok (.aload_n 0, 1) ∧ decode cX12_settles 22 = .ok (.getfield 59, 3) ∧ decode cX12_settles 25 = .ok (.iconst 0, 1) ∧ decode cX12_settles 26 = .ok (.iload_n 1, 1) ∧ decode cX12_settles 27 = .ok (.iastore, 1) ∧ decode cX12_settles 28 = .ok (.iconst 1, 1) ∧ decode cX12_settles 29 = .ok (.istore_n 3, 1) ∧ decode cX12_settles 30 = .ok (.iconst 0, 1) := by decide +kernel
theorem e_X12_settles_2 : decode cX12_settles 31 = .ok (.istore 4, 2) ∧ decode cX12_settles 33 = .ok (.iload 4, 2) ∧ decode cX12_settles 35 = .ok (.iload_n 3, 1) ∧ decode cX12_settles 36 = .ok (.if_icmp .ge 106, 3) ∧ decode cX12_settles 39 = .ok (.iconst 0, 1) ∧ decode cX12_settles 40 = .ok (.istore 5, 2) ∧ decode cX12_settles 42 = .ok (.iload 5, 2) ∧ decode cX12_settles 44 = .ok (.bipush 70, 2) ∧ decode cX12_settles 46 = .ok (.if_icmp .ge 90, 3) ∧ decode cX12_settles 49 = .ok (.aload_n 0, 1) := by decide +kernel
theorem e_X12_settles_3 : decode cX12_settles 50 = .ok (.getfield 56, 3) ∧ decode cX12_settles 53 = .ok (.iload 5, 2) ∧ decode cX12_settles 55 = .ok (.iaload, 1) ∧ decode cX12_settles 56 = .ok (.iconst (-1), 1) ∧ decode cX12_settles 57 = .ok (.if_icmp .ne 73, 3) ∧ decode cX12_settles 60 = .ok (.aload_n 0, 1) ∧ decode cX12_settles 61 = .ok (.aload_n 0, 1) ∧ decode cX12_settles 62 = .ok (.getfield 59, 3) ∧ decode cX12_settles 65 = .ok (.iload 4, 2) ∧ decode cX12_settles 67 = .ok (.iaload, 1) := by decide +kernel
theorem e_X12_settles_4 : decode cX12_settles 68 = .ok (.iload 5, 2) ∧ decode cX12_settles 70 = .ok (.iload_n 2, 1) ∧ decode cX12_settles 71 = .ok (.invokevirtual 459, 3) ∧ decode cX12_settles 74 = .ok (.ifCond .ne 6, 3) ∧ decode cX12_settles 77 = .ok (.goto 53, 3) ∧ decode cX12_settles 80 = .ok (.aload_n 0, 1) ∧ decode cX12_settles 81 = .ok (.getfield 56, 3) ∧ decode cX12_settles 84 = .ok (.iload 5, 2) ∧ decode cX12_settles 86 = .ok (.aload_n 0, 1) ∧ decode cX12_settles 87 = .ok (.getfield 59, 3) := by decide +kernel
theorem e_X12_settles_5 : decode cX12_settles 90 = .ok (.iload 4, 2) ∧ decode cX12_settles 92 = .ok (.iaload, 1) ∧ decode cX12_settles 93 = .ok (.iastore, 1) ∧ decode cX12_settles 94 = .ok (.aload_n 0, 1) ∧ decode cX12_settles 95 = .ok (.getfield 53, 3) ∧ decode cX12_settles 98 = .ok (.iload 5, 2) ∧ decode cX12_settles 100 = .ok (.iaload, 1) ∧ decode cX12_settles 101 = .ok (.iconst (-1), 1) ∧ decode cX12_settles 102 = .ok (.if_icmp .ne 12, 3) ∧ decode cX12_settles 105 = .ok (.aload_n 0, 1) := by decide +kernel
theorem e_X12_settles_6 : decode cX12_settles 106 = .ok (.iload 5, 2) ∧ decode cX12_settles 108 = .ok (.iload_n 1, 1) ∧ decode cX12_settles 109 = .ok (.invokevirtual 462, 3) ∧ decode cX12_settles 112 = .ok (.iconst 1, 1) ∧ decode cX12_settles 113 = .ok (.ireturn, 1) ∧ decode cX12_settles 114 = .ok (.aload_n 0, 1) ∧ decode cX12_settles 115 = .ok (.getfield 59, 3) ∧ decode cX12_settles 118 = .ok (.iload_n 3, 1) ∧ decode cX12_settles 119 = .ok (.aload_n 0, 1) ∧ decode cX12_settles 120 = .ok (.getfield 53, 3) := by decide +kernel
theorem e_X12_settles_7 : decode cX12_settles 123 = .ok (.iload 5, 2) ∧ decode cX12_settles 125 = .ok (.iaload, 1) ∧ decode cX12_settles 126 = .ok (.iastore, 1) ∧ decode cX12_settles 127 = .ok (.iinc 3 1, 3) ∧ decode cX12_settles 130 = .ok (.iinc 5 1, 3) ∧ decode cX12_settles 133 = .ok (.goto (-91), 3) ∧ decode cX12_settles 136 = .ok (.iinc 4 1, 3) ∧ decode cX12_settles 139 = .ok (.goto (-106), 3) ∧ decode cX12_settles 142 = .ok (.iconst 0, 1) ∧ decode cX12_settles 143 = .ok (.ireturn, 1) := by decide +kernel
abbrev E_X12_settles_2 (G : Kg) (l1 l2 l3 : Int) (σ : Kmem) (Q : Int → Kmem → Prop) : Prop := Ex G WM M_X12_settles 8 0 0 2 [(0, vA G 0), (1, vI l1), (2, vI l2), (3, vI l3)] [] σ Q
abbrev E_X12_settles_33 (G : Kg) (l1 l2 l3 l4 : Int) (σ : Kmem) (Q : Int → Kmem → Prop) : Prop := Ex G WM M_X12_settles 8 0 0 33 [(0, vA G 0), (1, vI l1), (2, vI l2), (3, vI l3), (4, vI l4)] [] σ Q
abbrev E_X12_settles_42 (G : Kg) (l1 l2 l3 l4 l5 : Int) (σ : Kmem) (Q : Int → Kmem → Prop) : Prop := Ex G WM M_X12_settles 8 0 0 42 [(0, vA G 0), (1, vI l1), (2, vI l2), (3, vI l3), (4, vI l4), (5, vI l5)] [] σ Q
theorem S_X12_settles {G : Kg} {σ : Kmem} {Q : Int → Kmem → Prop} {l1 l2 : Int}  (h : E_X12_settles_2 G l1 l2 0 σ Q) : Run G WM M_X12_settles 8 0 0 [vA G 0, vI l1, vI l2] σ Q := by
  refine Run.of (by decide +kernel) (by show (3 : Nat) ≤ 6; decide) ?_
  show Ex G WM M_X12_settles 8 0 0 0 [(0, vA G 0), (1, vI l1), (2, vI l2)] [] σ Q
  refine R_iconst e_X12_settles_0.1 ?_
  refine R_istore_n (ls2 := [(3, vI 0), (0, vA G 0), (1, vI l1), (2, vI l2)]) e_X12_settles_0.2.1 (by decide) rfl ?_
  refine R_ls (ls2 := [(0, vA G 0), (1, vI l1), (2, vI l2), (3, vI 0)]) [1, 2, 3, 0] rfl ?_
  exact h
theorem S_X12_settles_2 {G : Kg} {σ : Kmem} {Q : Int → Kmem → Prop} {l1 l2 l3 : Int}  (h : (rI l3) ∧ ((70 ≤ l3 → E_X12_settles_33 G l1 l2 1 0 (kup σ 13 0 l1) Q) ∧ (l3 < 70 → (0 ≤ l3 ∧ l3 < 70) ∧ E_X12_settles_2 G l1 l2 (l3 + 1) (kup σ 12 l3 (-1)) Q))) : E_X12_settles_2 G l1 l2 l3 σ Q := by
  refine R_iload_n e_X12_settles_0.2.2.1 3 rfl ?_
  refine R_bipush e_X12_settles_0.2.2.2.1 (by decide) ?_
  obtain ⟨q1, h⟩ := h
  refine R_icmp_ge 21 e_X12_settles_0.2.2.2.2.1 (by decide) q1 (by decide) (fun q => ?_) (fun q => ?_)
  · replace h := h.1 q
    refine R_aload_n e_X12_settles_1.2.2.1 0 rfl ?_
    refine R_getA 12 29 13 e_X12_settles_1.2.2.2.1 f_X12_59 km_0 (fun _ _ => rfl) rm_0_29 (by decide) ?_
    refine R_iconst e_X12_settles_1.2.2.2.2.1 ?_
    refine R_iload_n e_X12_settles_1.2.2.2.2.2.1 1 rfl ?_
    refine R_iast 6 WM_ok e_X12_settles_1.2.2.2.2.2.2.1 kma_13 (by decide) ?_
    refine R_iconst e_X12_settles_1.2.2.2.2.2.2.2.1 ?_
    refine R_istore_n (ls2 := [(3, vI 1), (0, vA G 0), (1, vI l1), (2, vI l2)]) e_X12_settles_1.2.2.2.2.2.2.2.2.1 (by decide) rfl ?_
    refine R_iconst e_X12_settles_1.2.2.2.2.2.2.2.2.2 ?_
    refine R_istore (ls2 := [(4, vI 0), (3, vI 1), (0, vA G 0), (1, vI l1), (2, vI l2)]) e_X12_settles_2.1 (by decide) rfl ?_
    refine R_ls (ls2 := [(0, vA G 0), (1, vI l1), (2, vI l2), (3, vI 1), (4, vI 0)]) [2, 3, 4, 1, 0] rfl ?_
    exact h
  · replace h := h.2 q
    refine R_aload_n e_X12_settles_0.2.2.2.2.2.1 0 rfl ?_
    refine R_getA 12 28 12 e_X12_settles_0.2.2.2.2.2.2.1 f_X12_56 km_0 (fun _ _ => rfl) rm_0_28 (by decide) ?_
    refine R_iload_n e_X12_settles_0.2.2.2.2.2.2.2.1 3 rfl ?_
    refine R_iconst e_X12_settles_0.2.2.2.2.2.2.2.2.1 ?_
    obtain ⟨q2, h⟩ := h
    refine R_iast 70 WM_ok e_X12_settles_0.2.2.2.2.2.2.2.2.2 kma_12 q2 ?_
    refine R_iinc (ls2 := [(3, vI (l3 + 1)), (0, vA G 0), (1, vI l1), (2, vI l2)]) e_X12_settles_1.1 3 rfl (by decide) rfl ?_
    refine R_goto 2 e_X12_settles_1.2.1 (by decide) ?_
    refine R_ls (ls2 := [(0, vA G 0), (1, vI l1), (2, vI l2), (3, vI (l3 + 1))]) [1, 2, 3, 0] rfl ?_
    exact h
theorem S_X12_settles_33 {G : Kg} {σ : Kmem} {Q : Int → Kmem → Prop} {l1 l2 l3 l4 : Int}  (h : (rI l4) ∧ (rI l3) ∧ ((l3 ≤ l4 → Q 0 σ) ∧ (l4 < l3 → E_X12_settles_42 G l1 l2 l3 l4 0 σ Q))) : E_X12_settles_33 G l1 l2 l3 l4 σ Q := by
  refine R_iload e_X12_settles_2.2.1 4 rfl ?_
  refine R_iload_n e_X12_settles_2.2.2.1 3 rfl ?_
  obtain ⟨q3, h⟩ := h
  obtain ⟨q4, h⟩ := h
  refine R_icmp_ge 142 e_X12_settles_2.2.2.2.1 (by decide) q3 q4 (fun q => ?_) (fun q => ?_)
  · replace h := h.1 q
    refine R_iconst e_X12_settles_7.2.2.2.2.2.2.2.2.1 ?_
    exact R_zreturn e_X12_settles_7.2.2.2.2.2.2.2.2.2 rfl (Or.inl rfl) h
  · replace h := h.2 q
    refine R_iconst e_X12_settles_2.2.2.2.2.1 ?_
    refine R_istore (ls2 := [(5, vI 0), (0, vA G 0), (1, vI l1), (2, vI l2), (3, vI l3), (4, vI l4)]) e_X12_settles_2.2.2.2.2.2.1 (by decide) rfl ?_
    refine R_ls (ls2 := [(0, vA G 0), (1, vI l1), (2, vI l2), (3, vI l3), (4, vI l4), (5, vI 0)]) [1, 2, 3, 4, 5, 0] rfl ?_
    exact h
theorem S_X12_settles_42 {G : Kg} {σ : Kmem} {Q : Int → Kmem → Prop} {l1 l2 l3 l4 l5 : Int}  (h : (rI l5) ∧ ((70 ≤ l5 → E_X12_settles_33 G l1 l2 l3 (l4 + 1) σ Q) ∧ (l5 < 70 → (0 ≤ l5 ∧ l5 < 70) ∧ (rI (σ 12 l5)) ∧ ((σ 12 l5 ≠ -1 → E_X12_settles_42 G l1 l2 l3 l4 (l5 + 1) σ Q) ∧ (σ 12 l5 = -1 → (0 ≤ l4 ∧ l4 < 6) ∧ Run G WM M_X12_isFor 7 0 0 [vA G 0, vI (σ 13 l4), vI l5, vI l2] σ (fun r9 s10 => (rI r9) ∧ ((r9 ≠ 0 → (0 ≤ l4 ∧ l4 < 6) ∧ (0 ≤ l5 ∧ l5 < 70) ∧ (0 ≤ l5 ∧ l5 < 70) ∧ (rI ((kup s10 12 l5 (s10 13 l4)) 11 l5)) ∧ (((kup s10 12 l5 (s10 13 l4)) 11 l5 ≠ -1 → (0 ≤ l5 ∧ l5 < 70) ∧ (0 ≤ l3 ∧ l3 < 6) ∧ E_X12_settles_42 G l1 l2 (l3 + 1) l4 (l5 + 1) (kup (kup s10 12 l5 (s10 13 l4)) 13 l3 ((kup s10 12 l5 (s10 13 l4)) 11 l5)) Q) ∧ ((kup s10 12 l5 (s10 13 l4)) 11 l5 = -1 → Run G WM M_X12_gives0 0 0 0 [vA G 0, vI l5, vI l1] (kup s10 12 l5 (s10 13 l4)) (fun r18 s19 => Q 1 s19)))) ∧ (r9 = 0 → E_X12_settles_42 G l1 l2 l3 l4 (l5 + 1) s10 Q)))))))) : E_X12_settles_42 G l1 l2 l3 l4 l5 σ Q := by
  refine R_iload e_X12_settles_2.2.2.2.2.2.2.1 5 rfl ?_
  refine R_bipush e_X12_settles_2.2.2.2.2.2.2.2.1 (by decide) ?_
  obtain ⟨q5, h⟩ := h
  refine R_icmp_ge 136 e_X12_settles_2.2.2.2.2.2.2.2.2.1 (by decide) q5 (by decide) (fun q => ?_) (fun q => ?_)
  · replace h := h.1 q
    refine R_iinc (ls2 := [(4, vI (l4 + 1)), (0, vA G 0), (1, vI l1), (2, vI l2), (3, vI l3), (5, vI l5)]) e_X12_settles_7.2.2.2.2.2.2.1 4 rfl (by decide) rfl ?_
    refine R_goto 33 e_X12_settles_7.2.2.2.2.2.2.2.1 (by decide) ?_
    refine R_ls (ls2 := [(0, vA G 0), (1, vI l1), (2, vI l2), (3, vI l3), (4, vI (l4 + 1))]) [1, 2, 3, 4, 0] rfl ?_
    exact h
  · replace h := h.2 q
    refine R_aload_n e_X12_settles_2.2.2.2.2.2.2.2.2.2 0 rfl ?_
    refine R_getA 12 28 12 e_X12_settles_3.1 f_X12_56 km_0 (fun _ _ => rfl) rm_0_28 (by decide) ?_
    refine R_iload e_X12_settles_3.2.1 5 rfl ?_
    obtain ⟨q6, h⟩ := h
    refine R_iald 70 e_X12_settles_3.2.2.1 kma_12 q6 ?_
    refine R_iconst e_X12_settles_3.2.2.2.1 ?_
    obtain ⟨q7, h⟩ := h
    refine R_icmp_ne 130 e_X12_settles_3.2.2.2.2.1 (by decide) q7 (by decide) (fun q => ?_) (fun q => ?_)
    · replace h := h.1 q
      refine R_iinc (ls2 := [(5, vI (l5 + 1)), (0, vA G 0), (1, vI l1), (2, vI l2), (3, vI l3), (4, vI l4)]) e_X12_settles_7.2.2.2.2.1 5 rfl (by decide) rfl ?_
      refine R_goto 42 e_X12_settles_7.2.2.2.2.2.1 (by decide) ?_
      refine R_ls (ls2 := [(0, vA G 0), (1, vI l1), (2, vI l2), (3, vI l3), (4, vI l4), (5, vI (l5 + 1))]) [1, 2, 3, 4, 5, 0] rfl ?_
      exact h
    · replace h := h.2 q
      refine R_aload_n e_X12_settles_3.2.2.2.2.2.1 0 rfl ?_
      refine R_aload_n e_X12_settles_3.2.2.2.2.2.2.1 0 rfl ?_
      refine R_getA 12 29 13 e_X12_settles_3.2.2.2.2.2.2.2.1 f_X12_59 km_0 (fun _ _ => rfl) rm_0_29 (by decide) ?_
      refine R_iload e_X12_settles_3.2.2.2.2.2.2.2.2.1 4 rfl ?_
      obtain ⟨q8, h⟩ := h
      refine R_iald 6 e_X12_settles_3.2.2.2.2.2.2.2.2.2 kma_13 q8 ?_
      refine R_iload e_X12_settles_4.1 5 rfl ?_
      refine R_iload_n e_X12_settles_4.2.1 2 rfl ?_
      refine R_callV (mc := 0) (ms := 0) (mc' := 0) (ms' := 0) (M' := M_X12_isFor) (d' := 7) (as := [vI (σ 13 l4), vI l5, vI l2]) (st := []) 12 3 e_X12_settles_4.2.2.1 (kCVof m_X12_isFor l_X12_459) rfl (by decide) km_0 (by decide) (by decide) rfl rfl (by show (0 : Nat) ≤ 8; decide) ?_
      refine Run.mono h (fun r9 s10 h => ?_)
      refine R_eqs (st2 := [vI r9]) rfl rfl ?_
      obtain ⟨q11, h⟩ := h
      refine R_if_ne 80 e_X12_settles_4.2.2.2.1 (by decide) q11  (fun q => ?_) (fun q => ?_)
      · replace h := h.1 q
        refine R_aload_n e_X12_settles_4.2.2.2.2.2.1 0 rfl ?_
        refine R_getA 12 28 12 e_X12_settles_4.2.2.2.2.2.2.1 f_X12_56 km_0 (fun _ _ => rfl) rm_0_28 (by decide) ?_
        refine R_iload e_X12_settles_4.2.2.2.2.2.2.2.1 5 rfl ?_
        refine R_aload_n e_X12_settles_4.2.2.2.2.2.2.2.2.1 0 rfl ?_
        refine R_getA 12 29 13 e_X12_settles_4.2.2.2.2.2.2.2.2.2 f_X12_59 km_0 (fun _ _ => rfl) rm_0_29 (by decide) ?_
        refine R_iload e_X12_settles_5.1 4 rfl ?_
        obtain ⟨q12, h⟩ := h
        refine R_iald 6 e_X12_settles_5.2.1 kma_13 q12 ?_
        obtain ⟨q13, h⟩ := h
        refine R_iast 70 WM_ok e_X12_settles_5.2.2.1 kma_12 q13 ?_
        refine R_aload_n e_X12_settles_5.2.2.2.1 0 rfl ?_
        refine R_getA 12 27 11 e_X12_settles_5.2.2.2.2.1 f_X12_53 km_0 (fun _ _ => rfl) rm_0_27 (by decide) ?_
        refine R_iload e_X12_settles_5.2.2.2.2.2.1 5 rfl ?_
        obtain ⟨q14, h⟩ := h
        refine R_iald 70 e_X12_settles_5.2.2.2.2.2.2.1 kma_11 q14 ?_
        refine R_iconst e_X12_settles_5.2.2.2.2.2.2.2.1 ?_
        obtain ⟨q15, h⟩ := h
        refine R_icmp_ne 114 e_X12_settles_5.2.2.2.2.2.2.2.2.1 (by decide) q15 (by decide) (fun q => ?_) (fun q => ?_)
        · replace h := h.1 q
          refine R_aload_n e_X12_settles_6.2.2.2.2.2.1 0 rfl ?_
          refine R_getA 12 29 13 e_X12_settles_6.2.2.2.2.2.2.1 f_X12_59 km_0 (fun _ _ => rfl) rm_0_29 (by decide) ?_
          refine R_iload_n e_X12_settles_6.2.2.2.2.2.2.2.1 3 rfl ?_
          refine R_aload_n e_X12_settles_6.2.2.2.2.2.2.2.2.1 0 rfl ?_
          refine R_getA 12 27 11 e_X12_settles_6.2.2.2.2.2.2.2.2.2 f_X12_53 km_0 (fun _ _ => rfl) rm_0_27 (by decide) ?_
          refine R_iload e_X12_settles_7.1 5 rfl ?_
          obtain ⟨q16, h⟩ := h
          refine R_iald 70 e_X12_settles_7.2.1 kma_11 q16 ?_
          obtain ⟨q17, h⟩ := h
          refine R_iast 6 WM_ok e_X12_settles_7.2.2.1 kma_13 q17 ?_
          refine R_iinc (ls2 := [(3, vI (l3 + 1)), (0, vA G 0), (1, vI l1), (2, vI l2), (4, vI l4), (5, vI l5)]) e_X12_settles_7.2.2.2.1 3 rfl (by decide) rfl ?_
          refine R_iinc (ls2 := [(5, vI (l5 + 1)), (3, vI (l3 + 1)), (0, vA G 0), (1, vI l1), (2, vI l2), (4, vI l4)]) e_X12_settles_7.2.2.2.2.1 5 rfl (by decide) rfl ?_
          refine R_goto 42 e_X12_settles_7.2.2.2.2.2.1 (by decide) ?_
          refine R_ls (ls2 := [(0, vA G 0), (1, vI l1), (2, vI l2), (3, vI (l3 + 1)), (4, vI l4), (5, vI (l5 + 1))]) [2, 3, 4, 1, 5, 0] rfl ?_
          exact h
        · replace h := h.2 q
          refine R_aload_n e_X12_settles_5.2.2.2.2.2.2.2.2.2 0 rfl ?_
          refine R_iload e_X12_settles_6.1 5 rfl ?_
          refine R_iload_n e_X12_settles_6.2.1 1 rfl ?_
          refine R_callV (mc := 0) (ms := 0) (mc' := 0) (ms' := 0) (M' := M_X12_gives0) (d' := 0) (as := [vI l5, vI l1]) (st := []) 12 2 e_X12_settles_6.2.2.1 (kCVof m_X12_gives0 l_X12_462) rfl (by decide) km_0 (by decide) (by decide) rfl rfl (by show (0 : Nat) ≤ 8; decide) ?_
          refine Run.mono h (fun r18 s19 h => ?_)
          refine R_eqs (st2 := []) rfl rfl ?_
          refine R_iconst e_X12_settles_6.2.2.2.1 ?_
          exact R_zreturn e_X12_settles_6.2.2.2.2.1 rfl (Or.inr rfl) h
      · replace h := h.2 q
        refine R_goto 130 e_X12_settles_4.2.2.2.2.1 (by decide) ?_
        refine R_iinc (ls2 := [(5, vI (l5 + 1)), (0, vA G 0), (1, vI l1), (2, vI l2), (3, vI l3), (4, vI l4)]) e_X12_settles_7.2.2.2.2.1 5 rfl (by decide) rfl ?_
        refine R_goto 42 e_X12_settles_7.2.2.2.2.2.1 (by decide) ?_
        refine R_ls (ls2 := [(0, vA G 0), (1, vI l1), (2, vI l2), (3, vI l3), (4, vI l4), (5, vI (l5 + 1))]) [1, 2, 3, 4, 5, 0] rfl ?_
        exact h
/-! KiteLandModel.gives0(II)V -/
theorem e_X12_gives0_0 : decode cX12_gives0 0 = .ok (.iload_n 1, 1) ∧ decode cX12_gives0 1 = .ok (.istore_n 3, 1) ∧ decode cX12_gives0 2 = .ok (.iload_n 3, 1) ∧ decode cX12_gives0 3 = .ok (.iconst (-1), 1) ∧ decode cX12_gives0 4 = .ok (.if_icmp .eq 72, 3) ∧ decode cX12_gives0 7 = .ok (.aload_n 0, 1) ∧ decode cX12_gives0 8 = .ok (.getfield 56, 3) ∧ decode cX12_gives0 11 = .ok (.iload_n 3, 1) ∧ decode cX12_gives0 12 = .ok (.iaload, 1) ∧ decode cX12_gives0 13 = .ok (.istore 4, 2) := by decide +kernel
theorem e_X12_gives0_1 : decode cX12_gives0 15 = .ok (.iconst (-1), 1) ∧ decode cX12_gives0 16 = .ok (.istore 5, 2) ∧ decode cX12_gives0 18 = .ok (.iconst 0, 1) ∧ decode cX12_gives0 19 = .ok (.istore 6, 2) ∧ decode cX12_gives0 21 = .ok (.iload 6, 2) ∧ decode cX12_gives0 23 = .ok (.bipush 70, 2) ∧ decode cX12_gives0 25 = .ok (.if_icmp .ge 37, 3) ∧ decode cX12_gives0 28 = .ok (.iload 4, 2) ∧ decode cX12_gives0 30 = .ok (.iload_n 2, 1) ∧ decode cX12_gives0 31 = .ok (.if_icmp .eq 25, 3) := by decide +kernel
theorem e_X12_gives0_2 : decode cX12_gives0 34 = .ok (.iload 6, 2) ∧ decode cX12_gives0 36 = .ok (.iload_n 3, 1) ∧ decode cX12_gives0 37 = .ok (.if_icmp .eq 19, 3) ∧ decode cX12_gives0 40 = .ok (.aload_n 0, 1) ∧ decode cX12_gives0 41 = .ok (.getfield 53, 3) ∧ decode cX12_gives0 44 = .ok (.iload 6, 2) ∧ decode cX12_gives0 46 = .ok (.iaload, 1) ∧ decode cX12_gives0 47 = .ok (.iload 4, 2) ∧ decode cX12_gives0 49 = .ok (.if_icmp .ne 7, 3) ∧ decode cX12_gives0 52 = .ok (.iload 6, 2) := by decide +kernel
theorem e_X12_gives0_3 : decode cX12_gives0 54 = .ok (.istore 5, 2) ∧ decode cX12_gives0 56 = .ok (.iinc 6 1, 3) ∧ decode cX12_gives0 59 = .ok (.goto (-38), 3) ∧ decode cX12_gives0 62 = .ok (.aload_n 0, 1) ∧ decode cX12_gives0 63 = .ok (.getfield 53, 3) ∧ decode cX12_gives0 66 = .ok (.iload_n 3, 1) ∧ decode cX12_gives0 67 = .ok (.iload 4, 2) ∧ decode cX12_gives0 69 = .ok (.iastore, 1) ∧ decode cX12_gives0 70 = .ok (.iload 5, 2) ∧ decode cX12_gives0 72 = .ok (.istore_n 3, 1) := by decide +kernel
theorem e_X12_gives0_4 : decode cX12_gives0 73 = .ok (.goto (-71), 3) ∧ decode cX12_gives0 76 = .ok (.return_, 1) := by decide +kernel
abbrev E_X12_gives0_2 (G : Kg) (l2 l3 : Int) (σ : Kmem) (Q : Int → Kmem → Prop) : Prop := Ex G WM M_X12_gives0 0 0 0 2 [(0, vA G 0), (2, vI l2), (3, vI l3)] [] σ Q
abbrev E_X12_gives0_21 (G : Kg) (l2 l3 l4 l5 l6 : Int) (σ : Kmem) (Q : Int → Kmem → Prop) : Prop := Ex G WM M_X12_gives0 0 0 0 21 [(0, vA G 0), (2, vI l2), (3, vI l3), (4, vI l4), (5, vI l5), (6, vI l6)] [] σ Q
theorem S_X12_gives0 {G : Kg} {σ : Kmem} {Q : Int → Kmem → Prop} {l1 l2 : Int}  (h : E_X12_gives0_2 G l2 l1 σ Q) : Run G WM M_X12_gives0 0 0 0 [vA G 0, vI l1, vI l2] σ Q := by
  refine Run.of (by decide +kernel) (by show (3 : Nat) ≤ 7; decide) ?_
  show Ex G WM M_X12_gives0 0 0 0 0 [(0, vA G 0), (1, vI l1), (2, vI l2)] [] σ Q
  refine R_iload_n e_X12_gives0_0.1 1 rfl ?_
  refine R_istore_n (ls2 := [(3, vI l1), (0, vA G 0), (1, vI l1), (2, vI l2)]) e_X12_gives0_0.2.1 (by decide) rfl ?_
  refine R_ls (ls2 := [(0, vA G 0), (2, vI l2), (3, vI l1)]) [1, 3, 0] rfl ?_
  exact h
theorem S_X12_gives0_2 {G : Kg} {σ : Kmem} {Q : Int → Kmem → Prop} {l1 l2 l3 : Int}  (h : (rI l3) ∧ ((l3 = -1 → Q 0 σ) ∧ (l3 ≠ -1 → (0 ≤ l3 ∧ l3 < 70) ∧ E_X12_gives0_21 G l2 l3 (σ 12 l3) (-1) 0 σ Q))) : E_X12_gives0_2 G l2 l3 σ Q := by
  refine R_iload_n e_X12_gives0_0.2.2.1 2 rfl ?_
  refine R_iconst e_X12_gives0_0.2.2.2.1 ?_
  obtain ⟨q1, h⟩ := h
  refine R_icmp_eq 76 e_X12_gives0_0.2.2.2.2.1 (by decide) q1 (by decide) (fun q => ?_) (fun q => ?_)
  · replace h := h.1 q
    exact R_return e_X12_gives0_4.2 rfl h
  · replace h := h.2 q
    refine R_aload_n e_X12_gives0_0.2.2.2.2.2.1 0 rfl ?_
    refine R_getA 12 28 12 e_X12_gives0_0.2.2.2.2.2.2.1 f_X12_56 km_0 (fun _ _ => rfl) rm_0_28 (by decide) ?_
    refine R_iload_n e_X12_gives0_0.2.2.2.2.2.2.2.1 2 rfl ?_
    obtain ⟨q2, h⟩ := h
    refine R_iald 70 e_X12_gives0_0.2.2.2.2.2.2.2.2.1 kma_12 q2 ?_
    refine R_istore (ls2 := [(4, vI (σ 12 l3)), (0, vA G 0), (2, vI l2), (3, vI l3)]) e_X12_gives0_0.2.2.2.2.2.2.2.2.2 (by decide) rfl ?_
    refine R_iconst e_X12_gives0_1.1 ?_
    refine R_istore (ls2 := [(5, vI (-1)), (4, vI (σ 12 l3)), (0, vA G 0), (2, vI l2), (3, vI l3)]) e_X12_gives0_1.2.1 (by decide) rfl ?_
    refine R_iconst e_X12_gives0_1.2.2.1 ?_
    refine R_istore (ls2 := [(6, vI 0), (5, vI (-1)), (4, vI (σ 12 l3)), (0, vA G 0), (2, vI l2), (3, vI l3)]) e_X12_gives0_1.2.2.2.1 (by decide) rfl ?_
    refine R_ls (ls2 := [(0, vA G 0), (2, vI l2), (3, vI l3), (4, vI (σ 12 l3)), (5, vI (-1)), (6, vI 0)]) [3, 4, 5, 2, 1, 0] rfl ?_
    exact h
theorem S_X12_gives0_21 {G : Kg} {σ : Kmem} {Q : Int → Kmem → Prop} {l1 l2 l3 l4 l5 l6 : Int}  (h : (rI l6) ∧ ((70 ≤ l6 → (0 ≤ l3 ∧ l3 < 70) ∧ E_X12_gives0_2 G l2 l5 (kup σ 11 l3 l4) Q) ∧ (l6 < 70 → (rI l4) ∧ (rI l2) ∧ ((l4 = l2 → E_X12_gives0_21 G l2 l3 l4 l5 (l6 + 1) σ Q) ∧ (l4 ≠ l2 → (rI l3) ∧ ((l6 = l3 → E_X12_gives0_21 G l2 l3 l4 l5 (l6 + 1) σ Q) ∧ (l6 ≠ l3 → (0 ≤ l6 ∧ l6 < 70) ∧ (rI (σ 11 l6)) ∧ ((σ 11 l6 ≠ l4 → E_X12_gives0_21 G l2 l3 l4 l5 (l6 + 1) σ Q) ∧ (σ 11 l6 = l4 → E_X12_gives0_21 G l2 l3 l4 l6 (l6 + 1) σ Q))))))))) : E_X12_gives0_21 G l2 l3 l4 l5 l6 σ Q := by
  refine R_iload e_X12_gives0_1.2.2.2.2.1 5 rfl ?_
  refine R_bipush e_X12_gives0_1.2.2.2.2.2.1 (by decide) ?_
  obtain ⟨q3, h⟩ := h
  refine R_icmp_ge 62 e_X12_gives0_1.2.2.2.2.2.2.1 (by decide) q3 (by decide) (fun q => ?_) (fun q => ?_)
  · replace h := h.1 q
    refine R_aload_n e_X12_gives0_3.2.2.2.1 0 rfl ?_
    refine R_getA 12 27 11 e_X12_gives0_3.2.2.2.2.1 f_X12_53 km_0 (fun _ _ => rfl) rm_0_27 (by decide) ?_
    refine R_iload_n e_X12_gives0_3.2.2.2.2.2.1 2 rfl ?_
    refine R_iload e_X12_gives0_3.2.2.2.2.2.2.1 3 rfl ?_
    obtain ⟨q4, h⟩ := h
    refine R_iast 70 WM_ok e_X12_gives0_3.2.2.2.2.2.2.2.1 kma_11 q4 ?_
    refine R_iload e_X12_gives0_3.2.2.2.2.2.2.2.2.1 4 rfl ?_
    refine R_istore_n (ls2 := [(3, vI l5), (0, vA G 0), (2, vI l2), (4, vI l4), (5, vI l5), (6, vI l6)]) e_X12_gives0_3.2.2.2.2.2.2.2.2.2 (by decide) rfl ?_
    refine R_goto 2 e_X12_gives0_4.1 (by decide) ?_
    refine R_ls (ls2 := [(0, vA G 0), (2, vI l2), (3, vI l5)]) [1, 2, 0] rfl ?_
    exact h
  · replace h := h.2 q
    refine R_iload e_X12_gives0_1.2.2.2.2.2.2.2.1 3 rfl ?_
    refine R_iload_n e_X12_gives0_1.2.2.2.2.2.2.2.2.1 1 rfl ?_
    obtain ⟨q5, h⟩ := h
    obtain ⟨q6, h⟩ := h
    refine R_icmp_eq 56 e_X12_gives0_1.2.2.2.2.2.2.2.2.2 (by decide) q5 q6 (fun q => ?_) (fun q => ?_)
    · replace h := h.1 q
      refine R_iinc (ls2 := [(6, vI (l6 + 1)), (0, vA G 0), (2, vI l2), (3, vI l3), (4, vI l4), (5, vI l5)]) e_X12_gives0_3.2.1 5 rfl (by decide) rfl ?_
      refine R_goto 21 e_X12_gives0_3.2.2.1 (by decide) ?_
      refine R_ls (ls2 := [(0, vA G 0), (2, vI l2), (3, vI l3), (4, vI l4), (5, vI l5), (6, vI (l6 + 1))]) [1, 2, 3, 4, 5, 0] rfl ?_
      exact h
    · replace h := h.2 q
      refine R_iload e_X12_gives0_2.1 5 rfl ?_
      refine R_iload_n e_X12_gives0_2.2.1 2 rfl ?_
      obtain ⟨q7, h⟩ := h
      refine R_icmp_eq 56 e_X12_gives0_2.2.2.1 (by decide) q3 q7 (fun q => ?_) (fun q => ?_)
      · replace h := h.1 q
        refine R_iinc (ls2 := [(6, vI (l6 + 1)), (0, vA G 0), (2, vI l2), (3, vI l3), (4, vI l4), (5, vI l5)]) e_X12_gives0_3.2.1 5 rfl (by decide) rfl ?_
        refine R_goto 21 e_X12_gives0_3.2.2.1 (by decide) ?_
        refine R_ls (ls2 := [(0, vA G 0), (2, vI l2), (3, vI l3), (4, vI l4), (5, vI l5), (6, vI (l6 + 1))]) [1, 2, 3, 4, 5, 0] rfl ?_
        exact h
      · replace h := h.2 q
        refine R_aload_n e_X12_gives0_2.2.2.2.1 0 rfl ?_
        refine R_getA 12 27 11 e_X12_gives0_2.2.2.2.2.1 f_X12_53 km_0 (fun _ _ => rfl) rm_0_27 (by decide) ?_
        refine R_iload e_X12_gives0_2.2.2.2.2.2.1 5 rfl ?_
        obtain ⟨q8, h⟩ := h
        refine R_iald 70 e_X12_gives0_2.2.2.2.2.2.2.1 kma_11 q8 ?_
        refine R_iload e_X12_gives0_2.2.2.2.2.2.2.2.1 3 rfl ?_
        obtain ⟨q9, h⟩ := h
        refine R_icmp_ne 56 e_X12_gives0_2.2.2.2.2.2.2.2.2.1 (by decide) q9 q5 (fun q => ?_) (fun q => ?_)
        · replace h := h.1 q
          refine R_iinc (ls2 := [(6, vI (l6 + 1)), (0, vA G 0), (2, vI l2), (3, vI l3), (4, vI l4), (5, vI l5)]) e_X12_gives0_3.2.1 5 rfl (by decide) rfl ?_
          refine R_goto 21 e_X12_gives0_3.2.2.1 (by decide) ?_
          refine R_ls (ls2 := [(0, vA G 0), (2, vI l2), (3, vI l3), (4, vI l4), (5, vI l5), (6, vI (l6 + 1))]) [1, 2, 3, 4, 5, 0] rfl ?_
          exact h
        · replace h := h.2 q
          refine R_iload e_X12_gives0_2.2.2.2.2.2.2.2.2.2 5 rfl ?_
          refine R_istore (ls2 := [(5, vI l6), (0, vA G 0), (2, vI l2), (3, vI l3), (4, vI l4), (6, vI l6)]) e_X12_gives0_3.1 (by decide) rfl ?_
          refine R_iinc (ls2 := [(6, vI (l6 + 1)), (5, vI l6), (0, vA G 0), (2, vI l2), (3, vI l3), (4, vI l4)]) e_X12_gives0_3.2.1 5 rfl (by decide) rfl ?_
          refine R_goto 21 e_X12_gives0_3.2.2.1 (by decide) ?_
          refine R_ls (ls2 := [(0, vA G 0), (2, vI l2), (3, vI l3), (4, vI l4), (5, vI l6), (6, vI (l6 + 1))]) [2, 3, 4, 5, 1, 0] rfl ?_
          exact h
/-! KiteLandModel.settle(I)I -/
theorem e_X12_settle_0 : decode cX12_settle 0 = .ok (.iload_n 1, 1) ∧ decode cX12_settle 1 = .ok (.i2l, 1) ∧ decode cX12_settle 2 = .ok (.lconst 0, 1) ∧ decode cX12_settle 3 = .ok (.ldc2_w 449, 3) ∧ decode cX12_settle 6 = .ok (.invokestatic 393, 3) ∧ decode cX12_settle 9 = .ok (.ifCond .ne 9, 3) ∧ decode cX12_settle 12 = .ok (.aload_n 0, 1) ∧ decode cX12_settle 13 = .ok (.iconst 1, 1) ∧ decode cX12_settle 14 = .ok (.invokevirtual 93, 3) ∧ decode cX12_settle 17 = .ok (.ireturn, 1) := by decide +kernel
theorem e_X12_settle_1 : decode cX12_settle 18 = .ok (.iconst 0, 1) ∧ decode cX12_settle 19 = .ok (.istore_n 2, 1) ∧ decode cX12_settle 20 = .ok (.iload_n 2, 1) ∧ decode cX12_settle 21 = .ok (.bipush 70, 2) ∧ decode cX12_settle 23 = .ok (.if_icmp .ge 16, 3) ∧ decode cX12_settle 26 = .ok (.aload_n 0, 1) ∧ decode cX12_settle 27 = .ok (.getfield 53, 3) ∧ decode cX12_settle 30 = .ok (.iload_n 2, 1) ∧ decode cX12_settle 31 = .ok (.iconst (-1), 1) ∧ decode cX12_settle 32 = .ok (.iastore, 1) := by decide +kernel
theorem e_X12_settle_2 : decode cX12_settle 33 = .ok (.iinc 2 1, 3) ∧ decode cX12_settle 36 = .ok (.goto (-16), 3) ∧ decode cX12_settle 39 = .ok (.iconst 0, 1) ∧ decode cX12_settle 40 = .ok (.istore_n 2, 1) ∧ decode cX12_settle 41 = .ok (.iconst 0, 1) ∧ decode cX12_settle 42 = .ok (.istore_n 3, 1) ∧ decode cX12_settle 43 = .ok (.iload_n 3, 1) ∧ decode cX12_settle 44 = .ok (.aload_n 0, 1) ∧ decode cX12_settle 45 = .ok (.getfield 7, 3) ∧ decode cX12_settle 48 = .ok (.iconst 4, 1) := by decide +kernel
theorem e_X12_settle_3 : decode cX12_settle 49 = .ok (.iaload, 1) ∧ decode cX12_settle 50 = .ok (.if_icmp .ge 26, 3) ∧ decode cX12_settle 53 = .ok (.iload_n 2, 1) ∧ decode cX12_settle 54 = .ok (.aload_n 0, 1) ∧ decode cX12_settle 55 = .ok (.iload_n 3, 1) ∧ decode cX12_settle 56 = .ok (.iload_n 1, 1) ∧ decode cX12_settle 57 = .ok (.invokevirtual 465, 3) ∧ decode cX12_settle 60 = .ok (.ifCond .eq 7, 3) ∧ decode cX12_settle 63 = .ok (.iconst 1, 1) ∧ decode cX12_settle 64 = .ok (.goto 4, 3) := by decide +kernel
theorem e_X12_settle_4 : decode cX12_settle 67 = .ok (.iconst 0, 1) ∧ decode cX12_settle 68 = .ok (.iadd, 1) ∧ decode cX12_settle 69 = .ok (.istore_n 2, 1) ∧ decode cX12_settle 70 = .ok (.iinc 3 1, 3) ∧ decode cX12_settle 73 = .ok (.goto (-30), 3) ∧ decode cX12_settle 76 = .ok (.aload_n 0, 1) ∧ decode cX12_settle 77 = .ok (.iload_n 2, 1) ∧ decode cX12_settle 78 = .ok (.invokevirtual 97, 3) ∧ decode cX12_settle 81 = .ok (.ireturn, 1) := by decide +kernel
abbrev E_X12_settle_20 (G : Kg) (l1 l2 : Int) (σ : Kmem) (Q : Int → Kmem → Prop) : Prop := Ex G WM M_X12_settle 9 0 0 20 [(0, vA G 0), (1, vI l1), (2, vI l2)] [] σ Q
abbrev E_X12_settle_43 (G : Kg) (l1 l2 l3 : Int) (σ : Kmem) (Q : Int → Kmem → Prop) : Prop := Ex G WM M_X12_settle 9 0 0 43 [(0, vA G 0), (1, vI l1), (2, vI l2), (3, vI l3)] [] σ Q
theorem S_X12_settle {G : Kg} {σ : Kmem} {Q : Int → Kmem → Prop} {l1 : Int}  (h : (rI l1) ∧ Run G WM M_X12_isFrom 0 0 0 [vL l1, vL 0, vL 20] σ (fun r2 s3 => (rI r2) ∧ ((r2 ≠ 0 → E_X12_settle_20 G l1 0 s3 Q) ∧ (r2 = 0 → Run G WM M_X12_refuse 0 0 0 [vA G 0, vI 1] s3 (fun r5 s6 => Q r5 s6))))) : Run G WM M_X12_settle 9 0 0 [vA G 0, vI l1] σ Q := by
  refine Run.of (by decide +kernel) (by show (2 : Nat) ≤ 4; decide) ?_
  show Ex G WM M_X12_settle 9 0 0 0 [(0, vA G 0), (1, vI l1)] [] σ Q
  refine R_iload_n e_X12_settle_0.1 1 rfl ?_
  obtain ⟨q1, h⟩ := h
  refine R_i2l e_X12_settle_0.2.1 q1 ?_
  refine R_lconst 0 e_X12_settle_0.2.2.1 (by decide) ?_
  refine R_ldc2 (20) k_X12_449 e_X12_settle_0.2.2.2.1 ?_
  refine R_callS (mc := 0) (ms := 0) (mc' := 0) (ms' := 0) (M' := M_X12_isFrom) (d' := 0) (as := [vL l1, vL 0, vL 20]) (st := []) 3 e_X12_settle_0.2.2.2.2.1 (kCSof m_X12_isFrom l_X12_393) (by decide) (by decide) rfl rfl (by show (0 : Nat) ≤ 8; decide) ?_
  refine Run.mono h (fun r2 s3 h => ?_)
  refine R_eqs (st2 := [vI r2]) rfl rfl ?_
  obtain ⟨q4, h⟩ := h
  refine R_if_ne 18 e_X12_settle_0.2.2.2.2.2.1 (by decide) q4  (fun q => ?_) (fun q => ?_)
  · replace h := h.1 q
    refine R_iconst e_X12_settle_1.1 ?_
    refine R_istore_n (ls2 := [(2, vI 0), (0, vA G 0), (1, vI l1)]) e_X12_settle_1.2.1 (by decide) rfl ?_
    refine R_ls (ls2 := [(0, vA G 0), (1, vI l1), (2, vI 0)]) [1, 2, 0] rfl ?_
    exact h
  · replace h := h.2 q
    refine R_aload_n e_X12_settle_0.2.2.2.2.2.2.1 0 rfl ?_
    refine R_iconst e_X12_settle_0.2.2.2.2.2.2.2.1 ?_
    refine R_callV (mc := 0) (ms := 0) (mc' := 0) (ms' := 0) (M' := M_X12_refuse) (d' := 0) (as := [vI 1]) (st := []) 12 1 e_X12_settle_0.2.2.2.2.2.2.2.2.1 (kCVof m_X12_refuse l_X12_93) rfl (by decide) km_0 (by decide) (by decide) rfl rfl (by show (0 : Nat) ≤ 8; decide) ?_
    refine Run.mono h (fun r5 s6 h => ?_)
    refine R_eqs (st2 := [vI r5]) rfl rfl ?_
    exact R_ireturn e_X12_settle_0.2.2.2.2.2.2.2.2.2 rfl h
theorem S_X12_settle_20 {G : Kg} {σ : Kmem} {Q : Int → Kmem → Prop} {l1 l2 : Int}  (h : (rI l2) ∧ ((70 ≤ l2 → E_X12_settle_43 G l1 0 0 σ Q) ∧ (l2 < 70 → (0 ≤ l2 ∧ l2 < 70) ∧ E_X12_settle_20 G l1 (l2 + 1) (kup σ 11 l2 (-1)) Q))) : E_X12_settle_20 G l1 l2 σ Q := by
  refine R_iload_n e_X12_settle_1.2.2.1 2 rfl ?_
  refine R_bipush e_X12_settle_1.2.2.2.1 (by decide) ?_
  obtain ⟨q7, h⟩ := h
  refine R_icmp_ge 39 e_X12_settle_1.2.2.2.2.1 (by decide) q7 (by decide) (fun q => ?_) (fun q => ?_)
  · replace h := h.1 q
    refine R_iconst e_X12_settle_2.2.2.1 ?_
    refine R_istore_n (ls2 := [(2, vI 0), (0, vA G 0), (1, vI l1)]) e_X12_settle_2.2.2.2.1 (by decide) rfl ?_
    refine R_iconst e_X12_settle_2.2.2.2.2.1 ?_
    refine R_istore_n (ls2 := [(3, vI 0), (2, vI 0), (0, vA G 0), (1, vI l1)]) e_X12_settle_2.2.2.2.2.2.1 (by decide) rfl ?_
    refine R_ls (ls2 := [(0, vA G 0), (1, vI l1), (2, vI 0), (3, vI 0)]) [2, 3, 1, 0] rfl ?_
    exact h
  · replace h := h.2 q
    refine R_aload_n e_X12_settle_1.2.2.2.2.2.1 0 rfl ?_
    refine R_getA 12 27 11 e_X12_settle_1.2.2.2.2.2.2.1 f_X12_53 km_0 (fun _ _ => rfl) rm_0_27 (by decide) ?_
    refine R_iload_n e_X12_settle_1.2.2.2.2.2.2.2.1 2 rfl ?_
    refine R_iconst e_X12_settle_1.2.2.2.2.2.2.2.2.1 ?_
    obtain ⟨q8, h⟩ := h
    refine R_iast 70 WM_ok e_X12_settle_1.2.2.2.2.2.2.2.2.2 kma_11 q8 ?_
    refine R_iinc (ls2 := [(2, vI (l2 + 1)), (0, vA G 0), (1, vI l1)]) e_X12_settle_2.1 2 rfl (by decide) rfl ?_
    refine R_goto 20 e_X12_settle_2.2.1 (by decide) ?_
    refine R_ls (ls2 := [(0, vA G 0), (1, vI l1), (2, vI (l2 + 1))]) [1, 2, 0] rfl ?_
    exact h
theorem S_X12_settle_43 {G : Kg} {σ : Kmem} {Q : Int → Kmem → Prop} {l1 l2 l3 : Int}  (h : (rI l3) ∧ (rI (σ 1 4)) ∧ ((σ 1 4 ≤ l3 → Run G WM M_X12_gives 0 0 0 [vA G 0, vI l2] σ (fun r11 s12 => Q r11 s12)) ∧ (l3 < σ 1 4 → Run G WM M_X12_settles 8 0 0 [vA G 0, vI l3, vI l1] σ (fun r13 s14 => (rI r13) ∧ ((r13 = 0 → E_X12_settle_43 G l1 (l2 + 0) (l3 + 1) s14 Q) ∧ (r13 ≠ 0 → E_X12_settle_43 G l1 (l2 + 1) (l3 + 1) s14 Q)))))) : E_X12_settle_43 G l1 l2 l3 σ Q := by
  refine R_iload_n e_X12_settle_2.2.2.2.2.2.2.1 3 rfl ?_
  refine R_aload_n e_X12_settle_2.2.2.2.2.2.2.2.1 0 rfl ?_
  refine R_getA 12 0 1 e_X12_settle_2.2.2.2.2.2.2.2.2.1 f_X12_7 km_0 (fun _ _ => rfl) rm_0_0 (by decide) ?_
  refine R_iconst e_X12_settle_2.2.2.2.2.2.2.2.2.2 ?_
  refine R_iald 3598 e_X12_settle_3.1 kma_1 (by decide) ?_
  obtain ⟨q9, h⟩ := h
  obtain ⟨q10, h⟩ := h
  refine R_icmp_ge 76 e_X12_settle_3.2.1 (by decide) q9 q10 (fun q => ?_) (fun q => ?_)
  · replace h := h.1 q
    refine R_aload_n e_X12_settle_4.2.2.2.2.2.1 0 rfl ?_
    refine R_iload_n e_X12_settle_4.2.2.2.2.2.2.1 2 rfl ?_
    refine R_callV (mc := 0) (ms := 0) (mc' := 0) (ms' := 0) (M' := M_X12_gives) (d' := 0) (as := [vI l2]) (st := []) 12 1 e_X12_settle_4.2.2.2.2.2.2.2.1 (kCVof m_X12_gives l_X12_97) rfl (by decide) km_0 (by decide) (by decide) rfl rfl (by show (0 : Nat) ≤ 8; decide) ?_
    refine Run.mono h (fun r11 s12 h => ?_)
    refine R_eqs (st2 := [vI r11]) rfl rfl ?_
    exact R_ireturn e_X12_settle_4.2.2.2.2.2.2.2.2 rfl h
  · replace h := h.2 q
    refine R_iload_n e_X12_settle_3.2.2.1 2 rfl ?_
    refine R_aload_n e_X12_settle_3.2.2.2.1 0 rfl ?_
    refine R_iload_n e_X12_settle_3.2.2.2.2.1 3 rfl ?_
    refine R_iload_n e_X12_settle_3.2.2.2.2.2.1 1 rfl ?_
    refine R_callV (mc := 0) (ms := 0) (mc' := 0) (ms' := 0) (M' := M_X12_settles) (d' := 8) (as := [vI l3, vI l1]) (st := [vI l2]) 12 2 e_X12_settle_3.2.2.2.2.2.2.1 (kCVof m_X12_settles l_X12_465) rfl (by decide) km_0 (by decide) (by decide) rfl rfl (by show (1 : Nat) ≤ 8; decide) ?_
    refine Run.mono h (fun r13 s14 h => ?_)
    refine R_eqs (st2 := [vI r13, vI l2]) rfl rfl ?_
    obtain ⟨q15, h⟩ := h
    refine R_if_eq 67 e_X12_settle_3.2.2.2.2.2.2.2.1 (by decide) q15  (fun q => ?_) (fun q => ?_)
    · replace h := h.1 q
      refine R_iconst e_X12_settle_4.1 ?_
      refine R_iadd e_X12_settle_4.2.1 ?_
      refine R_istore_n (ls2 := [(2, vI (l2 + 0)), (0, vA G 0), (1, vI l1), (3, vI l3)]) e_X12_settle_4.2.2.1 (by decide) rfl ?_
      refine R_iinc (ls2 := [(3, vI (l3 + 1)), (2, vI (l2 + 0)), (0, vA G 0), (1, vI l1)]) e_X12_settle_4.2.2.2.1 3 rfl (by decide) rfl ?_
      refine R_goto 43 e_X12_settle_4.2.2.2.2.1 (by decide) ?_
      refine R_ls (ls2 := [(0, vA G 0), (1, vI l1), (2, vI (l2 + 0)), (3, vI (l3 + 1))]) [2, 3, 1, 0] rfl ?_
      exact h
    · replace h := h.2 q
      refine R_iconst e_X12_settle_3.2.2.2.2.2.2.2.2.1 ?_
      refine R_goto 68 e_X12_settle_3.2.2.2.2.2.2.2.2.2 (by decide) ?_
      refine R_iadd e_X12_settle_4.2.1 ?_
      refine R_istore_n (ls2 := [(2, vI (l2 + 1)), (0, vA G 0), (1, vI l1), (3, vI l3)]) e_X12_settle_4.2.2.1 (by decide) rfl ?_
      refine R_iinc (ls2 := [(3, vI (l3 + 1)), (2, vI (l2 + 1)), (0, vA G 0), (1, vI l1)]) e_X12_settle_4.2.2.2.1 3 rfl (by decide) rfl ?_
      refine R_goto 43 e_X12_settle_4.2.2.2.2.1 (by decide) ?_
      refine R_ls (ls2 := [(0, vA G 0), (1, vI l1), (2, vI (l2 + 1)), (3, vI (l3 + 1))]) [2, 3, 1, 0] rfl ?_
      exact h
/-! KiteLandModel.stripAt(III)I -/
theorem e_X12_stripAt_0 : decode cX12_stripAt 0 = .ok (.iconst 0, 1) ∧ decode cX12_stripAt 1 = .ok (.istore 4, 2) ∧ decode cX12_stripAt 3 = .ok (.iconst 0, 1) ∧ decode cX12_stripAt 4 = .ok (.istore 5, 2) ∧ decode cX12_stripAt 6 = .ok (.iload 5, 2) ∧ decode cX12_stripAt 8 = .ok (.bipush 12, 2) ∧ decode cX12_stripAt 10 = .ok (.if_icmp .ge 31, 3) ∧ decode cX12_stripAt 13 = .ok (.iload 4, 2) ∧ decode cX12_stripAt 15 = .ok (.aload_n 0, 1) ∧ decode cX12_stripAt 16 = .ok (.iload_n 1, 1) := by decide +kernel
theorem e_X12_stripAt_1 : decode cX12_stripAt 17 = .ok (.iload_n 2, 1) ∧ decode cX12_stripAt 18 = .ok (.iload_n 3, 1) ∧ decode cX12_stripAt 19 = .ok (.iload 5, 2) ∧ decode cX12_stripAt 21 = .ok (.invokevirtual 295, 3) ∧ decode cX12_stripAt 24 = .ok (.ifCond .eq 7, 3) ∧ decode cX12_stripAt 27 = .ok (.iconst 1, 1) ∧ decode cX12_stripAt 28 = .ok (.goto 4, 3) ∧ decode cX12_stripAt 31 = .ok (.iconst 0, 1) ∧ decode cX12_stripAt 32 = .ok (.iadd, 1) ∧ decode cX12_stripAt 33 = .ok (.istore 4, 2) := by decide +kernel
theorem e_X12_stripAt_2 : decode cX12_stripAt 35 = .ok (.iinc 5 1, 3) ∧ decode cX12_stripAt 38 = .ok (.goto (-32), 3) ∧ decode cX12_stripAt 41 = .ok (.iload 4, 2) ∧ decode cX12_stripAt 43 = .ok (.ireturn, 1) := by decide +kernel
abbrev E_X12_stripAt_6 (G : Kg) (l1 l2 l3 l4 l5 : Int) (σ : Kmem) (Q : Int → Kmem → Prop) : Prop := Ex G WM M_X12_stripAt 5 0 0 6 [(0, vA G 0), (1, vI l1), (2, vI l2), (3, vI l3), (4, vI l4), (5, vI l5)] [] σ Q
theorem S_X12_stripAt {G : Kg} {σ : Kmem} {Q : Int → Kmem → Prop} {l1 l2 l3 : Int}  (h : E_X12_stripAt_6 G l1 l2 l3 0 0 σ Q) : Run G WM M_X12_stripAt 5 0 0 [vA G 0, vI l1, vI l2, vI l3] σ Q := by
  refine Run.of (by decide +kernel) (by show (4 : Nat) ≤ 6; decide) ?_
  show Ex G WM M_X12_stripAt 5 0 0 0 [(0, vA G 0), (1, vI l1), (2, vI l2), (3, vI l3)] [] σ Q
  refine R_iconst e_X12_stripAt_0.1 ?_
  refine R_istore (ls2 := [(4, vI 0), (0, vA G 0), (1, vI l1), (2, vI l2), (3, vI l3)]) e_X12_stripAt_0.2.1 (by decide) rfl ?_
  refine R_iconst e_X12_stripAt_0.2.2.1 ?_
  refine R_istore (ls2 := [(5, vI 0), (4, vI 0), (0, vA G 0), (1, vI l1), (2, vI l2), (3, vI l3)]) e_X12_stripAt_0.2.2.2.1 (by decide) rfl ?_
  refine R_ls (ls2 := [(0, vA G 0), (1, vI l1), (2, vI l2), (3, vI l3), (4, vI 0), (5, vI 0)]) [2, 3, 4, 5, 1, 0] rfl ?_
  exact h
theorem S_X12_stripAt_6 {G : Kg} {σ : Kmem} {Q : Int → Kmem → Prop} {l1 l2 l3 l4 l5 : Int}  (h : (rI l5) ∧ ((12 ≤ l5 → Q l4 σ) ∧ (l5 < 12 → Run G WM M_X12_doesShade 4 0 0 [vA G 0, vI l1, vI l2, vI l3, vI l5] σ (fun r2 s3 => (rI r2) ∧ ((r2 = 0 → E_X12_stripAt_6 G l1 l2 l3 (l4 + 0) (l5 + 1) s3 Q) ∧ (r2 ≠ 0 → E_X12_stripAt_6 G l1 l2 l3 (l4 + 1) (l5 + 1) s3 Q)))))) : E_X12_stripAt_6 G l1 l2 l3 l4 l5 σ Q := by
  refine R_iload e_X12_stripAt_0.2.2.2.2.1 5 rfl ?_
  refine R_bipush e_X12_stripAt_0.2.2.2.2.2.1 (by decide) ?_
  obtain ⟨q1, h⟩ := h
  refine R_icmp_ge 41 e_X12_stripAt_0.2.2.2.2.2.2.1 (by decide) q1 (by decide) (fun q => ?_) (fun q => ?_)
  · replace h := h.1 q
    refine R_iload e_X12_stripAt_2.2.2.1 4 rfl ?_
    exact R_ireturn e_X12_stripAt_2.2.2.2 rfl h
  · replace h := h.2 q
    refine R_iload e_X12_stripAt_0.2.2.2.2.2.2.2.1 4 rfl ?_
    refine R_aload_n e_X12_stripAt_0.2.2.2.2.2.2.2.2.1 0 rfl ?_
    refine R_iload_n e_X12_stripAt_0.2.2.2.2.2.2.2.2.2 1 rfl ?_
    refine R_iload_n e_X12_stripAt_1.1 2 rfl ?_
    refine R_iload_n e_X12_stripAt_1.2.1 3 rfl ?_
    refine R_iload e_X12_stripAt_1.2.2.1 5 rfl ?_
    refine R_callV (mc := 0) (ms := 0) (mc' := 0) (ms' := 0) (M' := M_X12_doesShade) (d' := 4) (as := [vI l1, vI l2, vI l3, vI l5]) (st := [vI l4]) 12 4 e_X12_stripAt_1.2.2.2.1 (kCVof m_X12_doesShade l_X12_295) rfl (by decide) km_0 (by decide) (by decide) rfl rfl (by show (1 : Nat) ≤ 8; decide) ?_
    refine Run.mono h (fun r2 s3 h => ?_)
    refine R_eqs (st2 := [vI r2, vI l4]) rfl rfl ?_
    obtain ⟨q4, h⟩ := h
    refine R_if_eq 31 e_X12_stripAt_1.2.2.2.2.1 (by decide) q4  (fun q => ?_) (fun q => ?_)
    · replace h := h.1 q
      refine R_iconst e_X12_stripAt_1.2.2.2.2.2.2.2.1 ?_
      refine R_iadd e_X12_stripAt_1.2.2.2.2.2.2.2.2.1 ?_
      refine R_istore (ls2 := [(4, vI (l4 + 0)), (0, vA G 0), (1, vI l1), (2, vI l2), (3, vI l3), (5, vI l5)]) e_X12_stripAt_1.2.2.2.2.2.2.2.2.2 (by decide) rfl ?_
      refine R_iinc (ls2 := [(5, vI (l5 + 1)), (4, vI (l4 + 0)), (0, vA G 0), (1, vI l1), (2, vI l2), (3, vI l3)]) e_X12_stripAt_2.1 5 rfl (by decide) rfl ?_
      refine R_goto 6 e_X12_stripAt_2.2.1 (by decide) ?_
      refine R_ls (ls2 := [(0, vA G 0), (1, vI l1), (2, vI l2), (3, vI l3), (4, vI (l4 + 0)), (5, vI (l5 + 1))]) [2, 3, 4, 5, 1, 0] rfl ?_
      exact h
    · replace h := h.2 q
      refine R_iconst e_X12_stripAt_1.2.2.2.2.2.1 ?_
      refine R_goto 32 e_X12_stripAt_1.2.2.2.2.2.2.1 (by decide) ?_
      refine R_iadd e_X12_stripAt_1.2.2.2.2.2.2.2.2.1 ?_
      refine R_istore (ls2 := [(4, vI (l4 + 1)), (0, vA G 0), (1, vI l1), (2, vI l2), (3, vI l3), (5, vI l5)]) e_X12_stripAt_1.2.2.2.2.2.2.2.2.2 (by decide) rfl ?_
      refine R_iinc (ls2 := [(5, vI (l5 + 1)), (4, vI (l4 + 1)), (0, vA G 0), (1, vI l1), (2, vI l2), (3, vI l3)]) e_X12_stripAt_2.1 5 rfl (by decide) rfl ?_
      refine R_goto 6 e_X12_stripAt_2.2.1 (by decide) ?_
      refine R_ls (ls2 := [(0, vA G 0), (1, vI l1), (2, vI l2), (3, vI l3), (4, vI (l4 + 1)), (5, vI (l5 + 1))]) [2, 3, 4, 5, 1, 0] rfl ?_
      exact h
/-! KiteLandModel.isRow(I)Z -/
theorem e_X12_isRow_0 : decode cX12_isRow 0 = .ok (.iload_n 1, 1) ∧ decode cX12_isRow 1 = .ok (.ifCond .lt 17, 3) ∧ decode cX12_isRow 4 = .ok (.iload_n 1, 1) ∧ decode cX12_isRow 5 = .ok (.aload_n 0, 1) ∧ decode cX12_isRow 6 = .ok (.getfield 7, 3) ∧ decode cX12_isRow 9 = .ok (.iconst 1, 1) ∧ decode cX12_isRow 10 = .ok (.iaload, 1) ∧ decode cX12_isRow 11 = .ok (.if_icmp .ge 7, 3) ∧ decode cX12_isRow 14 = .ok (.iconst 1, 1) ∧ decode cX12_isRow 15 = .ok (.goto 4, 3) := by decide +kernel
theorem e_X12_isRow_1 : decode cX12_isRow 18 = .ok (.iconst 0, 1) ∧ decode cX12_isRow 19 = .ok (.ireturn, 1) := by decide +kernel
theorem S_X12_isRow {G : Kg} {σ : Kmem} {Q : Int → Kmem → Prop} {l1 : Int}  (h : (rI l1) ∧ ((l1 < 0 → Q 0 σ) ∧ (0 ≤ l1 → (rI (σ 1 1)) ∧ ((σ 1 1 ≤ l1 → Q 0 σ) ∧ (l1 < σ 1 1 → Q 1 σ))))) : Run G WM M_X12_isRow 0 0 0 [vA G 0, vI l1] σ Q := by
  refine Run.of (by decide +kernel) (by show (2 : Nat) ≤ 2; decide) ?_
  show Ex G WM M_X12_isRow 0 0 0 0 [(0, vA G 0), (1, vI l1)] [] σ Q
  refine R_iload_n e_X12_isRow_0.1 1 rfl ?_
  obtain ⟨q1, h⟩ := h
  refine R_if_lt 18 e_X12_isRow_0.2.1 (by decide) q1  (fun q => ?_) (fun q => ?_)
  · replace h := h.1 q
    refine R_iconst e_X12_isRow_1.1 ?_
    exact R_zreturn e_X12_isRow_1.2 rfl (Or.inl rfl) h
  · replace h := h.2 q
    refine R_iload_n e_X12_isRow_0.2.2.1 1 rfl ?_
    refine R_aload_n e_X12_isRow_0.2.2.2.1 0 rfl ?_
    refine R_getA 12 0 1 e_X12_isRow_0.2.2.2.2.1 f_X12_7 km_0 (fun _ _ => rfl) rm_0_0 (by decide) ?_
    refine R_iconst e_X12_isRow_0.2.2.2.2.2.1 ?_
    refine R_iald 3598 e_X12_isRow_0.2.2.2.2.2.2.1 kma_1 (by decide) ?_
    obtain ⟨q2, h⟩ := h
    refine R_icmp_ge 18 e_X12_isRow_0.2.2.2.2.2.2.2.1 (by decide) q1 q2 (fun q => ?_) (fun q => ?_)
    · replace h := h.1 q
      refine R_iconst e_X12_isRow_1.1 ?_
      exact R_zreturn e_X12_isRow_1.2 rfl (Or.inl rfl) h
    · replace h := h.2 q
      refine R_iconst e_X12_isRow_0.2.2.2.2.2.2.2.2.1 ?_
      refine R_goto 19 e_X12_isRow_0.2.2.2.2.2.2.2.2.2 (by decide) ?_
      exact R_zreturn e_X12_isRow_1.2 rfl (Or.inr rfl) h
/-! KiteLandModel.wrongStrip(II)I -/
theorem e_X12_wrongStrip_0 : decode cX12_wrongStrip 0 = .ok (.aload_n 0, 1) ∧ decode cX12_wrongStrip 1 = .ok (.iload_n 1, 1) ∧ decode cX12_wrongStrip 2 = .ok (.invokevirtual 468, 3) ∧ decode cX12_wrongStrip 5 = .ok (.ifCond .eq 10, 3) ∧ decode cX12_wrongStrip 8 = .ok (.iload_n 2, 1) ∧ decode cX12_wrongStrip 9 = .ok (.invokestatic 104, 3) ∧ decode cX12_wrongStrip 12 = .ok (.ifCond .ne 7, 3) ∧ decode cX12_wrongStrip 15 = .ok (.iconst 1, 1) ∧ decode cX12_wrongStrip 16 = .ok (.goto 37, 3) ∧ decode cX12_wrongStrip 19 = .ok (.aload_n 0, 1) := by decide +kernel
theorem e_X12_wrongStrip_1 : decode cX12_wrongStrip 20 = .ok (.getfield 24, 3) ∧ decode cX12_wrongStrip 23 = .ok (.iload_n 2, 1) ∧ decode cX12_wrongStrip 24 = .ok (.iaload, 1) ∧ decode cX12_wrongStrip 25 = .ok (.iconst (-1), 1) ∧ decode cX12_wrongStrip 26 = .ok (.if_icmp .ne 7, 3) ∧ decode cX12_wrongStrip 29 = .ok (.iconst 2, 1) ∧ decode cX12_wrongStrip 30 = .ok (.goto 23, 3) ∧ decode cX12_wrongStrip 33 = .ok (.aload_n 0, 1) ∧ decode cX12_wrongStrip 34 = .ok (.getfield 24, 3) ∧ decode cX12_wrongStrip 37 = .ok (.iload_n 2, 1) := by decide +kernel
theorem e_X12_wrongStrip_2 : decode cX12_wrongStrip 38 = .ok (.iaload, 1) ∧ decode cX12_wrongStrip 39 = .ok (.aload_n 0, 1) ∧ decode cX12_wrongStrip 40 = .ok (.getfield 7, 3) ∧ decode cX12_wrongStrip 43 = .ok (.iconst 0, 1) ∧ decode cX12_wrongStrip 44 = .ok (.iaload, 1) ∧ decode cX12_wrongStrip 45 = .ok (.if_icmp .ge 7, 3) ∧ decode cX12_wrongStrip 48 = .ok (.iconst 3, 1) ∧ decode cX12_wrongStrip 49 = .ok (.goto 4, 3) ∧ decode cX12_wrongStrip 52 = .ok (.iconst 0, 1) ∧ decode cX12_wrongStrip 53 = .ok (.ireturn, 1) := by decide +kernel
theorem S_X12_wrongStrip {G : Kg} {σ : Kmem} {Q : Int → Kmem → Prop} {l1 l2 : Int}  (h : Run G WM M_X12_isRow 0 0 0 [vA G 0, vI l1] σ (fun r1 s2 => (rI r1) ∧ ((r1 = 0 → Q 1 s2) ∧ (r1 ≠ 0 → Run G WM M_X12_isTray 0 0 0 [vI l2] s2 (fun r4 s5 => (rI r4) ∧ ((r4 ≠ 0 → (0 ≤ l2 ∧ l2 < 4) ∧ (rI (s5 4 l2)) ∧ ((s5 4 l2 ≠ -1 → (0 ≤ l2 ∧ l2 < 4) ∧ (rI (s5 1 0)) ∧ ((s5 1 0 ≤ s5 4 l2 → Q 0 s5) ∧ (s5 4 l2 < s5 1 0 → Q 3 s5))) ∧ (s5 4 l2 = -1 → Q 2 s5))) ∧ (r4 = 0 → Q 1 s5))))))) : Run G WM M_X12_wrongStrip 1 0 0 [vA G 0, vI l1, vI l2] σ Q := by
  refine Run.of (by decide +kernel) (by show (3 : Nat) ≤ 3; decide) ?_
  show Ex G WM M_X12_wrongStrip 1 0 0 0 [(0, vA G 0), (1, vI l1), (2, vI l2)] [] σ Q
  refine R_aload_n e_X12_wrongStrip_0.1 0 rfl ?_
  refine R_iload_n e_X12_wrongStrip_0.2.1 1 rfl ?_
  refine R_callV (mc := 0) (ms := 0) (mc' := 0) (ms' := 0) (M' := M_X12_isRow) (d' := 0) (as := [vI l1]) (st := []) 12 1 e_X12_wrongStrip_0.2.2.1 (kCVof m_X12_isRow l_X12_468) rfl (by decide) km_0 (by decide) (by decide) rfl rfl (by show (0 : Nat) ≤ 8; decide) ?_
  refine Run.mono h (fun r1 s2 h => ?_)
  refine R_eqs (st2 := [vI r1]) rfl rfl ?_
  obtain ⟨q3, h⟩ := h
  refine R_if_eq 15 e_X12_wrongStrip_0.2.2.2.1 (by decide) q3  (fun q => ?_) (fun q => ?_)
  · replace h := h.1 q
    refine R_iconst e_X12_wrongStrip_0.2.2.2.2.2.2.2.1 ?_
    refine R_goto 53 e_X12_wrongStrip_0.2.2.2.2.2.2.2.2.1 (by decide) ?_
    exact R_ireturn e_X12_wrongStrip_2.2.2.2.2.2.2.2.2.2 rfl h
  · replace h := h.2 q
    refine R_iload_n e_X12_wrongStrip_0.2.2.2.2.1 2 rfl ?_
    refine R_callS (mc := 0) (ms := 0) (mc' := 0) (ms' := 0) (M' := M_X12_isTray) (d' := 0) (as := [vI l2]) (st := []) 1 e_X12_wrongStrip_0.2.2.2.2.2.1 (kCSof m_X12_isTray l_X12_104) (by decide) (by decide) rfl rfl (by show (0 : Nat) ≤ 8; decide) ?_
    refine Run.mono h (fun r4 s5 h => ?_)
    refine R_eqs (st2 := [vI r4]) rfl rfl ?_
    obtain ⟨q6, h⟩ := h
    refine R_if_ne 19 e_X12_wrongStrip_0.2.2.2.2.2.2.1 (by decide) q6  (fun q => ?_) (fun q => ?_)
    · replace h := h.1 q
      refine R_aload_n e_X12_wrongStrip_0.2.2.2.2.2.2.2.2.2 0 rfl ?_
      refine R_getA 12 6 4 e_X12_wrongStrip_1.1 f_X12_24 km_0 (fun _ _ => rfl) rm_0_6 (by decide) ?_
      refine R_iload_n e_X12_wrongStrip_1.2.1 2 rfl ?_
      obtain ⟨q7, h⟩ := h
      refine R_iald 4 e_X12_wrongStrip_1.2.2.1 kma_4 q7 ?_
      refine R_iconst e_X12_wrongStrip_1.2.2.2.1 ?_
      obtain ⟨q8, h⟩ := h
      refine R_icmp_ne 33 e_X12_wrongStrip_1.2.2.2.2.1 (by decide) q8 (by decide) (fun q => ?_) (fun q => ?_)
      · replace h := h.1 q
        refine R_aload_n e_X12_wrongStrip_1.2.2.2.2.2.2.2.1 0 rfl ?_
        refine R_getA 12 6 4 e_X12_wrongStrip_1.2.2.2.2.2.2.2.2.1 f_X12_24 km_0 (fun _ _ => rfl) rm_0_6 (by decide) ?_
        refine R_iload_n e_X12_wrongStrip_1.2.2.2.2.2.2.2.2.2 2 rfl ?_
        obtain ⟨q9, h⟩ := h
        refine R_iald 4 e_X12_wrongStrip_2.1 kma_4 q9 ?_
        refine R_aload_n e_X12_wrongStrip_2.2.1 0 rfl ?_
        refine R_getA 12 0 1 e_X12_wrongStrip_2.2.2.1 f_X12_7 km_0 (fun _ _ => rfl) rm_0_0 (by decide) ?_
        refine R_iconst e_X12_wrongStrip_2.2.2.2.1 ?_
        refine R_iald 3598 e_X12_wrongStrip_2.2.2.2.2.1 kma_1 (by decide) ?_
        obtain ⟨q10, h⟩ := h
        refine R_icmp_ge 52 e_X12_wrongStrip_2.2.2.2.2.2.1 (by decide) q8 q10 (fun q => ?_) (fun q => ?_)
        · replace h := h.1 q
          refine R_iconst e_X12_wrongStrip_2.2.2.2.2.2.2.2.2.1 ?_
          exact R_ireturn e_X12_wrongStrip_2.2.2.2.2.2.2.2.2.2 rfl h
        · replace h := h.2 q
          refine R_iconst e_X12_wrongStrip_2.2.2.2.2.2.2.1 ?_
          refine R_goto 53 e_X12_wrongStrip_2.2.2.2.2.2.2.2.1 (by decide) ?_
          exact R_ireturn e_X12_wrongStrip_2.2.2.2.2.2.2.2.2.2 rfl h
      · replace h := h.2 q
        refine R_iconst e_X12_wrongStrip_1.2.2.2.2.2.1 ?_
        refine R_goto 53 e_X12_wrongStrip_1.2.2.2.2.2.2.1 (by decide) ?_
        exact R_ireturn e_X12_wrongStrip_2.2.2.2.2.2.2.2.2.2 rfl h
    · replace h := h.2 q
      refine R_iconst e_X12_wrongStrip_0.2.2.2.2.2.2.2.1 ?_
      refine R_goto 53 e_X12_wrongStrip_0.2.2.2.2.2.2.2.2.1 (by decide) ?_
      exact R_ireturn e_X12_wrongStrip_2.2.2.2.2.2.2.2.2.2 rfl h
/-! KiteLandModel.strip(III)I -/
theorem e_X12_strip_0 : decode cX12_strip 0 = .ok (.aload_n 0, 1) ∧ decode cX12_strip 1 = .ok (.iload_n 1, 1) ∧ decode cX12_strip 2 = .ok (.invokevirtual 343, 3) ∧ decode cX12_strip 5 = .ok (.ifCond .eq 12, 3) ∧ decode cX12_strip 8 = .ok (.aload_n 0, 1) ∧ decode cX12_strip 9 = .ok (.iload_n 2, 1) ∧ decode cX12_strip 10 = .ok (.iload_n 3, 1) ∧ decode cX12_strip 11 = .ok (.invokevirtual 471, 3) ∧ decode cX12_strip 14 = .ok (.goto 4, 3) ∧ decode cX12_strip 17 = .ok (.iconst 1, 1) := by decide +kernel
theorem e_X12_strip_1 : decode cX12_strip 18 = .ok (.istore 4, 2) ∧ decode cX12_strip 20 = .ok (.iload 4, 2) ∧ decode cX12_strip 22 = .ok (.ifCond .le 10, 3) ∧ decode cX12_strip 25 = .ok (.aload_n 0, 1) ∧ decode cX12_strip 26 = .ok (.iload 4, 2) ∧ decode cX12_strip 28 = .ok (.invokevirtual 93, 3) ∧ decode cX12_strip 31 = .ok (.ireturn, 1) ∧ decode cX12_strip 32 = .ok (.iconst 0, 1) ∧ decode cX12_strip 33 = .ok (.istore 5, 2) ∧ decode cX12_strip 35 = .ok (.iload 5, 2) := by decide +kernel
theorem e_X12_strip_2 : decode cX12_strip 37 = .ok (.aload_n 0, 1) ∧ decode cX12_strip 38 = .ok (.getfield 7, 3) ∧ decode cX12_strip 41 = .ok (.iconst 0, 1) ∧ decode cX12_strip 42 = .ok (.iaload, 1) ∧ decode cX12_strip 43 = .ok (.if_icmp .ge 30, 3) ∧ decode cX12_strip 46 = .ok (.aload_n 0, 1) ∧ decode cX12_strip 47 = .ok (.getfield 27, 3) ∧ decode cX12_strip 50 = .ok (.bipush 60, 2) ∧ decode cX12_strip 52 = .ok (.iload_n 3, 1) ∧ decode cX12_strip 53 = .ok (.imul, 1) := by decide +kernel
theorem e_X12_strip_3 : decode cX12_strip 54 = .ok (.iload 5, 2) ∧ decode cX12_strip 56 = .ok (.iadd, 1) ∧ decode cX12_strip 57 = .ok (.aload_n 0, 1) ∧ decode cX12_strip 58 = .ok (.iload_n 1, 1) ∧ decode cX12_strip 59 = .ok (.iload 5, 2) ∧ decode cX12_strip 61 = .ok (.iload_n 2, 1) ∧ decode cX12_strip 62 = .ok (.invokevirtual 474, 3) ∧ decode cX12_strip 65 = .ok (.i2l, 1) ∧ decode cX12_strip 66 = .ok (.lastore, 1) ∧ decode cX12_strip 67 = .ok (.iinc 5 1, 3) := by decide +kernel
theorem e_X12_strip_4 : decode cX12_strip 70 = .ok (.goto (-35), 3) ∧ decode cX12_strip 73 = .ok (.aload_n 0, 1) ∧ decode cX12_strip 74 = .ok (.aload_n 0, 1) ∧ decode cX12_strip 75 = .ok (.getfield 7, 3) ∧ decode cX12_strip 78 = .ok (.iconst 0, 1) ∧ decode cX12_strip 79 = .ok (.iaload, 1) ∧ decode cX12_strip 80 = .ok (.invokevirtual 97, 3) ∧ decode cX12_strip 83 = .ok (.ireturn, 1) := by decide +kernel
abbrev E_X12_strip_35 (G : Kg) (l1 l2 l3 l5 : Int) (σ : Kmem) (Q : Int → Kmem → Prop) : Prop := Ex G WM M_X12_strip 6 0 0 35 [(0, vA G 0), (1, vI l1), (2, vI l2), (3, vI l3), (5, vI l5)] [] σ Q
theorem S_X12_strip {G : Kg} {σ : Kmem} {Q : Int → Kmem → Prop} {l1 l2 l3 : Int}  (h : Run G WM M_X12_isKite 0 0 0 [vA G 0, vI l1] σ (fun r1 s2 => (rI r1) ∧ ((r1 = 0 → Run G WM M_X12_refuse 0 0 0 [vA G 0, vI 1] s2 (fun r4 s5 => Q r4 s5)) ∧ (r1 ≠ 0 → Run G WM M_X12_wrongStrip 1 0 0 [vA G 0, vI l2, vI l3] s2 (fun r6 s7 => (rI r6) ∧ ((r6 ≤ 0 → E_X12_strip_35 G l1 l2 l3 0 s7 Q) ∧ (0 < r6 → Run G WM M_X12_refuse 0 0 0 [vA G 0, vI r6] s7 (fun r9 s10 => Q r9 s10)))))))) : Run G WM M_X12_strip 6 0 0 [vA G 0, vI l1, vI l2, vI l3] σ Q := by
  refine Run.of (by decide +kernel) (by show (4 : Nat) ≤ 6; decide) ?_
  show Ex G WM M_X12_strip 6 0 0 0 [(0, vA G 0), (1, vI l1), (2, vI l2), (3, vI l3)] [] σ Q
  refine R_aload_n e_X12_strip_0.1 0 rfl ?_
  refine R_iload_n e_X12_strip_0.2.1 1 rfl ?_
  refine R_callV (mc := 0) (ms := 0) (mc' := 0) (ms' := 0) (M' := M_X12_isKite) (d' := 0) (as := [vI l1]) (st := []) 12 1 e_X12_strip_0.2.2.1 (kCVof m_X12_isKite l_X12_343) rfl (by decide) km_0 (by decide) (by decide) rfl rfl (by show (0 : Nat) ≤ 8; decide) ?_
  refine Run.mono h (fun r1 s2 h => ?_)
  refine R_eqs (st2 := [vI r1]) rfl rfl ?_
  obtain ⟨q3, h⟩ := h
  refine R_if_eq 17 e_X12_strip_0.2.2.2.1 (by decide) q3  (fun q => ?_) (fun q => ?_)
  · replace h := h.1 q
    refine R_iconst e_X12_strip_0.2.2.2.2.2.2.2.2.2 ?_
    refine R_istore (ls2 := [(4, vI 1), (0, vA G 0), (1, vI l1), (2, vI l2), (3, vI l3)]) e_X12_strip_1.1 (by decide) rfl ?_
    refine R_iload e_X12_strip_1.2.1 0 rfl ?_
    refine R_if_le 32 e_X12_strip_1.2.2.1 (by decide) (by decide)  (fun q => absurd q (by decide)) (fun q => ?_)
    refine R_aload_n e_X12_strip_1.2.2.2.1 1 rfl ?_
    refine R_iload e_X12_strip_1.2.2.2.2.1 0 rfl ?_
    refine R_callV (mc := 0) (ms := 0) (mc' := 0) (ms' := 0) (M' := M_X12_refuse) (d' := 0) (as := [vI 1]) (st := []) 12 1 e_X12_strip_1.2.2.2.2.2.1 (kCVof m_X12_refuse l_X12_93) rfl (by decide) km_0 (by decide) (by decide) rfl rfl (by show (0 : Nat) ≤ 8; decide) ?_
    refine Run.mono h (fun r4 s5 h => ?_)
    refine R_eqs (st2 := [vI r4]) rfl rfl ?_
    exact R_ireturn e_X12_strip_1.2.2.2.2.2.2.1 rfl h
  · replace h := h.2 q
    refine R_aload_n e_X12_strip_0.2.2.2.2.1 0 rfl ?_
    refine R_iload_n e_X12_strip_0.2.2.2.2.2.1 2 rfl ?_
    refine R_iload_n e_X12_strip_0.2.2.2.2.2.2.1 3 rfl ?_
    refine R_callV (mc := 0) (ms := 0) (mc' := 0) (ms' := 0) (M' := M_X12_wrongStrip) (d' := 1) (as := [vI l2, vI l3]) (st := []) 12 2 e_X12_strip_0.2.2.2.2.2.2.2.1 (kCVof m_X12_wrongStrip l_X12_471) rfl (by decide) km_0 (by decide) (by decide) rfl rfl (by show (0 : Nat) ≤ 8; decide) ?_
    refine Run.mono h (fun r6 s7 h => ?_)
    refine R_eqs (st2 := [vI r6]) rfl rfl ?_
    refine R_goto 18 e_X12_strip_0.2.2.2.2.2.2.2.2.1 (by decide) ?_
    refine R_istore (ls2 := [(4, vI r6), (0, vA G 0), (1, vI l1), (2, vI l2), (3, vI l3)]) e_X12_strip_1.1 (by decide) rfl ?_
    refine R_iload e_X12_strip_1.2.1 0 rfl ?_
    obtain ⟨q8, h⟩ := h
    refine R_if_le 32 e_X12_strip_1.2.2.1 (by decide) q8  (fun q => ?_) (fun q => ?_)
    · replace h := h.1 q
      refine R_iconst e_X12_strip_1.2.2.2.2.2.2.2.1 ?_
      refine R_istore (ls2 := [(5, vI 0), (4, vI r6), (0, vA G 0), (1, vI l1), (2, vI l2), (3, vI l3)]) e_X12_strip_1.2.2.2.2.2.2.2.2.1 (by decide) rfl ?_
      refine R_ls (ls2 := [(0, vA G 0), (1, vI l1), (2, vI l2), (3, vI l3), (5, vI 0)]) [2, 3, 4, 5, 0] rfl ?_
      exact h
    · replace h := h.2 q
      refine R_aload_n e_X12_strip_1.2.2.2.1 1 rfl ?_
      refine R_iload e_X12_strip_1.2.2.2.2.1 0 rfl ?_
      refine R_callV (mc := 0) (ms := 0) (mc' := 0) (ms' := 0) (M' := M_X12_refuse) (d' := 0) (as := [vI r6]) (st := []) 12 1 e_X12_strip_1.2.2.2.2.2.1 (kCVof m_X12_refuse l_X12_93) rfl (by decide) km_0 (by decide) (by decide) rfl rfl (by show (0 : Nat) ≤ 8; decide) ?_
      refine Run.mono h (fun r9 s10 h => ?_)
      refine R_eqs (st2 := [vI r9]) rfl rfl ?_
      exact R_ireturn e_X12_strip_1.2.2.2.2.2.2.1 rfl h
theorem S_X12_strip_35 {G : Kg} {σ : Kmem} {Q : Int → Kmem → Prop} {l1 l2 l3 l5 : Int}  (h : (rI l5) ∧ (rI (σ 1 0)) ∧ ((σ 1 0 ≤ l5 → Run G WM M_X12_gives 0 0 0 [vA G 0, vI (σ 1 0)] σ (fun r13 s14 => Q r13 s14)) ∧ (l5 < σ 1 0 → Run G WM M_X12_stripAt 5 0 0 [vA G 0, vI l1, vI l5, vI l2] σ (fun r15 s16 => (rI r15) ∧ (0 ≤ (60 * l3) + l5 ∧ (60 * l3) + l5 < 240) ∧ E_X12_strip_35 G l1 l2 l3 (l5 + 1) (kup s16 5 ((60 * l3) + l5) r15) Q)))) : E_X12_strip_35 G l1 l2 l3 l5 σ Q := by
  refine R_iload e_X12_strip_1.2.2.2.2.2.2.2.2.2 4 rfl ?_
  refine R_aload_n e_X12_strip_2.1 0 rfl ?_
  refine R_getA 12 0 1 e_X12_strip_2.2.1 f_X12_7 km_0 (fun _ _ => rfl) rm_0_0 (by decide) ?_
  refine R_iconst e_X12_strip_2.2.2.1 ?_
  refine R_iald 3598 e_X12_strip_2.2.2.2.1 kma_1 (by decide) ?_
  obtain ⟨q11, h⟩ := h
  obtain ⟨q12, h⟩ := h
  refine R_icmp_ge 73 e_X12_strip_2.2.2.2.2.1 (by decide) q11 q12 (fun q => ?_) (fun q => ?_)
  · replace h := h.1 q
    refine R_aload_n e_X12_strip_4.2.1 0 rfl ?_
    refine R_aload_n e_X12_strip_4.2.2.1 0 rfl ?_
    refine R_getA 12 0 1 e_X12_strip_4.2.2.2.1 f_X12_7 km_0 (fun _ _ => rfl) rm_0_0 (by decide) ?_
    refine R_iconst e_X12_strip_4.2.2.2.2.1 ?_
    refine R_iald 3598 e_X12_strip_4.2.2.2.2.2.1 kma_1 (by decide) ?_
    refine R_callV (mc := 0) (ms := 0) (mc' := 0) (ms' := 0) (M' := M_X12_gives) (d' := 0) (as := [vI (σ 1 0)]) (st := []) 12 1 e_X12_strip_4.2.2.2.2.2.2.1 (kCVof m_X12_gives l_X12_97) rfl (by decide) km_0 (by decide) (by decide) rfl rfl (by show (0 : Nat) ≤ 8; decide) ?_
    refine Run.mono h (fun r13 s14 h => ?_)
    refine R_eqs (st2 := [vI r13]) rfl rfl ?_
    exact R_ireturn e_X12_strip_4.2.2.2.2.2.2.2 rfl h
  · replace h := h.2 q
    refine R_aload_n e_X12_strip_2.2.2.2.2.2.1 0 rfl ?_
    refine R_getA 12 7 5 e_X12_strip_2.2.2.2.2.2.2.1 f_X12_27 km_0 (fun _ _ => rfl) rm_0_7 (by decide) ?_
    refine R_bipush e_X12_strip_2.2.2.2.2.2.2.2.1 (by decide) ?_
    refine R_iload_n e_X12_strip_2.2.2.2.2.2.2.2.2.1 3 rfl ?_
    refine R_imul e_X12_strip_2.2.2.2.2.2.2.2.2.2 ?_
    refine R_iload e_X12_strip_3.1 4 rfl ?_
    refine R_iadd e_X12_strip_3.2.1 ?_
    refine R_aload_n e_X12_strip_3.2.2.1 0 rfl ?_
    refine R_iload_n e_X12_strip_3.2.2.2.1 1 rfl ?_
    refine R_iload e_X12_strip_3.2.2.2.2.1 4 rfl ?_
    refine R_iload_n e_X12_strip_3.2.2.2.2.2.1 2 rfl ?_
    refine R_callV (mc := 0) (ms := 0) (mc' := 0) (ms' := 0) (M' := M_X12_stripAt) (d' := 5) (as := [vI l1, vI l5, vI l2]) (st := [vI ((60 * l3) + l5), vA G 5]) 12 3 e_X12_strip_3.2.2.2.2.2.2.1 (kCVof m_X12_stripAt l_X12_474) rfl (by decide) km_0 (by decide) (by decide) rfl rfl (by show (2 : Nat) ≤ 8; decide) ?_
    refine Run.mono h (fun r15 s16 h => ?_)
    refine R_eqs (st2 := [vI r15, vI ((60 * l3) + l5), vA G 5]) rfl rfl ?_
    obtain ⟨q17, h⟩ := h
    refine R_i2l e_X12_strip_3.2.2.2.2.2.2.2.1 q17 ?_
    obtain ⟨q18, h⟩ := h
    refine R_last 240 WM_ok e_X12_strip_3.2.2.2.2.2.2.2.2.1 kma_5 q18 ?_
    refine R_iinc (ls2 := [(5, vI (l5 + 1)), (0, vA G 0), (1, vI l1), (2, vI l2), (3, vI l3)]) e_X12_strip_3.2.2.2.2.2.2.2.2.2 4 rfl (by decide) rfl ?_
    refine R_goto 35 e_X12_strip_4.1 (by decide) ?_
    refine R_ls (ls2 := [(0, vA G 0), (1, vI l1), (2, vI l2), (3, vI l3), (5, vI (l5 + 1))]) [1, 2, 3, 4, 0] rfl ?_
    exact h
/-! KiteLandModel.suspects(II)I -/
theorem e_X12_suspects_0 : decode cX12_suspects 0 = .ok (.aload_n 0, 1) ∧ decode cX12_suspects 1 = .ok (.iload_n 1, 1) ∧ decode cX12_suspects 2 = .ok (.iload_n 2, 1) ∧ decode cX12_suspects 3 = .ok (.invokevirtual 471, 3) ∧ decode cX12_suspects 6 = .ok (.istore_n 3, 1) ∧ decode cX12_suspects 7 = .ok (.iload_n 3, 1) ∧ decode cX12_suspects 8 = .ok (.ifCond .le 9, 3) ∧ decode cX12_suspects 11 = .ok (.aload_n 0, 1) ∧ decode cX12_suspects 12 = .ok (.iload_n 3, 1) ∧ decode cX12_suspects 13 = .ok (.invokevirtual 93, 3) := by decide +kernel
theorem e_X12_suspects_1 : decode cX12_suspects 16 = .ok (.ireturn, 1) ∧ decode cX12_suspects 17 = .ok (.iconst 0, 1) ∧ decode cX12_suspects 18 = .ok (.istore 4, 2) ∧ decode cX12_suspects 20 = .ok (.iconst 0, 1) ∧ decode cX12_suspects 21 = .ok (.istore 5, 2) ∧ decode cX12_suspects 23 = .ok (.iload 5, 2) ∧ decode cX12_suspects 25 = .ok (.aload_n 0, 1) ∧ decode cX12_suspects 26 = .ok (.getfield 7, 3) ∧ decode cX12_suspects 29 = .ok (.iconst 2, 1) ∧ decode cX12_suspects 30 = .ok (.iaload, 1) := by decide +kernel
theorem e_X12_suspects_2 : decode cX12_suspects 31 = .ok (.if_icmp .ge 88, 3) ∧ decode cX12_suspects 34 = .ok (.iconst 1, 1) ∧ decode cX12_suspects 35 = .ok (.istore 6, 2) ∧ decode cX12_suspects 37 = .ok (.iconst 0, 1) ∧ decode cX12_suspects 38 = .ok (.istore 7, 2) ∧ decode cX12_suspects 40 = .ok (.iload 7, 2) ∧ decode cX12_suspects 42 = .ok (.aload_n 0, 1) ∧ decode cX12_suspects 43 = .ok (.getfield 7, 3) ∧ decode cX12_suspects 46 = .ok (.iconst 0, 1) ∧ decode cX12_suspects 47 = .ok (.iaload, 1) := by decide +kernel
theorem e_X12_suspects_3 : decode cX12_suspects 48 = .ok (.if_icmp .ge 47, 3) ∧ decode cX12_suspects 51 = .ok (.iload 6, 2) ∧ decode cX12_suspects 53 = .ok (.ifCond .eq 33, 3) ∧ decode cX12_suspects 56 = .ok (.aload_n 0, 1) ∧ decode cX12_suspects 57 = .ok (.getfield 27, 3) ∧ decode cX12_suspects 60 = .ok (.bipush 60, 2) ∧ decode cX12_suspects 62 = .ok (.iload_n 2, 1) ∧ decode cX12_suspects 63 = .ok (.imul, 1) ∧ decode cX12_suspects 64 = .ok (.iload 7, 2) ∧ decode cX12_suspects 66 = .ok (.iadd, 1) := by decide +kernel
theorem e_X12_suspects_4 : decode cX12_suspects 67 = .ok (.laload, 1) ∧ decode cX12_suspects 68 = .ok (.aload_n 0, 1) ∧ decode cX12_suspects 69 = .ok (.iload 5, 2) ∧ decode cX12_suspects 71 = .ok (.iload 7, 2) ∧ decode cX12_suspects 73 = .ok (.iload_n 1, 1) ∧ decode cX12_suspects 74 = .ok (.invokevirtual 474, 3) ∧ decode cX12_suspects 77 = .ok (.i2l, 1) ∧ decode cX12_suspects 78 = .ok (.lcmp, 1) ∧ decode cX12_suspects 79 = .ok (.ifCond .ne 7, 3) ∧ decode cX12_suspects 82 = .ok (.iconst 1, 1) := by decide +kernel
theorem e_X12_suspects_5 : decode cX12_suspects 83 = .ok (.goto 4, 3) ∧ decode cX12_suspects 86 = .ok (.iconst 0, 1) ∧ decode cX12_suspects 87 = .ok (.istore 6, 2) ∧ decode cX12_suspects 89 = .ok (.iinc 7 1, 3) ∧ decode cX12_suspects 92 = .ok (.goto (-52), 3) ∧ decode cX12_suspects 95 = .ok (.iload 4, 2) ∧ decode cX12_suspects 97 = .ok (.iload 6, 2) ∧ decode cX12_suspects 99 = .ok (.ifCond .eq 10, 3) ∧ decode cX12_suspects 102 = .ok (.iconst 1, 1) ∧ decode cX12_suspects 103 = .ok (.iload 5, 2) := by decide +kernel
theorem e_X12_suspects_6 : decode cX12_suspects 105 = .ok (.ishl, 1) ∧ decode cX12_suspects 106 = .ok (.goto 4, 3) ∧ decode cX12_suspects 109 = .ok (.iconst 0, 1) ∧ decode cX12_suspects 110 = .ok (.ior, 1) ∧ decode cX12_suspects 111 = .ok (.istore 4, 2) ∧ decode cX12_suspects 113 = .ok (.iinc 5 1, 3) ∧ decode cX12_suspects 116 = .ok (.goto (-93), 3) ∧ decode cX12_suspects 119 = .ok (.aload_n 0, 1) ∧ decode cX12_suspects 120 = .ok (.iload 4, 2) ∧ decode cX12_suspects 122 = .ok (.invokevirtual 97, 3) := by decide +kernel
theorem e_X12_suspects_7 : decode cX12_suspects 125 = .ok (.ireturn, 1) := by decide +kernel
abbrev E_X12_suspects_23 (G : Kg) (l1 l2 l4 l5 : Int) (σ : Kmem) (Q : Int → Kmem → Prop) : Prop := Ex G WM M_X12_suspects 6 0 0 23 [(0, vA G 0), (1, vI l1), (2, vI l2), (4, vI l4), (5, vI l5)] [] σ Q
abbrev E_X12_suspects_40 (G : Kg) (l1 l2 l4 l5 l6 l7 : Int) (σ : Kmem) (Q : Int → Kmem → Prop) : Prop := Ex G WM M_X12_suspects 6 0 0 40 [(0, vA G 0), (1, vI l1), (2, vI l2), (4, vI l4), (5, vI l5), (6, vI l6), (7, vI l7)] [] σ Q
theorem S_X12_suspects {G : Kg} {σ : Kmem} {Q : Int → Kmem → Prop} {l1 l2 : Int}  (h : Run G WM M_X12_wrongStrip 1 0 0 [vA G 0, vI l1, vI l2] σ (fun r1 s2 => (rI r1) ∧ ((r1 ≤ 0 → E_X12_suspects_23 G l1 l2 0 0 s2 Q) ∧ (0 < r1 → Run G WM M_X12_refuse 0 0 0 [vA G 0, vI r1] s2 (fun r4 s5 => Q r4 s5))))) : Run G WM M_X12_suspects 6 0 0 [vA G 0, vI l1, vI l2] σ Q := by
  refine Run.of (by decide +kernel) (by show (3 : Nat) ≤ 8; decide) ?_
  show Ex G WM M_X12_suspects 6 0 0 0 [(0, vA G 0), (1, vI l1), (2, vI l2)] [] σ Q
  refine R_aload_n e_X12_suspects_0.1 0 rfl ?_
  refine R_iload_n e_X12_suspects_0.2.1 1 rfl ?_
  refine R_iload_n e_X12_suspects_0.2.2.1 2 rfl ?_
  refine R_callV (mc := 0) (ms := 0) (mc' := 0) (ms' := 0) (M' := M_X12_wrongStrip) (d' := 1) (as := [vI l1, vI l2]) (st := []) 12 2 e_X12_suspects_0.2.2.2.1 (kCVof m_X12_wrongStrip l_X12_471) rfl (by decide) km_0 (by decide) (by decide) rfl rfl (by show (0 : Nat) ≤ 8; decide) ?_
  refine Run.mono h (fun r1 s2 h => ?_)
  refine R_eqs (st2 := [vI r1]) rfl rfl ?_
  refine R_istore_n (ls2 := [(3, vI r1), (0, vA G 0), (1, vI l1), (2, vI l2)]) e_X12_suspects_0.2.2.2.2.1 (by decide) rfl ?_
  refine R_iload_n e_X12_suspects_0.2.2.2.2.2.1 0 rfl ?_
  obtain ⟨q3, h⟩ := h
  refine R_if_le 17 e_X12_suspects_0.2.2.2.2.2.2.1 (by decide) q3  (fun q => ?_) (fun q => ?_)
  · replace h := h.1 q
    refine R_iconst e_X12_suspects_1.2.1 ?_
    refine R_istore (ls2 := [(4, vI 0), (3, vI r1), (0, vA G 0), (1, vI l1), (2, vI l2)]) e_X12_suspects_1.2.2.1 (by decide) rfl ?_
    refine R_iconst e_X12_suspects_1.2.2.2.1 ?_
    refine R_istore (ls2 := [(5, vI 0), (4, vI 0), (3, vI r1), (0, vA G 0), (1, vI l1), (2, vI l2)]) e_X12_suspects_1.2.2.2.2.1 (by decide) rfl ?_
    refine R_ls (ls2 := [(0, vA G 0), (1, vI l1), (2, vI l2), (4, vI 0), (5, vI 0)]) [3, 4, 5, 1, 0] rfl ?_
    exact h
  · replace h := h.2 q
    refine R_aload_n e_X12_suspects_0.2.2.2.2.2.2.2.1 1 rfl ?_
    refine R_iload_n e_X12_suspects_0.2.2.2.2.2.2.2.2.1 0 rfl ?_
    refine R_callV (mc := 0) (ms := 0) (mc' := 0) (ms' := 0) (M' := M_X12_refuse) (d' := 0) (as := [vI r1]) (st := []) 12 1 e_X12_suspects_0.2.2.2.2.2.2.2.2.2 (kCVof m_X12_refuse l_X12_93) rfl (by decide) km_0 (by decide) (by decide) rfl rfl (by show (0 : Nat) ≤ 8; decide) ?_
    refine Run.mono h (fun r4 s5 h => ?_)
    refine R_eqs (st2 := [vI r4]) rfl rfl ?_
    exact R_ireturn e_X12_suspects_1.1 rfl h
theorem S_X12_suspects_23 {G : Kg} {σ : Kmem} {Q : Int → Kmem → Prop} {l1 l2 l4 l5 : Int}  (h : (rI l5) ∧ (rI (σ 1 2)) ∧ ((σ 1 2 ≤ l5 → Run G WM M_X12_gives 0 0 0 [vA G 0, vI l4] σ (fun r8 s9 => Q r8 s9)) ∧ (l5 < σ 1 2 → E_X12_suspects_40 G l1 l2 l4 l5 1 0 σ Q))) : E_X12_suspects_23 G l1 l2 l4 l5 σ Q := by
  refine R_iload e_X12_suspects_1.2.2.2.2.2.1 4 rfl ?_
  refine R_aload_n e_X12_suspects_1.2.2.2.2.2.2.1 0 rfl ?_
  refine R_getA 12 0 1 e_X12_suspects_1.2.2.2.2.2.2.2.1 f_X12_7 km_0 (fun _ _ => rfl) rm_0_0 (by decide) ?_
  refine R_iconst e_X12_suspects_1.2.2.2.2.2.2.2.2.1 ?_
  refine R_iald 3598 e_X12_suspects_1.2.2.2.2.2.2.2.2.2 kma_1 (by decide) ?_
  obtain ⟨q6, h⟩ := h
  obtain ⟨q7, h⟩ := h
  refine R_icmp_ge 119 e_X12_suspects_2.1 (by decide) q6 q7 (fun q => ?_) (fun q => ?_)
  · replace h := h.1 q
    refine R_aload_n e_X12_suspects_6.2.2.2.2.2.2.2.1 0 rfl ?_
    refine R_iload e_X12_suspects_6.2.2.2.2.2.2.2.2.1 3 rfl ?_
    refine R_callV (mc := 0) (ms := 0) (mc' := 0) (ms' := 0) (M' := M_X12_gives) (d' := 0) (as := [vI l4]) (st := []) 12 1 e_X12_suspects_6.2.2.2.2.2.2.2.2.2 (kCVof m_X12_gives l_X12_97) rfl (by decide) km_0 (by decide) (by decide) rfl rfl (by show (0 : Nat) ≤ 8; decide) ?_
    refine Run.mono h (fun r8 s9 h => ?_)
    refine R_eqs (st2 := [vI r8]) rfl rfl ?_
    exact R_ireturn e_X12_suspects_7 rfl h
  · replace h := h.2 q
    refine R_iconst e_X12_suspects_2.2.1 ?_
    refine R_istore (ls2 := [(6, vI 1), (0, vA G 0), (1, vI l1), (2, vI l2), (4, vI l4), (5, vI l5)]) e_X12_suspects_2.2.2.1 (by decide) rfl ?_
    refine R_iconst e_X12_suspects_2.2.2.2.1 ?_
    refine R_istore (ls2 := [(7, vI 0), (6, vI 1), (0, vA G 0), (1, vI l1), (2, vI l2), (4, vI l4), (5, vI l5)]) e_X12_suspects_2.2.2.2.2.1 (by decide) rfl ?_
    refine R_ls (ls2 := [(0, vA G 0), (1, vI l1), (2, vI l2), (4, vI l4), (5, vI l5), (6, vI 1), (7, vI 0)]) [2, 3, 4, 5, 6, 1, 0] rfl ?_
    exact h
theorem S_X12_suspects_40 {G : Kg} {σ : Kmem} {Q : Int → Kmem → Prop} {l1 l2 l4 l5 l6 l7 : Int}  (h : (rI l7) ∧ (rI (σ 1 0)) ∧ ((σ 1 0 ≤ l7 → (rI l6) ∧ ((l6 = 0 → E_X12_suspects_23 G l1 l2 (kor l4 0) (l5 + 1) σ Q) ∧ (l6 ≠ 0 → E_X12_suspects_23 G l1 l2 (kor l4 (kshl 1 l5)) (l5 + 1) σ Q))) ∧ (l7 < σ 1 0 → (rI l6) ∧ ((l6 = 0 → E_X12_suspects_40 G l1 l2 l4 l5 0 (l7 + 1) σ Q) ∧ (l6 ≠ 0 → (0 ≤ (60 * l2) + l7 ∧ (60 * l2) + l7 < 240) ∧ Run G WM M_X12_stripAt 5 0 0 [vA G 0, vI l5, vI l7, vI l1] σ (fun r15 s16 => (rI r15) ∧ (rL (σ 5 ((60 * l2) + l7))) ∧ (rL r15) ∧ ((σ 5 ((60 * l2) + l7) ≠ r15 → E_X12_suspects_40 G l1 l2 l4 l5 0 (l7 + 1) s16 Q) ∧ (σ 5 ((60 * l2) + l7) = r15 → E_X12_suspects_40 G l1 l2 l4 l5 1 (l7 + 1) s16 Q)))))))) : E_X12_suspects_40 G l1 l2 l4 l5 l6 l7 σ Q := by
  refine R_iload e_X12_suspects_2.2.2.2.2.2.1 6 rfl ?_
  refine R_aload_n e_X12_suspects_2.2.2.2.2.2.2.1 0 rfl ?_
  refine R_getA 12 0 1 e_X12_suspects_2.2.2.2.2.2.2.2.1 f_X12_7 km_0 (fun _ _ => rfl) rm_0_0 (by decide) ?_
  refine R_iconst e_X12_suspects_2.2.2.2.2.2.2.2.2.1 ?_
  refine R_iald 3598 e_X12_suspects_2.2.2.2.2.2.2.2.2.2 kma_1 (by decide) ?_
  obtain ⟨q10, h⟩ := h
  obtain ⟨q11, h⟩ := h
  refine R_icmp_ge 95 e_X12_suspects_3.1 (by decide) q10 q11 (fun q => ?_) (fun q => ?_)
  · replace h := h.1 q
    refine R_iload e_X12_suspects_5.2.2.2.2.2.1 3 rfl ?_
    refine R_iload e_X12_suspects_5.2.2.2.2.2.2.1 5 rfl ?_
    obtain ⟨q12, h⟩ := h
    refine R_if_eq 109 e_X12_suspects_5.2.2.2.2.2.2.2.1 (by decide) q12  (fun q => ?_) (fun q => ?_)
    · replace h := h.1 q
      refine R_iconst e_X12_suspects_6.2.2.1 ?_
      refine R_ior e_X12_suspects_6.2.2.2.1 ?_
      refine R_istore (ls2 := [(4, vI (kor l4 0)), (0, vA G 0), (1, vI l1), (2, vI l2), (5, vI l5), (6, vI l6), (7, vI l7)]) e_X12_suspects_6.2.2.2.2.1 (by decide) rfl ?_
      refine R_iinc (ls2 := [(5, vI (l5 + 1)), (4, vI (kor l4 0)), (0, vA G 0), (1, vI l1), (2, vI l2), (6, vI l6), (7, vI l7)]) e_X12_suspects_6.2.2.2.2.2.1 4 rfl (by decide) rfl ?_
      refine R_goto 23 e_X12_suspects_6.2.2.2.2.2.2.1 (by decide) ?_
      refine R_ls (ls2 := [(0, vA G 0), (1, vI l1), (2, vI l2), (4, vI (kor l4 0)), (5, vI (l5 + 1))]) [2, 3, 4, 1, 0] rfl ?_
      exact h
    · replace h := h.2 q
      refine R_iconst e_X12_suspects_5.2.2.2.2.2.2.2.2.1 ?_
      refine R_iload e_X12_suspects_5.2.2.2.2.2.2.2.2.2 4 rfl ?_
      refine R_ishl e_X12_suspects_6.1 ?_
      refine R_goto 110 e_X12_suspects_6.2.1 (by decide) ?_
      refine R_ior e_X12_suspects_6.2.2.2.1 ?_
      refine R_istore (ls2 := [(4, vI (kor l4 (kshl 1 l5))), (0, vA G 0), (1, vI l1), (2, vI l2), (5, vI l5), (6, vI l6), (7, vI l7)]) e_X12_suspects_6.2.2.2.2.1 (by decide) rfl ?_
      refine R_iinc (ls2 := [(5, vI (l5 + 1)), (4, vI (kor l4 (kshl 1 l5))), (0, vA G 0), (1, vI l1), (2, vI l2), (6, vI l6), (7, vI l7)]) e_X12_suspects_6.2.2.2.2.2.1 4 rfl (by decide) rfl ?_
      refine R_goto 23 e_X12_suspects_6.2.2.2.2.2.2.1 (by decide) ?_
      refine R_ls (ls2 := [(0, vA G 0), (1, vI l1), (2, vI l2), (4, vI (kor l4 (kshl 1 l5))), (5, vI (l5 + 1))]) [2, 3, 4, 1, 0] rfl ?_
      exact h
  · replace h := h.2 q
    refine R_iload e_X12_suspects_3.2.1 5 rfl ?_
    obtain ⟨q13, h⟩ := h
    refine R_if_eq 86 e_X12_suspects_3.2.2.1 (by decide) q13  (fun q => ?_) (fun q => ?_)
    · replace h := h.1 q
      refine R_iconst e_X12_suspects_5.2.1 ?_
      refine R_istore (ls2 := [(6, vI 0), (0, vA G 0), (1, vI l1), (2, vI l2), (4, vI l4), (5, vI l5), (7, vI l7)]) e_X12_suspects_5.2.2.1 (by decide) rfl ?_
      refine R_iinc (ls2 := [(7, vI (l7 + 1)), (6, vI 0), (0, vA G 0), (1, vI l1), (2, vI l2), (4, vI l4), (5, vI l5)]) e_X12_suspects_5.2.2.2.1 6 rfl (by decide) rfl ?_
      refine R_goto 40 e_X12_suspects_5.2.2.2.2.1 (by decide) ?_
      refine R_ls (ls2 := [(0, vA G 0), (1, vI l1), (2, vI l2), (4, vI l4), (5, vI l5), (6, vI 0), (7, vI (l7 + 1))]) [2, 3, 4, 5, 6, 1, 0] rfl ?_
      exact h
    · replace h := h.2 q
      refine R_aload_n e_X12_suspects_3.2.2.2.1 0 rfl ?_
      refine R_getA 12 7 5 e_X12_suspects_3.2.2.2.2.1 f_X12_27 km_0 (fun _ _ => rfl) rm_0_7 (by decide) ?_
      refine R_bipush e_X12_suspects_3.2.2.2.2.2.1 (by decide) ?_
      refine R_iload_n e_X12_suspects_3.2.2.2.2.2.2.1 2 rfl ?_
      refine R_imul e_X12_suspects_3.2.2.2.2.2.2.2.1 ?_
      refine R_iload e_X12_suspects_3.2.2.2.2.2.2.2.2.1 6 rfl ?_
      refine R_iadd e_X12_suspects_3.2.2.2.2.2.2.2.2.2 ?_
      obtain ⟨q14, h⟩ := h
      refine R_lald 240 e_X12_suspects_4.1 kma_5 q14 ?_
      refine R_aload_n e_X12_suspects_4.2.1 0 rfl ?_
      refine R_iload e_X12_suspects_4.2.2.1 4 rfl ?_
      refine R_iload e_X12_suspects_4.2.2.2.1 6 rfl ?_
      refine R_iload_n e_X12_suspects_4.2.2.2.2.1 1 rfl ?_
      refine R_callV (mc := 0) (ms := 0) (mc' := 0) (ms' := 0) (M' := M_X12_stripAt) (d' := 5) (as := [vI l5, vI l7, vI l1]) (st := [vL (σ 5 ((60 * l2) + l7))]) 12 3 e_X12_suspects_4.2.2.2.2.2.1 (kCVof m_X12_stripAt l_X12_474) rfl (by decide) km_0 (by decide) (by decide) rfl rfl (by show (2 : Nat) ≤ 8; decide) ?_
      refine Run.mono h (fun r15 s16 h => ?_)
      refine R_eqs (st2 := [vI r15, vL (σ 5 ((60 * l2) + l7))]) rfl rfl ?_
      obtain ⟨q17, h⟩ := h
      refine R_i2l e_X12_suspects_4.2.2.2.2.2.2.1 q17 ?_
      obtain ⟨q18, h⟩ := h
      obtain ⟨q19, h⟩ := h
      refine R_lcmp e_X12_suspects_4.2.2.2.2.2.2.2.1 q18 q19 ?_
      refine R_if_ne 86 e_X12_suspects_4.2.2.2.2.2.2.2.2.1 (by decide) (kcmp_r _ _) (fun q => ?_) (fun q => ?_)
      · replace h := h.1 (kcmp_ne_t.mp q)
        refine R_iconst e_X12_suspects_5.2.1 ?_
        refine R_istore (ls2 := [(6, vI 0), (0, vA G 0), (1, vI l1), (2, vI l2), (4, vI l4), (5, vI l5), (7, vI l7)]) e_X12_suspects_5.2.2.1 (by decide) rfl ?_
        refine R_iinc (ls2 := [(7, vI (l7 + 1)), (6, vI 0), (0, vA G 0), (1, vI l1), (2, vI l2), (4, vI l4), (5, vI l5)]) e_X12_suspects_5.2.2.2.1 6 rfl (by decide) rfl ?_
        refine R_goto 40 e_X12_suspects_5.2.2.2.2.1 (by decide) ?_
        refine R_ls (ls2 := [(0, vA G 0), (1, vI l1), (2, vI l2), (4, vI l4), (5, vI l5), (6, vI 0), (7, vI (l7 + 1))]) [2, 3, 4, 5, 6, 1, 0] rfl ?_
        exact h
      · replace h := h.2 (kcmp_ne_f.mp q)
        refine R_iconst e_X12_suspects_4.2.2.2.2.2.2.2.2.2 ?_
        refine R_goto 87 e_X12_suspects_5.1 (by decide) ?_
        refine R_istore (ls2 := [(6, vI 1), (0, vA G 0), (1, vI l1), (2, vI l2), (4, vI l4), (5, vI l5), (7, vI l7)]) e_X12_suspects_5.2.2.1 (by decide) rfl ?_
        refine R_iinc (ls2 := [(7, vI (l7 + 1)), (6, vI 1), (0, vA G 0), (1, vI l1), (2, vI l2), (4, vI l4), (5, vI l5)]) e_X12_suspects_5.2.2.2.1 6 rfl (by decide) rfl ?_
        refine R_goto 40 e_X12_suspects_5.2.2.2.2.1 (by decide) ?_
        refine R_ls (ls2 := [(0, vA G 0), (1, vI l1), (2, vI l2), (4, vI l4), (5, vI l5), (6, vI 1), (7, vI (l7 + 1))]) [2, 3, 4, 5, 6, 1, 0] rfl ?_
        exact h
/-! KiteLandModel.stripsIn(I)I -/
theorem e_X12_stripsIn_0 : decode cX12_stripsIn 0 = .ok (.iconst 0, 1) ∧ decode cX12_stripsIn 1 = .ok (.istore_n 2, 1) ∧ decode cX12_stripsIn 2 = .ok (.iconst 0, 1) ∧ decode cX12_stripsIn 3 = .ok (.istore_n 3, 1) ∧ decode cX12_stripsIn 4 = .ok (.iload_n 3, 1) ∧ decode cX12_stripsIn 5 = .ok (.aload_n 0, 1) ∧ decode cX12_stripsIn 6 = .ok (.getfield 7, 3) ∧ decode cX12_stripsIn 9 = .ok (.iconst 2, 1) ∧ decode cX12_stripsIn 10 = .ok (.iaload, 1) ∧ decode cX12_stripsIn 11 = .ok (.if_icmp .ge 112, 3) := by decide +kernel
theorem e_X12_stripsIn_1 : decode cX12_stripsIn 14 = .ok (.iconst 1, 1) ∧ decode cX12_stripsIn 15 = .ok (.istore 4, 2) ∧ decode cX12_stripsIn 17 = .ok (.iconst 0, 1) ∧ decode cX12_stripsIn 18 = .ok (.istore 5, 2) ∧ decode cX12_stripsIn 20 = .ok (.iload 5, 2) ∧ decode cX12_stripsIn 22 = .ok (.iload_n 3, 1) ∧ decode cX12_stripsIn 23 = .ok (.if_icmp .ge 81, 3) ∧ decode cX12_stripsIn 26 = .ok (.iconst 1, 1) ∧ decode cX12_stripsIn 27 = .ok (.istore 6, 2) ∧ decode cX12_stripsIn 29 = .ok (.iconst 0, 1) := by decide +kernel
theorem e_X12_stripsIn_2 : decode cX12_stripsIn 30 = .ok (.istore 7, 2) ∧ decode cX12_stripsIn 32 = .ok (.iload 7, 2) ∧ decode cX12_stripsIn 34 = .ok (.aload_n 0, 1) ∧ decode cX12_stripsIn 35 = .ok (.getfield 7, 3) ∧ decode cX12_stripsIn 38 = .ok (.iconst 0, 1) ∧ decode cX12_stripsIn 39 = .ok (.iaload, 1) ∧ decode cX12_stripsIn 40 = .ok (.if_icmp .ge 41, 3) ∧ decode cX12_stripsIn 43 = .ok (.iload 6, 2) ∧ decode cX12_stripsIn 45 = .ok (.ifCond .eq 27, 3) ∧ decode cX12_stripsIn 48 = .ok (.aload_n 0, 1) := by decide +kernel
theorem e_X12_stripsIn_3 : decode cX12_stripsIn 49 = .ok (.iload_n 3, 1) ∧ decode cX12_stripsIn 50 = .ok (.iload 7, 2) ∧ decode cX12_stripsIn 52 = .ok (.iload_n 1, 1) ∧ decode cX12_stripsIn 53 = .ok (.invokevirtual 474, 3) ∧ decode cX12_stripsIn 56 = .ok (.aload_n 0, 1) ∧ decode cX12_stripsIn 57 = .ok (.iload 5, 2) ∧ decode cX12_stripsIn 59 = .ok (.iload 7, 2) ∧ decode cX12_stripsIn 61 = .ok (.iload_n 1, 1) ∧ decode cX12_stripsIn 62 = .ok (.invokevirtual 474, 3) ∧ decode cX12_stripsIn 65 = .ok (.if_icmp .ne 7, 3) := by decide +kernel
theorem e_X12_stripsIn_4 : decode cX12_stripsIn 68 = .ok (.iconst 1, 1) ∧ decode cX12_stripsIn 69 = .ok (.goto 4, 3) ∧ decode cX12_stripsIn 72 = .ok (.iconst 0, 1) ∧ decode cX12_stripsIn 73 = .ok (.istore 6, 2) ∧ decode cX12_stripsIn 75 = .ok (.iinc 7 1, 3) ∧ decode cX12_stripsIn 78 = .ok (.goto (-46), 3) ∧ decode cX12_stripsIn 81 = .ok (.iload 4, 2) ∧ decode cX12_stripsIn 83 = .ok (.ifCond .eq 12, 3) ∧ decode cX12_stripsIn 86 = .ok (.iload 6, 2) ∧ decode cX12_stripsIn 88 = .ok (.ifCond .ne 7, 3) := by decide +kernel
theorem e_X12_stripsIn_5 : decode cX12_stripsIn 91 = .ok (.iconst 1, 1) ∧ decode cX12_stripsIn 92 = .ok (.goto 4, 3) ∧ decode cX12_stripsIn 95 = .ok (.iconst 0, 1) ∧ decode cX12_stripsIn 96 = .ok (.istore 4, 2) ∧ decode cX12_stripsIn 98 = .ok (.iinc 5 1, 3) ∧ decode cX12_stripsIn 101 = .ok (.goto (-81), 3) ∧ decode cX12_stripsIn 104 = .ok (.iload_n 2, 1) ∧ decode cX12_stripsIn 105 = .ok (.iload 4, 2) ∧ decode cX12_stripsIn 107 = .ok (.ifCond .eq 7, 3) ∧ decode cX12_stripsIn 110 = .ok (.iconst 1, 1) := by decide +kernel
theorem e_X12_stripsIn_6 : decode cX12_stripsIn 111 = .ok (.goto 4, 3) ∧ decode cX12_stripsIn 114 = .ok (.iconst 0, 1) ∧ decode cX12_stripsIn 115 = .ok (.iadd, 1) ∧ decode cX12_stripsIn 116 = .ok (.istore_n 2, 1) ∧ decode cX12_stripsIn 117 = .ok (.iinc 3 1, 3) ∧ decode cX12_stripsIn 120 = .ok (.goto (-116), 3) ∧ decode cX12_stripsIn 123 = .ok (.iload_n 2, 1) ∧ decode cX12_stripsIn 124 = .ok (.ireturn, 1) := by decide +kernel
abbrev E_X12_stripsIn_4 (G : Kg) (l1 l2 l3 : Int) (σ : Kmem) (Q : Int → Kmem → Prop) : Prop := Ex G WM M_X12_stripsIn 6 0 0 4 [(0, vA G 0), (1, vI l1), (2, vI l2), (3, vI l3)] [] σ Q
abbrev E_X12_stripsIn_20 (G : Kg) (l1 l2 l3 l4 l5 : Int) (σ : Kmem) (Q : Int → Kmem → Prop) : Prop := Ex G WM M_X12_stripsIn 6 0 0 20 [(0, vA G 0), (1, vI l1), (2, vI l2), (3, vI l3), (4, vI l4), (5, vI l5)] [] σ Q
abbrev E_X12_stripsIn_32 (G : Kg) (l1 l2 l3 l4 l5 l6 l7 : Int) (σ : Kmem) (Q : Int → Kmem → Prop) : Prop := Ex G WM M_X12_stripsIn 6 0 0 32 [(0, vA G 0), (1, vI l1), (2, vI l2), (3, vI l3), (4, vI l4), (5, vI l5), (6, vI l6), (7, vI l7)] [] σ Q
theorem S_X12_stripsIn {G : Kg} {σ : Kmem} {Q : Int → Kmem → Prop} {l1 : Int}  (h : E_X12_stripsIn_4 G l1 0 0 σ Q) : Run G WM M_X12_stripsIn 6 0 0 [vA G 0, vI l1] σ Q := by
  refine Run.of (by decide +kernel) (by show (2 : Nat) ≤ 8; decide) ?_
  show Ex G WM M_X12_stripsIn 6 0 0 0 [(0, vA G 0), (1, vI l1)] [] σ Q
  refine R_iconst e_X12_stripsIn_0.1 ?_
  refine R_istore_n (ls2 := [(2, vI 0), (0, vA G 0), (1, vI l1)]) e_X12_stripsIn_0.2.1 (by decide) rfl ?_
  refine R_iconst e_X12_stripsIn_0.2.2.1 ?_
  refine R_istore_n (ls2 := [(3, vI 0), (2, vI 0), (0, vA G 0), (1, vI l1)]) e_X12_stripsIn_0.2.2.2.1 (by decide) rfl ?_
  refine R_ls (ls2 := [(0, vA G 0), (1, vI l1), (2, vI 0), (3, vI 0)]) [2, 3, 1, 0] rfl ?_
  exact h
theorem S_X12_stripsIn_4 {G : Kg} {σ : Kmem} {Q : Int → Kmem → Prop} {l1 l2 l3 : Int}  (h : (rI l3) ∧ (rI (σ 1 2)) ∧ ((σ 1 2 ≤ l3 → Q l2 σ) ∧ (l3 < σ 1 2 → E_X12_stripsIn_20 G l1 l2 l3 1 0 σ Q))) : E_X12_stripsIn_4 G l1 l2 l3 σ Q := by
  refine R_iload_n e_X12_stripsIn_0.2.2.2.2.1 3 rfl ?_
  refine R_aload_n e_X12_stripsIn_0.2.2.2.2.2.1 0 rfl ?_
  refine R_getA 12 0 1 e_X12_stripsIn_0.2.2.2.2.2.2.1 f_X12_7 km_0 (fun _ _ => rfl) rm_0_0 (by decide) ?_
  refine R_iconst e_X12_stripsIn_0.2.2.2.2.2.2.2.1 ?_
  refine R_iald 3598 e_X12_stripsIn_0.2.2.2.2.2.2.2.2.1 kma_1 (by decide) ?_
  obtain ⟨q1, h⟩ := h
  obtain ⟨q2, h⟩ := h
  refine R_icmp_ge 123 e_X12_stripsIn_0.2.2.2.2.2.2.2.2.2 (by decide) q1 q2 (fun q => ?_) (fun q => ?_)
  · replace h := h.1 q
    refine R_iload_n e_X12_stripsIn_6.2.2.2.2.2.2.1 2 rfl ?_
    exact R_ireturn e_X12_stripsIn_6.2.2.2.2.2.2.2 rfl h
  · replace h := h.2 q
    refine R_iconst e_X12_stripsIn_1.1 ?_
    refine R_istore (ls2 := [(4, vI 1), (0, vA G 0), (1, vI l1), (2, vI l2), (3, vI l3)]) e_X12_stripsIn_1.2.1 (by decide) rfl ?_
    refine R_iconst e_X12_stripsIn_1.2.2.1 ?_
    refine R_istore (ls2 := [(5, vI 0), (4, vI 1), (0, vA G 0), (1, vI l1), (2, vI l2), (3, vI l3)]) e_X12_stripsIn_1.2.2.2.1 (by decide) rfl ?_
    refine R_ls (ls2 := [(0, vA G 0), (1, vI l1), (2, vI l2), (3, vI l3), (4, vI 1), (5, vI 0)]) [2, 3, 4, 5, 1, 0] rfl ?_
    exact h
theorem S_X12_stripsIn_20 {G : Kg} {σ : Kmem} {Q : Int → Kmem → Prop} {l1 l2 l3 l4 l5 : Int}  (h : (rI l5) ∧ (rI l3) ∧ ((l3 ≤ l5 → (rI l4) ∧ ((l4 = 0 → E_X12_stripsIn_4 G l1 (l2 + 0) (l3 + 1) σ Q) ∧ (l4 ≠ 0 → E_X12_stripsIn_4 G l1 (l2 + 1) (l3 + 1) σ Q))) ∧ (l5 < l3 → E_X12_stripsIn_32 G l1 l2 l3 l4 l5 1 0 σ Q))) : E_X12_stripsIn_20 G l1 l2 l3 l4 l5 σ Q := by
  refine R_iload e_X12_stripsIn_1.2.2.2.2.1 5 rfl ?_
  refine R_iload_n e_X12_stripsIn_1.2.2.2.2.2.1 3 rfl ?_
  obtain ⟨q3, h⟩ := h
  obtain ⟨q4, h⟩ := h
  refine R_icmp_ge 104 e_X12_stripsIn_1.2.2.2.2.2.2.1 (by decide) q3 q4 (fun q => ?_) (fun q => ?_)
  · replace h := h.1 q
    refine R_iload_n e_X12_stripsIn_5.2.2.2.2.2.2.1 2 rfl ?_
    refine R_iload e_X12_stripsIn_5.2.2.2.2.2.2.2.1 4 rfl ?_
    obtain ⟨q5, h⟩ := h
    refine R_if_eq 114 e_X12_stripsIn_5.2.2.2.2.2.2.2.2.1 (by decide) q5  (fun q => ?_) (fun q => ?_)
    · replace h := h.1 q
      refine R_iconst e_X12_stripsIn_6.2.1 ?_
      refine R_iadd e_X12_stripsIn_6.2.2.1 ?_
      refine R_istore_n (ls2 := [(2, vI (l2 + 0)), (0, vA G 0), (1, vI l1), (3, vI l3), (4, vI l4), (5, vI l5)]) e_X12_stripsIn_6.2.2.2.1 (by decide) rfl ?_
      refine R_iinc (ls2 := [(3, vI (l3 + 1)), (2, vI (l2 + 0)), (0, vA G 0), (1, vI l1), (4, vI l4), (5, vI l5)]) e_X12_stripsIn_6.2.2.2.2.1 3 rfl (by decide) rfl ?_
      refine R_goto 4 e_X12_stripsIn_6.2.2.2.2.2.1 (by decide) ?_
      refine R_ls (ls2 := [(0, vA G 0), (1, vI l1), (2, vI (l2 + 0)), (3, vI (l3 + 1))]) [2, 3, 1, 0] rfl ?_
      exact h
    · replace h := h.2 q
      refine R_iconst e_X12_stripsIn_5.2.2.2.2.2.2.2.2.2 ?_
      refine R_goto 115 e_X12_stripsIn_6.1 (by decide) ?_
      refine R_iadd e_X12_stripsIn_6.2.2.1 ?_
      refine R_istore_n (ls2 := [(2, vI (l2 + 1)), (0, vA G 0), (1, vI l1), (3, vI l3), (4, vI l4), (5, vI l5)]) e_X12_stripsIn_6.2.2.2.1 (by decide) rfl ?_
      refine R_iinc (ls2 := [(3, vI (l3 + 1)), (2, vI (l2 + 1)), (0, vA G 0), (1, vI l1), (4, vI l4), (5, vI l5)]) e_X12_stripsIn_6.2.2.2.2.1 3 rfl (by decide) rfl ?_
      refine R_goto 4 e_X12_stripsIn_6.2.2.2.2.2.1 (by decide) ?_
      refine R_ls (ls2 := [(0, vA G 0), (1, vI l1), (2, vI (l2 + 1)), (3, vI (l3 + 1))]) [2, 3, 1, 0] rfl ?_
      exact h
  · replace h := h.2 q
    refine R_iconst e_X12_stripsIn_1.2.2.2.2.2.2.2.1 ?_
    refine R_istore (ls2 := [(6, vI 1), (0, vA G 0), (1, vI l1), (2, vI l2), (3, vI l3), (4, vI l4), (5, vI l5)]) e_X12_stripsIn_1.2.2.2.2.2.2.2.2.1 (by decide) rfl ?_
    refine R_iconst e_X12_stripsIn_1.2.2.2.2.2.2.2.2.2 ?_
    refine R_istore (ls2 := [(7, vI 0), (6, vI 1), (0, vA G 0), (1, vI l1), (2, vI l2), (3, vI l3), (4, vI l4), (5, vI l5)]) e_X12_stripsIn_2.1 (by decide) rfl ?_
    refine R_ls (ls2 := [(0, vA G 0), (1, vI l1), (2, vI l2), (3, vI l3), (4, vI l4), (5, vI l5), (6, vI 1), (7, vI 0)]) [2, 3, 4, 5, 6, 7, 1, 0] rfl ?_
    exact h
theorem S_X12_stripsIn_32 {G : Kg} {σ : Kmem} {Q : Int → Kmem → Prop} {l1 l2 l3 l4 l5 l6 l7 : Int}  (h : (rI l7) ∧ (rI (σ 1 0)) ∧ ((σ 1 0 ≤ l7 → (rI l4) ∧ ((l4 = 0 → E_X12_stripsIn_20 G l1 l2 l3 0 (l5 + 1) σ Q) ∧ (l4 ≠ 0 → (rI l6) ∧ ((l6 ≠ 0 → E_X12_stripsIn_20 G l1 l2 l3 0 (l5 + 1) σ Q) ∧ (l6 = 0 → E_X12_stripsIn_20 G l1 l2 l3 1 (l5 + 1) σ Q))))) ∧ (l7 < σ 1 0 → (rI l6) ∧ ((l6 = 0 → E_X12_stripsIn_32 G l1 l2 l3 l4 l5 0 (l7 + 1) σ Q) ∧ (l6 ≠ 0 → Run G WM M_X12_stripAt 5 0 0 [vA G 0, vI l3, vI l7, vI l1] σ (fun r11 s12 => Run G WM M_X12_stripAt 5 0 0 [vA G 0, vI l5, vI l7, vI l1] s12 (fun r13 s14 => (rI r11) ∧ (rI r13) ∧ ((r11 ≠ r13 → E_X12_stripsIn_32 G l1 l2 l3 l4 l5 0 (l7 + 1) s14 Q) ∧ (r11 = r13 → E_X12_stripsIn_32 G l1 l2 l3 l4 l5 1 (l7 + 1) s14 Q))))))))) : E_X12_stripsIn_32 G l1 l2 l3 l4 l5 l6 l7 σ Q := by
  refine R_iload e_X12_stripsIn_2.2.1 7 rfl ?_
  refine R_aload_n e_X12_stripsIn_2.2.2.1 0 rfl ?_
  refine R_getA 12 0 1 e_X12_stripsIn_2.2.2.2.1 f_X12_7 km_0 (fun _ _ => rfl) rm_0_0 (by decide) ?_
  refine R_iconst e_X12_stripsIn_2.2.2.2.2.1 ?_
  refine R_iald 3598 e_X12_stripsIn_2.2.2.2.2.2.1 kma_1 (by decide) ?_
  obtain ⟨q6, h⟩ := h
  obtain ⟨q7, h⟩ := h
  refine R_icmp_ge 81 e_X12_stripsIn_2.2.2.2.2.2.2.1 (by decide) q6 q7 (fun q => ?_) (fun q => ?_)
  · replace h := h.1 q
    refine R_iload e_X12_stripsIn_4.2.2.2.2.2.2.1 4 rfl ?_
    obtain ⟨q8, h⟩ := h
    refine R_if_eq 95 e_X12_stripsIn_4.2.2.2.2.2.2.2.1 (by decide) q8  (fun q => ?_) (fun q => ?_)
    · replace h := h.1 q
      refine R_iconst e_X12_stripsIn_5.2.2.1 ?_
      refine R_istore (ls2 := [(4, vI 0), (0, vA G 0), (1, vI l1), (2, vI l2), (3, vI l3), (5, vI l5), (6, vI l6), (7, vI l7)]) e_X12_stripsIn_5.2.2.2.1 (by decide) rfl ?_
      refine R_iinc (ls2 := [(5, vI (l5 + 1)), (4, vI 0), (0, vA G 0), (1, vI l1), (2, vI l2), (3, vI l3), (6, vI l6), (7, vI l7)]) e_X12_stripsIn_5.2.2.2.2.1 5 rfl (by decide) rfl ?_
      refine R_goto 20 e_X12_stripsIn_5.2.2.2.2.2.1 (by decide) ?_
      refine R_ls (ls2 := [(0, vA G 0), (1, vI l1), (2, vI l2), (3, vI l3), (4, vI 0), (5, vI (l5 + 1))]) [2, 3, 4, 5, 1, 0] rfl ?_
      exact h
    · replace h := h.2 q
      refine R_iload e_X12_stripsIn_4.2.2.2.2.2.2.2.2.1 6 rfl ?_
      obtain ⟨q9, h⟩ := h
      refine R_if_ne 95 e_X12_stripsIn_4.2.2.2.2.2.2.2.2.2 (by decide) q9  (fun q => ?_) (fun q => ?_)
      · replace h := h.1 q
        refine R_iconst e_X12_stripsIn_5.2.2.1 ?_
        refine R_istore (ls2 := [(4, vI 0), (0, vA G 0), (1, vI l1), (2, vI l2), (3, vI l3), (5, vI l5), (6, vI l6), (7, vI l7)]) e_X12_stripsIn_5.2.2.2.1 (by decide) rfl ?_
        refine R_iinc (ls2 := [(5, vI (l5 + 1)), (4, vI 0), (0, vA G 0), (1, vI l1), (2, vI l2), (3, vI l3), (6, vI l6), (7, vI l7)]) e_X12_stripsIn_5.2.2.2.2.1 5 rfl (by decide) rfl ?_
        refine R_goto 20 e_X12_stripsIn_5.2.2.2.2.2.1 (by decide) ?_
        refine R_ls (ls2 := [(0, vA G 0), (1, vI l1), (2, vI l2), (3, vI l3), (4, vI 0), (5, vI (l5 + 1))]) [2, 3, 4, 5, 1, 0] rfl ?_
        exact h
      · replace h := h.2 q
        refine R_iconst e_X12_stripsIn_5.1 ?_
        refine R_goto 96 e_X12_stripsIn_5.2.1 (by decide) ?_
        refine R_istore (ls2 := [(4, vI 1), (0, vA G 0), (1, vI l1), (2, vI l2), (3, vI l3), (5, vI l5), (6, vI l6), (7, vI l7)]) e_X12_stripsIn_5.2.2.2.1 (by decide) rfl ?_
        refine R_iinc (ls2 := [(5, vI (l5 + 1)), (4, vI 1), (0, vA G 0), (1, vI l1), (2, vI l2), (3, vI l3), (6, vI l6), (7, vI l7)]) e_X12_stripsIn_5.2.2.2.2.1 5 rfl (by decide) rfl ?_
        refine R_goto 20 e_X12_stripsIn_5.2.2.2.2.2.1 (by decide) ?_
        refine R_ls (ls2 := [(0, vA G 0), (1, vI l1), (2, vI l2), (3, vI l3), (4, vI 1), (5, vI (l5 + 1))]) [2, 3, 4, 5, 1, 0] rfl ?_
        exact h
  · replace h := h.2 q
    refine R_iload e_X12_stripsIn_2.2.2.2.2.2.2.2.1 6 rfl ?_
    obtain ⟨q10, h⟩ := h
    refine R_if_eq 72 e_X12_stripsIn_2.2.2.2.2.2.2.2.2.1 (by decide) q10  (fun q => ?_) (fun q => ?_)
    · replace h := h.1 q
      refine R_iconst e_X12_stripsIn_4.2.2.1 ?_
      refine R_istore (ls2 := [(6, vI 0), (0, vA G 0), (1, vI l1), (2, vI l2), (3, vI l3), (4, vI l4), (5, vI l5), (7, vI l7)]) e_X12_stripsIn_4.2.2.2.1 (by decide) rfl ?_
      refine R_iinc (ls2 := [(7, vI (l7 + 1)), (6, vI 0), (0, vA G 0), (1, vI l1), (2, vI l2), (3, vI l3), (4, vI l4), (5, vI l5)]) e_X12_stripsIn_4.2.2.2.2.1 7 rfl (by decide) rfl ?_
      refine R_goto 32 e_X12_stripsIn_4.2.2.2.2.2.1 (by decide) ?_
      refine R_ls (ls2 := [(0, vA G 0), (1, vI l1), (2, vI l2), (3, vI l3), (4, vI l4), (5, vI l5), (6, vI 0), (7, vI (l7 + 1))]) [2, 3, 4, 5, 6, 7, 1, 0] rfl ?_
      exact h
    · replace h := h.2 q
      refine R_aload_n e_X12_stripsIn_2.2.2.2.2.2.2.2.2.2 0 rfl ?_
      refine R_iload_n e_X12_stripsIn_3.1 3 rfl ?_
      refine R_iload e_X12_stripsIn_3.2.1 7 rfl ?_
      refine R_iload_n e_X12_stripsIn_3.2.2.1 1 rfl ?_
      refine R_callV (mc := 0) (ms := 0) (mc' := 0) (ms' := 0) (M' := M_X12_stripAt) (d' := 5) (as := [vI l3, vI l7, vI l1]) (st := []) 12 3 e_X12_stripsIn_3.2.2.2.1 (kCVof m_X12_stripAt l_X12_474) rfl (by decide) km_0 (by decide) (by decide) rfl rfl (by show (0 : Nat) ≤ 8; decide) ?_
      refine Run.mono h (fun r11 s12 h => ?_)
      refine R_eqs (st2 := [vI r11]) rfl rfl ?_
      refine R_aload_n e_X12_stripsIn_3.2.2.2.2.1 0 rfl ?_
      refine R_iload e_X12_stripsIn_3.2.2.2.2.2.1 5 rfl ?_
      refine R_iload e_X12_stripsIn_3.2.2.2.2.2.2.1 7 rfl ?_
      refine R_iload_n e_X12_stripsIn_3.2.2.2.2.2.2.2.1 1 rfl ?_
      refine R_callV (mc := 0) (ms := 0) (mc' := 0) (ms' := 0) (M' := M_X12_stripAt) (d' := 5) (as := [vI l5, vI l7, vI l1]) (st := [vI r11]) 12 3 e_X12_stripsIn_3.2.2.2.2.2.2.2.2.1 (kCVof m_X12_stripAt l_X12_474) rfl (by decide) km_0 (by decide) (by decide) rfl rfl (by show (1 : Nat) ≤ 8; decide) ?_
      refine Run.mono h (fun r13 s14 h => ?_)
      refine R_eqs (st2 := [vI r13, vI r11]) rfl rfl ?_
      obtain ⟨q15, h⟩ := h
      obtain ⟨q16, h⟩ := h
      refine R_icmp_ne 72 e_X12_stripsIn_3.2.2.2.2.2.2.2.2.2 (by decide) q15 q16 (fun q => ?_) (fun q => ?_)
      · replace h := h.1 q
        refine R_iconst e_X12_stripsIn_4.2.2.1 ?_
        refine R_istore (ls2 := [(6, vI 0), (0, vA G 0), (1, vI l1), (2, vI l2), (3, vI l3), (4, vI l4), (5, vI l5), (7, vI l7)]) e_X12_stripsIn_4.2.2.2.1 (by decide) rfl ?_
        refine R_iinc (ls2 := [(7, vI (l7 + 1)), (6, vI 0), (0, vA G 0), (1, vI l1), (2, vI l2), (3, vI l3), (4, vI l4), (5, vI l5)]) e_X12_stripsIn_4.2.2.2.2.1 7 rfl (by decide) rfl ?_
        refine R_goto 32 e_X12_stripsIn_4.2.2.2.2.2.1 (by decide) ?_
        refine R_ls (ls2 := [(0, vA G 0), (1, vI l1), (2, vI l2), (3, vI l3), (4, vI l4), (5, vI l5), (6, vI 0), (7, vI (l7 + 1))]) [2, 3, 4, 5, 6, 7, 1, 0] rfl ?_
        exact h
      · replace h := h.2 q
        refine R_iconst e_X12_stripsIn_4.1 ?_
        refine R_goto 73 e_X12_stripsIn_4.2.1 (by decide) ?_
        refine R_istore (ls2 := [(6, vI 1), (0, vA G 0), (1, vI l1), (2, vI l2), (3, vI l3), (4, vI l4), (5, vI l5), (7, vI l7)]) e_X12_stripsIn_4.2.2.2.1 (by decide) rfl ?_
        refine R_iinc (ls2 := [(7, vI (l7 + 1)), (6, vI 1), (0, vA G 0), (1, vI l1), (2, vI l2), (3, vI l3), (4, vI l4), (5, vI l5)]) e_X12_stripsIn_4.2.2.2.2.1 7 rfl (by decide) rfl ?_
        refine R_goto 32 e_X12_stripsIn_4.2.2.2.2.2.1 (by decide) ?_
        refine R_ls (ls2 := [(0, vA G 0), (1, vI l1), (2, vI l2), (3, vI l3), (4, vI l4), (5, vI l5), (6, vI 1), (7, vI (l7 + 1))]) [2, 3, 4, 5, 6, 7, 1, 0] rfl ?_
        exact h
/-! KiteLandModel.telling()I -/
theorem e_X12_telling_0 : decode cX12_telling 0 = .ok (.iconst (-1), 1) ∧ decode cX12_telling 1 = .ok (.istore_n 1, 1) ∧ decode cX12_telling 2 = .ok (.iconst (-1), 1) ∧ decode cX12_telling 3 = .ok (.istore_n 2, 1) ∧ decode cX12_telling 4 = .ok (.iconst 0, 1) ∧ decode cX12_telling 5 = .ok (.istore_n 3, 1) ∧ decode cX12_telling 6 = .ok (.iload_n 3, 1) ∧ decode cX12_telling 7 = .ok (.aload_n 0, 1) ∧ decode cX12_telling 8 = .ok (.getfield 7, 3) ∧ decode cX12_telling 11 = .ok (.iconst 1, 1) := by decide +kernel
theorem e_X12_telling_1 : decode cX12_telling 12 = .ok (.iaload, 1) ∧ decode cX12_telling 13 = .ok (.if_icmp .ge 30, 3) ∧ decode cX12_telling 16 = .ok (.aload_n 0, 1) ∧ decode cX12_telling 17 = .ok (.iload_n 3, 1) ∧ decode cX12_telling 18 = .ok (.invokevirtual 477, 3) ∧ decode cX12_telling 21 = .ok (.istore 4, 2) ∧ decode cX12_telling 23 = .ok (.iload 4, 2) ∧ decode cX12_telling 25 = .ok (.iload_n 2, 1) ∧ decode cX12_telling 26 = .ok (.if_icmp .gt 6, 3) ∧ decode cX12_telling 29 = .ok (.goto 8, 3) := by decide +kernel
theorem e_X12_telling_2 : decode cX12_telling 32 = .ok (.iload 4, 2) ∧ decode cX12_telling 34 = .ok (.istore_n 2, 1) ∧ decode cX12_telling 35 = .ok (.iload_n 3, 1) ∧ decode cX12_telling 36 = .ok (.istore_n 1, 1) ∧ decode cX12_telling 37 = .ok (.iinc 3 1, 3) ∧ decode cX12_telling 40 = .ok (.goto (-34), 3) ∧ decode cX12_telling 43 = .ok (.aload_n 0, 1) ∧ decode cX12_telling 44 = .ok (.iload_n 1, 1) ∧ decode cX12_telling 45 = .ok (.invokevirtual 358, 3) ∧ decode cX12_telling 48 = .ok (.ireturn, 1) := by decide +kernel
abbrev E_X12_telling_6 (G : Kg) (l1 l2 l3 : Int) (σ : Kmem) (Q : Int → Kmem → Prop) : Prop := Ex G WM M_X12_telling 7 0 0 6 [(0, vA G 0), (1, vI l1), (2, vI l2), (3, vI l3)] [] σ Q
theorem S_X12_telling {G : Kg} {σ : Kmem} {Q : Int → Kmem → Prop}  (h : E_X12_telling_6 G (-1) (-1) 0 σ Q) : Run G WM M_X12_telling 7 0 0 [vA G 0] σ Q := by
  refine Run.of (by decide +kernel) (by show (1 : Nat) ≤ 5; decide) ?_
  show Ex G WM M_X12_telling 7 0 0 0 [(0, vA G 0)] [] σ Q
  refine R_iconst e_X12_telling_0.1 ?_
  refine R_istore_n (ls2 := [(1, vI (-1)), (0, vA G 0)]) e_X12_telling_0.2.1 (by decide) rfl ?_
  refine R_iconst e_X12_telling_0.2.2.1 ?_
  refine R_istore_n (ls2 := [(2, vI (-1)), (1, vI (-1)), (0, vA G 0)]) e_X12_telling_0.2.2.2.1 (by decide) rfl ?_
  refine R_iconst e_X12_telling_0.2.2.2.2.1 ?_
  refine R_istore_n (ls2 := [(3, vI 0), (2, vI (-1)), (1, vI (-1)), (0, vA G 0)]) e_X12_telling_0.2.2.2.2.2.1 (by decide) rfl ?_
  refine R_ls (ls2 := [(0, vA G 0), (1, vI (-1)), (2, vI (-1)), (3, vI 0)]) [3, 2, 1, 0] rfl ?_
  exact h
theorem S_X12_telling_6 {G : Kg} {σ : Kmem} {Q : Int → Kmem → Prop} {l1 l2 l3 : Int}  (h : (rI l3) ∧ (rI (σ 1 1)) ∧ ((σ 1 1 ≤ l3 → Run G WM M_X12_orNone 1 0 0 [vA G 0, vI l1] σ (fun r3 s4 => Q r3 s4)) ∧ (l3 < σ 1 1 → Run G WM M_X12_stripsIn 6 0 0 [vA G 0, vI l3] σ (fun r5 s6 => (rI r5) ∧ (rI l2) ∧ ((l2 < r5 → E_X12_telling_6 G l3 r5 (l3 + 1) s6 Q) ∧ (r5 ≤ l2 → E_X12_telling_6 G l1 l2 (l3 + 1) s6 Q)))))) : E_X12_telling_6 G l1 l2 l3 σ Q := by
  refine R_iload_n e_X12_telling_0.2.2.2.2.2.2.1 3 rfl ?_
  refine R_aload_n e_X12_telling_0.2.2.2.2.2.2.2.1 0 rfl ?_
  refine R_getA 12 0 1 e_X12_telling_0.2.2.2.2.2.2.2.2.1 f_X12_7 km_0 (fun _ _ => rfl) rm_0_0 (by decide) ?_
  refine R_iconst e_X12_telling_0.2.2.2.2.2.2.2.2.2 ?_
  refine R_iald 3598 e_X12_telling_1.1 kma_1 (by decide) ?_
  obtain ⟨q1, h⟩ := h
  obtain ⟨q2, h⟩ := h
  refine R_icmp_ge 43 e_X12_telling_1.2.1 (by decide) q1 q2 (fun q => ?_) (fun q => ?_)
  · replace h := h.1 q
    refine R_aload_n e_X12_telling_2.2.2.2.2.2.2.1 0 rfl ?_
    refine R_iload_n e_X12_telling_2.2.2.2.2.2.2.2.1 1 rfl ?_
    refine R_callV (mc := 0) (ms := 0) (mc' := 0) (ms' := 0) (M' := M_X12_orNone) (d' := 1) (as := [vI l1]) (st := []) 12 1 e_X12_telling_2.2.2.2.2.2.2.2.2.1 (kCVof m_X12_orNone l_X12_358) rfl (by decide) km_0 (by decide) (by decide) rfl rfl (by show (0 : Nat) ≤ 8; decide) ?_
    refine Run.mono h (fun r3 s4 h => ?_)
    refine R_eqs (st2 := [vI r3]) rfl rfl ?_
    exact R_ireturn e_X12_telling_2.2.2.2.2.2.2.2.2.2 rfl h
  · replace h := h.2 q
    refine R_aload_n e_X12_telling_1.2.2.1 0 rfl ?_
    refine R_iload_n e_X12_telling_1.2.2.2.1 3 rfl ?_
    refine R_callV (mc := 0) (ms := 0) (mc' := 0) (ms' := 0) (M' := M_X12_stripsIn) (d' := 6) (as := [vI l3]) (st := []) 12 1 e_X12_telling_1.2.2.2.2.1 (kCVof m_X12_stripsIn l_X12_477) rfl (by decide) km_0 (by decide) (by decide) rfl rfl (by show (0 : Nat) ≤ 8; decide) ?_
    refine Run.mono h (fun r5 s6 h => ?_)
    refine R_eqs (st2 := [vI r5]) rfl rfl ?_
    refine R_istore (ls2 := [(4, vI r5), (0, vA G 0), (1, vI l1), (2, vI l2), (3, vI l3)]) e_X12_telling_1.2.2.2.2.2.1 (by decide) rfl ?_
    refine R_iload e_X12_telling_1.2.2.2.2.2.2.1 0 rfl ?_
    refine R_iload_n e_X12_telling_1.2.2.2.2.2.2.2.1 3 rfl ?_
    obtain ⟨q7, h⟩ := h
    obtain ⟨q8, h⟩ := h
    refine R_icmp_gt 32 e_X12_telling_1.2.2.2.2.2.2.2.2.1 (by decide) q7 q8 (fun q => ?_) (fun q => ?_)
    · replace h := h.1 q
      refine R_iload e_X12_telling_2.1 0 rfl ?_
      refine R_istore_n (ls2 := [(2, vI r5), (4, vI r5), (0, vA G 0), (1, vI l1), (3, vI l3)]) e_X12_telling_2.2.1 (by decide) rfl ?_
      refine R_iload_n e_X12_telling_2.2.2.1 4 rfl ?_
      refine R_istore_n (ls2 := [(1, vI l3), (2, vI r5), (4, vI r5), (0, vA G 0), (3, vI l3)]) e_X12_telling_2.2.2.2.1 (by decide) rfl ?_
      refine R_iinc (ls2 := [(3, vI (l3 + 1)), (1, vI l3), (2, vI r5), (4, vI r5), (0, vA G 0)]) e_X12_telling_2.2.2.2.2.1 4 rfl (by decide) rfl ?_
      refine R_goto 6 e_X12_telling_2.2.2.2.2.2.1 (by decide) ?_
      refine R_ls (ls2 := [(0, vA G 0), (1, vI l3), (2, vI r5), (3, vI (l3 + 1))]) [4, 1, 2, 0] rfl ?_
      exact h
    · replace h := h.2 q
      refine R_goto 37 e_X12_telling_1.2.2.2.2.2.2.2.2.2 (by decide) ?_
      refine R_iinc (ls2 := [(3, vI (l3 + 1)), (4, vI r5), (0, vA G 0), (1, vI l1), (2, vI l2)]) e_X12_telling_2.2.2.2.2.1 4 rfl (by decide) rfl ?_
      refine R_goto 6 e_X12_telling_2.2.2.2.2.2.1 (by decide) ?_
      refine R_ls (ls2 := [(0, vA G 0), (1, vI l1), (2, vI l2), (3, vI (l3 + 1))]) [2, 3, 4, 0] rfl ?_
      exact h
/-! KiteLandModel.strips(I)I -/
theorem e_X12_strips_0 : decode cX12_strips 0 = .ok (.aload_n 0, 1) ∧ decode cX12_strips 1 = .ok (.iload_n 1, 1) ∧ decode cX12_strips 2 = .ok (.invokevirtual 468, 3) ∧ decode cX12_strips 5 = .ok (.ifCond .eq 15, 3) ∧ decode cX12_strips 8 = .ok (.aload_n 0, 1) ∧ decode cX12_strips 9 = .ok (.aload_n 0, 1) ∧ decode cX12_strips 10 = .ok (.iload_n 1, 1) ∧ decode cX12_strips 11 = .ok (.invokevirtual 477, 3) ∧ decode cX12_strips 14 = .ok (.invokevirtual 97, 3) ∧ decode cX12_strips 17 = .ok (.goto 8, 3) := by decide +kernel
theorem e_X12_strips_1 : decode cX12_strips 20 = .ok (.aload_n 0, 1) ∧ decode cX12_strips 21 = .ok (.iconst 1, 1) ∧ decode cX12_strips 22 = .ok (.invokevirtual 93, 3) ∧ decode cX12_strips 25 = .ok (.ireturn, 1) := by decide +kernel
theorem S_X12_strips {G : Kg} {σ : Kmem} {Q : Int → Kmem → Prop} {l1 : Int}  (h : Run G WM M_X12_isRow 0 0 0 [vA G 0, vI l1] σ (fun r1 s2 => (rI r1) ∧ ((r1 = 0 → Run G WM M_X12_refuse 0 0 0 [vA G 0, vI 1] s2 (fun r4 s5 => Q r4 s5)) ∧ (r1 ≠ 0 → Run G WM M_X12_stripsIn 6 0 0 [vA G 0, vI l1] s2 (fun r6 s7 => Run G WM M_X12_gives 0 0 0 [vA G 0, vI r6] s7 (fun r8 s9 => Q r8 s9)))))) : Run G WM M_X12_strips 7 0 0 [vA G 0, vI l1] σ Q := by
  refine Run.of (by decide +kernel) (by show (2 : Nat) ≤ 2; decide) ?_
  show Ex G WM M_X12_strips 7 0 0 0 [(0, vA G 0), (1, vI l1)] [] σ Q
  refine R_aload_n e_X12_strips_0.1 0 rfl ?_
  refine R_iload_n e_X12_strips_0.2.1 1 rfl ?_
  refine R_callV (mc := 0) (ms := 0) (mc' := 0) (ms' := 0) (M' := M_X12_isRow) (d' := 0) (as := [vI l1]) (st := []) 12 1 e_X12_strips_0.2.2.1 (kCVof m_X12_isRow l_X12_468) rfl (by decide) km_0 (by decide) (by decide) rfl rfl (by show (0 : Nat) ≤ 8; decide) ?_
  refine Run.mono h (fun r1 s2 h => ?_)
  refine R_eqs (st2 := [vI r1]) rfl rfl ?_
  obtain ⟨q3, h⟩ := h
  refine R_if_eq 20 e_X12_strips_0.2.2.2.1 (by decide) q3  (fun q => ?_) (fun q => ?_)
  · replace h := h.1 q
    refine R_aload_n e_X12_strips_1.1 0 rfl ?_
    refine R_iconst e_X12_strips_1.2.1 ?_
    refine R_callV (mc := 0) (ms := 0) (mc' := 0) (ms' := 0) (M' := M_X12_refuse) (d' := 0) (as := [vI 1]) (st := []) 12 1 e_X12_strips_1.2.2.1 (kCVof m_X12_refuse l_X12_93) rfl (by decide) km_0 (by decide) (by decide) rfl rfl (by show (0 : Nat) ≤ 8; decide) ?_
    refine Run.mono h (fun r4 s5 h => ?_)
    refine R_eqs (st2 := [vI r4]) rfl rfl ?_
    exact R_ireturn e_X12_strips_1.2.2.2 rfl h
  · replace h := h.2 q
    refine R_aload_n e_X12_strips_0.2.2.2.2.1 0 rfl ?_
    refine R_aload_n e_X12_strips_0.2.2.2.2.2.1 0 rfl ?_
    refine R_iload_n e_X12_strips_0.2.2.2.2.2.2.1 1 rfl ?_
    refine R_callV (mc := 0) (ms := 0) (mc' := 0) (ms' := 0) (M' := M_X12_stripsIn) (d' := 6) (as := [vI l1]) (st := [vA G 0]) 12 1 e_X12_strips_0.2.2.2.2.2.2.2.1 (kCVof m_X12_stripsIn l_X12_477) rfl (by decide) km_0 (by decide) (by decide) rfl rfl (by show (1 : Nat) ≤ 8; decide) ?_
    refine Run.mono h (fun r6 s7 h => ?_)
    refine R_eqs (st2 := [vI r6, vA G 0]) rfl rfl ?_
    refine R_callV (mc := 0) (ms := 0) (mc' := 0) (ms' := 0) (M' := M_X12_gives) (d' := 0) (as := [vI r6]) (st := []) 12 1 e_X12_strips_0.2.2.2.2.2.2.2.2.1 (kCVof m_X12_gives l_X12_97) rfl (by decide) km_0 (by decide) (by decide) rfl rfl (by show (0 : Nat) ≤ 8; decide) ?_
    refine Run.mono h (fun r8 s9 h => ?_)
    refine R_eqs (st2 := [vI r8]) rfl rfl ?_
    refine R_goto 25 e_X12_strips_0.2.2.2.2.2.2.2.2.2 (by decide) ?_
    exact R_ireturn e_X12_strips_1.2.2.2 rfl h
/-! KiteLandModel.duelOf(III)I -/
theorem e_X12_duelOf_0 : decode cX12_duelOf 0 = .ok (.iconst 0, 1) ∧ decode cX12_duelOf 1 = .ok (.istore 4, 2) ∧ decode cX12_duelOf 3 = .ok (.aload_n 0, 1) ∧ decode cX12_duelOf 4 = .ok (.getfield 62, 3) ∧ decode cX12_duelOf 7 = .ok (.iconst 0, 1) ∧ decode cX12_duelOf 8 = .ok (.iconst (-1), 1) ∧ decode cX12_duelOf 9 = .ok (.iastore, 1) ∧ decode cX12_duelOf 10 = .ok (.aload_n 0, 1) ∧ decode cX12_duelOf 11 = .ok (.getfield 65, 3) ∧ decode cX12_duelOf 14 = .ok (.iconst 0, 1) := by decide +kernel
theorem e_X12_duelOf_1 : decode cX12_duelOf 15 = .ok (.ldc_w 480, 3) ∧ decode cX12_duelOf 18 = .ok (.iastore, 1) ∧ decode cX12_duelOf 19 = .ok (.iload 4, 2) ∧ decode cX12_duelOf 21 = .ok (.iconst 2, 1) ∧ decode cX12_duelOf 22 = .ok (.irem, 1) ∧ decode cX12_duelOf 23 = .ok (.ifCond .ne 7, 3) ∧ decode cX12_duelOf 26 = .ok (.iload_n 1, 1) ∧ decode cX12_duelOf 27 = .ok (.goto 4, 3) ∧ decode cX12_duelOf 30 = .ok (.iload_n 2, 1) ∧ decode cX12_duelOf 31 = .ok (.istore 5, 2) := by decide +kernel
theorem e_X12_duelOf_2 : decode cX12_duelOf 33 = .ok (.iconst 0, 1) ∧ decode cX12_duelOf 34 = .ok (.istore 6, 2) ∧ decode cX12_duelOf 36 = .ok (.iload 4, 2) ∧ decode cX12_duelOf 38 = .ok (.iload_n 3, 1) ∧ decode cX12_duelOf 39 = .ok (.if_icmp .ge 76, 3) ∧ decode cX12_duelOf 42 = .ok (.iload 6, 2) ∧ decode cX12_duelOf 44 = .ok (.ifCond .ne 71, 3) ∧ decode cX12_duelOf 47 = .ok (.aload_n 0, 1) ∧ decode cX12_duelOf 48 = .ok (.getfield 62, 3) ∧ decode cX12_duelOf 51 = .ok (.iload 4, 2) := by decide +kernel
theorem e_X12_duelOf_3 : decode cX12_duelOf 53 = .ok (.iaload, 1) ∧ decode cX12_duelOf 54 = .ok (.iconst 4, 1) ∧ decode cX12_duelOf 55 = .ok (.if_icmp .ge 60, 3) ∧ decode cX12_duelOf 58 = .ok (.aload_n 0, 1) ∧ decode cX12_duelOf 59 = .ok (.getfield 62, 3) ∧ decode cX12_duelOf 62 = .ok (.iload 4, 2) ∧ decode cX12_duelOf 64 = .ok (.dup2, 1) ∧ decode cX12_duelOf 65 = .ok (.iaload, 1) ∧ decode cX12_duelOf 66 = .ok (.iconst 1, 1) ∧ decode cX12_duelOf 67 = .ok (.iadd, 1) := by decide +kernel
theorem e_X12_duelOf_4 : decode cX12_duelOf 68 = .ok (.iastore, 1) ∧ decode cX12_duelOf 69 = .ok (.aload_n 0, 1) ∧ decode cX12_duelOf 70 = .ok (.getfield 68, 3) ∧ decode cX12_duelOf 73 = .ok (.iload 4, 2) ∧ decode cX12_duelOf 75 = .ok (.aload_n 0, 1) ∧ decode cX12_duelOf 76 = .ok (.iload 5, 2) ∧ decode cX12_duelOf 78 = .ok (.iconst 0, 1) ∧ decode cX12_duelOf 79 = .ok (.invokevirtual 268, 3) ∧ decode cX12_duelOf 82 = .ok (.iastore, 1) ∧ decode cX12_duelOf 83 = .ok (.aload_n 0, 1) := by decide +kernel
theorem e_X12_duelOf_5 : decode cX12_duelOf 84 = .ok (.getfield 71, 3) ∧ decode cX12_duelOf 87 = .ok (.iload 4, 2) ∧ decode cX12_duelOf 89 = .ok (.aload_n 0, 1) ∧ decode cX12_duelOf 90 = .ok (.iload 5, 2) ∧ decode cX12_duelOf 92 = .ok (.iconst 1, 1) ∧ decode cX12_duelOf 93 = .ok (.invokevirtual 268, 3) ∧ decode cX12_duelOf 96 = .ok (.iastore, 1) ∧ decode cX12_duelOf 97 = .ok (.aload_n 0, 1) ∧ decode cX12_duelOf 98 = .ok (.iload 5, 2) ∧ decode cX12_duelOf 100 = .ok (.aload_n 0, 1) := by decide +kernel
theorem e_X12_duelOf_6 : decode cX12_duelOf 101 = .ok (.getfield 62, 3) ∧ decode cX12_duelOf 104 = .ok (.iload 4, 2) ∧ decode cX12_duelOf 106 = .ok (.iaload, 1) ∧ decode cX12_duelOf 107 = .ok (.invokevirtual 402, 3) ∧ decode cX12_duelOf 110 = .ok (.istore 6, 2) ∧ decode cX12_duelOf 112 = .ok (.goto (-76), 3) ∧ decode cX12_duelOf 115 = .ok (.iload 6, 2) ∧ decode cX12_duelOf 117 = .ok (.ifCond .eq 27, 3) ∧ decode cX12_duelOf 120 = .ok (.iinc 4 1, 3) ∧ decode cX12_duelOf 123 = .ok (.aload_n 0, 1) := by decide +kernel
theorem e_X12_duelOf_7 : decode cX12_duelOf 124 = .ok (.getfield 62, 3) ∧ decode cX12_duelOf 127 = .ok (.iload 4, 2) ∧ decode cX12_duelOf 129 = .ok (.iconst (-1), 1) ∧ decode cX12_duelOf 130 = .ok (.iastore, 1) ∧ decode cX12_duelOf 131 = .ok (.aload_n 0, 1) ∧ decode cX12_duelOf 132 = .ok (.getfield 65, 3) ∧ decode cX12_duelOf 135 = .ok (.iload 4, 2) ∧ decode cX12_duelOf 137 = .ok (.ldc_w 480, 3) ∧ decode cX12_duelOf 140 = .ok (.iastore, 1) ∧ decode cX12_duelOf 141 = .ok (.goto (-122), 3) := by decide +kernel
theorem e_X12_duelOf_8 : decode cX12_duelOf 144 = .ok (.iload 4, 2) ∧ decode cX12_duelOf 146 = .ok (.iload_n 3, 1) ∧ decode cX12_duelOf 147 = .ok (.if_icmp .ne 25, 3) ∧ decode cX12_duelOf 150 = .ok (.aload_n 0, 1) ∧ decode cX12_duelOf 151 = .ok (.iload_n 1, 1) ∧ decode cX12_duelOf 152 = .ok (.aload_n 0, 1) ∧ decode cX12_duelOf 153 = .ok (.invokevirtual 325, 3) ∧ decode cX12_duelOf 156 = .ok (.invokevirtual 361, 3) ∧ decode cX12_duelOf 159 = .ok (.aload_n 0, 1) ∧ decode cX12_duelOf 160 = .ok (.iload_n 2, 1) := by decide +kernel
theorem e_X12_duelOf_9 : decode cX12_duelOf 161 = .ok (.aload_n 0, 1) ∧ decode cX12_duelOf 162 = .ok (.invokevirtual 325, 3) ∧ decode cX12_duelOf 165 = .ok (.invokevirtual 361, 3) ∧ decode cX12_duelOf 168 = .ok (.isub, 1) ∧ decode cX12_duelOf 169 = .ok (.goto 28, 3) ∧ decode cX12_duelOf 172 = .ok (.iload 4, 2) ∧ decode cX12_duelOf 174 = .ok (.iconst 2, 1) ∧ decode cX12_duelOf 175 = .ok (.irem, 1) ∧ decode cX12_duelOf 176 = .ok (.ifCond .ne 13, 3) ∧ decode cX12_duelOf 179 = .ok (.aload_n 0, 1) := by decide +kernel
theorem e_X12_duelOf_10 : decode cX12_duelOf 180 = .ok (.getfield 65, 3) ∧ decode cX12_duelOf 183 = .ok (.iload 4, 2) ∧ decode cX12_duelOf 185 = .ok (.iaload, 1) ∧ decode cX12_duelOf 186 = .ok (.goto 11, 3) ∧ decode cX12_duelOf 189 = .ok (.aload_n 0, 1) ∧ decode cX12_duelOf 190 = .ok (.getfield 65, 3) ∧ decode cX12_duelOf 193 = .ok (.iload 4, 2) ∧ decode cX12_duelOf 195 = .ok (.iaload, 1) ∧ decode cX12_duelOf 196 = .ok (.ineg, 1) ∧ decode cX12_duelOf 197 = .ok (.istore 7, 2) := by decide +kernel
theorem e_X12_duelOf_11 : decode cX12_duelOf 199 = .ok (.iload 4, 2) ∧ decode cX12_duelOf 201 = .ok (.ifCond .ne 6, 3) ∧ decode cX12_duelOf 204 = .ok (.iload 7, 2) ∧ decode cX12_duelOf 206 = .ok (.ireturn, 1) ∧ decode cX12_duelOf 207 = .ok (.iinc 4 (-1), 3) ∧ decode cX12_duelOf 210 = .ok (.iload 4, 2) ∧ decode cX12_duelOf 212 = .ok (.iconst 2, 1) ∧ decode cX12_duelOf 213 = .ok (.irem, 1) ∧ decode cX12_duelOf 214 = .ok (.ifCond .ne 7, 3) ∧ decode cX12_duelOf 217 = .ok (.iload_n 1, 1) := by decide +kernel
theorem e_X12_duelOf_12 : decode cX12_duelOf 218 = .ok (.goto 4, 3) ∧ decode cX12_duelOf 221 = .ok (.iload_n 2, 1) ∧ decode cX12_duelOf 222 = .ok (.istore 5, 2) ∧ decode cX12_duelOf 224 = .ok (.aload_n 0, 1) ∧ decode cX12_duelOf 225 = .ok (.getfield 7, 3) ∧ decode cX12_duelOf 228 = .ok (.iload 5, 2) ∧ decode cX12_duelOf 230 = .ok (.invokestatic 265, 3) ∧ decode cX12_duelOf 233 = .ok (.aload_n 0, 1) ∧ decode cX12_duelOf 234 = .ok (.getfield 68, 3) ∧ decode cX12_duelOf 237 = .ok (.iload 4, 2) := by decide +kernel
theorem e_X12_duelOf_13 : decode cX12_duelOf 239 = .ok (.iaload, 1) ∧ decode cX12_duelOf 240 = .ok (.iastore, 1) ∧ decode cX12_duelOf 241 = .ok (.aload_n 0, 1) ∧ decode cX12_duelOf 242 = .ok (.getfield 7, 3) ∧ decode cX12_duelOf 245 = .ok (.iload 5, 2) ∧ decode cX12_duelOf 247 = .ok (.invokestatic 265, 3) ∧ decode cX12_duelOf 250 = .ok (.iconst 1, 1) ∧ decode cX12_duelOf 251 = .ok (.iadd, 1) ∧ decode cX12_duelOf 252 = .ok (.aload_n 0, 1) ∧ decode cX12_duelOf 253 = .ok (.getfield 71, 3) := by decide +kernel
theorem e_X12_duelOf_14 : decode cX12_duelOf 256 = .ok (.iload 4, 2) ∧ decode cX12_duelOf 258 = .ok (.iaload, 1) ∧ decode cX12_duelOf 259 = .ok (.iastore, 1) ∧ decode cX12_duelOf 260 = .ok (.iload 4, 2) ∧ decode cX12_duelOf 262 = .ok (.iconst 2, 1) ∧ decode cX12_duelOf 263 = .ok (.irem, 1) ∧ decode cX12_duelOf 264 = .ok (.ifCond .ne 8, 3) ∧ decode cX12_duelOf 267 = .ok (.iload 7, 2) ∧ decode cX12_duelOf 269 = .ok (.goto 6, 3) ∧ decode cX12_duelOf 272 = .ok (.iload 7, 2) := by decide +kernel
theorem e_X12_duelOf_15 : decode cX12_duelOf 274 = .ok (.ineg, 1) ∧ decode cX12_duelOf 275 = .ok (.istore 8, 2) ∧ decode cX12_duelOf 277 = .ok (.iload 8, 2) ∧ decode cX12_duelOf 279 = .ok (.aload_n 0, 1) ∧ decode cX12_duelOf 280 = .ok (.getfield 65, 3) ∧ decode cX12_duelOf 283 = .ok (.iload 4, 2) ∧ decode cX12_duelOf 285 = .ok (.iaload, 1) ∧ decode cX12_duelOf 286 = .ok (.if_icmp .gt 6, 3) ∧ decode cX12_duelOf 289 = .ok (.goto (-270), 3) ∧ decode cX12_duelOf 292 = .ok (.aload_n 0, 1) := by decide +kernel
theorem e_X12_duelOf_16 : decode cX12_duelOf 293 = .ok (.getfield 65, 3) ∧ decode cX12_duelOf 296 = .ok (.iload 4, 2) ∧ decode cX12_duelOf 298 = .ok (.iload 8, 2) ∧ decode cX12_duelOf 300 = .ok (.iastore, 1) ∧ decode cX12_duelOf 301 = .ok (.iload 4, 2) ∧ decode cX12_duelOf 303 = .ok (.ifCond .ne 13, 3) ∧ decode cX12_duelOf 306 = .ok (.aload_n 0, 1) ∧ decode cX12_duelOf 307 = .ok (.aload_n 0, 1) ∧ decode cX12_duelOf 308 = .ok (.getfield 62, 3) ∧ decode cX12_duelOf 311 = .ok (.iconst 0, 1) := by decide +kernel
theorem e_X12_duelOf_17 : decode cX12_duelOf 312 = .ok (.iaload, 1) ∧ decode cX12_duelOf 313 = .ok (.putfield 481, 3) ∧ decode cX12_duelOf 316 = .ok (.goto (-297), 3) := by decide +kernel
abbrev E_X12_duelOf_19 (G : Kg) (l1 l2 l3 l4 : Int) (σ : Kmem) (Q : Int → Kmem → Prop) : Prop := Ex G WM M_X12_duelOf 8 0 0 19 [(0, vA G 0), (1, vI l1), (2, vI l2), (3, vI l3), (4, vI l4)] [] σ Q
abbrev E_X12_duelOf_36 (G : Kg) (l1 l2 l3 l4 l5 l6 : Int) (σ : Kmem) (Q : Int → Kmem → Prop) : Prop := Ex G WM M_X12_duelOf 8 0 0 36 [(0, vA G 0), (1, vI l1), (2, vI l2), (3, vI l3), (4, vI l4), (5, vI l5), (6, vI l6)] [] σ Q
abbrev E_X12_duelOf_115 (G : Kg) (l1 l2 l3 l4 l6 : Int) (σ : Kmem) (Q : Int → Kmem → Prop) : Prop := Ex G WM M_X12_duelOf 8 0 0 115 [(0, vA G 0), (1, vI l1), (2, vI l2), (3, vI l3), (4, vI l4), (6, vI l6)] [] σ Q
abbrev E_X12_duelOf_222 (G : Kg) (l1 l2 l3 l4 l7 p0 : Int) (σ : Kmem) (Q : Int → Kmem → Prop) : Prop := Ex G WM M_X12_duelOf 8 0 0 222 [(0, vA G 0), (1, vI l1), (2, vI l2), (3, vI l3), (4, vI l4), (7, vI l7)] [vI p0] σ Q
theorem S_X12_duelOf {G : Kg} {σ : Kmem} {Q : Int → Kmem → Prop} {l1 l2 l3 : Int}  (h : E_X12_duelOf_19 G l1 l2 l3 0 (kup (kup σ 14 0 (-1)) 15 0 (-1000000)) Q) : Run G WM M_X12_duelOf 8 0 0 [vA G 0, vI l1, vI l2, vI l3] σ Q := by
  refine Run.of (by decide +kernel) (by show (4 : Nat) ≤ 9; decide) ?_
  show Ex G WM M_X12_duelOf 8 0 0 0 [(0, vA G 0), (1, vI l1), (2, vI l2), (3, vI l3)] [] σ Q
  refine R_iconst e_X12_duelOf_0.1 ?_
  refine R_istore (ls2 := [(4, vI 0), (0, vA G 0), (1, vI l1), (2, vI l2), (3, vI l3)]) e_X12_duelOf_0.2.1 (by decide) rfl ?_
  refine R_aload_n e_X12_duelOf_0.2.2.1 1 rfl ?_
  refine R_getA 12 30 14 e_X12_duelOf_0.2.2.2.1 f_X12_62 km_0 (fun _ _ => rfl) rm_0_30 (by decide) ?_
  refine R_iconst e_X12_duelOf_0.2.2.2.2.1 ?_
  refine R_iconst e_X12_duelOf_0.2.2.2.2.2.1 ?_
  refine R_iast 5 WM_ok e_X12_duelOf_0.2.2.2.2.2.2.1 kma_14 (by decide) ?_
  refine R_aload_n e_X12_duelOf_0.2.2.2.2.2.2.2.1 1 rfl ?_
  refine R_getA 12 31 15 e_X12_duelOf_0.2.2.2.2.2.2.2.2.1 f_X12_65 km_0 (fun _ _ => rfl) rm_0_31 (by decide) ?_
  refine R_iconst e_X12_duelOf_0.2.2.2.2.2.2.2.2.2 ?_
  refine R_ldc_w (-1000000) k_X12_480 e_X12_duelOf_1.1 ?_
  refine R_iast 5 WM_ok e_X12_duelOf_1.2.1 kma_15 (by decide) ?_
  refine R_ls (ls2 := [(0, vA G 0), (1, vI l1), (2, vI l2), (3, vI l3), (4, vI 0)]) [1, 2, 3, 4, 0] rfl ?_
  exact h
theorem S_X12_duelOf_19 {G : Kg} {σ : Kmem} {Q : Int → Kmem → Prop} {l1 l2 l3 l4 : Int}  (h : (0 ≤ l4 ∧ l4 ≤ 2147483647) ∧ (rI (l4 % 2)) ∧ ((l4 % 2 ≠ 0 → E_X12_duelOf_36 G l1 l2 l3 l4 l2 0 σ Q) ∧ (l4 % 2 = 0 → E_X12_duelOf_36 G l1 l2 l3 l4 l1 0 σ Q))) : E_X12_duelOf_19 G l1 l2 l3 l4 σ Q := by
  refine R_iload e_X12_duelOf_1.2.2.1 4 rfl ?_
  refine R_iconst e_X12_duelOf_1.2.2.2.1 ?_
  obtain ⟨q1, h⟩ := h
  refine R_irem e_X12_duelOf_1.2.2.2.2.1 q1 (by decide) ?_
  obtain ⟨q2, h⟩ := h
  refine R_if_ne 30 e_X12_duelOf_1.2.2.2.2.2.1 (by decide) q2  (fun q => ?_) (fun q => ?_)
  · replace h := h.1 q
    refine R_iload_n e_X12_duelOf_1.2.2.2.2.2.2.2.2.1 2 rfl ?_
    refine R_istore (ls2 := [(5, vI l2), (0, vA G 0), (1, vI l1), (2, vI l2), (3, vI l3), (4, vI l4)]) e_X12_duelOf_1.2.2.2.2.2.2.2.2.2 (by decide) rfl ?_
    refine R_iconst e_X12_duelOf_2.1 ?_
    refine R_istore (ls2 := [(6, vI 0), (5, vI l2), (0, vA G 0), (1, vI l1), (2, vI l2), (3, vI l3), (4, vI l4)]) e_X12_duelOf_2.2.1 (by decide) rfl ?_
    refine R_ls (ls2 := [(0, vA G 0), (1, vI l1), (2, vI l2), (3, vI l3), (4, vI l4), (5, vI l2), (6, vI 0)]) [2, 3, 4, 5, 6, 1, 0] rfl ?_
    exact h
  · replace h := h.2 q
    refine R_iload_n e_X12_duelOf_1.2.2.2.2.2.2.1 1 rfl ?_
    refine R_goto 31 e_X12_duelOf_1.2.2.2.2.2.2.2.1 (by decide) ?_
    refine R_istore (ls2 := [(5, vI l1), (0, vA G 0), (1, vI l1), (2, vI l2), (3, vI l3), (4, vI l4)]) e_X12_duelOf_1.2.2.2.2.2.2.2.2.2 (by decide) rfl ?_
    refine R_iconst e_X12_duelOf_2.1 ?_
    refine R_istore (ls2 := [(6, vI 0), (5, vI l1), (0, vA G 0), (1, vI l1), (2, vI l2), (3, vI l3), (4, vI l4)]) e_X12_duelOf_2.2.1 (by decide) rfl ?_
    refine R_ls (ls2 := [(0, vA G 0), (1, vI l1), (2, vI l2), (3, vI l3), (4, vI l4), (5, vI l1), (6, vI 0)]) [2, 3, 4, 5, 6, 1, 0] rfl ?_
    exact h
theorem S_X12_duelOf_36 {G : Kg} {σ : Kmem} {Q : Int → Kmem → Prop} {l1 l2 l3 l4 l5 l6 : Int}  (h : (rI l4) ∧ (rI l3) ∧ ((l3 ≤ l4 → E_X12_duelOf_115 G l1 l2 l3 l4 l6 σ Q) ∧ (l4 < l3 → (rI l6) ∧ ((l6 ≠ 0 → E_X12_duelOf_115 G l1 l2 l3 l4 l6 σ Q) ∧ (l6 = 0 → (0 ≤ l4 ∧ l4 < 5) ∧ (rI (σ 14 l4)) ∧ ((4 ≤ σ 14 l4 → E_X12_duelOf_115 G l1 l2 l3 l4 l6 σ Q) ∧ (σ 14 l4 < 4 → (0 ≤ l4 ∧ l4 < 5) ∧ (0 ≤ l4 ∧ l4 < 5) ∧ Run G WM M_X12_of 1 0 0 [vA G 0, vI l5, vI 0] (kup σ 14 l4 ((σ 14 l4) + 1)) (fun r10 s11 => (0 ≤ l4 ∧ l4 < 5) ∧ Run G WM M_X12_of 1 0 0 [vA G 0, vI l5, vI 1] (kup s11 16 l4 r10) (fun r13 s14 => (0 ≤ l4 ∧ l4 < 5) ∧ (0 ≤ l4 ∧ l4 < 5) ∧ Run G WM M_X12_walks 2 0 0 [vA G 0, vI l5, vI ((kup s14 17 l4 r13) 14 l4)] (kup s14 17 l4 r13) (fun r17 s18 => E_X12_duelOf_36 G l1 l2 l3 l4 l5 r17 s18 Q)))))))))) : E_X12_duelOf_36 G l1 l2 l3 l4 l5 l6 σ Q := by
  refine R_iload e_X12_duelOf_2.2.2.1 4 rfl ?_
  refine R_iload_n e_X12_duelOf_2.2.2.2.1 3 rfl ?_
  obtain ⟨q3, h⟩ := h
  obtain ⟨q4, h⟩ := h
  refine R_icmp_ge 115 e_X12_duelOf_2.2.2.2.2.1 (by decide) q3 q4 (fun q => ?_) (fun q => ?_)
  · replace h := h.1 q
    refine R_ls (ls2 := [(0, vA G 0), (1, vI l1), (2, vI l2), (3, vI l3), (4, vI l4), (6, vI l6)]) [0, 1, 2, 3, 4, 6] rfl ?_
    exact h
  · replace h := h.2 q
    refine R_iload e_X12_duelOf_2.2.2.2.2.2.1 6 rfl ?_
    obtain ⟨q5, h⟩ := h
    refine R_if_ne 115 e_X12_duelOf_2.2.2.2.2.2.2.1 (by decide) q5  (fun q => ?_) (fun q => ?_)
    · replace h := h.1 q
      refine R_ls (ls2 := [(0, vA G 0), (1, vI l1), (2, vI l2), (3, vI l3), (4, vI l4), (6, vI l6)]) [0, 1, 2, 3, 4, 6] rfl ?_
      exact h
    · replace h := h.2 q
      refine R_aload_n e_X12_duelOf_2.2.2.2.2.2.2.2.1 0 rfl ?_
      refine R_getA 12 30 14 e_X12_duelOf_2.2.2.2.2.2.2.2.2.1 f_X12_62 km_0 (fun _ _ => rfl) rm_0_30 (by decide) ?_
      refine R_iload e_X12_duelOf_2.2.2.2.2.2.2.2.2.2 4 rfl ?_
      obtain ⟨q6, h⟩ := h
      refine R_iald 5 e_X12_duelOf_3.1 kma_14 q6 ?_
      refine R_iconst e_X12_duelOf_3.2.1 ?_
      obtain ⟨q7, h⟩ := h
      refine R_icmp_ge 115 e_X12_duelOf_3.2.2.1 (by decide) q7 (by decide) (fun q => ?_) (fun q => ?_)
      · replace h := h.1 q
        refine R_ls (ls2 := [(0, vA G 0), (1, vI l1), (2, vI l2), (3, vI l3), (4, vI l4), (6, vI l6)]) [0, 1, 2, 3, 4, 6] rfl ?_
        exact h
      · replace h := h.2 q
        refine R_aload_n e_X12_duelOf_3.2.2.2.1 0 rfl ?_
        refine R_getA 12 30 14 e_X12_duelOf_3.2.2.2.2.1 f_X12_62 km_0 (fun _ _ => rfl) rm_0_30 (by decide) ?_
        refine R_iload e_X12_duelOf_3.2.2.2.2.2.1 4 rfl ?_
        refine R_dup2 e_X12_duelOf_3.2.2.2.2.2.2.1 rfl rfl ?_
        obtain ⟨q8, h⟩ := h
        refine R_iald 5 e_X12_duelOf_3.2.2.2.2.2.2.2.1 kma_14 q8 ?_
        refine R_iconst e_X12_duelOf_3.2.2.2.2.2.2.2.2.1 ?_
        refine R_iadd e_X12_duelOf_3.2.2.2.2.2.2.2.2.2 ?_
        obtain ⟨q9, h⟩ := h
        refine R_iast 5 WM_ok e_X12_duelOf_4.1 kma_14 q9 ?_
        refine R_aload_n e_X12_duelOf_4.2.1 0 rfl ?_
        refine R_getA 12 32 16 e_X12_duelOf_4.2.2.1 f_X12_68 km_0 (fun _ _ => rfl) rm_0_32 (by decide) ?_
        refine R_iload e_X12_duelOf_4.2.2.2.1 4 rfl ?_
        refine R_aload_n e_X12_duelOf_4.2.2.2.2.1 0 rfl ?_
        refine R_iload e_X12_duelOf_4.2.2.2.2.2.1 5 rfl ?_
        refine R_iconst e_X12_duelOf_4.2.2.2.2.2.2.1 ?_
        refine R_callV (mc := 0) (ms := 0) (mc' := 0) (ms' := 0) (M' := M_X12_of) (d' := 1) (as := [vI l5, vI 0]) (st := [vI l4, vA G 16]) 12 2 e_X12_duelOf_4.2.2.2.2.2.2.2.1 (kCVof m_X12_of l_X12_268) rfl (by decide) km_0 (by decide) (by decide) rfl rfl (by show (2 : Nat) ≤ 8; decide) ?_
        refine Run.mono h (fun r10 s11 h => ?_)
        refine R_eqs (st2 := [vI r10, vI l4, vA G 16]) rfl rfl ?_
        obtain ⟨q12, h⟩ := h
        refine R_iast 5 WM_ok e_X12_duelOf_4.2.2.2.2.2.2.2.2.1 kma_16 q12 ?_
        refine R_aload_n e_X12_duelOf_4.2.2.2.2.2.2.2.2.2 0 rfl ?_
        refine R_getA 12 33 17 e_X12_duelOf_5.1 f_X12_71 km_0 (fun _ _ => rfl) rm_0_33 (by decide) ?_
        refine R_iload e_X12_duelOf_5.2.1 4 rfl ?_
        refine R_aload_n e_X12_duelOf_5.2.2.1 0 rfl ?_
        refine R_iload e_X12_duelOf_5.2.2.2.1 5 rfl ?_
        refine R_iconst e_X12_duelOf_5.2.2.2.2.1 ?_
        refine R_callV (mc := 0) (ms := 0) (mc' := 0) (ms' := 0) (M' := M_X12_of) (d' := 1) (as := [vI l5, vI 1]) (st := [vI l4, vA G 17]) 12 2 e_X12_duelOf_5.2.2.2.2.2.1 (kCVof m_X12_of l_X12_268) rfl (by decide) km_0 (by decide) (by decide) rfl rfl (by show (2 : Nat) ≤ 8; decide) ?_
        refine Run.mono h (fun r13 s14 h => ?_)
        refine R_eqs (st2 := [vI r13, vI l4, vA G 17]) rfl rfl ?_
        obtain ⟨q15, h⟩ := h
        refine R_iast 5 WM_ok e_X12_duelOf_5.2.2.2.2.2.2.1 kma_17 q15 ?_
        refine R_aload_n e_X12_duelOf_5.2.2.2.2.2.2.2.1 0 rfl ?_
        refine R_iload e_X12_duelOf_5.2.2.2.2.2.2.2.2.1 5 rfl ?_
        refine R_aload_n e_X12_duelOf_5.2.2.2.2.2.2.2.2.2 0 rfl ?_
        refine R_getA 12 30 14 e_X12_duelOf_6.1 f_X12_62 km_0 (fun _ _ => rfl) rm_0_30 (by decide) ?_
        refine R_iload e_X12_duelOf_6.2.1 4 rfl ?_
        obtain ⟨q16, h⟩ := h
        refine R_iald 5 e_X12_duelOf_6.2.2.1 kma_14 q16 ?_
        refine R_callV (mc := 0) (ms := 0) (mc' := 0) (ms' := 0) (M' := M_X12_walks) (d' := 2) (as := [vI l5, vI ((kup s14 17 l4 r13) 14 l4)]) (st := []) 12 2 e_X12_duelOf_6.2.2.2.1 (kCVof m_X12_walks l_X12_402) rfl (by decide) km_0 (by decide) (by decide) rfl rfl (by show (0 : Nat) ≤ 8; decide) ?_
        refine Run.mono h (fun r17 s18 h => ?_)
        refine R_eqs (st2 := [vI r17]) rfl rfl ?_
        refine R_istore (ls2 := [(6, vI r17), (0, vA G 0), (1, vI l1), (2, vI l2), (3, vI l3), (4, vI l4), (5, vI l5)]) e_X12_duelOf_6.2.2.2.2.1 (by decide) rfl ?_
        refine R_goto 36 e_X12_duelOf_6.2.2.2.2.2.1 (by decide) ?_
        refine R_ls (ls2 := [(0, vA G 0), (1, vI l1), (2, vI l2), (3, vI l3), (4, vI l4), (5, vI l5), (6, vI r17)]) [1, 2, 3, 4, 5, 6, 0] rfl ?_
        exact h
theorem S_X12_duelOf_115 {G : Kg} {σ : Kmem} {Q : Int → Kmem → Prop} {l1 l2 l3 l4 l6 : Int}  (h : (rI l6) ∧ ((l6 = 0 → (rI l4) ∧ (rI l3) ∧ ((l4 ≠ l3 → (0 ≤ l4 ∧ l4 ≤ 2147483647) ∧ (rI (l4 % 2)) ∧ ((l4 % 2 ≠ 0 → (0 ≤ l4 ∧ l4 < 5) ∧ ((l4 ≠ 0 → (0 ≤ l4 + (-1) ∧ l4 + (-1) ≤ 2147483647) ∧ (rI ((l4 + (-1)) % 2)) ∧ (((l4 + (-1)) % 2 ≠ 0 → E_X12_duelOf_222 G l1 l2 l3 (l4 + (-1)) (-(σ 15 l4)) l2 σ Q) ∧ ((l4 + (-1)) % 2 = 0 → E_X12_duelOf_222 G l1 l2 l3 (l4 + (-1)) (-(σ 15 l4)) l1 σ Q))) ∧ (l4 = 0 → Q (-(σ 15 l4)) σ))) ∧ (l4 % 2 = 0 → (0 ≤ l4 ∧ l4 < 5) ∧ ((l4 ≠ 0 → (0 ≤ l4 + (-1) ∧ l4 + (-1) ≤ 2147483647) ∧ (rI ((l4 + (-1)) % 2)) ∧ (((l4 + (-1)) % 2 ≠ 0 → E_X12_duelOf_222 G l1 l2 l3 (l4 + (-1)) (σ 15 l4) l2 σ Q) ∧ ((l4 + (-1)) % 2 = 0 → E_X12_duelOf_222 G l1 l2 l3 (l4 + (-1)) (σ 15 l4) l1 σ Q))) ∧ (l4 = 0 → Q (σ 15 l4) σ))))) ∧ (l4 = l3 → Run G WM M_X12_now 0 0 0 [vA G 0] σ (fun r30 s31 => Run G WM M_X12_estateOf 7 0 0 [vA G 0, vI l1, vI r30] s31 (fun r32 s33 => Run G WM M_X12_now 0 0 0 [vA G 0] s33 (fun r34 s35 => Run G WM M_X12_estateOf 7 0 0 [vA G 0, vI l2, vI r34] s35 (fun r36 s37 => ((l4 ≠ 0 → (0 ≤ l4 + (-1) ∧ l4 + (-1) ≤ 2147483647) ∧ (rI ((l4 + (-1)) % 2)) ∧ (((l4 + (-1)) % 2 ≠ 0 → E_X12_duelOf_222 G l1 l2 l3 (l4 + (-1)) (r32 - r36) l2 s37 Q) ∧ ((l4 + (-1)) % 2 = 0 → E_X12_duelOf_222 G l1 l2 l3 (l4 + (-1)) (r32 - r36) l1 s37 Q))) ∧ (l4 = 0 → Q (r32 - r36) s37))))))))) ∧ (l6 ≠ 0 → (0 ≤ l4 + 1 ∧ l4 + 1 < 5) ∧ (0 ≤ l4 + 1 ∧ l4 + 1 < 5) ∧ E_X12_duelOf_19 G l1 l2 l3 (l4 + 1) (kup (kup σ 14 (l4 + 1) (-1)) 15 (l4 + 1) (-1000000)) Q))) : E_X12_duelOf_115 G l1 l2 l3 l4 l6 σ Q := by
  refine R_iload e_X12_duelOf_6.2.2.2.2.2.2.1 5 rfl ?_
  obtain ⟨q19, h⟩ := h
  refine R_if_eq 144 e_X12_duelOf_6.2.2.2.2.2.2.2.1 (by decide) q19  (fun q => ?_) (fun q => ?_)
  · replace h := h.1 q
    refine R_iload e_X12_duelOf_8.1 4 rfl ?_
    refine R_iload_n e_X12_duelOf_8.2.1 3 rfl ?_
    obtain ⟨q20, h⟩ := h
    obtain ⟨q21, h⟩ := h
    refine R_icmp_ne 172 e_X12_duelOf_8.2.2.1 (by decide) q20 q21 (fun q => ?_) (fun q => ?_)
    · replace h := h.1 q
      refine R_iload e_X12_duelOf_9.2.2.2.2.2.1 4 rfl ?_
      refine R_iconst e_X12_duelOf_9.2.2.2.2.2.2.1 ?_
      obtain ⟨q22, h⟩ := h
      refine R_irem e_X12_duelOf_9.2.2.2.2.2.2.2.1 q22 (by decide) ?_
      obtain ⟨q23, h⟩ := h
      refine R_if_ne 189 e_X12_duelOf_9.2.2.2.2.2.2.2.2.1 (by decide) q23  (fun q => ?_) (fun q => ?_)
      · replace h := h.1 q
        refine R_aload_n e_X12_duelOf_10.2.2.2.2.1 0 rfl ?_
        refine R_getA 12 31 15 e_X12_duelOf_10.2.2.2.2.2.1 f_X12_65 km_0 (fun _ _ => rfl) rm_0_31 (by decide) ?_
        refine R_iload e_X12_duelOf_10.2.2.2.2.2.2.1 4 rfl ?_
        obtain ⟨q24, h⟩ := h
        refine R_iald 5 e_X12_duelOf_10.2.2.2.2.2.2.2.1 kma_15 q24 ?_
        refine R_ineg e_X12_duelOf_10.2.2.2.2.2.2.2.2.1 ?_
        refine R_istore (ls2 := [(7, vI (-(σ 15 l4))), (0, vA G 0), (1, vI l1), (2, vI l2), (3, vI l3), (4, vI l4), (6, vI l6)]) e_X12_duelOf_10.2.2.2.2.2.2.2.2.2 (by decide) rfl ?_
        refine R_iload e_X12_duelOf_11.1 5 rfl ?_
        refine R_if_ne 207 e_X12_duelOf_11.2.1 (by decide) q20  (fun q => ?_) (fun q => ?_)
        · replace h := h.1 q
          refine R_iinc (ls2 := [(4, vI (l4 + (-1))), (7, vI (-(σ 15 l4))), (0, vA G 0), (1, vI l1), (2, vI l2), (3, vI l3), (6, vI l6)]) e_X12_duelOf_11.2.2.2.2.1 5 rfl (by decide) rfl ?_
          refine R_iload e_X12_duelOf_11.2.2.2.2.2.1 0 rfl ?_
          refine R_iconst e_X12_duelOf_11.2.2.2.2.2.2.1 ?_
          obtain ⟨q25, h⟩ := h
          refine R_irem e_X12_duelOf_11.2.2.2.2.2.2.2.1 q25 (by decide) ?_
          obtain ⟨q26, h⟩ := h
          refine R_if_ne 221 e_X12_duelOf_11.2.2.2.2.2.2.2.2.1 (by decide) q26  (fun q => ?_) (fun q => ?_)
          · replace h := h.1 q
            refine R_iload_n e_X12_duelOf_12.2.1 4 rfl ?_
            refine R_ls (ls2 := [(0, vA G 0), (1, vI l1), (2, vI l2), (3, vI l3), (4, vI (l4 + (-1))), (7, vI (-(σ 15 l4)))]) [2, 3, 4, 5, 0, 1] rfl ?_
            exact h
          · replace h := h.2 q
            refine R_iload_n e_X12_duelOf_11.2.2.2.2.2.2.2.2.2 3 rfl ?_
            refine R_goto 222 e_X12_duelOf_12.1 (by decide) ?_
            refine R_ls (ls2 := [(0, vA G 0), (1, vI l1), (2, vI l2), (3, vI l3), (4, vI (l4 + (-1))), (7, vI (-(σ 15 l4)))]) [2, 3, 4, 5, 0, 1] rfl ?_
            exact h
        · replace h := h.2 q
          refine R_iload e_X12_duelOf_11.2.2.1 0 rfl ?_
          exact R_ireturn e_X12_duelOf_11.2.2.2.1 rfl h
      · replace h := h.2 q
        refine R_aload_n e_X12_duelOf_9.2.2.2.2.2.2.2.2.2 0 rfl ?_
        refine R_getA 12 31 15 e_X12_duelOf_10.1 f_X12_65 km_0 (fun _ _ => rfl) rm_0_31 (by decide) ?_
        refine R_iload e_X12_duelOf_10.2.1 4 rfl ?_
        obtain ⟨q27, h⟩ := h
        refine R_iald 5 e_X12_duelOf_10.2.2.1 kma_15 q27 ?_
        refine R_goto 197 e_X12_duelOf_10.2.2.2.1 (by decide) ?_
        refine R_istore (ls2 := [(7, vI (σ 15 l4)), (0, vA G 0), (1, vI l1), (2, vI l2), (3, vI l3), (4, vI l4), (6, vI l6)]) e_X12_duelOf_10.2.2.2.2.2.2.2.2.2 (by decide) rfl ?_
        refine R_iload e_X12_duelOf_11.1 5 rfl ?_
        refine R_if_ne 207 e_X12_duelOf_11.2.1 (by decide) q20  (fun q => ?_) (fun q => ?_)
        · replace h := h.1 q
          refine R_iinc (ls2 := [(4, vI (l4 + (-1))), (7, vI (σ 15 l4)), (0, vA G 0), (1, vI l1), (2, vI l2), (3, vI l3), (6, vI l6)]) e_X12_duelOf_11.2.2.2.2.1 5 rfl (by decide) rfl ?_
          refine R_iload e_X12_duelOf_11.2.2.2.2.2.1 0 rfl ?_
          refine R_iconst e_X12_duelOf_11.2.2.2.2.2.2.1 ?_
          obtain ⟨q28, h⟩ := h
          refine R_irem e_X12_duelOf_11.2.2.2.2.2.2.2.1 q28 (by decide) ?_
          obtain ⟨q29, h⟩ := h
          refine R_if_ne 221 e_X12_duelOf_11.2.2.2.2.2.2.2.2.1 (by decide) q29  (fun q => ?_) (fun q => ?_)
          · replace h := h.1 q
            refine R_iload_n e_X12_duelOf_12.2.1 4 rfl ?_
            refine R_ls (ls2 := [(0, vA G 0), (1, vI l1), (2, vI l2), (3, vI l3), (4, vI (l4 + (-1))), (7, vI (σ 15 l4))]) [2, 3, 4, 5, 0, 1] rfl ?_
            exact h
          · replace h := h.2 q
            refine R_iload_n e_X12_duelOf_11.2.2.2.2.2.2.2.2.2 3 rfl ?_
            refine R_goto 222 e_X12_duelOf_12.1 (by decide) ?_
            refine R_ls (ls2 := [(0, vA G 0), (1, vI l1), (2, vI l2), (3, vI l3), (4, vI (l4 + (-1))), (7, vI (σ 15 l4))]) [2, 3, 4, 5, 0, 1] rfl ?_
            exact h
        · replace h := h.2 q
          refine R_iload e_X12_duelOf_11.2.2.1 0 rfl ?_
          exact R_ireturn e_X12_duelOf_11.2.2.2.1 rfl h
    · replace h := h.2 q
      refine R_aload_n e_X12_duelOf_8.2.2.2.1 0 rfl ?_
      refine R_iload_n e_X12_duelOf_8.2.2.2.2.1 1 rfl ?_
      refine R_aload_n e_X12_duelOf_8.2.2.2.2.2.1 0 rfl ?_
      refine R_callV (mc := 0) (ms := 0) (mc' := 0) (ms' := 0) (M' := M_X12_now) (d' := 0) (as := []) (st := [vI l1, vA G 0]) 12 0 e_X12_duelOf_8.2.2.2.2.2.2.1 (kCVof m_X12_now l_X12_325) rfl (by decide) km_0 (by decide) (by decide) rfl rfl (by show (2 : Nat) ≤ 8; decide) ?_
      refine Run.mono h (fun r30 s31 h => ?_)
      refine R_eqs (st2 := [vI r30, vI l1, vA G 0]) rfl rfl ?_
      refine R_callV (mc := 0) (ms := 0) (mc' := 0) (ms' := 0) (M' := M_X12_estateOf) (d' := 7) (as := [vI l1, vI r30]) (st := []) 12 2 e_X12_duelOf_8.2.2.2.2.2.2.2.1 (kCVof m_X12_estateOf l_X12_361) rfl (by decide) km_0 (by decide) (by decide) rfl rfl (by show (0 : Nat) ≤ 8; decide) ?_
      refine Run.mono h (fun r32 s33 h => ?_)
      refine R_eqs (st2 := [vI r32]) rfl rfl ?_
      refine R_aload_n e_X12_duelOf_8.2.2.2.2.2.2.2.2.1 0 rfl ?_
      refine R_iload_n e_X12_duelOf_8.2.2.2.2.2.2.2.2.2 2 rfl ?_
      refine R_aload_n e_X12_duelOf_9.1 0 rfl ?_
      refine R_callV (mc := 0) (ms := 0) (mc' := 0) (ms' := 0) (M' := M_X12_now) (d' := 0) (as := []) (st := [vI l2, vA G 0, vI r32]) 12 0 e_X12_duelOf_9.2.1 (kCVof m_X12_now l_X12_325) rfl (by decide) km_0 (by decide) (by decide) rfl rfl (by show (3 : Nat) ≤ 8; decide) ?_
      refine Run.mono h (fun r34 s35 h => ?_)
      refine R_eqs (st2 := [vI r34, vI l2, vA G 0, vI r32]) rfl rfl ?_
      refine R_callV (mc := 0) (ms := 0) (mc' := 0) (ms' := 0) (M' := M_X12_estateOf) (d' := 7) (as := [vI l2, vI r34]) (st := [vI r32]) 12 2 e_X12_duelOf_9.2.2.1 (kCVof m_X12_estateOf l_X12_361) rfl (by decide) km_0 (by decide) (by decide) rfl rfl (by show (1 : Nat) ≤ 8; decide) ?_
      refine Run.mono h (fun r36 s37 h => ?_)
      refine R_eqs (st2 := [vI r36, vI r32]) rfl rfl ?_
      refine R_isub e_X12_duelOf_9.2.2.2.1 ?_
      refine R_goto 197 e_X12_duelOf_9.2.2.2.2.1 (by decide) ?_
      refine R_istore (ls2 := [(7, vI (r32 - r36)), (0, vA G 0), (1, vI l1), (2, vI l2), (3, vI l3), (4, vI l4), (6, vI l6)]) e_X12_duelOf_10.2.2.2.2.2.2.2.2.2 (by decide) rfl ?_
      refine R_iload e_X12_duelOf_11.1 5 rfl ?_
      refine R_if_ne 207 e_X12_duelOf_11.2.1 (by decide) q20  (fun q => ?_) (fun q => ?_)
      · replace h := h.1 q
        refine R_iinc (ls2 := [(4, vI (l4 + (-1))), (7, vI (r32 - r36)), (0, vA G 0), (1, vI l1), (2, vI l2), (3, vI l3), (6, vI l6)]) e_X12_duelOf_11.2.2.2.2.1 5 rfl (by decide) rfl ?_
        refine R_iload e_X12_duelOf_11.2.2.2.2.2.1 0 rfl ?_
        refine R_iconst e_X12_duelOf_11.2.2.2.2.2.2.1 ?_
        obtain ⟨q38, h⟩ := h
        refine R_irem e_X12_duelOf_11.2.2.2.2.2.2.2.1 q38 (by decide) ?_
        obtain ⟨q39, h⟩ := h
        refine R_if_ne 221 e_X12_duelOf_11.2.2.2.2.2.2.2.2.1 (by decide) q39  (fun q => ?_) (fun q => ?_)
        · replace h := h.1 q
          refine R_iload_n e_X12_duelOf_12.2.1 4 rfl ?_
          refine R_ls (ls2 := [(0, vA G 0), (1, vI l1), (2, vI l2), (3, vI l3), (4, vI (l4 + (-1))), (7, vI (r32 - r36))]) [2, 3, 4, 5, 0, 1] rfl ?_
          exact h
        · replace h := h.2 q
          refine R_iload_n e_X12_duelOf_11.2.2.2.2.2.2.2.2.2 3 rfl ?_
          refine R_goto 222 e_X12_duelOf_12.1 (by decide) ?_
          refine R_ls (ls2 := [(0, vA G 0), (1, vI l1), (2, vI l2), (3, vI l3), (4, vI (l4 + (-1))), (7, vI (r32 - r36))]) [2, 3, 4, 5, 0, 1] rfl ?_
          exact h
      · replace h := h.2 q
        refine R_iload e_X12_duelOf_11.2.2.1 0 rfl ?_
        exact R_ireturn e_X12_duelOf_11.2.2.2.1 rfl h
  · replace h := h.2 q
    refine R_iinc (ls2 := [(4, vI (l4 + 1)), (0, vA G 0), (1, vI l1), (2, vI l2), (3, vI l3), (6, vI l6)]) e_X12_duelOf_6.2.2.2.2.2.2.2.2.1 4 rfl (by decide) rfl ?_
    refine R_aload_n e_X12_duelOf_6.2.2.2.2.2.2.2.2.2 1 rfl ?_
    refine R_getA 12 30 14 e_X12_duelOf_7.1 f_X12_62 km_0 (fun _ _ => rfl) rm_0_30 (by decide) ?_
    refine R_iload e_X12_duelOf_7.2.1 0 rfl ?_
    refine R_iconst e_X12_duelOf_7.2.2.1 ?_
    obtain ⟨q40, h⟩ := h
    refine R_iast 5 WM_ok e_X12_duelOf_7.2.2.2.1 kma_14 q40 ?_
    refine R_aload_n e_X12_duelOf_7.2.2.2.2.1 1 rfl ?_
    refine R_getA 12 31 15 e_X12_duelOf_7.2.2.2.2.2.1 f_X12_65 km_0 (fun _ _ => rfl) rm_0_31 (by decide) ?_
    refine R_iload e_X12_duelOf_7.2.2.2.2.2.2.1 0 rfl ?_
    refine R_ldc_w (-1000000) k_X12_480 e_X12_duelOf_7.2.2.2.2.2.2.2.1 ?_
    obtain ⟨q41, h⟩ := h
    refine R_iast 5 WM_ok e_X12_duelOf_7.2.2.2.2.2.2.2.2.1 kma_15 q41 ?_
    refine R_goto 19 e_X12_duelOf_7.2.2.2.2.2.2.2.2.2 (by decide) ?_
    refine R_ls (ls2 := [(0, vA G 0), (1, vI l1), (2, vI l2), (3, vI l3), (4, vI (l4 + 1))]) [1, 2, 3, 4, 0] rfl ?_
    exact h
theorem S_X12_duelOf_222 {G : Kg} {σ : Kmem} {Q : Int → Kmem → Prop} {l1 l2 l3 l4 l7 p0 : Int}  (h : Run G WM M_X12_kiteRow 0 0 0 [vI p0] σ (fun r42 s43 => (0 ≤ l4 ∧ l4 < 5) ∧ (0 ≤ r42 ∧ r42 < 3598) ∧ Run G WM M_X12_kiteRow 0 0 0 [vI p0] (kup s43 1 r42 (s43 16 l4)) (fun r46 s47 => (0 ≤ l4 ∧ l4 < 5) ∧ (0 ≤ r46 + 1 ∧ r46 + 1 < 3598) ∧ (0 ≤ l4 ∧ l4 ≤ 2147483647) ∧ (rI (l4 % 2)) ∧ ((l4 % 2 ≠ 0 → (0 ≤ l4 ∧ l4 < 5) ∧ (rI (-l7)) ∧ (rI ((kup s47 1 (r46 + 1) (s47 17 l4)) 15 l4)) ∧ (((kup s47 1 (r46 + 1) (s47 17 l4)) 15 l4 < -l7 → (0 ≤ l4 ∧ l4 < 5) ∧ (rI l4) ∧ ((l4 ≠ 0 → E_X12_duelOf_19 G l1 l2 l3 l4 (kup (kup s47 1 (r46 + 1) (s47 17 l4)) 15 l4 (-l7)) Q) ∧ (l4 = 0 → E_X12_duelOf_19 G l1 l2 l3 l4 (kup (kup (kup s47 1 (r46 + 1) (s47 17 l4)) 15 l4 (-l7)) 0 34 ((kup (kup s47 1 (r46 + 1) (s47 17 l4)) 15 l4 (-l7)) 14 0)) Q))) ∧ (-l7 ≤ (kup s47 1 (r46 + 1) (s47 17 l4)) 15 l4 → E_X12_duelOf_19 G l1 l2 l3 l4 (kup s47 1 (r46 + 1) (s47 17 l4)) Q))) ∧ (l4 % 2 = 0 → (0 ≤ l4 ∧ l4 < 5) ∧ (rI l7) ∧ (rI ((kup s47 1 (r46 + 1) (s47 17 l4)) 15 l4)) ∧ (((kup s47 1 (r46 + 1) (s47 17 l4)) 15 l4 < l7 → (0 ≤ l4 ∧ l4 < 5) ∧ (rI l4) ∧ ((l4 ≠ 0 → E_X12_duelOf_19 G l1 l2 l3 l4 (kup (kup s47 1 (r46 + 1) (s47 17 l4)) 15 l4 l7) Q) ∧ (l4 = 0 → E_X12_duelOf_19 G l1 l2 l3 l4 (kup (kup (kup s47 1 (r46 + 1) (s47 17 l4)) 15 l4 l7) 0 34 ((kup (kup s47 1 (r46 + 1) (s47 17 l4)) 15 l4 l7) 14 0)) Q))) ∧ (l7 ≤ (kup s47 1 (r46 + 1) (s47 17 l4)) 15 l4 → E_X12_duelOf_19 G l1 l2 l3 l4 (kup s47 1 (r46 + 1) (s47 17 l4)) Q))))))) : E_X12_duelOf_222 G l1 l2 l3 l4 l7 p0 σ Q := by
  refine R_istore (ls2 := [(5, vI p0), (0, vA G 0), (1, vI l1), (2, vI l2), (3, vI l3), (4, vI l4), (7, vI l7)]) e_X12_duelOf_12.2.2.1 (by decide) rfl ?_
  refine R_aload_n e_X12_duelOf_12.2.2.2.1 1 rfl ?_
  refine R_getA 12 0 1 e_X12_duelOf_12.2.2.2.2.1 f_X12_7 km_0 (fun _ _ => rfl) rm_0_0 (by decide) ?_
  refine R_iload e_X12_duelOf_12.2.2.2.2.2.1 0 rfl ?_
  refine R_callS (mc := 0) (ms := 0) (mc' := 0) (ms' := 0) (M' := M_X12_kiteRow) (d' := 0) (as := [vI p0]) (st := [vA G 1]) 1 e_X12_duelOf_12.2.2.2.2.2.2.1 (kCSof m_X12_kiteRow l_X12_265) (by decide) (by decide) rfl rfl (by show (1 : Nat) ≤ 8; decide) ?_
  refine Run.mono h (fun r42 s43 h => ?_)
  refine R_eqs (st2 := [vI r42, vA G 1]) rfl rfl ?_
  refine R_aload_n e_X12_duelOf_12.2.2.2.2.2.2.2.1 1 rfl ?_
  refine R_getA 12 32 16 e_X12_duelOf_12.2.2.2.2.2.2.2.2.1 f_X12_68 km_0 (fun _ _ => rfl) rm_0_32 (by decide) ?_
  refine R_iload e_X12_duelOf_12.2.2.2.2.2.2.2.2.2 5 rfl ?_
  obtain ⟨q44, h⟩ := h
  refine R_iald 5 e_X12_duelOf_13.1 kma_16 q44 ?_
  obtain ⟨q45, h⟩ := h
  refine R_iast 3598 WM_ok e_X12_duelOf_13.2.1 kma_1 q45 ?_
  refine R_aload_n e_X12_duelOf_13.2.2.1 1 rfl ?_
  refine R_getA 12 0 1 e_X12_duelOf_13.2.2.2.1 f_X12_7 km_0 (fun _ _ => rfl) rm_0_0 (by decide) ?_
  refine R_iload e_X12_duelOf_13.2.2.2.2.1 0 rfl ?_
  refine R_callS (mc := 0) (ms := 0) (mc' := 0) (ms' := 0) (M' := M_X12_kiteRow) (d' := 0) (as := [vI p0]) (st := [vA G 1]) 1 e_X12_duelOf_13.2.2.2.2.2.1 (kCSof m_X12_kiteRow l_X12_265) (by decide) (by decide) rfl rfl (by show (1 : Nat) ≤ 8; decide) ?_
  refine Run.mono h (fun r46 s47 h => ?_)
  refine R_eqs (st2 := [vI r46, vA G 1]) rfl rfl ?_
  refine R_iconst e_X12_duelOf_13.2.2.2.2.2.2.1 ?_
  refine R_iadd e_X12_duelOf_13.2.2.2.2.2.2.2.1 ?_
  refine R_aload_n e_X12_duelOf_13.2.2.2.2.2.2.2.2.1 1 rfl ?_
  refine R_getA 12 33 17 e_X12_duelOf_13.2.2.2.2.2.2.2.2.2 f_X12_71 km_0 (fun _ _ => rfl) rm_0_33 (by decide) ?_
  refine R_iload e_X12_duelOf_14.1 5 rfl ?_
  obtain ⟨q48, h⟩ := h
  refine R_iald 5 e_X12_duelOf_14.2.1 kma_17 q48 ?_
  obtain ⟨q49, h⟩ := h
  refine R_iast 3598 WM_ok e_X12_duelOf_14.2.2.1 kma_1 q49 ?_
  refine R_iload e_X12_duelOf_14.2.2.2.1 5 rfl ?_
  refine R_iconst e_X12_duelOf_14.2.2.2.2.1 ?_
  obtain ⟨q50, h⟩ := h
  refine R_irem e_X12_duelOf_14.2.2.2.2.2.1 q50 (by decide) ?_
  obtain ⟨q51, h⟩ := h
  refine R_if_ne 272 e_X12_duelOf_14.2.2.2.2.2.2.1 (by decide) q51  (fun q => ?_) (fun q => ?_)
  · replace h := h.1 q
    refine R_iload e_X12_duelOf_14.2.2.2.2.2.2.2.2.2 6 rfl ?_
    refine R_ineg e_X12_duelOf_15.1 ?_
    refine R_istore (ls2 := [(8, vI (-l7)), (5, vI p0), (0, vA G 0), (1, vI l1), (2, vI l2), (3, vI l3), (4, vI l4), (7, vI l7)]) e_X12_duelOf_15.2.1 (by decide) rfl ?_
    refine R_iload e_X12_duelOf_15.2.2.1 0 rfl ?_
    refine R_aload_n e_X12_duelOf_15.2.2.2.1 2 rfl ?_
    refine R_getA 12 31 15 e_X12_duelOf_15.2.2.2.2.1 f_X12_65 km_0 (fun _ _ => rfl) rm_0_31 (by decide) ?_
    refine R_iload e_X12_duelOf_15.2.2.2.2.2.1 6 rfl ?_
    obtain ⟨q52, h⟩ := h
    refine R_iald 5 e_X12_duelOf_15.2.2.2.2.2.2.1 kma_15 q52 ?_
    obtain ⟨q53, h⟩ := h
    obtain ⟨q54, h⟩ := h
    refine R_icmp_gt 292 e_X12_duelOf_15.2.2.2.2.2.2.2.1 (by decide) q53 q54 (fun q => ?_) (fun q => ?_)
    · replace h := h.1 q
      refine R_aload_n e_X12_duelOf_15.2.2.2.2.2.2.2.2.2 2 rfl ?_
      refine R_getA 12 31 15 e_X12_duelOf_16.1 f_X12_65 km_0 (fun _ _ => rfl) rm_0_31 (by decide) ?_
      refine R_iload e_X12_duelOf_16.2.1 6 rfl ?_
      refine R_iload e_X12_duelOf_16.2.2.1 0 rfl ?_
      obtain ⟨q55, h⟩ := h
      refine R_iast 5 WM_ok e_X12_duelOf_16.2.2.2.1 kma_15 q55 ?_
      refine R_iload e_X12_duelOf_16.2.2.2.2.1 6 rfl ?_
      obtain ⟨q56, h⟩ := h
      refine R_if_ne 316 e_X12_duelOf_16.2.2.2.2.2.1 (by decide) q56  (fun q => ?_) (fun q => ?_)
      · replace h := h.1 q
        refine R_goto 19 e_X12_duelOf_17.2.2 (by decide) ?_
        refine R_ls (ls2 := [(0, vA G 0), (1, vI l1), (2, vI l2), (3, vI l3), (4, vI l4)]) [2, 3, 4, 5, 6] rfl ?_
        exact h
      · replace h := h.2 q
        refine R_aload_n e_X12_duelOf_16.2.2.2.2.2.2.1 2 rfl ?_
        refine R_aload_n e_X12_duelOf_16.2.2.2.2.2.2.2.1 2 rfl ?_
        refine R_getA 12 30 14 e_X12_duelOf_16.2.2.2.2.2.2.2.2.1 f_X12_62 km_0 (fun _ _ => rfl) rm_0_30 (by decide) ?_
        refine R_iconst e_X12_duelOf_16.2.2.2.2.2.2.2.2.2 ?_
        refine R_iald 5 e_X12_duelOf_17.1 kma_14 (by decide) ?_
        refine R_putI 12 34 34 WM_ok e_X12_duelOf_17.2.1 f_X12_481 km_0 rfl rfl rfl ?_
        refine R_goto 19 e_X12_duelOf_17.2.2 (by decide) ?_
        refine R_ls (ls2 := [(0, vA G 0), (1, vI l1), (2, vI l2), (3, vI l3), (4, vI l4)]) [2, 3, 4, 5, 6] rfl ?_
        exact h
    · replace h := h.2 q
      refine R_goto 19 e_X12_duelOf_15.2.2.2.2.2.2.2.2.1 (by decide) ?_
      refine R_ls (ls2 := [(0, vA G 0), (1, vI l1), (2, vI l2), (3, vI l3), (4, vI l4)]) [2, 3, 4, 5, 6] rfl ?_
      exact h
  · replace h := h.2 q
    refine R_iload e_X12_duelOf_14.2.2.2.2.2.2.2.1 6 rfl ?_
    refine R_goto 275 e_X12_duelOf_14.2.2.2.2.2.2.2.2.1 (by decide) ?_
    refine R_istore (ls2 := [(8, vI l7), (5, vI p0), (0, vA G 0), (1, vI l1), (2, vI l2), (3, vI l3), (4, vI l4), (7, vI l7)]) e_X12_duelOf_15.2.1 (by decide) rfl ?_
    refine R_iload e_X12_duelOf_15.2.2.1 0 rfl ?_
    refine R_aload_n e_X12_duelOf_15.2.2.2.1 2 rfl ?_
    refine R_getA 12 31 15 e_X12_duelOf_15.2.2.2.2.1 f_X12_65 km_0 (fun _ _ => rfl) rm_0_31 (by decide) ?_
    refine R_iload e_X12_duelOf_15.2.2.2.2.2.1 6 rfl ?_
    obtain ⟨q57, h⟩ := h
    refine R_iald 5 e_X12_duelOf_15.2.2.2.2.2.2.1 kma_15 q57 ?_
    obtain ⟨q58, h⟩ := h
    obtain ⟨q59, h⟩ := h
    refine R_icmp_gt 292 e_X12_duelOf_15.2.2.2.2.2.2.2.1 (by decide) q58 q59 (fun q => ?_) (fun q => ?_)
    · replace h := h.1 q
      refine R_aload_n e_X12_duelOf_15.2.2.2.2.2.2.2.2.2 2 rfl ?_
      refine R_getA 12 31 15 e_X12_duelOf_16.1 f_X12_65 km_0 (fun _ _ => rfl) rm_0_31 (by decide) ?_
      refine R_iload e_X12_duelOf_16.2.1 6 rfl ?_
      refine R_iload e_X12_duelOf_16.2.2.1 0 rfl ?_
      obtain ⟨q60, h⟩ := h
      refine R_iast 5 WM_ok e_X12_duelOf_16.2.2.2.1 kma_15 q60 ?_
      refine R_iload e_X12_duelOf_16.2.2.2.2.1 6 rfl ?_
      obtain ⟨q61, h⟩ := h
      refine R_if_ne 316 e_X12_duelOf_16.2.2.2.2.2.1 (by decide) q61  (fun q => ?_) (fun q => ?_)
      · replace h := h.1 q
        refine R_goto 19 e_X12_duelOf_17.2.2 (by decide) ?_
        refine R_ls (ls2 := [(0, vA G 0), (1, vI l1), (2, vI l2), (3, vI l3), (4, vI l4)]) [2, 3, 4, 5, 6] rfl ?_
        exact h
      · replace h := h.2 q
        refine R_aload_n e_X12_duelOf_16.2.2.2.2.2.2.1 2 rfl ?_
        refine R_aload_n e_X12_duelOf_16.2.2.2.2.2.2.2.1 2 rfl ?_
        refine R_getA 12 30 14 e_X12_duelOf_16.2.2.2.2.2.2.2.2.1 f_X12_62 km_0 (fun _ _ => rfl) rm_0_30 (by decide) ?_
        refine R_iconst e_X12_duelOf_16.2.2.2.2.2.2.2.2.2 ?_
        refine R_iald 5 e_X12_duelOf_17.1 kma_14 (by decide) ?_
        refine R_putI 12 34 34 WM_ok e_X12_duelOf_17.2.1 f_X12_481 km_0 rfl rfl rfl ?_
        refine R_goto 19 e_X12_duelOf_17.2.2 (by decide) ?_
        refine R_ls (ls2 := [(0, vA G 0), (1, vI l1), (2, vI l2), (3, vI l3), (4, vI l4)]) [2, 3, 4, 5, 6] rfl ?_
        exact h
    · replace h := h.2 q
      refine R_goto 19 e_X12_duelOf_15.2.2.2.2.2.2.2.2.1 (by decide) ?_
      refine R_ls (ls2 := [(0, vA G 0), (1, vI l1), (2, vI l2), (3, vI l3), (4, vI l4)]) [2, 3, 4, 5, 6] rfl ?_
      exact h
/-! KiteLandModel.duelled(III)I -/
theorem e_X12_duelled_0 : decode cX12_duelled 0 = .ok (.aload_n 0, 1) ∧ decode cX12_duelled 1 = .ok (.sipush 3084, 3) ∧ decode cX12_duelled 4 = .ok (.invokevirtual 419, 3) ∧ decode cX12_duelled 7 = .ok (.aload_n 0, 1) ∧ decode cX12_duelled 8 = .ok (.iload_n 1, 1) ∧ decode cX12_duelled 9 = .ok (.iload_n 2, 1) ∧ decode cX12_duelled 10 = .ok (.iload_n 3, 1) ∧ decode cX12_duelled 11 = .ok (.invokevirtual 484, 3) ∧ decode cX12_duelled 14 = .ok (.istore 4, 2) ∧ decode cX12_duelled 16 = .ok (.aload_n 0, 1) := by decide +kernel
theorem e_X12_duelled_1 : decode cX12_duelled 17 = .ok (.sipush 3084, 3) ∧ decode cX12_duelled 20 = .ok (.invokevirtual 422, 3) ∧ decode cX12_duelled 23 = .ok (.iload 4, 2) ∧ decode cX12_duelled 25 = .ok (.ireturn, 1) := by decide +kernel
theorem S_X12_duelled {G : Kg} {σ : Kmem} {Q : Int → Kmem → Prop} {l1 l2 l3 : Int}  (h : Run G WM M_X12_keeps 0 0 0 [vA G 0, vI 3084] σ (fun r1 s2 => Run G WM M_X12_duelOf 8 0 0 [vA G 0, vI l1, vI l2, vI l3] s2 (fun r3 s4 => Run G WM M_X12_restores 0 0 0 [vA G 0, vI 3084] s4 (fun r5 s6 => Q r3 s6)))) : Run G WM M_X12_duelled 9 0 0 [vA G 0, vI l1, vI l2, vI l3] σ Q := by
  refine Run.of (by decide +kernel) (by show (4 : Nat) ≤ 5; decide) ?_
  show Ex G WM M_X12_duelled 9 0 0 0 [(0, vA G 0), (1, vI l1), (2, vI l2), (3, vI l3)] [] σ Q
  refine R_aload_n e_X12_duelled_0.1 0 rfl ?_
  refine R_sipush e_X12_duelled_0.2.1 (by decide) ?_
  refine R_callV (mc := 0) (ms := 0) (mc' := 0) (ms' := 0) (M' := M_X12_keeps) (d' := 0) (as := [vI 3084]) (st := []) 12 1 e_X12_duelled_0.2.2.1 (kCVof m_X12_keeps l_X12_419) rfl (by decide) km_0 (by decide) (by decide) rfl rfl (by show (0 : Nat) ≤ 8; decide) ?_
  refine Run.mono h (fun r1 s2 h => ?_)
  refine R_eqs (st2 := []) rfl rfl ?_
  refine R_aload_n e_X12_duelled_0.2.2.2.1 0 rfl ?_
  refine R_iload_n e_X12_duelled_0.2.2.2.2.1 1 rfl ?_
  refine R_iload_n e_X12_duelled_0.2.2.2.2.2.1 2 rfl ?_
  refine R_iload_n e_X12_duelled_0.2.2.2.2.2.2.1 3 rfl ?_
  refine R_callV (mc := 0) (ms := 0) (mc' := 0) (ms' := 0) (M' := M_X12_duelOf) (d' := 8) (as := [vI l1, vI l2, vI l3]) (st := []) 12 3 e_X12_duelled_0.2.2.2.2.2.2.2.1 (kCVof m_X12_duelOf l_X12_484) rfl (by decide) km_0 (by decide) (by decide) rfl rfl (by show (0 : Nat) ≤ 8; decide) ?_
  refine Run.mono h (fun r3 s4 h => ?_)
  refine R_eqs (st2 := [vI r3]) rfl rfl ?_
  refine R_istore (ls2 := [(4, vI r3), (0, vA G 0), (1, vI l1), (2, vI l2), (3, vI l3)]) e_X12_duelled_0.2.2.2.2.2.2.2.2.1 (by decide) rfl ?_
  refine R_aload_n e_X12_duelled_0.2.2.2.2.2.2.2.2.2 1 rfl ?_
  refine R_sipush e_X12_duelled_1.1 (by decide) ?_
  refine R_callV (mc := 0) (ms := 0) (mc' := 0) (ms' := 0) (M' := M_X12_restores) (d' := 0) (as := [vI 3084]) (st := []) 12 1 e_X12_duelled_1.2.1 (kCVof m_X12_restores l_X12_422) rfl (by decide) km_0 (by decide) (by decide) rfl rfl (by show (0 : Nat) ≤ 8; decide) ?_
  refine Run.mono h (fun r5 s6 h => ?_)
  refine R_eqs (st2 := []) rfl rfl ?_
  refine R_iload e_X12_duelled_1.2.2.1 0 rfl ?_
  exact R_ireturn e_X12_duelled_1.2.2.2 rfl h
/-! KiteLandModel.duel(III)I -/
theorem e_X12_duel_0 : decode cX12_duel 0 = .ok (.aload_n 0, 1) ∧ decode cX12_duel 1 = .ok (.iload_n 1, 1) ∧ decode cX12_duel 2 = .ok (.iload_n 2, 1) ∧ decode cX12_duel 3 = .ok (.invokevirtual 364, 3) ∧ decode cX12_duel 6 = .ok (.ifCond .eq 29, 3) ∧ decode cX12_duel 9 = .ok (.iload_n 3, 1) ∧ decode cX12_duel 10 = .ok (.i2l, 1) ∧ decode cX12_duel 11 = .ok (.lconst 0, 1) ∧ decode cX12_duel 12 = .ok (.ldc2_w 400, 3) ∧ decode cX12_duel 15 = .ok (.invokestatic 393, 3) := by decide +kernel
theorem e_X12_duel_1 : decode cX12_duel 18 = .ok (.ifCond .eq 17, 3) ∧ decode cX12_duel 21 = .ok (.aload_n 0, 1) ∧ decode cX12_duel 22 = .ok (.aload_n 0, 1) ∧ decode cX12_duel 23 = .ok (.iload_n 1, 1) ∧ decode cX12_duel 24 = .ok (.iload_n 2, 1) ∧ decode cX12_duel 25 = .ok (.iload_n 3, 1) ∧ decode cX12_duel 26 = .ok (.invokevirtual 487, 3) ∧ decode cX12_duel 29 = .ok (.invokevirtual 97, 3) ∧ decode cX12_duel 32 = .ok (.goto 8, 3) ∧ decode cX12_duel 35 = .ok (.aload_n 0, 1) := by decide +kernel
theorem e_X12_duel_2 : decode cX12_duel 36 = .ok (.iconst 1, 1) ∧ decode cX12_duel 37 = .ok (.invokevirtual 93, 3) ∧ decode cX12_duel 40 = .ok (.ireturn, 1) := by decide +kernel
theorem S_X12_duel {G : Kg} {σ : Kmem} {Q : Int → Kmem → Prop} {l1 l2 l3 : Int}  (h : Run G WM M_X12_areTwo 1 0 0 [vA G 0, vI l1, vI l2] σ (fun r1 s2 => (rI r1) ∧ ((r1 = 0 → Run G WM M_X12_refuse 0 0 0 [vA G 0, vI 1] s2 (fun r4 s5 => Q r4 s5)) ∧ (r1 ≠ 0 → (rI l3) ∧ Run G WM M_X12_isFrom 0 0 0 [vL l3, vL 0, vL 4] s2 (fun r7 s8 => (rI r7) ∧ ((r7 = 0 → Run G WM M_X12_refuse 0 0 0 [vA G 0, vI 1] s8 (fun r10 s11 => Q r10 s11)) ∧ (r7 ≠ 0 → Run G WM M_X12_duelled 9 0 0 [vA G 0, vI l1, vI l2, vI l3] s8 (fun r12 s13 => Run G WM M_X12_gives 0 0 0 [vA G 0, vI r12] s13 (fun r14 s15 => Q r14 s15))))))))) : Run G WM M_X12_duel 10 0 0 [vA G 0, vI l1, vI l2, vI l3] σ Q := by
  refine Run.of (by decide +kernel) (by show (4 : Nat) ≤ 4; decide) ?_
  show Ex G WM M_X12_duel 10 0 0 0 [(0, vA G 0), (1, vI l1), (2, vI l2), (3, vI l3)] [] σ Q
  refine R_aload_n e_X12_duel_0.1 0 rfl ?_
  refine R_iload_n e_X12_duel_0.2.1 1 rfl ?_
  refine R_iload_n e_X12_duel_0.2.2.1 2 rfl ?_
  refine R_callV (mc := 0) (ms := 0) (mc' := 0) (ms' := 0) (M' := M_X12_areTwo) (d' := 1) (as := [vI l1, vI l2]) (st := []) 12 2 e_X12_duel_0.2.2.2.1 (kCVof m_X12_areTwo l_X12_364) rfl (by decide) km_0 (by decide) (by decide) rfl rfl (by show (0 : Nat) ≤ 8; decide) ?_
  refine Run.mono h (fun r1 s2 h => ?_)
  refine R_eqs (st2 := [vI r1]) rfl rfl ?_
  obtain ⟨q3, h⟩ := h
  refine R_if_eq 35 e_X12_duel_0.2.2.2.2.1 (by decide) q3  (fun q => ?_) (fun q => ?_)
  · replace h := h.1 q
    refine R_aload_n e_X12_duel_1.2.2.2.2.2.2.2.2.2 0 rfl ?_
    refine R_iconst e_X12_duel_2.1 ?_
    refine R_callV (mc := 0) (ms := 0) (mc' := 0) (ms' := 0) (M' := M_X12_refuse) (d' := 0) (as := [vI 1]) (st := []) 12 1 e_X12_duel_2.2.1 (kCVof m_X12_refuse l_X12_93) rfl (by decide) km_0 (by decide) (by decide) rfl rfl (by show (0 : Nat) ≤ 8; decide) ?_
    refine Run.mono h (fun r4 s5 h => ?_)
    refine R_eqs (st2 := [vI r4]) rfl rfl ?_
    exact R_ireturn e_X12_duel_2.2.2 rfl h
  · replace h := h.2 q
    refine R_iload_n e_X12_duel_0.2.2.2.2.2.1 3 rfl ?_
    obtain ⟨q6, h⟩ := h
    refine R_i2l e_X12_duel_0.2.2.2.2.2.2.1 q6 ?_
    refine R_lconst 0 e_X12_duel_0.2.2.2.2.2.2.2.1 (by decide) ?_
    refine R_ldc2 (4) k_X12_400 e_X12_duel_0.2.2.2.2.2.2.2.2.1 ?_
    refine R_callS (mc := 0) (ms := 0) (mc' := 0) (ms' := 0) (M' := M_X12_isFrom) (d' := 0) (as := [vL l3, vL 0, vL 4]) (st := []) 3 e_X12_duel_0.2.2.2.2.2.2.2.2.2 (kCSof m_X12_isFrom l_X12_393) (by decide) (by decide) rfl rfl (by show (0 : Nat) ≤ 8; decide) ?_
    refine Run.mono h (fun r7 s8 h => ?_)
    refine R_eqs (st2 := [vI r7]) rfl rfl ?_
    obtain ⟨q9, h⟩ := h
    refine R_if_eq 35 e_X12_duel_1.1 (by decide) q9  (fun q => ?_) (fun q => ?_)
    · replace h := h.1 q
      refine R_aload_n e_X12_duel_1.2.2.2.2.2.2.2.2.2 0 rfl ?_
      refine R_iconst e_X12_duel_2.1 ?_
      refine R_callV (mc := 0) (ms := 0) (mc' := 0) (ms' := 0) (M' := M_X12_refuse) (d' := 0) (as := [vI 1]) (st := []) 12 1 e_X12_duel_2.2.1 (kCVof m_X12_refuse l_X12_93) rfl (by decide) km_0 (by decide) (by decide) rfl rfl (by show (0 : Nat) ≤ 8; decide) ?_
      refine Run.mono h (fun r10 s11 h => ?_)
      refine R_eqs (st2 := [vI r10]) rfl rfl ?_
      exact R_ireturn e_X12_duel_2.2.2 rfl h
    · replace h := h.2 q
      refine R_aload_n e_X12_duel_1.2.1 0 rfl ?_
      refine R_aload_n e_X12_duel_1.2.2.1 0 rfl ?_
      refine R_iload_n e_X12_duel_1.2.2.2.1 1 rfl ?_
      refine R_iload_n e_X12_duel_1.2.2.2.2.1 2 rfl ?_
      refine R_iload_n e_X12_duel_1.2.2.2.2.2.1 3 rfl ?_
      refine R_callV (mc := 0) (ms := 0) (mc' := 0) (ms' := 0) (M' := M_X12_duelled) (d' := 9) (as := [vI l1, vI l2, vI l3]) (st := [vA G 0]) 12 3 e_X12_duel_1.2.2.2.2.2.2.1 (kCVof m_X12_duelled l_X12_487) rfl (by decide) km_0 (by decide) (by decide) rfl rfl (by show (1 : Nat) ≤ 8; decide) ?_
      refine Run.mono h (fun r12 s13 h => ?_)
      refine R_eqs (st2 := [vI r12, vA G 0]) rfl rfl ?_
      refine R_callV (mc := 0) (ms := 0) (mc' := 0) (ms' := 0) (M' := M_X12_gives) (d' := 0) (as := [vI r12]) (st := []) 12 1 e_X12_duel_1.2.2.2.2.2.2.2.1 (kCVof m_X12_gives l_X12_97) rfl (by decide) km_0 (by decide) (by decide) rfl rfl (by show (0 : Nat) ≤ 8; decide) ?_
      refine Run.mono h (fun r14 s15 h => ?_)
      refine R_eqs (st2 := [vI r14]) rfl rfl ?_
      refine R_goto 40 e_X12_duel_1.2.2.2.2.2.2.2.2.1 (by decide) ?_
      exact R_ireturn e_X12_duel_2.2.2 rfl h
/-! KiteLandModel.duelStep(III)I -/
theorem e_X12_duelStep_0 : decode cX12_duelStep 0 = .ok (.aload_n 0, 1) ∧ decode cX12_duelStep 1 = .ok (.iload_n 1, 1) ∧ decode cX12_duelStep 2 = .ok (.iload_n 2, 1) ∧ decode cX12_duelStep 3 = .ok (.invokevirtual 364, 3) ∧ decode cX12_duelStep 6 = .ok (.ifCond .eq 15, 3) ∧ decode cX12_duelStep 9 = .ok (.iload_n 3, 1) ∧ decode cX12_duelStep 10 = .ok (.i2l, 1) ∧ decode cX12_duelStep 11 = .ok (.lconst 1, 1) ∧ decode cX12_duelStep 12 = .ok (.ldc2_w 400, 3) ∧ decode cX12_duelStep 15 = .ok (.invokestatic 393, 3) := by decide +kernel
theorem e_X12_duelStep_1 : decode cX12_duelStep 18 = .ok (.ifCond .ne 9, 3) ∧ decode cX12_duelStep 21 = .ok (.aload_n 0, 1) ∧ decode cX12_duelStep 22 = .ok (.iconst 1, 1) ∧ decode cX12_duelStep 23 = .ok (.invokevirtual 93, 3) ∧ decode cX12_duelStep 26 = .ok (.ireturn, 1) ∧ decode cX12_duelStep 27 = .ok (.aload_n 0, 1) ∧ decode cX12_duelStep 28 = .ok (.iload_n 1, 1) ∧ decode cX12_duelStep 29 = .ok (.iload_n 2, 1) ∧ decode cX12_duelStep 30 = .ok (.iload_n 3, 1) ∧ decode cX12_duelStep 31 = .ok (.invokevirtual 487, 3) := by decide +kernel
theorem e_X12_duelStep_2 : decode cX12_duelStep 34 = .ok (.pop, 1) ∧ decode cX12_duelStep 35 = .ok (.aload_n 0, 1) ∧ decode cX12_duelStep 36 = .ok (.aload_n 0, 1) ∧ decode cX12_duelStep 37 = .ok (.getfield 481, 3) ∧ decode cX12_duelStep 40 = .ok (.invokevirtual 97, 3) ∧ decode cX12_duelStep 43 = .ok (.ireturn, 1) := by decide +kernel
theorem S_X12_duelStep {G : Kg} {σ : Kmem} {Q : Int → Kmem → Prop} {l1 l2 l3 : Int}  (h : Run G WM M_X12_areTwo 1 0 0 [vA G 0, vI l1, vI l2] σ (fun r1 s2 => (rI r1) ∧ ((r1 = 0 → Run G WM M_X12_refuse 0 0 0 [vA G 0, vI 1] s2 (fun r4 s5 => Q r4 s5)) ∧ (r1 ≠ 0 → (rI l3) ∧ Run G WM M_X12_isFrom 0 0 0 [vL l3, vL 1, vL 4] s2 (fun r7 s8 => (rI r7) ∧ ((r7 ≠ 0 → Run G WM M_X12_duelled 9 0 0 [vA G 0, vI l1, vI l2, vI l3] s8 (fun r10 s11 => Run G WM M_X12_gives 0 0 0 [vA G 0, vI (s11 0 34)] s11 (fun r12 s13 => Q r12 s13))) ∧ (r7 = 0 → Run G WM M_X12_refuse 0 0 0 [vA G 0, vI 1] s8 (fun r14 s15 => Q r14 s15)))))))) : Run G WM M_X12_duelStep 10 0 0 [vA G 0, vI l1, vI l2, vI l3] σ Q := by
  refine Run.of (by decide +kernel) (by show (4 : Nat) ≤ 4; decide) ?_
  show Ex G WM M_X12_duelStep 10 0 0 0 [(0, vA G 0), (1, vI l1), (2, vI l2), (3, vI l3)] [] σ Q
  refine R_aload_n e_X12_duelStep_0.1 0 rfl ?_
  refine R_iload_n e_X12_duelStep_0.2.1 1 rfl ?_
  refine R_iload_n e_X12_duelStep_0.2.2.1 2 rfl ?_
  refine R_callV (mc := 0) (ms := 0) (mc' := 0) (ms' := 0) (M' := M_X12_areTwo) (d' := 1) (as := [vI l1, vI l2]) (st := []) 12 2 e_X12_duelStep_0.2.2.2.1 (kCVof m_X12_areTwo l_X12_364) rfl (by decide) km_0 (by decide) (by decide) rfl rfl (by show (0 : Nat) ≤ 8; decide) ?_
  refine Run.mono h (fun r1 s2 h => ?_)
  refine R_eqs (st2 := [vI r1]) rfl rfl ?_
  obtain ⟨q3, h⟩ := h
  refine R_if_eq 21 e_X12_duelStep_0.2.2.2.2.1 (by decide) q3  (fun q => ?_) (fun q => ?_)
  · replace h := h.1 q
    refine R_aload_n e_X12_duelStep_1.2.1 0 rfl ?_
    refine R_iconst e_X12_duelStep_1.2.2.1 ?_
    refine R_callV (mc := 0) (ms := 0) (mc' := 0) (ms' := 0) (M' := M_X12_refuse) (d' := 0) (as := [vI 1]) (st := []) 12 1 e_X12_duelStep_1.2.2.2.1 (kCVof m_X12_refuse l_X12_93) rfl (by decide) km_0 (by decide) (by decide) rfl rfl (by show (0 : Nat) ≤ 8; decide) ?_
    refine Run.mono h (fun r4 s5 h => ?_)
    refine R_eqs (st2 := [vI r4]) rfl rfl ?_
    exact R_ireturn e_X12_duelStep_1.2.2.2.2.1 rfl h
  · replace h := h.2 q
    refine R_iload_n e_X12_duelStep_0.2.2.2.2.2.1 3 rfl ?_
    obtain ⟨q6, h⟩ := h
    refine R_i2l e_X12_duelStep_0.2.2.2.2.2.2.1 q6 ?_
    refine R_lconst 1 e_X12_duelStep_0.2.2.2.2.2.2.2.1 (by decide) ?_
    refine R_ldc2 (4) k_X12_400 e_X12_duelStep_0.2.2.2.2.2.2.2.2.1 ?_
    refine R_callS (mc := 0) (ms := 0) (mc' := 0) (ms' := 0) (M' := M_X12_isFrom) (d' := 0) (as := [vL l3, vL 1, vL 4]) (st := []) 3 e_X12_duelStep_0.2.2.2.2.2.2.2.2.2 (kCSof m_X12_isFrom l_X12_393) (by decide) (by decide) rfl rfl (by show (0 : Nat) ≤ 8; decide) ?_
    refine Run.mono h (fun r7 s8 h => ?_)
    refine R_eqs (st2 := [vI r7]) rfl rfl ?_
    obtain ⟨q9, h⟩ := h
    refine R_if_ne 27 e_X12_duelStep_1.1 (by decide) q9  (fun q => ?_) (fun q => ?_)
    · replace h := h.1 q
      refine R_aload_n e_X12_duelStep_1.2.2.2.2.2.1 0 rfl ?_
      refine R_iload_n e_X12_duelStep_1.2.2.2.2.2.2.1 1 rfl ?_
      refine R_iload_n e_X12_duelStep_1.2.2.2.2.2.2.2.1 2 rfl ?_
      refine R_iload_n e_X12_duelStep_1.2.2.2.2.2.2.2.2.1 3 rfl ?_
      refine R_callV (mc := 0) (ms := 0) (mc' := 0) (ms' := 0) (M' := M_X12_duelled) (d' := 9) (as := [vI l1, vI l2, vI l3]) (st := []) 12 3 e_X12_duelStep_1.2.2.2.2.2.2.2.2.2 (kCVof m_X12_duelled l_X12_487) rfl (by decide) km_0 (by decide) (by decide) rfl rfl (by show (0 : Nat) ≤ 8; decide) ?_
      refine Run.mono h (fun r10 s11 h => ?_)
      refine R_eqs (st2 := [vI r10]) rfl rfl ?_
      refine R_pop e_X12_duelStep_2.1 rfl ?_
      refine R_aload_n e_X12_duelStep_2.2.1 0 rfl ?_
      refine R_aload_n e_X12_duelStep_2.2.2.1 0 rfl ?_
      refine R_getI 12 34 34 e_X12_duelStep_2.2.2.2.1 f_X12_481 km_0 (fun _ _ => rfl) rfl ?_
      refine R_callV (mc := 0) (ms := 0) (mc' := 0) (ms' := 0) (M' := M_X12_gives) (d' := 0) (as := [vI (s11 0 34)]) (st := []) 12 1 e_X12_duelStep_2.2.2.2.2.1 (kCVof m_X12_gives l_X12_97) rfl (by decide) km_0 (by decide) (by decide) rfl rfl (by show (0 : Nat) ≤ 8; decide) ?_
      refine Run.mono h (fun r12 s13 h => ?_)
      refine R_eqs (st2 := [vI r12]) rfl rfl ?_
      exact R_ireturn e_X12_duelStep_2.2.2.2.2.2 rfl h
    · replace h := h.2 q
      refine R_aload_n e_X12_duelStep_1.2.1 0 rfl ?_
      refine R_iconst e_X12_duelStep_1.2.2.1 ?_
      refine R_callV (mc := 0) (ms := 0) (mc' := 0) (ms' := 0) (M' := M_X12_refuse) (d' := 0) (as := [vI 1]) (st := []) 12 1 e_X12_duelStep_1.2.2.2.1 (kCVof m_X12_refuse l_X12_93) rfl (by decide) km_0 (by decide) (by decide) rfl rfl (by show (0 : Nat) ≤ 8; decide) ?_
      refine Run.mono h (fun r14 s15 h => ?_)
      refine R_eqs (st2 := [vI r14]) rfl rfl ?_
      exact R_ireturn e_X12_duelStep_1.2.2.2.2.1 rfl h
/-! KiteLandModel.lostBy(I)I -/
theorem e_X12_lostBy_0 : decode cX12_lostBy 0 = .ok (.iconst 0, 1) ∧ decode cX12_lostBy 1 = .ok (.istore_n 2, 1) ∧ decode cX12_lostBy 2 = .ok (.iconst 0, 1) ∧ decode cX12_lostBy 3 = .ok (.istore_n 3, 1) ∧ decode cX12_lostBy 4 = .ok (.iload_n 3, 1) ∧ decode cX12_lostBy 5 = .ok (.aload_n 0, 1) ∧ decode cX12_lostBy 6 = .ok (.getfield 7, 3) ∧ decode cX12_lostBy 9 = .ok (.iconst 0, 1) ∧ decode cX12_lostBy 10 = .ok (.iaload, 1) ∧ decode cX12_lostBy 11 = .ok (.if_icmp .ge 76, 3) := by decide +kernel
theorem e_X12_lostBy_1 : decode cX12_lostBy 14 = .ok (.iconst 0, 1) ∧ decode cX12_lostBy 15 = .ok (.istore 4, 2) ∧ decode cX12_lostBy 17 = .ok (.iload 4, 2) ∧ decode cX12_lostBy 19 = .ok (.aload_n 0, 1) ∧ decode cX12_lostBy 20 = .ok (.getfield 7, 3) ∧ decode cX12_lostBy 23 = .ok (.iconst 1, 1) ∧ decode cX12_lostBy 24 = .ok (.iaload, 1) ∧ decode cX12_lostBy 25 = .ok (.if_icmp .ge 56, 3) ∧ decode cX12_lostBy 28 = .ok (.aload_n 0, 1) ∧ decode cX12_lostBy 29 = .ok (.iload_n 3, 1) := by decide +kernel
theorem e_X12_lostBy_2 : decode cX12_lostBy 30 = .ok (.iload 4, 2) ∧ decode cX12_lostBy 32 = .ok (.aload_n 0, 1) ∧ decode cX12_lostBy 33 = .ok (.invokevirtual 325, 3) ∧ decode cX12_lostBy 36 = .ok (.invokevirtual 305, 3) ∧ decode cX12_lostBy 39 = .ok (.istore 5, 2) ∧ decode cX12_lostBy 41 = .ok (.iload_n 2, 1) ∧ decode cX12_lostBy 42 = .ok (.aload_n 0, 1) ∧ decode cX12_lostBy 43 = .ok (.iload 5, 2) ∧ decode cX12_lostBy 45 = .ok (.invokevirtual 309, 3) ∧ decode cX12_lostBy 48 = .ok (.iconst (-1), 1) := by decide +kernel
theorem e_X12_lostBy_3 : decode cX12_lostBy 49 = .ok (.if_icmp .eq 23, 3) ∧ decode cX12_lostBy 52 = .ok (.aload_n 0, 1) ∧ decode cX12_lostBy 53 = .ok (.iload 5, 2) ∧ decode cX12_lostBy 55 = .ok (.iconst 1, 1) ∧ decode cX12_lostBy 56 = .ok (.iload_n 1, 1) ∧ decode cX12_lostBy 57 = .ok (.ishl, 1) ∧ decode cX12_lostBy 58 = .ok (.iconst (-1), 1) ∧ decode cX12_lostBy 59 = .ok (.ixor, 1) ∧ decode cX12_lostBy 60 = .ok (.iand, 1) ∧ decode cX12_lostBy 61 = .ok (.invokevirtual 309, 3) := by decide +kernel
theorem e_X12_lostBy_4 : decode cX12_lostBy 64 = .ok (.iconst (-1), 1) ∧ decode cX12_lostBy 65 = .ok (.if_icmp .ne 7, 3) ∧ decode cX12_lostBy 68 = .ok (.iconst 1, 1) ∧ decode cX12_lostBy 69 = .ok (.goto 4, 3) ∧ decode cX12_lostBy 72 = .ok (.iconst 0, 1) ∧ decode cX12_lostBy 73 = .ok (.iadd, 1) ∧ decode cX12_lostBy 74 = .ok (.istore_n 2, 1) ∧ decode cX12_lostBy 75 = .ok (.iinc 4 1, 3) ∧ decode cX12_lostBy 78 = .ok (.goto (-61), 3) ∧ decode cX12_lostBy 81 = .ok (.iinc 3 1, 3) := by decide +kernel
theorem e_X12_lostBy_5 : decode cX12_lostBy 84 = .ok (.goto (-80), 3) ∧ decode cX12_lostBy 87 = .ok (.iload_n 2, 1) ∧ decode cX12_lostBy 88 = .ok (.ireturn, 1) := by decide +kernel
abbrev E_X12_lostBy_4 (G : Kg) (l1 l2 l3 : Int) (σ : Kmem) (Q : Int → Kmem → Prop) : Prop := Ex G WM M_X12_lostBy 6 0 0 4 [(0, vA G 0), (1, vI l1), (2, vI l2), (3, vI l3)] [] σ Q
abbrev E_X12_lostBy_17 (G : Kg) (l1 l2 l3 l4 : Int) (σ : Kmem) (Q : Int → Kmem → Prop) : Prop := Ex G WM M_X12_lostBy 6 0 0 17 [(0, vA G 0), (1, vI l1), (2, vI l2), (3, vI l3), (4, vI l4)] [] σ Q
theorem S_X12_lostBy {G : Kg} {σ : Kmem} {Q : Int → Kmem → Prop} {l1 : Int}  (h : E_X12_lostBy_4 G l1 0 0 σ Q) : Run G WM M_X12_lostBy 6 0 0 [vA G 0, vI l1] σ Q := by
  refine Run.of (by decide +kernel) (by show (2 : Nat) ≤ 6; decide) ?_
  show Ex G WM M_X12_lostBy 6 0 0 0 [(0, vA G 0), (1, vI l1)] [] σ Q
  refine R_iconst e_X12_lostBy_0.1 ?_
  refine R_istore_n (ls2 := [(2, vI 0), (0, vA G 0), (1, vI l1)]) e_X12_lostBy_0.2.1 (by decide) rfl ?_
  refine R_iconst e_X12_lostBy_0.2.2.1 ?_
  refine R_istore_n (ls2 := [(3, vI 0), (2, vI 0), (0, vA G 0), (1, vI l1)]) e_X12_lostBy_0.2.2.2.1 (by decide) rfl ?_
  refine R_ls (ls2 := [(0, vA G 0), (1, vI l1), (2, vI 0), (3, vI 0)]) [2, 3, 1, 0] rfl ?_
  exact h
theorem S_X12_lostBy_4 {G : Kg} {σ : Kmem} {Q : Int → Kmem → Prop} {l1 l2 l3 : Int}  (h : (rI l3) ∧ (rI (σ 1 0)) ∧ ((σ 1 0 ≤ l3 → Q l2 σ) ∧ (l3 < σ 1 0 → E_X12_lostBy_17 G l1 l2 l3 0 σ Q))) : E_X12_lostBy_4 G l1 l2 l3 σ Q := by
  refine R_iload_n e_X12_lostBy_0.2.2.2.2.1 3 rfl ?_
  refine R_aload_n e_X12_lostBy_0.2.2.2.2.2.1 0 rfl ?_
  refine R_getA 12 0 1 e_X12_lostBy_0.2.2.2.2.2.2.1 f_X12_7 km_0 (fun _ _ => rfl) rm_0_0 (by decide) ?_
  refine R_iconst e_X12_lostBy_0.2.2.2.2.2.2.2.1 ?_
  refine R_iald 3598 e_X12_lostBy_0.2.2.2.2.2.2.2.2.1 kma_1 (by decide) ?_
  obtain ⟨q1, h⟩ := h
  obtain ⟨q2, h⟩ := h
  refine R_icmp_ge 87 e_X12_lostBy_0.2.2.2.2.2.2.2.2.2 (by decide) q1 q2 (fun q => ?_) (fun q => ?_)
  · replace h := h.1 q
    refine R_iload_n e_X12_lostBy_5.2.1 2 rfl ?_
    exact R_ireturn e_X12_lostBy_5.2.2 rfl h
  · replace h := h.2 q
    refine R_iconst e_X12_lostBy_1.1 ?_
    refine R_istore (ls2 := [(4, vI 0), (0, vA G 0), (1, vI l1), (2, vI l2), (3, vI l3)]) e_X12_lostBy_1.2.1 (by decide) rfl ?_
    refine R_ls (ls2 := [(0, vA G 0), (1, vI l1), (2, vI l2), (3, vI l3), (4, vI 0)]) [1, 2, 3, 4, 0] rfl ?_
    exact h
theorem S_X12_lostBy_17 {G : Kg} {σ : Kmem} {Q : Int → Kmem → Prop} {l1 l2 l3 l4 : Int}  (h : (rI l4) ∧ (rI (σ 1 1)) ∧ ((σ 1 1 ≤ l4 → E_X12_lostBy_4 G l1 l2 (l3 + 1) σ Q) ∧ (l4 < σ 1 1 → Run G WM M_X12_now 0 0 0 [vA G 0] σ (fun r5 s6 => Run G WM M_X12_shadersOf 5 0 0 [vA G 0, vI l3, vI l4, vI r5] s6 (fun r7 s8 => Run G WM M_X12_ownerBy 2 0 0 [vA G 0, vI r7] s8 (fun r9 s10 => (rI r9) ∧ ((r9 = -1 → E_X12_lostBy_17 G l1 (l2 + 0) l3 (l4 + 1) s10 Q) ∧ (r9 ≠ -1 → Run G WM M_X12_ownerBy 2 0 0 [vA G 0, vI (kand r7 (kxor (kshl 1 l1) (-1)))] s10 (fun r12 s13 => (rI r12) ∧ ((r12 ≠ -1 → E_X12_lostBy_17 G l1 (l2 + 0) l3 (l4 + 1) s13 Q) ∧ (r12 = -1 → E_X12_lostBy_17 G l1 (l2 + 1) l3 (l4 + 1) s13 Q))))))))))) : E_X12_lostBy_17 G l1 l2 l3 l4 σ Q := by
  refine R_iload e_X12_lostBy_1.2.2.1 4 rfl ?_
  refine R_aload_n e_X12_lostBy_1.2.2.2.1 0 rfl ?_
  refine R_getA 12 0 1 e_X12_lostBy_1.2.2.2.2.1 f_X12_7 km_0 (fun _ _ => rfl) rm_0_0 (by decide) ?_
  refine R_iconst e_X12_lostBy_1.2.2.2.2.2.1 ?_
  refine R_iald 3598 e_X12_lostBy_1.2.2.2.2.2.2.1 kma_1 (by decide) ?_
  obtain ⟨q3, h⟩ := h
  obtain ⟨q4, h⟩ := h
  refine R_icmp_ge 81 e_X12_lostBy_1.2.2.2.2.2.2.2.1 (by decide) q3 q4 (fun q => ?_) (fun q => ?_)
  · replace h := h.1 q
    refine R_iinc (ls2 := [(3, vI (l3 + 1)), (0, vA G 0), (1, vI l1), (2, vI l2), (4, vI l4)]) e_X12_lostBy_4.2.2.2.2.2.2.2.2.2 3 rfl (by decide) rfl ?_
    refine R_goto 4 e_X12_lostBy_5.1 (by decide) ?_
    refine R_ls (ls2 := [(0, vA G 0), (1, vI l1), (2, vI l2), (3, vI (l3 + 1))]) [1, 2, 3, 0] rfl ?_
    exact h
  · replace h := h.2 q
    refine R_aload_n e_X12_lostBy_1.2.2.2.2.2.2.2.2.1 0 rfl ?_
    refine R_iload_n e_X12_lostBy_1.2.2.2.2.2.2.2.2.2 3 rfl ?_
    refine R_iload e_X12_lostBy_2.1 4 rfl ?_
    refine R_aload_n e_X12_lostBy_2.2.1 0 rfl ?_
    refine R_callV (mc := 0) (ms := 0) (mc' := 0) (ms' := 0) (M' := M_X12_now) (d' := 0) (as := []) (st := [vI l4, vI l3, vA G 0]) 12 0 e_X12_lostBy_2.2.2.1 (kCVof m_X12_now l_X12_325) rfl (by decide) km_0 (by decide) (by decide) rfl rfl (by show (3 : Nat) ≤ 8; decide) ?_
    refine Run.mono h (fun r5 s6 h => ?_)
    refine R_eqs (st2 := [vI r5, vI l4, vI l3, vA G 0]) rfl rfl ?_
    refine R_callV (mc := 0) (ms := 0) (mc' := 0) (ms' := 0) (M' := M_X12_shadersOf) (d' := 5) (as := [vI l3, vI l4, vI r5]) (st := []) 12 3 e_X12_lostBy_2.2.2.2.1 (kCVof m_X12_shadersOf l_X12_305) rfl (by decide) km_0 (by decide) (by decide) rfl rfl (by show (0 : Nat) ≤ 8; decide) ?_
    refine Run.mono h (fun r7 s8 h => ?_)
    refine R_eqs (st2 := [vI r7]) rfl rfl ?_
    refine R_istore (ls2 := [(5, vI r7), (0, vA G 0), (1, vI l1), (2, vI l2), (3, vI l3), (4, vI l4)]) e_X12_lostBy_2.2.2.2.2.1 (by decide) rfl ?_
    refine R_iload_n e_X12_lostBy_2.2.2.2.2.2.1 3 rfl ?_
    refine R_aload_n e_X12_lostBy_2.2.2.2.2.2.2.1 1 rfl ?_
    refine R_iload e_X12_lostBy_2.2.2.2.2.2.2.2.1 0 rfl ?_
    refine R_callV (mc := 0) (ms := 0) (mc' := 0) (ms' := 0) (M' := M_X12_ownerBy) (d' := 2) (as := [vI r7]) (st := [vI l2]) 12 1 e_X12_lostBy_2.2.2.2.2.2.2.2.2.1 (kCVof m_X12_ownerBy l_X12_309) rfl (by decide) km_0 (by decide) (by decide) rfl rfl (by show (1 : Nat) ≤ 8; decide) ?_
    refine Run.mono h (fun r9 s10 h => ?_)
    refine R_eqs (st2 := [vI r9, vI l2]) rfl rfl ?_
    refine R_iconst e_X12_lostBy_2.2.2.2.2.2.2.2.2.2 ?_
    obtain ⟨q11, h⟩ := h
    refine R_icmp_eq 72 e_X12_lostBy_3.1 (by decide) q11 (by decide) (fun q => ?_) (fun q => ?_)
    · replace h := h.1 q
      refine R_iconst e_X12_lostBy_4.2.2.2.2.1 ?_
      refine R_iadd e_X12_lostBy_4.2.2.2.2.2.1 ?_
      refine R_istore_n (ls2 := [(2, vI (l2 + 0)), (5, vI r7), (0, vA G 0), (1, vI l1), (3, vI l3), (4, vI l4)]) e_X12_lostBy_4.2.2.2.2.2.2.1 (by decide) rfl ?_
      refine R_iinc (ls2 := [(4, vI (l4 + 1)), (2, vI (l2 + 0)), (5, vI r7), (0, vA G 0), (1, vI l1), (3, vI l3)]) e_X12_lostBy_4.2.2.2.2.2.2.2.1 5 rfl (by decide) rfl ?_
      refine R_goto 17 e_X12_lostBy_4.2.2.2.2.2.2.2.2.1 (by decide) ?_
      refine R_ls (ls2 := [(0, vA G 0), (1, vI l1), (2, vI (l2 + 0)), (3, vI l3), (4, vI (l4 + 1))]) [3, 4, 1, 5, 0] rfl ?_
      exact h
    · replace h := h.2 q
      refine R_aload_n e_X12_lostBy_3.2.1 1 rfl ?_
      refine R_iload e_X12_lostBy_3.2.2.1 0 rfl ?_
      refine R_iconst e_X12_lostBy_3.2.2.2.1 ?_
      refine R_iload_n e_X12_lostBy_3.2.2.2.2.1 2 rfl ?_
      refine R_ishl e_X12_lostBy_3.2.2.2.2.2.1 ?_
      refine R_iconst e_X12_lostBy_3.2.2.2.2.2.2.1 ?_
      refine R_ixor e_X12_lostBy_3.2.2.2.2.2.2.2.1 ?_
      refine R_iand e_X12_lostBy_3.2.2.2.2.2.2.2.2.1 ?_
      refine R_callV (mc := 0) (ms := 0) (mc' := 0) (ms' := 0) (M' := M_X12_ownerBy) (d' := 2) (as := [vI (kand r7 (kxor (kshl 1 l1) (-1)))]) (st := [vI l2]) 12 1 e_X12_lostBy_3.2.2.2.2.2.2.2.2.2 (kCVof m_X12_ownerBy l_X12_309) rfl (by decide) km_0 (by decide) (by decide) rfl rfl (by show (1 : Nat) ≤ 8; decide) ?_
      refine Run.mono h (fun r12 s13 h => ?_)
      refine R_eqs (st2 := [vI r12, vI l2]) rfl rfl ?_
      refine R_iconst e_X12_lostBy_4.1 ?_
      obtain ⟨q14, h⟩ := h
      refine R_icmp_ne 72 e_X12_lostBy_4.2.1 (by decide) q14 (by decide) (fun q => ?_) (fun q => ?_)
      · replace h := h.1 q
        refine R_iconst e_X12_lostBy_4.2.2.2.2.1 ?_
        refine R_iadd e_X12_lostBy_4.2.2.2.2.2.1 ?_
        refine R_istore_n (ls2 := [(2, vI (l2 + 0)), (5, vI r7), (0, vA G 0), (1, vI l1), (3, vI l3), (4, vI l4)]) e_X12_lostBy_4.2.2.2.2.2.2.1 (by decide) rfl ?_
        refine R_iinc (ls2 := [(4, vI (l4 + 1)), (2, vI (l2 + 0)), (5, vI r7), (0, vA G 0), (1, vI l1), (3, vI l3)]) e_X12_lostBy_4.2.2.2.2.2.2.2.1 5 rfl (by decide) rfl ?_
        refine R_goto 17 e_X12_lostBy_4.2.2.2.2.2.2.2.2.1 (by decide) ?_
        refine R_ls (ls2 := [(0, vA G 0), (1, vI l1), (2, vI (l2 + 0)), (3, vI l3), (4, vI (l4 + 1))]) [3, 4, 1, 5, 0] rfl ?_
        exact h
      · replace h := h.2 q
        refine R_iconst e_X12_lostBy_4.2.2.1 ?_
        refine R_goto 73 e_X12_lostBy_4.2.2.2.1 (by decide) ?_
        refine R_iadd e_X12_lostBy_4.2.2.2.2.2.1 ?_
        refine R_istore_n (ls2 := [(2, vI (l2 + 1)), (5, vI r7), (0, vA G 0), (1, vI l1), (3, vI l3), (4, vI l4)]) e_X12_lostBy_4.2.2.2.2.2.2.1 (by decide) rfl ?_
        refine R_iinc (ls2 := [(4, vI (l4 + 1)), (2, vI (l2 + 1)), (5, vI r7), (0, vA G 0), (1, vI l1), (3, vI l3)]) e_X12_lostBy_4.2.2.2.2.2.2.2.1 5 rfl (by decide) rfl ?_
        refine R_goto 17 e_X12_lostBy_4.2.2.2.2.2.2.2.2.1 (by decide) ?_
        refine R_ls (ls2 := [(0, vA G 0), (1, vI l1), (2, vI (l2 + 1)), (3, vI l3), (4, vI (l4 + 1))]) [3, 4, 1, 5, 0] rfl ?_
        exact h
/-! KiteLandModel.needed()I -/
theorem e_X12_needed_0 : decode cX12_needed 0 = .ok (.iconst (-1), 1) ∧ decode cX12_needed 1 = .ok (.istore_n 1, 1) ∧ decode cX12_needed 2 = .ok (.iconst 0, 1) ∧ decode cX12_needed 3 = .ok (.istore_n 2, 1) ∧ decode cX12_needed 4 = .ok (.iload_n 2, 1) ∧ decode cX12_needed 5 = .ok (.aload_n 0, 1) ∧ decode cX12_needed 6 = .ok (.getfield 7, 3) ∧ decode cX12_needed 9 = .ok (.iconst 2, 1) ∧ decode cX12_needed 10 = .ok (.iaload, 1) ∧ decode cX12_needed 11 = .ok (.if_icmp .ge 41, 3) := by decide +kernel
theorem e_X12_needed_1 : decode cX12_needed 14 = .ok (.aload_n 0, 1) ∧ decode cX12_needed 15 = .ok (.iload_n 2, 1) ∧ decode cX12_needed 16 = .ok (.aload_n 0, 1) ∧ decode cX12_needed 17 = .ok (.invokevirtual 325, 3) ∧ decode cX12_needed 20 = .ok (.invokevirtual 319, 3) ∧ decode cX12_needed 23 = .ok (.ifCond .eq 23, 3) ∧ decode cX12_needed 26 = .ok (.iload_n 1, 1) ∧ decode cX12_needed 27 = .ok (.iconst (-1), 1) ∧ decode cX12_needed 28 = .ok (.if_icmp .eq 16, 3) ∧ decode cX12_needed 31 = .ok (.aload_n 0, 1) := by decide +kernel
theorem e_X12_needed_2 : decode cX12_needed 32 = .ok (.iload_n 2, 1) ∧ decode cX12_needed 33 = .ok (.invokevirtual 490, 3) ∧ decode cX12_needed 36 = .ok (.aload_n 0, 1) ∧ decode cX12_needed 37 = .ok (.iload_n 1, 1) ∧ decode cX12_needed 38 = .ok (.invokevirtual 490, 3) ∧ decode cX12_needed 41 = .ok (.if_icmp .le 5, 3) ∧ decode cX12_needed 44 = .ok (.iload_n 2, 1) ∧ decode cX12_needed 45 = .ok (.istore_n 1, 1) ∧ decode cX12_needed 46 = .ok (.iinc 2 1, 3) ∧ decode cX12_needed 49 = .ok (.goto (-45), 3) := by decide +kernel
theorem e_X12_needed_3 : decode cX12_needed 52 = .ok (.aload_n 0, 1) ∧ decode cX12_needed 53 = .ok (.iload_n 1, 1) ∧ decode cX12_needed 54 = .ok (.invokevirtual 358, 3) ∧ decode cX12_needed 57 = .ok (.ireturn, 1) := by decide +kernel
abbrev E_X12_needed_4 (G : Kg) (l1 l2 : Int) (σ : Kmem) (Q : Int → Kmem → Prop) : Prop := Ex G WM M_X12_needed 7 0 0 4 [(0, vA G 0), (1, vI l1), (2, vI l2)] [] σ Q
theorem S_X12_needed {G : Kg} {σ : Kmem} {Q : Int → Kmem → Prop}  (h : E_X12_needed_4 G (-1) 0 σ Q) : Run G WM M_X12_needed 7 0 0 [vA G 0] σ Q := by
  refine Run.of (by decide +kernel) (by show (1 : Nat) ≤ 3; decide) ?_
  show Ex G WM M_X12_needed 7 0 0 0 [(0, vA G 0)] [] σ Q
  refine R_iconst e_X12_needed_0.1 ?_
  refine R_istore_n (ls2 := [(1, vI (-1)), (0, vA G 0)]) e_X12_needed_0.2.1 (by decide) rfl ?_
  refine R_iconst e_X12_needed_0.2.2.1 ?_
  refine R_istore_n (ls2 := [(2, vI 0), (1, vI (-1)), (0, vA G 0)]) e_X12_needed_0.2.2.2.1 (by decide) rfl ?_
  refine R_ls (ls2 := [(0, vA G 0), (1, vI (-1)), (2, vI 0)]) [2, 1, 0] rfl ?_
  exact h
theorem S_X12_needed_4 {G : Kg} {σ : Kmem} {Q : Int → Kmem → Prop} {l1 l2 : Int}  (h : (rI l2) ∧ (rI (σ 1 2)) ∧ ((σ 1 2 ≤ l2 → Run G WM M_X12_orNone 1 0 0 [vA G 0, vI l1] σ (fun r3 s4 => Q r3 s4)) ∧ (l2 < σ 1 2 → Run G WM M_X12_now 0 0 0 [vA G 0] σ (fun r5 s6 => Run G WM M_X12_isUp 3 0 0 [vA G 0, vI l2, vI r5] s6 (fun r7 s8 => (rI r7) ∧ ((r7 = 0 → E_X12_needed_4 G l1 (l2 + 1) s8 Q) ∧ (r7 ≠ 0 → (rI l1) ∧ ((l1 = -1 → E_X12_needed_4 G l2 (l2 + 1) s8 Q) ∧ (l1 ≠ -1 → Run G WM M_X12_lostBy 6 0 0 [vA G 0, vI l2] s8 (fun r11 s12 => Run G WM M_X12_lostBy 6 0 0 [vA G 0, vI l1] s12 (fun r13 s14 => (rI r11) ∧ (rI r13) ∧ ((r11 ≤ r13 → E_X12_needed_4 G l1 (l2 + 1) s14 Q) ∧ (r13 < r11 → E_X12_needed_4 G l2 (l2 + 1) s14 Q))))))))))))) : E_X12_needed_4 G l1 l2 σ Q := by
  refine R_iload_n e_X12_needed_0.2.2.2.2.1 2 rfl ?_
  refine R_aload_n e_X12_needed_0.2.2.2.2.2.1 0 rfl ?_
  refine R_getA 12 0 1 e_X12_needed_0.2.2.2.2.2.2.1 f_X12_7 km_0 (fun _ _ => rfl) rm_0_0 (by decide) ?_
  refine R_iconst e_X12_needed_0.2.2.2.2.2.2.2.1 ?_
  refine R_iald 3598 e_X12_needed_0.2.2.2.2.2.2.2.2.1 kma_1 (by decide) ?_
  obtain ⟨q1, h⟩ := h
  obtain ⟨q2, h⟩ := h
  refine R_icmp_ge 52 e_X12_needed_0.2.2.2.2.2.2.2.2.2 (by decide) q1 q2 (fun q => ?_) (fun q => ?_)
  · replace h := h.1 q
    refine R_aload_n e_X12_needed_3.1 0 rfl ?_
    refine R_iload_n e_X12_needed_3.2.1 1 rfl ?_
    refine R_callV (mc := 0) (ms := 0) (mc' := 0) (ms' := 0) (M' := M_X12_orNone) (d' := 1) (as := [vI l1]) (st := []) 12 1 e_X12_needed_3.2.2.1 (kCVof m_X12_orNone l_X12_358) rfl (by decide) km_0 (by decide) (by decide) rfl rfl (by show (0 : Nat) ≤ 8; decide) ?_
    refine Run.mono h (fun r3 s4 h => ?_)
    refine R_eqs (st2 := [vI r3]) rfl rfl ?_
    exact R_ireturn e_X12_needed_3.2.2.2 rfl h
  · replace h := h.2 q
    refine R_aload_n e_X12_needed_1.1 0 rfl ?_
    refine R_iload_n e_X12_needed_1.2.1 2 rfl ?_
    refine R_aload_n e_X12_needed_1.2.2.1 0 rfl ?_
    refine R_callV (mc := 0) (ms := 0) (mc' := 0) (ms' := 0) (M' := M_X12_now) (d' := 0) (as := []) (st := [vI l2, vA G 0]) 12 0 e_X12_needed_1.2.2.2.1 (kCVof m_X12_now l_X12_325) rfl (by decide) km_0 (by decide) (by decide) rfl rfl (by show (2 : Nat) ≤ 8; decide) ?_
    refine Run.mono h (fun r5 s6 h => ?_)
    refine R_eqs (st2 := [vI r5, vI l2, vA G 0]) rfl rfl ?_
    refine R_callV (mc := 0) (ms := 0) (mc' := 0) (ms' := 0) (M' := M_X12_isUp) (d' := 3) (as := [vI l2, vI r5]) (st := []) 12 2 e_X12_needed_1.2.2.2.2.1 (kCVof m_X12_isUp l_X12_319) rfl (by decide) km_0 (by decide) (by decide) rfl rfl (by show (0 : Nat) ≤ 8; decide) ?_
    refine Run.mono h (fun r7 s8 h => ?_)
    refine R_eqs (st2 := [vI r7]) rfl rfl ?_
    obtain ⟨q9, h⟩ := h
    refine R_if_eq 46 e_X12_needed_1.2.2.2.2.2.1 (by decide) q9  (fun q => ?_) (fun q => ?_)
    · replace h := h.1 q
      refine R_iinc (ls2 := [(2, vI (l2 + 1)), (0, vA G 0), (1, vI l1)]) e_X12_needed_2.2.2.2.2.2.2.2.2.1 2 rfl (by decide) rfl ?_
      refine R_goto 4 e_X12_needed_2.2.2.2.2.2.2.2.2.2 (by decide) ?_
      refine R_ls (ls2 := [(0, vA G 0), (1, vI l1), (2, vI (l2 + 1))]) [1, 2, 0] rfl ?_
      exact h
    · replace h := h.2 q
      refine R_iload_n e_X12_needed_1.2.2.2.2.2.2.1 1 rfl ?_
      refine R_iconst e_X12_needed_1.2.2.2.2.2.2.2.1 ?_
      obtain ⟨q10, h⟩ := h
      refine R_icmp_eq 44 e_X12_needed_1.2.2.2.2.2.2.2.2.1 (by decide) q10 (by decide) (fun q => ?_) (fun q => ?_)
      · replace h := h.1 q
        refine R_iload_n e_X12_needed_2.2.2.2.2.2.2.1 2 rfl ?_
        refine R_istore_n (ls2 := [(1, vI l2), (0, vA G 0), (2, vI l2)]) e_X12_needed_2.2.2.2.2.2.2.2.1 (by decide) rfl ?_
        refine R_iinc (ls2 := [(2, vI (l2 + 1)), (1, vI l2), (0, vA G 0)]) e_X12_needed_2.2.2.2.2.2.2.2.2.1 2 rfl (by decide) rfl ?_
        refine R_goto 4 e_X12_needed_2.2.2.2.2.2.2.2.2.2 (by decide) ?_
        refine R_ls (ls2 := [(0, vA G 0), (1, vI l2), (2, vI (l2 + 1))]) [2, 1, 0] rfl ?_
        exact h
      · replace h := h.2 q
        refine R_aload_n e_X12_needed_1.2.2.2.2.2.2.2.2.2 0 rfl ?_
        refine R_iload_n e_X12_needed_2.1 2 rfl ?_
        refine R_callV (mc := 0) (ms := 0) (mc' := 0) (ms' := 0) (M' := M_X12_lostBy) (d' := 6) (as := [vI l2]) (st := []) 12 1 e_X12_needed_2.2.1 (kCVof m_X12_lostBy l_X12_490) rfl (by decide) km_0 (by decide) (by decide) rfl rfl (by show (0 : Nat) ≤ 8; decide) ?_
        refine Run.mono h (fun r11 s12 h => ?_)
        refine R_eqs (st2 := [vI r11]) rfl rfl ?_
        refine R_aload_n e_X12_needed_2.2.2.1 0 rfl ?_
        refine R_iload_n e_X12_needed_2.2.2.2.1 1 rfl ?_
        refine R_callV (mc := 0) (ms := 0) (mc' := 0) (ms' := 0) (M' := M_X12_lostBy) (d' := 6) (as := [vI l1]) (st := [vI r11]) 12 1 e_X12_needed_2.2.2.2.2.1 (kCVof m_X12_lostBy l_X12_490) rfl (by decide) km_0 (by decide) (by decide) rfl rfl (by show (1 : Nat) ≤ 8; decide) ?_
        refine Run.mono h (fun r13 s14 h => ?_)
        refine R_eqs (st2 := [vI r13, vI r11]) rfl rfl ?_
        obtain ⟨q15, h⟩ := h
        obtain ⟨q16, h⟩ := h
        refine R_icmp_le 46 e_X12_needed_2.2.2.2.2.2.1 (by decide) q15 q16 (fun q => ?_) (fun q => ?_)
        · replace h := h.1 q
          refine R_iinc (ls2 := [(2, vI (l2 + 1)), (0, vA G 0), (1, vI l1)]) e_X12_needed_2.2.2.2.2.2.2.2.2.1 2 rfl (by decide) rfl ?_
          refine R_goto 4 e_X12_needed_2.2.2.2.2.2.2.2.2.2 (by decide) ?_
          refine R_ls (ls2 := [(0, vA G 0), (1, vI l1), (2, vI (l2 + 1))]) [1, 2, 0] rfl ?_
          exact h
        · replace h := h.2 q
          refine R_iload_n e_X12_needed_2.2.2.2.2.2.2.1 2 rfl ?_
          refine R_istore_n (ls2 := [(1, vI l2), (0, vA G 0), (2, vI l2)]) e_X12_needed_2.2.2.2.2.2.2.2.1 (by decide) rfl ?_
          refine R_iinc (ls2 := [(2, vI (l2 + 1)), (1, vI l2), (0, vA G 0)]) e_X12_needed_2.2.2.2.2.2.2.2.2.1 2 rfl (by decide) rfl ?_
          refine R_goto 4 e_X12_needed_2.2.2.2.2.2.2.2.2.2 (by decide) ?_
          refine R_ls (ls2 := [(0, vA G 0), (1, vI l2), (2, vI (l2 + 1))]) [2, 1, 0] rfl ?_
          exact h
/-! KiteLandModel.share(I)Z -/
theorem e_X12_share_0 : decode cX12_share 0 = .ok (.aload_n 0, 1) ∧ decode cX12_share 1 = .ok (.iload_n 1, 1) ∧ decode cX12_share 2 = .ok (.invokevirtual 343, 3) ∧ decode cX12_share 5 = .ok (.ifCond .ne 9, 3) ∧ decode cX12_share 8 = .ok (.aload_n 0, 1) ∧ decode cX12_share 9 = .ok (.iconst 1, 1) ∧ decode cX12_share 10 = .ok (.invokevirtual 100, 3) ∧ decode cX12_share 13 = .ok (.ireturn, 1) ∧ decode cX12_share 14 = .ok (.iconst 0, 1) ∧ decode cX12_share 15 = .ok (.istore_n 2, 1) := by decide +kernel
theorem e_X12_share_1 : decode cX12_share 16 = .ok (.iconst 0, 1) ∧ decode cX12_share 17 = .ok (.istore_n 3, 1) ∧ decode cX12_share 18 = .ok (.iload_n 3, 1) ∧ decode cX12_share 19 = .ok (.aload_n 0, 1) ∧ decode cX12_share 20 = .ok (.getfield 7, 3) ∧ decode cX12_share 23 = .ok (.iconst 2, 1) ∧ decode cX12_share 24 = .ok (.iaload, 1) ∧ decode cX12_share 25 = .ok (.if_icmp .ge 18, 3) ∧ decode cX12_share 28 = .ok (.iload_n 2, 1) ∧ decode cX12_share 29 = .ok (.aload_n 0, 1) := by decide +kernel
theorem e_X12_share_2 : decode cX12_share 30 = .ok (.iload_n 3, 1) ∧ decode cX12_share 31 = .ok (.iconst 5, 1) ∧ decode cX12_share 32 = .ok (.invokevirtual 268, 3) ∧ decode cX12_share 35 = .ok (.iadd, 1) ∧ decode cX12_share 36 = .ok (.istore_n 2, 1) ∧ decode cX12_share 37 = .ok (.iinc 3 1, 3) ∧ decode cX12_share 40 = .ok (.goto (-22), 3) ∧ decode cX12_share 43 = .ok (.iload_n 2, 1) ∧ decode cX12_share 44 = .ok (.ifCond .ne 12, 3) ∧ decode cX12_share 47 = .ok (.aload_n 0, 1) := by decide +kernel
theorem e_X12_share_3 : decode cX12_share 48 = .ok (.bipush 6, 2) ∧ decode cX12_share 50 = .ok (.invokevirtual 100, 3) ∧ decode cX12_share 53 = .ok (.goto 16, 3) ∧ decode cX12_share 56 = .ok (.aload_n 0, 1) ∧ decode cX12_share 57 = .ok (.aload_n 0, 1) ∧ decode cX12_share 58 = .ok (.iload_n 1, 1) ∧ decode cX12_share 59 = .ok (.iconst 5, 1) ∧ decode cX12_share 60 = .ok (.invokevirtual 268, 3) ∧ decode cX12_share 63 = .ok (.i2l, 1) ∧ decode cX12_share 64 = .ok (.iload_n 2, 1) := by decide +kernel
theorem e_X12_share_4 : decode cX12_share 65 = .ok (.i2l, 1) ∧ decode cX12_share 66 = .ok (.invokevirtual 493, 3) ∧ decode cX12_share 69 = .ok (.ireturn, 1) := by decide +kernel
abbrev E_X12_share_18 (G : Kg) (l1 l2 l3 : Int) (σ : Kmem) (Q : Int → Kmem → Prop) : Prop := Ex G WM M_X12_share 2 0 0 18 [(0, vA G 0), (1, vI l1), (2, vI l2), (3, vI l3)] [] σ Q
theorem S_X12_share {G : Kg} {σ : Kmem} {Q : Int → Kmem → Prop} {l1 : Int}  (h : Run G WM M_X12_isKite 0 0 0 [vA G 0, vI l1] σ (fun r1 s2 => (rI r1) ∧ ((r1 ≠ 0 → E_X12_share_18 G l1 0 0 s2 Q) ∧ (r1 = 0 → Run G WM M_X12_is 0 0 0 [vA G 0, vI 1] s2 (fun r4 s5 => (r4 = 0 ∨ r4 = 1) ∧ Q r4 s5))))) : Run G WM M_X12_share 2 0 0 [vA G 0, vI l1] σ Q := by
  refine Run.of (by decide +kernel) (by show (2 : Nat) ≤ 4; decide) ?_
  show Ex G WM M_X12_share 2 0 0 0 [(0, vA G 0), (1, vI l1)] [] σ Q
  refine R_aload_n e_X12_share_0.1 0 rfl ?_
  refine R_iload_n e_X12_share_0.2.1 1 rfl ?_
  refine R_callV (mc := 0) (ms := 0) (mc' := 0) (ms' := 0) (M' := M_X12_isKite) (d' := 0) (as := [vI l1]) (st := []) 12 1 e_X12_share_0.2.2.1 (kCVof m_X12_isKite l_X12_343) rfl (by decide) km_0 (by decide) (by decide) rfl rfl (by show (0 : Nat) ≤ 8; decide) ?_
  refine Run.mono h (fun r1 s2 h => ?_)
  refine R_eqs (st2 := [vI r1]) rfl rfl ?_
  obtain ⟨q3, h⟩ := h
  refine R_if_ne 14 e_X12_share_0.2.2.2.1 (by decide) q3  (fun q => ?_) (fun q => ?_)
  · replace h := h.1 q
    refine R_iconst e_X12_share_0.2.2.2.2.2.2.2.2.1 ?_
    refine R_istore_n (ls2 := [(2, vI 0), (0, vA G 0), (1, vI l1)]) e_X12_share_0.2.2.2.2.2.2.2.2.2 (by decide) rfl ?_
    refine R_iconst e_X12_share_1.1 ?_
    refine R_istore_n (ls2 := [(3, vI 0), (2, vI 0), (0, vA G 0), (1, vI l1)]) e_X12_share_1.2.1 (by decide) rfl ?_
    refine R_ls (ls2 := [(0, vA G 0), (1, vI l1), (2, vI 0), (3, vI 0)]) [2, 3, 1, 0] rfl ?_
    exact h
  · replace h := h.2 q
    refine R_aload_n e_X12_share_0.2.2.2.2.1 0 rfl ?_
    refine R_iconst e_X12_share_0.2.2.2.2.2.1 ?_
    refine R_callV (mc := 0) (ms := 0) (mc' := 0) (ms' := 0) (M' := M_X12_is) (d' := 0) (as := [vI 1]) (st := []) 12 1 e_X12_share_0.2.2.2.2.2.2.1 (kCVof m_X12_is l_X12_100) rfl (by decide) km_0 (by decide) (by decide) rfl rfl (by show (0 : Nat) ≤ 8; decide) ?_
    refine Run.mono h (fun r4 s5 h => ?_)
    refine R_eqs (st2 := [vI r4]) rfl rfl ?_
    obtain ⟨q6, h⟩ := h
    exact R_zreturn e_X12_share_0.2.2.2.2.2.2.2.1 rfl q6 h
theorem S_X12_share_18 {G : Kg} {σ : Kmem} {Q : Int → Kmem → Prop} {l1 l2 l3 : Int}  (h : (rI l3) ∧ (rI (σ 1 2)) ∧ ((σ 1 2 ≤ l3 → (rI l2) ∧ ((l2 ≠ 0 → Run G WM M_X12_of 1 0 0 [vA G 0, vI l1, vI 5] σ (fun r10 s11 => (rI r10) ∧ Run G WM M_X12_tellsBy 1 0 0 [vA G 0, vL r10, vL l2] s11 (fun r13 s14 => (r13 = 0 ∨ r13 = 1) ∧ Q r13 s14))) ∧ (l2 = 0 → Run G WM M_X12_is 0 0 0 [vA G 0, vI 6] σ (fun r16 s17 => (r16 = 0 ∨ r16 = 1) ∧ Q r16 s17)))) ∧ (l3 < σ 1 2 → Run G WM M_X12_of 1 0 0 [vA G 0, vI l3, vI 5] σ (fun r19 s20 => E_X12_share_18 G l1 (l2 + r19) (l3 + 1) s20 Q)))) : E_X12_share_18 G l1 l2 l3 σ Q := by
  refine R_iload_n e_X12_share_1.2.2.1 3 rfl ?_
  refine R_aload_n e_X12_share_1.2.2.2.1 0 rfl ?_
  refine R_getA 12 0 1 e_X12_share_1.2.2.2.2.1 f_X12_7 km_0 (fun _ _ => rfl) rm_0_0 (by decide) ?_
  refine R_iconst e_X12_share_1.2.2.2.2.2.1 ?_
  refine R_iald 3598 e_X12_share_1.2.2.2.2.2.2.1 kma_1 (by decide) ?_
  obtain ⟨q7, h⟩ := h
  obtain ⟨q8, h⟩ := h
  refine R_icmp_ge 43 e_X12_share_1.2.2.2.2.2.2.2.1 (by decide) q7 q8 (fun q => ?_) (fun q => ?_)
  · replace h := h.1 q
    refine R_iload_n e_X12_share_2.2.2.2.2.2.2.2.1 2 rfl ?_
    obtain ⟨q9, h⟩ := h
    refine R_if_ne 56 e_X12_share_2.2.2.2.2.2.2.2.2.1 (by decide) q9  (fun q => ?_) (fun q => ?_)
    · replace h := h.1 q
      refine R_aload_n e_X12_share_3.2.2.2.1 0 rfl ?_
      refine R_aload_n e_X12_share_3.2.2.2.2.1 0 rfl ?_
      refine R_iload_n e_X12_share_3.2.2.2.2.2.1 1 rfl ?_
      refine R_iconst e_X12_share_3.2.2.2.2.2.2.1 ?_
      refine R_callV (mc := 0) (ms := 0) (mc' := 0) (ms' := 0) (M' := M_X12_of) (d' := 1) (as := [vI l1, vI 5]) (st := [vA G 0]) 12 2 e_X12_share_3.2.2.2.2.2.2.2.1 (kCVof m_X12_of l_X12_268) rfl (by decide) km_0 (by decide) (by decide) rfl rfl (by show (1 : Nat) ≤ 8; decide) ?_
      refine Run.mono h (fun r10 s11 h => ?_)
      refine R_eqs (st2 := [vI r10, vA G 0]) rfl rfl ?_
      obtain ⟨q12, h⟩ := h
      refine R_i2l e_X12_share_3.2.2.2.2.2.2.2.2.1 q12 ?_
      refine R_iload_n e_X12_share_3.2.2.2.2.2.2.2.2.2 2 rfl ?_
      refine R_i2l e_X12_share_4.1 q9 ?_
      refine R_callV (mc := 0) (ms := 0) (mc' := 0) (ms' := 0) (M' := M_X12_tellsBy) (d' := 1) (as := [vL r10, vL l2]) (st := []) 12 2 e_X12_share_4.2.1 (kCVof m_X12_tellsBy l_X12_493) rfl (by decide) km_0 (by decide) (by decide) rfl rfl (by show (0 : Nat) ≤ 8; decide) ?_
      refine Run.mono h (fun r13 s14 h => ?_)
      refine R_eqs (st2 := [vI r13]) rfl rfl ?_
      obtain ⟨q15, h⟩ := h
      exact R_zreturn e_X12_share_4.2.2 rfl q15 h
    · replace h := h.2 q
      refine R_aload_n e_X12_share_2.2.2.2.2.2.2.2.2.2 0 rfl ?_
      refine R_bipush e_X12_share_3.1 (by decide) ?_
      refine R_callV (mc := 0) (ms := 0) (mc' := 0) (ms' := 0) (M' := M_X12_is) (d' := 0) (as := [vI 6]) (st := []) 12 1 e_X12_share_3.2.1 (kCVof m_X12_is l_X12_100) rfl (by decide) km_0 (by decide) (by decide) rfl rfl (by show (0 : Nat) ≤ 8; decide) ?_
      refine Run.mono h (fun r16 s17 h => ?_)
      refine R_eqs (st2 := [vI r16]) rfl rfl ?_
      refine R_goto 69 e_X12_share_3.2.2.1 (by decide) ?_
      obtain ⟨q18, h⟩ := h
      exact R_zreturn e_X12_share_4.2.2 rfl q18 h
  · replace h := h.2 q
    refine R_iload_n e_X12_share_1.2.2.2.2.2.2.2.2.1 2 rfl ?_
    refine R_aload_n e_X12_share_1.2.2.2.2.2.2.2.2.2 0 rfl ?_
    refine R_iload_n e_X12_share_2.1 3 rfl ?_
    refine R_iconst e_X12_share_2.2.1 ?_
    refine R_callV (mc := 0) (ms := 0) (mc' := 0) (ms' := 0) (M' := M_X12_of) (d' := 1) (as := [vI l3, vI 5]) (st := [vI l2]) 12 2 e_X12_share_2.2.2.1 (kCVof m_X12_of l_X12_268) rfl (by decide) km_0 (by decide) (by decide) rfl rfl (by show (1 : Nat) ≤ 8; decide) ?_
    refine Run.mono h (fun r19 s20 h => ?_)
    refine R_eqs (st2 := [vI r19, vI l2]) rfl rfl ?_
    refine R_iadd e_X12_share_2.2.2.2.1 ?_
    refine R_istore_n (ls2 := [(2, vI (l2 + r19)), (0, vA G 0), (1, vI l1), (3, vI l3)]) e_X12_share_2.2.2.2.2.1 (by decide) rfl ?_
    refine R_iinc (ls2 := [(3, vI (l3 + 1)), (2, vI (l2 + r19)), (0, vA G 0), (1, vI l1)]) e_X12_share_2.2.2.2.2.2.1 3 rfl (by decide) rfl ?_
    refine R_goto 18 e_X12_share_2.2.2.2.2.2.2.1 (by decide) ?_
    refine R_ls (ls2 := [(0, vA G 0), (1, vI l1), (2, vI (l2 + r19)), (3, vI (l3 + 1))]) [2, 3, 1, 0] rfl ?_
    exact h
/-! KiteLandModel.shaded()Z -/
theorem e_X12_shaded_0 : decode cX12_shaded 0 = .ok (.aload_n 0, 1) ∧ decode cX12_shaded 1 = .ok (.invokevirtual 370, 3) ∧ decode cX12_shaded 4 = .ok (.ifCond .ne 10, 3) ∧ decode cX12_shaded 7 = .ok (.aload_n 0, 1) ∧ decode cX12_shaded 8 = .ok (.bipush 6, 2) ∧ decode cX12_shaded 10 = .ok (.invokevirtual 100, 3) ∧ decode cX12_shaded 13 = .ok (.ireturn, 1) ∧ decode cX12_shaded 14 = .ok (.iconst 0, 1) ∧ decode cX12_shaded 15 = .ok (.istore_n 1, 1) ∧ decode cX12_shaded 16 = .ok (.iconst 0, 1) := by decide +kernel
theorem e_X12_shaded_1 : decode cX12_shaded 17 = .ok (.istore_n 2, 1) ∧ decode cX12_shaded 18 = .ok (.iload_n 2, 1) ∧ decode cX12_shaded 19 = .ok (.bipush 12, 2) ∧ decode cX12_shaded 21 = .ok (.if_icmp .ge 23, 3) ∧ decode cX12_shaded 24 = .ok (.iload_n 1, 1) ∧ decode cX12_shaded 25 = .ok (.aload_n 0, 1) ∧ decode cX12_shaded 26 = .ok (.invokevirtual 370, 3) ∧ decode cX12_shaded 29 = .ok (.aload_n 0, 1) ∧ decode cX12_shaded 30 = .ok (.iconst (-1), 1) ∧ decode cX12_shaded 31 = .ok (.iload_n 2, 1) := by decide +kernel
theorem e_X12_shaded_2 : decode cX12_shaded 32 = .ok (.invokevirtual 361, 3) ∧ decode cX12_shaded 35 = .ok (.isub, 1) ∧ decode cX12_shaded 36 = .ok (.iadd, 1) ∧ decode cX12_shaded 37 = .ok (.istore_n 1, 1) ∧ decode cX12_shaded 38 = .ok (.iinc 2 1, 3) ∧ decode cX12_shaded 41 = .ok (.goto (-23), 3) ∧ decode cX12_shaded 44 = .ok (.aload_n 0, 1) ∧ decode cX12_shaded 45 = .ok (.iload_n 1, 1) ∧ decode cX12_shaded 46 = .ok (.i2l, 1) ∧ decode cX12_shaded 47 = .ok (.ldc2_w 497, 3) := by decide +kernel
theorem e_X12_shaded_3 : decode cX12_shaded 50 = .ok (.invokevirtual 493, 3) ∧ decode cX12_shaded 53 = .ok (.ireturn, 1) := by decide +kernel
abbrev E_X12_shaded_18 (G : Kg) (l1 l2 : Int) (σ : Kmem) (Q : Int → Kmem → Prop) : Prop := Ex G WM M_X12_shaded 8 0 0 18 [(0, vA G 0), (1, vI l1), (2, vI l2)] [] σ Q
theorem S_X12_shaded {G : Kg} {σ : Kmem} {Q : Int → Kmem → Prop}  (h : Run G WM M_X12_fields 0 0 0 [vA G 0] σ (fun r1 s2 => (rI r1) ∧ ((r1 ≠ 0 → E_X12_shaded_18 G 0 0 s2 Q) ∧ (r1 = 0 → Run G WM M_X12_is 0 0 0 [vA G 0, vI 6] s2 (fun r4 s5 => (r4 = 0 ∨ r4 = 1) ∧ Q r4 s5))))) : Run G WM M_X12_shaded 8 0 0 [vA G 0] σ Q := by
  refine Run.of (by decide +kernel) (by show (1 : Nat) ≤ 3; decide) ?_
  show Ex G WM M_X12_shaded 8 0 0 0 [(0, vA G 0)] [] σ Q
  refine R_aload_n e_X12_shaded_0.1 0 rfl ?_
  refine R_callV (mc := 0) (ms := 0) (mc' := 0) (ms' := 0) (M' := M_X12_fields) (d' := 0) (as := []) (st := []) 12 0 e_X12_shaded_0.2.1 (kCVof m_X12_fields l_X12_370) rfl (by decide) km_0 (by decide) (by decide) rfl rfl (by show (0 : Nat) ≤ 8; decide) ?_
  refine Run.mono h (fun r1 s2 h => ?_)
  refine R_eqs (st2 := [vI r1]) rfl rfl ?_
  obtain ⟨q3, h⟩ := h
  refine R_if_ne 14 e_X12_shaded_0.2.2.1 (by decide) q3  (fun q => ?_) (fun q => ?_)
  · replace h := h.1 q
    refine R_iconst e_X12_shaded_0.2.2.2.2.2.2.2.1 ?_
    refine R_istore_n (ls2 := [(1, vI 0), (0, vA G 0)]) e_X12_shaded_0.2.2.2.2.2.2.2.2.1 (by decide) rfl ?_
    refine R_iconst e_X12_shaded_0.2.2.2.2.2.2.2.2.2 ?_
    refine R_istore_n (ls2 := [(2, vI 0), (1, vI 0), (0, vA G 0)]) e_X12_shaded_1.1 (by decide) rfl ?_
    refine R_ls (ls2 := [(0, vA G 0), (1, vI 0), (2, vI 0)]) [2, 1, 0] rfl ?_
    exact h
  · replace h := h.2 q
    refine R_aload_n e_X12_shaded_0.2.2.2.1 0 rfl ?_
    refine R_bipush e_X12_shaded_0.2.2.2.2.1 (by decide) ?_
    refine R_callV (mc := 0) (ms := 0) (mc' := 0) (ms' := 0) (M' := M_X12_is) (d' := 0) (as := [vI 6]) (st := []) 12 1 e_X12_shaded_0.2.2.2.2.2.1 (kCVof m_X12_is l_X12_100) rfl (by decide) km_0 (by decide) (by decide) rfl rfl (by show (0 : Nat) ≤ 8; decide) ?_
    refine Run.mono h (fun r4 s5 h => ?_)
    refine R_eqs (st2 := [vI r4]) rfl rfl ?_
    obtain ⟨q6, h⟩ := h
    exact R_zreturn e_X12_shaded_0.2.2.2.2.2.2.1 rfl q6 h
theorem S_X12_shaded_18 {G : Kg} {σ : Kmem} {Q : Int → Kmem → Prop} {l1 l2 : Int}  (h : (rI l2) ∧ ((12 ≤ l2 → (rI l1) ∧ Run G WM M_X12_tellsBy 1 0 0 [vA G 0, vL l1, vL 12] σ (fun r9 s10 => (r9 = 0 ∨ r9 = 1) ∧ Q r9 s10)) ∧ (l2 < 12 → Run G WM M_X12_fields 0 0 0 [vA G 0] σ (fun r12 s13 => Run G WM M_X12_estateOf 7 0 0 [vA G 0, vI (-1), vI l2] s13 (fun r14 s15 => E_X12_shaded_18 G (l1 + (r12 - r14)) (l2 + 1) s15 Q))))) : E_X12_shaded_18 G l1 l2 σ Q := by
  refine R_iload_n e_X12_shaded_1.2.1 2 rfl ?_
  refine R_bipush e_X12_shaded_1.2.2.1 (by decide) ?_
  obtain ⟨q7, h⟩ := h
  refine R_icmp_ge 44 e_X12_shaded_1.2.2.2.1 (by decide) q7 (by decide) (fun q => ?_) (fun q => ?_)
  · replace h := h.1 q
    refine R_aload_n e_X12_shaded_2.2.2.2.2.2.2.1 0 rfl ?_
    refine R_iload_n e_X12_shaded_2.2.2.2.2.2.2.2.1 1 rfl ?_
    obtain ⟨q8, h⟩ := h
    refine R_i2l e_X12_shaded_2.2.2.2.2.2.2.2.2.1 q8 ?_
    refine R_ldc2 (12) k_X12_497 e_X12_shaded_2.2.2.2.2.2.2.2.2.2 ?_
    refine R_callV (mc := 0) (ms := 0) (mc' := 0) (ms' := 0) (M' := M_X12_tellsBy) (d' := 1) (as := [vL l1, vL 12]) (st := []) 12 2 e_X12_shaded_3.1 (kCVof m_X12_tellsBy l_X12_493) rfl (by decide) km_0 (by decide) (by decide) rfl rfl (by show (0 : Nat) ≤ 8; decide) ?_
    refine Run.mono h (fun r9 s10 h => ?_)
    refine R_eqs (st2 := [vI r9]) rfl rfl ?_
    obtain ⟨q11, h⟩ := h
    exact R_zreturn e_X12_shaded_3.2 rfl q11 h
  · replace h := h.2 q
    refine R_iload_n e_X12_shaded_1.2.2.2.2.1 1 rfl ?_
    refine R_aload_n e_X12_shaded_1.2.2.2.2.2.1 0 rfl ?_
    refine R_callV (mc := 0) (ms := 0) (mc' := 0) (ms' := 0) (M' := M_X12_fields) (d' := 0) (as := []) (st := [vI l1]) 12 0 e_X12_shaded_1.2.2.2.2.2.2.1 (kCVof m_X12_fields l_X12_370) rfl (by decide) km_0 (by decide) (by decide) rfl rfl (by show (1 : Nat) ≤ 8; decide) ?_
    refine Run.mono h (fun r12 s13 h => ?_)
    refine R_eqs (st2 := [vI r12, vI l1]) rfl rfl ?_
    refine R_aload_n e_X12_shaded_1.2.2.2.2.2.2.2.1 0 rfl ?_
    refine R_iconst e_X12_shaded_1.2.2.2.2.2.2.2.2.1 ?_
    refine R_iload_n e_X12_shaded_1.2.2.2.2.2.2.2.2.2 2 rfl ?_
    refine R_callV (mc := 0) (ms := 0) (mc' := 0) (ms' := 0) (M' := M_X12_estateOf) (d' := 7) (as := [vI (-1), vI l2]) (st := [vI r12, vI l1]) 12 2 e_X12_shaded_2.1 (kCVof m_X12_estateOf l_X12_361) rfl (by decide) km_0 (by decide) (by decide) rfl rfl (by show (2 : Nat) ≤ 8; decide) ?_
    refine Run.mono h (fun r14 s15 h => ?_)
    refine R_eqs (st2 := [vI r14, vI r12, vI l1]) rfl rfl ?_
    refine R_isub e_X12_shaded_2.2.1 ?_
    refine R_iadd e_X12_shaded_2.2.2.1 ?_
    refine R_istore_n (ls2 := [(1, vI (l1 + (r12 - r14))), (0, vA G 0), (2, vI l2)]) e_X12_shaded_2.2.2.2.1 (by decide) rfl ?_
    refine R_iinc (ls2 := [(2, vI (l2 + 1)), (1, vI (l1 + (r12 - r14))), (0, vA G 0)]) e_X12_shaded_2.2.2.2.2.1 2 rfl (by decide) rfl ?_
    refine R_goto 18 e_X12_shaded_2.2.2.2.2.2.1 (by decide) ?_
    refine R_ls (ls2 := [(0, vA G 0), (1, vI (l1 + (r12 - r14))), (2, vI (l2 + 1))]) [2, 1, 0] rfl ?_
    exact h
/-! KiteLandModel.draw(I)I -/
theorem e_X12_draw_0 : decode cX12_draw 0 = .ok (.aload_n 0, 1) ∧ decode cX12_draw 1 = .ok (.aload_n 0, 1) ∧ decode cX12_draw 2 = .ok (.getfield 499, 3) ∧ decode cX12_draw 5 = .ok (.sipush 3001, 3) ∧ decode cX12_draw 8 = .ok (.imul, 1) ∧ decode cX12_draw 9 = .ok (.sipush 11197, 3) ∧ decode cX12_draw 12 = .ok (.iadd, 1) ∧ decode cX12_draw 13 = .ok (.ldc_w 502, 3) ∧ decode cX12_draw 16 = .ok (.irem, 1) ∧ decode cX12_draw 17 = .ok (.putfield 499, 3) := by decide +kernel
theorem e_X12_draw_1 : decode cX12_draw 20 = .ok (.aload_n 0, 1) ∧ decode cX12_draw 21 = .ok (.getfield 499, 3) ∧ decode cX12_draw 24 = .ok (.bipush 8, 2) ∧ decode cX12_draw 26 = .ok (.idiv, 1) ∧ decode cX12_draw 27 = .ok (.iload_n 1, 1) ∧ decode cX12_draw 28 = .ok (.irem, 1) ∧ decode cX12_draw 29 = .ok (.ireturn, 1) := by decide +kernel
theorem S_X12_draw {G : Kg} {σ : Kmem} {Q : Int → Kmem → Prop} {l1 : Int}  (h : (0 ≤ ((σ 0 35) * 3001) + 11197 ∧ ((σ 0 35) * 3001) + 11197 ≤ 2147483647) ∧ (0 ≤ (kup σ 0 35 ((((σ 0 35) * 3001) + 11197) % 65536)) 0 35 ∧ (kup σ 0 35 ((((σ 0 35) * 3001) + 11197) % 65536)) 0 35 ≤ 2147483647) ∧ (0 ≤ ((kup σ 0 35 ((((σ 0 35) * 3001) + 11197) % 65536)) 0 35) / 8 ∧ ((kup σ 0 35 ((((σ 0 35) * 3001) + 11197) % 65536)) 0 35) / 8 ≤ 2147483647) ∧ (0 < l1 ∧ l1 ≤ 2147483647) ∧ Q ((((kup σ 0 35 ((((σ 0 35) * 3001) + 11197) % 65536)) 0 35) / 8) % l1) (kup σ 0 35 ((((σ 0 35) * 3001) + 11197) % 65536))) : Run G WM M_X12_draw 0 0 0 [vA G 0, vI l1] σ Q := by
  refine Run.of (by decide +kernel) (by show (2 : Nat) ≤ 2; decide) ?_
  show Ex G WM M_X12_draw 0 0 0 0 [(0, vA G 0), (1, vI l1)] [] σ Q
  refine R_aload_n e_X12_draw_0.1 0 rfl ?_
  refine R_aload_n e_X12_draw_0.2.1 0 rfl ?_
  refine R_getI 12 35 35 e_X12_draw_0.2.2.1 f_X12_499 km_0 (fun _ _ => rfl) rfl ?_
  refine R_sipush e_X12_draw_0.2.2.2.1 (by decide) ?_
  refine R_imul e_X12_draw_0.2.2.2.2.1 ?_
  refine R_sipush e_X12_draw_0.2.2.2.2.2.1 (by decide) ?_
  refine R_iadd e_X12_draw_0.2.2.2.2.2.2.1 ?_
  refine R_ldc_w (65536) k_X12_502 e_X12_draw_0.2.2.2.2.2.2.2.1 ?_
  obtain ⟨q1, h⟩ := h
  refine R_irem e_X12_draw_0.2.2.2.2.2.2.2.2.1 q1 (by decide) ?_
  refine R_putI 12 35 35 WM_ok e_X12_draw_0.2.2.2.2.2.2.2.2.2 f_X12_499 km_0 rfl rfl rfl ?_
  refine R_aload_n e_X12_draw_1.1 0 rfl ?_
  refine R_getI 12 35 35 e_X12_draw_1.2.1 f_X12_499 km_0 (fun _ _ => rfl) rfl ?_
  refine R_bipush e_X12_draw_1.2.2.1 (by decide) ?_
  obtain ⟨q2, h⟩ := h
  refine R_idiv e_X12_draw_1.2.2.2.1 q2 (by decide) ?_
  refine R_iload_n e_X12_draw_1.2.2.2.2.1 1 rfl ?_
  obtain ⟨q3, h⟩ := h
  obtain ⟨q4, h⟩ := h
  refine R_irem e_X12_draw_1.2.2.2.2.2.1 q3 q4 ?_
  exact R_ireturn e_X12_draw_1.2.2.2.2.2.2 rfl h
/-! KiteLandModel.walksBy(II)Z -/
theorem e_X12_walksBy_0 : decode cX12_walksBy 0 = .ok (.aload_n 0, 1) ∧ decode cX12_walksBy 1 = .ok (.iload_n 1, 1) ∧ decode cX12_walksBy 2 = .ok (.iload_n 2, 1) ∧ decode cX12_walksBy 3 = .ok (.invokevirtual 402, 3) ∧ decode cX12_walksBy 6 = .ok (.ifCond .ne 5, 3) ∧ decode cX12_walksBy 9 = .ok (.iconst 0, 1) ∧ decode cX12_walksBy 10 = .ok (.ireturn, 1) ∧ decode cX12_walksBy 11 = .ok (.aload_n 0, 1) ∧ decode cX12_walksBy 12 = .ok (.getfield 77, 3) ∧ decode cX12_walksBy 15 = .ok (.iconst 2, 1) := by decide +kernel
theorem e_X12_walksBy_1 : decode cX12_walksBy 16 = .ok (.dup2, 1) ∧ decode cX12_walksBy 17 = .ok (.iaload, 1) ∧ decode cX12_walksBy 18 = .ok (.iconst 1, 1) ∧ decode cX12_walksBy 19 = .ok (.iadd, 1) ∧ decode cX12_walksBy 20 = .ok (.iastore, 1) ∧ decode cX12_walksBy 21 = .ok (.iconst 1, 1) ∧ decode cX12_walksBy 22 = .ok (.ireturn, 1) := by decide +kernel
theorem S_X12_walksBy {G : Kg} {σ : Kmem} {Q : Int → Kmem → Prop} {l1 l2 : Int}  (h : Run G WM M_X12_walks 2 0 0 [vA G 0, vI l1, vI l2] σ (fun r1 s2 => (rI r1) ∧ ((r1 ≠ 0 → Q 1 (kup s2 19 2 ((s2 19 2) + 1))) ∧ (r1 = 0 → Q 0 s2)))) : Run G WM M_X12_walksBy 3 0 0 [vA G 0, vI l1, vI l2] σ Q := by
  refine Run.of (by decide +kernel) (by show (3 : Nat) ≤ 3; decide) ?_
  show Ex G WM M_X12_walksBy 3 0 0 0 [(0, vA G 0), (1, vI l1), (2, vI l2)] [] σ Q
  refine R_aload_n e_X12_walksBy_0.1 0 rfl ?_
  refine R_iload_n e_X12_walksBy_0.2.1 1 rfl ?_
  refine R_iload_n e_X12_walksBy_0.2.2.1 2 rfl ?_
  refine R_callV (mc := 0) (ms := 0) (mc' := 0) (ms' := 0) (M' := M_X12_walks) (d' := 2) (as := [vI l1, vI l2]) (st := []) 12 2 e_X12_walksBy_0.2.2.2.1 (kCVof m_X12_walks l_X12_402) rfl (by decide) km_0 (by decide) (by decide) rfl rfl (by show (0 : Nat) ≤ 8; decide) ?_
  refine Run.mono h (fun r1 s2 h => ?_)
  refine R_eqs (st2 := [vI r1]) rfl rfl ?_
  obtain ⟨q3, h⟩ := h
  refine R_if_ne 11 e_X12_walksBy_0.2.2.2.2.1 (by decide) q3  (fun q => ?_) (fun q => ?_)
  · replace h := h.1 q
    refine R_aload_n e_X12_walksBy_0.2.2.2.2.2.2.2.1 0 rfl ?_
    refine R_getA 12 38 19 e_X12_walksBy_0.2.2.2.2.2.2.2.2.1 f_X12_77 km_0 (fun _ _ => rfl) rm_0_38 (by decide) ?_
    refine R_iconst e_X12_walksBy_0.2.2.2.2.2.2.2.2.2 ?_
    refine R_dup2 e_X12_walksBy_1.1 rfl rfl ?_
    refine R_iald 5 e_X12_walksBy_1.2.1 kma_19 (by decide) ?_
    refine R_iconst e_X12_walksBy_1.2.2.1 ?_
    refine R_iadd e_X12_walksBy_1.2.2.2.1 ?_
    refine R_iast 5 WM_ok e_X12_walksBy_1.2.2.2.2.1 kma_19 (by decide) ?_
    refine R_iconst e_X12_walksBy_1.2.2.2.2.2.1 ?_
    exact R_zreturn e_X12_walksBy_1.2.2.2.2.2.2 rfl (Or.inr rfl) h
  · replace h := h.2 q
    refine R_iconst e_X12_walksBy_0.2.2.2.2.2.1 ?_
    exact R_zreturn e_X12_walksBy_0.2.2.2.2.2.2.1 rfl (Or.inl rfl) h
/-! KiteLandModel.hoursGo(I)Z -/
theorem e_X12_hoursGo_0 : decode cX12_hoursGo 0 = .ok (.aload_n 0, 1) ∧ decode cX12_hoursGo 1 = .ok (.getfield 7, 3) ∧ decode cX12_hoursGo 4 = .ok (.bipush 7, 2) ∧ decode cX12_hoursGo 6 = .ok (.iaload, 1) ∧ decode cX12_hoursGo 7 = .ok (.iload_n 1, 1) ∧ decode cX12_hoursGo 8 = .ok (.iadd, 1) ∧ decode cX12_hoursGo 9 = .ok (.sipush 9999, 3) ∧ decode cX12_hoursGo 12 = .ok (.if_icmp .le 5, 3) ∧ decode cX12_hoursGo 15 = .ok (.iconst 0, 1) ∧ decode cX12_hoursGo 16 = .ok (.ireturn, 1) := by decide +kernel
theorem e_X12_hoursGo_1 : decode cX12_hoursGo 17 = .ok (.iconst 0, 1) ∧ decode cX12_hoursGo 18 = .ok (.istore_n 2, 1) ∧ decode cX12_hoursGo 19 = .ok (.iload_n 2, 1) ∧ decode cX12_hoursGo 20 = .ok (.iload_n 1, 1) ∧ decode cX12_hoursGo 21 = .ok (.if_icmp .ge 25, 3) ∧ decode cX12_hoursGo 24 = .ok (.aload_n 0, 1) ∧ decode cX12_hoursGo 25 = .ok (.getfield 77, 3) ∧ decode cX12_hoursGo 28 = .ok (.iconst 3, 1) ∧ decode cX12_hoursGo 29 = .ok (.dup2, 1) ∧ decode cX12_hoursGo 30 = .ok (.iaload, 1) := by decide +kernel
theorem e_X12_hoursGo_2 : decode cX12_hoursGo 31 = .ok (.aload_n 0, 1) ∧ decode cX12_hoursGo 32 = .ok (.invokevirtual 397, 3) ∧ decode cX12_hoursGo 35 = .ok (.invokestatic 302, 3) ∧ decode cX12_hoursGo 38 = .ok (.iadd, 1) ∧ decode cX12_hoursGo 39 = .ok (.iastore, 1) ∧ decode cX12_hoursGo 40 = .ok (.iinc 2 1, 3) ∧ decode cX12_hoursGo 43 = .ok (.goto (-24), 3) ∧ decode cX12_hoursGo 46 = .ok (.aload_n 0, 1) ∧ decode cX12_hoursGo 47 = .ok (.getfield 77, 3) ∧ decode cX12_hoursGo 50 = .ok (.iconst 1, 1) := by decide +kernel
theorem e_X12_hoursGo_3 : decode cX12_hoursGo 51 = .ok (.dup2, 1) ∧ decode cX12_hoursGo 52 = .ok (.iaload, 1) ∧ decode cX12_hoursGo 53 = .ok (.iload_n 1, 1) ∧ decode cX12_hoursGo 54 = .ok (.iadd, 1) ∧ decode cX12_hoursGo 55 = .ok (.iastore, 1) ∧ decode cX12_hoursGo 56 = .ok (.iconst 1, 1) ∧ decode cX12_hoursGo 57 = .ok (.ireturn, 1) := by decide +kernel
abbrev E_X12_hoursGo_19 (G : Kg) (l1 l2 : Int) (σ : Kmem) (Q : Int → Kmem → Prop) : Prop := Ex G WM M_X12_hoursGo 9 0 0 19 [(0, vA G 0), (1, vI l1), (2, vI l2)] [] σ Q
theorem S_X12_hoursGo {G : Kg} {σ : Kmem} {Q : Int → Kmem → Prop} {l1 : Int}  (h : (rI ((σ 1 7) + l1)) ∧ (((σ 1 7) + l1 ≤ 9999 → E_X12_hoursGo_19 G l1 0 σ Q) ∧ (9999 < (σ 1 7) + l1 → Q 0 σ))) : Run G WM M_X12_hoursGo 9 0 0 [vA G 0, vI l1] σ Q := by
  refine Run.of (by decide +kernel) (by show (2 : Nat) ≤ 3; decide) ?_
  show Ex G WM M_X12_hoursGo 9 0 0 0 [(0, vA G 0), (1, vI l1)] [] σ Q
  refine R_aload_n e_X12_hoursGo_0.1 0 rfl ?_
  refine R_getA 12 0 1 e_X12_hoursGo_0.2.1 f_X12_7 km_0 (fun _ _ => rfl) rm_0_0 (by decide) ?_
  refine R_bipush e_X12_hoursGo_0.2.2.1 (by decide) ?_
  refine R_iald 3598 e_X12_hoursGo_0.2.2.2.1 kma_1 (by decide) ?_
  refine R_iload_n e_X12_hoursGo_0.2.2.2.2.1 1 rfl ?_
  refine R_iadd e_X12_hoursGo_0.2.2.2.2.2.1 ?_
  refine R_sipush e_X12_hoursGo_0.2.2.2.2.2.2.1 (by decide) ?_
  obtain ⟨q1, h⟩ := h
  refine R_icmp_le 17 e_X12_hoursGo_0.2.2.2.2.2.2.2.1 (by decide) q1 (by decide) (fun q => ?_) (fun q => ?_)
  · replace h := h.1 q
    refine R_iconst e_X12_hoursGo_1.1 ?_
    refine R_istore_n (ls2 := [(2, vI 0), (0, vA G 0), (1, vI l1)]) e_X12_hoursGo_1.2.1 (by decide) rfl ?_
    refine R_ls (ls2 := [(0, vA G 0), (1, vI l1), (2, vI 0)]) [1, 2, 0] rfl ?_
    exact h
  · replace h := h.2 q
    refine R_iconst e_X12_hoursGo_0.2.2.2.2.2.2.2.2.1 ?_
    exact R_zreturn e_X12_hoursGo_0.2.2.2.2.2.2.2.2.2 rfl (Or.inl rfl) h
theorem S_X12_hoursGo_19 {G : Kg} {σ : Kmem} {Q : Int → Kmem → Prop} {l1 l2 : Int}  (h : (rI l2) ∧ (rI l1) ∧ ((l1 ≤ l2 → Q 1 (kup σ 19 1 ((σ 19 1) + l1))) ∧ (l2 < l1 → Run G WM M_X12_goesBy 8 0 0 [vA G 0] σ (fun r4 s5 => Run G WM M_X12_bits 0 0 0 [vI r4] s5 (fun r6 s7 => E_X12_hoursGo_19 G l1 (l2 + 1) (kup s7 19 3 ((σ 19 3) + r6)) Q))))) : E_X12_hoursGo_19 G l1 l2 σ Q := by
  refine R_iload_n e_X12_hoursGo_1.2.2.1 2 rfl ?_
  refine R_iload_n e_X12_hoursGo_1.2.2.2.1 1 rfl ?_
  obtain ⟨q2, h⟩ := h
  obtain ⟨q3, h⟩ := h
  refine R_icmp_ge 46 e_X12_hoursGo_1.2.2.2.2.1 (by decide) q2 q3 (fun q => ?_) (fun q => ?_)
  · replace h := h.1 q
    refine R_aload_n e_X12_hoursGo_2.2.2.2.2.2.2.2.1 0 rfl ?_
    refine R_getA 12 38 19 e_X12_hoursGo_2.2.2.2.2.2.2.2.2.1 f_X12_77 km_0 (fun _ _ => rfl) rm_0_38 (by decide) ?_
    refine R_iconst e_X12_hoursGo_2.2.2.2.2.2.2.2.2.2 ?_
    refine R_dup2 e_X12_hoursGo_3.1 rfl rfl ?_
    refine R_iald 5 e_X12_hoursGo_3.2.1 kma_19 (by decide) ?_
    refine R_iload_n e_X12_hoursGo_3.2.2.1 1 rfl ?_
    refine R_iadd e_X12_hoursGo_3.2.2.2.1 ?_
    refine R_iast 5 WM_ok e_X12_hoursGo_3.2.2.2.2.1 kma_19 (by decide) ?_
    refine R_iconst e_X12_hoursGo_3.2.2.2.2.2.1 ?_
    exact R_zreturn e_X12_hoursGo_3.2.2.2.2.2.2 rfl (Or.inr rfl) h
  · replace h := h.2 q
    refine R_aload_n e_X12_hoursGo_1.2.2.2.2.2.1 0 rfl ?_
    refine R_getA 12 38 19 e_X12_hoursGo_1.2.2.2.2.2.2.1 f_X12_77 km_0 (fun _ _ => rfl) rm_0_38 (by decide) ?_
    refine R_iconst e_X12_hoursGo_1.2.2.2.2.2.2.2.1 ?_
    refine R_dup2 e_X12_hoursGo_1.2.2.2.2.2.2.2.2.1 rfl rfl ?_
    refine R_iald 5 e_X12_hoursGo_1.2.2.2.2.2.2.2.2.2 kma_19 (by decide) ?_
    refine R_aload_n e_X12_hoursGo_2.1 0 rfl ?_
    refine R_callV (mc := 0) (ms := 0) (mc' := 0) (ms' := 0) (M' := M_X12_goesBy) (d' := 8) (as := []) (st := [vI (σ 19 3), vI 3, vA G 19]) 12 0 e_X12_hoursGo_2.2.1 (kCVof m_X12_goesBy l_X12_397) rfl (by decide) km_0 (by decide) (by decide) rfl rfl (by show (3 : Nat) ≤ 8; decide) ?_
    refine Run.mono h (fun r4 s5 h => ?_)
    refine R_eqs (st2 := [vI r4, vI (σ 19 3), vI 3, vA G 19]) rfl rfl ?_
    refine R_callS (mc := 0) (ms := 0) (mc' := 0) (ms' := 0) (M' := M_X12_bits) (d' := 0) (as := [vI r4]) (st := [vI (σ 19 3), vI 3, vA G 19]) 1 e_X12_hoursGo_2.2.2.1 (kCSof m_X12_bits l_X12_302) (by decide) (by decide) rfl rfl (by show (3 : Nat) ≤ 8; decide) ?_
    refine Run.mono h (fun r6 s7 h => ?_)
    refine R_eqs (st2 := [vI r6, vI (σ 19 3), vI 3, vA G 19]) rfl rfl ?_
    refine R_iadd e_X12_hoursGo_2.2.2.2.1 ?_
    refine R_iast 5 WM_ok e_X12_hoursGo_2.2.2.2.2.1 kma_19 (by decide) ?_
    refine R_iinc (ls2 := [(2, vI (l2 + 1)), (0, vA G 0), (1, vI l1)]) e_X12_hoursGo_2.2.2.2.2.2.1 2 rfl (by decide) rfl ?_
    refine R_goto 19 e_X12_hoursGo_2.2.2.2.2.2.2.1 (by decide) ?_
    refine R_ls (ls2 := [(0, vA G 0), (1, vI l1), (2, vI (l2 + 1))]) [1, 2, 0] rfl ?_
    exact h
/-! KiteLandModel.does(I)Z -/
theorem e_X12_does_0 : decode cX12_does 0 = .ok (.aload_n 0, 1) ∧ decode cX12_does 1 = .ok (.getfield 7, 3) ∧ decode cX12_does 4 = .ok (.iload_n 1, 1) ∧ decode cX12_does 5 = .ok (.iconst 1, 1) ∧ decode cX12_does 6 = .ok (.iadd, 1) ∧ decode cX12_does 7 = .ok (.iaload, 1) ∧ decode cX12_does 8 = .ok (.istore_n 2, 1) ∧ decode cX12_does 9 = .ok (.aload_n 0, 1) ∧ decode cX12_does 10 = .ok (.getfield 7, 3) ∧ decode cX12_does 13 = .ok (.iload_n 1, 1) := by decide +kernel
theorem e_X12_does_1 : decode cX12_does 14 = .ok (.iaload, 1) ∧ decode cX12_does 15 = .ok (.tableswitch 80 15 19 #[33, 39, 53, 60, 67], 33) ∧ decode cX12_does 48 = .ok (.aload_n 0, 1) ∧ decode cX12_does 49 = .ok (.iload_n 2, 1) ∧ decode cX12_does 50 = .ok (.invokevirtual 503, 3) ∧ decode cX12_does 53 = .ok (.ireturn, 1) ∧ decode cX12_does 54 = .ok (.aload_n 0, 1) ∧ decode cX12_does 55 = .ok (.iload_n 2, 1) ∧ decode cX12_does 56 = .ok (.aload_n 0, 1) ∧ decode cX12_does 57 = .ok (.getfield 7, 3) := by decide +kernel
theorem e_X12_does_2 : decode cX12_does 60 = .ok (.iload_n 1, 1) ∧ decode cX12_does 61 = .ok (.iconst 2, 1) ∧ decode cX12_does 62 = .ok (.iadd, 1) ∧ decode cX12_does 63 = .ok (.iaload, 1) ∧ decode cX12_does 64 = .ok (.invokevirtual 506, 3) ∧ decode cX12_does 67 = .ok (.ireturn, 1) ∧ decode cX12_does 68 = .ok (.aload_n 0, 1) ∧ decode cX12_does 69 = .ok (.iload_n 2, 1) ∧ decode cX12_does 70 = .ok (.iconst 1, 1) ∧ decode cX12_does 71 = .ok (.invokevirtual 405, 3) := by decide +kernel
theorem e_X12_does_3 : decode cX12_does 74 = .ok (.ireturn, 1) ∧ decode cX12_does 75 = .ok (.aload_n 0, 1) ∧ decode cX12_does 76 = .ok (.iload_n 2, 1) ∧ decode cX12_does 77 = .ok (.iconst 0, 1) ∧ decode cX12_does 78 = .ok (.invokevirtual 405, 3) ∧ decode cX12_does 81 = .ok (.ireturn, 1) ∧ decode cX12_does 82 = .ok (.aload_n 0, 1) ∧ decode cX12_does 83 = .ok (.iload_n 2, 1) ∧ decode cX12_does 84 = .ok (.aload_n 0, 1) ∧ decode cX12_does 85 = .ok (.iconst 4, 1) := by decide +kernel
theorem e_X12_does_4 : decode cX12_does 86 = .ok (.invokevirtual 509, 3) ∧ decode cX12_does 89 = .ok (.iconst 1, 1) ∧ decode cX12_does 90 = .ok (.iadd, 1) ∧ decode cX12_does 91 = .ok (.invokevirtual 506, 3) ∧ decode cX12_does 94 = .ok (.ireturn, 1) ∧ decode cX12_does 95 = .ok (.iconst 1, 1) ∧ decode cX12_does 96 = .ok (.ireturn, 1) := by decide +kernel
theorem S_X12_does {G : Kg} {σ : Kmem} {Q : Int → Kmem → Prop} {l1 : Int}  (h : (0 ≤ l1 + 1 ∧ l1 + 1 < 3598) ∧ (0 ≤ l1 ∧ l1 < 3598) ∧ (rI (σ 1 l1)) ∧ ((σ 1 l1 = 15 → Run G WM M_X12_hoursGo 9 0 0 [vA G 0, vI (σ 1 (l1 + 1))] σ (fun r4 s5 => (r4 = 0 ∨ r4 = 1) ∧ Q r4 s5)) ∧ (σ 1 l1 = 16 → (0 ≤ l1 + 2 ∧ l1 + 2 < 3598) ∧ Run G WM M_X12_walksBy 3 0 0 [vA G 0, vI (σ 1 (l1 + 1)), vI (σ 1 (l1 + 2))] σ (fun r8 s9 => (r8 = 0 ∨ r8 = 1) ∧ Q r8 s9)) ∧ (σ 1 l1 = 17 → Run G WM M_X12_turnsCut 3 0 0 [vA G 0, vI (σ 1 (l1 + 1)), vI 1] σ (fun r11 s12 => (r11 = 0 ∨ r11 = 1) ∧ Q r11 s12)) ∧ (σ 1 l1 = 18 → Run G WM M_X12_turnsCut 3 0 0 [vA G 0, vI (σ 1 (l1 + 1)), vI 0] σ (fun r14 s15 => (r14 = 0 ∨ r14 = 1) ∧ Q r14 s15)) ∧ (σ 1 l1 = 19 → Run G WM M_X12_draw 0 0 0 [vA G 0, vI 4] σ (fun r17 s18 => Run G WM M_X12_walksBy 3 0 0 [vA G 0, vI (σ 1 (l1 + 1)), vI (r17 + 1)] s18 (fun r19 s20 => (r19 = 0 ∨ r19 = 1) ∧ Q r19 s20))) ∧ (σ 1 l1 < 15 ∨ 19 < σ 1 l1 → Q 1 σ))) : Run G WM M_X12_does 10 0 0 [vA G 0, vI l1] σ Q := by
  refine Run.of (by decide +kernel) (by show (2 : Nat) ≤ 3; decide) ?_
  show Ex G WM M_X12_does 10 0 0 0 [(0, vA G 0), (1, vI l1)] [] σ Q
  refine R_aload_n e_X12_does_0.1 0 rfl ?_
  refine R_getA 12 0 1 e_X12_does_0.2.1 f_X12_7 km_0 (fun _ _ => rfl) rm_0_0 (by decide) ?_
  refine R_iload_n e_X12_does_0.2.2.1 1 rfl ?_
  refine R_iconst e_X12_does_0.2.2.2.1 ?_
  refine R_iadd e_X12_does_0.2.2.2.2.1 ?_
  obtain ⟨q1, h⟩ := h
  refine R_iald 3598 e_X12_does_0.2.2.2.2.2.1 kma_1 q1 ?_
  refine R_istore_n (ls2 := [(2, vI (σ 1 (l1 + 1))), (0, vA G 0), (1, vI l1)]) e_X12_does_0.2.2.2.2.2.2.1 (by decide) rfl ?_
  refine R_aload_n e_X12_does_0.2.2.2.2.2.2.2.1 1 rfl ?_
  refine R_getA 12 0 1 e_X12_does_0.2.2.2.2.2.2.2.2.1 f_X12_7 km_0 (fun _ _ => rfl) rm_0_0 (by decide) ?_
  refine R_iload_n e_X12_does_0.2.2.2.2.2.2.2.2.2 2 rfl ?_
  obtain ⟨q2, h⟩ := h
  refine R_iald 3598 e_X12_does_1.1 kma_1 q2 ?_
  obtain ⟨q3, h⟩ := h
  by_cases t15 : σ 1 l1 = 15
  · refine R_tableIn 48 e_X12_does_1.2.1 q3 (by omega) (by omega) (off := 33) (by rw [t15]; rfl) (by decide) ?_
    replace h := h.1 t15
    refine R_aload_n e_X12_does_1.2.2.1 1 rfl ?_
    refine R_iload_n e_X12_does_1.2.2.2.1 0 rfl ?_
    refine R_callV (mc := 0) (ms := 0) (mc' := 0) (ms' := 0) (M' := M_X12_hoursGo) (d' := 9) (as := [vI (σ 1 (l1 + 1))]) (st := []) 12 1 e_X12_does_1.2.2.2.2.1 (kCVof m_X12_hoursGo l_X12_503) rfl (by decide) km_0 (by decide) (by decide) rfl rfl (by show (0 : Nat) ≤ 8; decide) ?_
    refine Run.mono h (fun r4 s5 h => ?_)
    refine R_eqs (st2 := [vI r4]) rfl rfl ?_
    obtain ⟨q6, h⟩ := h
    exact R_zreturn e_X12_does_1.2.2.2.2.2.1 rfl q6 h
  by_cases t16 : σ 1 l1 = 16
  · refine R_tableIn 54 e_X12_does_1.2.1 q3 (by omega) (by omega) (off := 39) (by rw [t16]; rfl) (by decide) ?_
    replace h := h.2.1 t16
    refine R_aload_n e_X12_does_1.2.2.2.2.2.2.1 1 rfl ?_
    refine R_iload_n e_X12_does_1.2.2.2.2.2.2.2.1 0 rfl ?_
    refine R_aload_n e_X12_does_1.2.2.2.2.2.2.2.2.1 1 rfl ?_
    refine R_getA 12 0 1 e_X12_does_1.2.2.2.2.2.2.2.2.2 f_X12_7 km_0 (fun _ _ => rfl) rm_0_0 (by decide) ?_
    refine R_iload_n e_X12_does_2.1 2 rfl ?_
    refine R_iconst e_X12_does_2.2.1 ?_
    refine R_iadd e_X12_does_2.2.2.1 ?_
    obtain ⟨q7, h⟩ := h
    refine R_iald 3598 e_X12_does_2.2.2.2.1 kma_1 q7 ?_
    refine R_callV (mc := 0) (ms := 0) (mc' := 0) (ms' := 0) (M' := M_X12_walksBy) (d' := 3) (as := [vI (σ 1 (l1 + 1)), vI (σ 1 (l1 + 2))]) (st := []) 12 2 e_X12_does_2.2.2.2.2.1 (kCVof m_X12_walksBy l_X12_506) rfl (by decide) km_0 (by decide) (by decide) rfl rfl (by show (0 : Nat) ≤ 8; decide) ?_
    refine Run.mono h (fun r8 s9 h => ?_)
    refine R_eqs (st2 := [vI r8]) rfl rfl ?_
    obtain ⟨q10, h⟩ := h
    exact R_zreturn e_X12_does_2.2.2.2.2.2.1 rfl q10 h
  by_cases t17 : σ 1 l1 = 17
  · refine R_tableIn 68 e_X12_does_1.2.1 q3 (by omega) (by omega) (off := 53) (by rw [t17]; rfl) (by decide) ?_
    replace h := h.2.2.1 t17
    refine R_aload_n e_X12_does_2.2.2.2.2.2.2.1 1 rfl ?_
    refine R_iload_n e_X12_does_2.2.2.2.2.2.2.2.1 0 rfl ?_
    refine R_iconst e_X12_does_2.2.2.2.2.2.2.2.2.1 ?_
    refine R_callV (mc := 0) (ms := 0) (mc' := 0) (ms' := 0) (M' := M_X12_turnsCut) (d' := 3) (as := [vI (σ 1 (l1 + 1)), vI 1]) (st := []) 12 2 e_X12_does_2.2.2.2.2.2.2.2.2.2 (kCVof m_X12_turnsCut l_X12_405) rfl (by decide) km_0 (by decide) (by decide) rfl rfl (by show (0 : Nat) ≤ 8; decide) ?_
    refine Run.mono h (fun r11 s12 h => ?_)
    refine R_eqs (st2 := [vI r11]) rfl rfl ?_
    obtain ⟨q13, h⟩ := h
    exact R_zreturn e_X12_does_3.1 rfl q13 h
  by_cases t18 : σ 1 l1 = 18
  · refine R_tableIn 75 e_X12_does_1.2.1 q3 (by omega) (by omega) (off := 60) (by rw [t18]; rfl) (by decide) ?_
    replace h := h.2.2.2.1 t18
    refine R_aload_n e_X12_does_3.2.1 1 rfl ?_
    refine R_iload_n e_X12_does_3.2.2.1 0 rfl ?_
    refine R_iconst e_X12_does_3.2.2.2.1 ?_
    refine R_callV (mc := 0) (ms := 0) (mc' := 0) (ms' := 0) (M' := M_X12_turnsCut) (d' := 3) (as := [vI (σ 1 (l1 + 1)), vI 0]) (st := []) 12 2 e_X12_does_3.2.2.2.2.1 (kCVof m_X12_turnsCut l_X12_405) rfl (by decide) km_0 (by decide) (by decide) rfl rfl (by show (0 : Nat) ≤ 8; decide) ?_
    refine Run.mono h (fun r14 s15 h => ?_)
    refine R_eqs (st2 := [vI r14]) rfl rfl ?_
    obtain ⟨q16, h⟩ := h
    exact R_zreturn e_X12_does_3.2.2.2.2.2.1 rfl q16 h
  by_cases t19 : σ 1 l1 = 19
  · refine R_tableIn 82 e_X12_does_1.2.1 q3 (by omega) (by omega) (off := 67) (by rw [t19]; rfl) (by decide) ?_
    replace h := h.2.2.2.2.1 t19
    refine R_aload_n e_X12_does_3.2.2.2.2.2.2.1 1 rfl ?_
    refine R_iload_n e_X12_does_3.2.2.2.2.2.2.2.1 0 rfl ?_
    refine R_aload_n e_X12_does_3.2.2.2.2.2.2.2.2.1 1 rfl ?_
    refine R_iconst e_X12_does_3.2.2.2.2.2.2.2.2.2 ?_
    refine R_callV (mc := 0) (ms := 0) (mc' := 0) (ms' := 0) (M' := M_X12_draw) (d' := 0) (as := [vI 4]) (st := [vI (σ 1 (l1 + 1)), vA G 0]) 12 1 e_X12_does_4.1 (kCVof m_X12_draw l_X12_509) rfl (by decide) km_0 (by decide) (by decide) rfl rfl (by show (2 : Nat) ≤ 8; decide) ?_
    refine Run.mono h (fun r17 s18 h => ?_)
    refine R_eqs (st2 := [vI r17, vI (σ 1 (l1 + 1)), vA G 0]) rfl rfl ?_
    refine R_iconst e_X12_does_4.2.1 ?_
    refine R_iadd e_X12_does_4.2.2.1 ?_
    refine R_callV (mc := 0) (ms := 0) (mc' := 0) (ms' := 0) (M' := M_X12_walksBy) (d' := 3) (as := [vI (σ 1 (l1 + 1)), vI (r17 + 1)]) (st := []) 12 2 e_X12_does_4.2.2.2.1 (kCVof m_X12_walksBy l_X12_506) rfl (by decide) km_0 (by decide) (by decide) rfl rfl (by show (0 : Nat) ≤ 8; decide) ?_
    refine Run.mono h (fun r19 s20 h => ?_)
    refine R_eqs (st2 := [vI r19]) rfl rfl ?_
    obtain ⟨q21, h⟩ := h
    exact R_zreturn e_X12_does_4.2.2.2.2.1 rfl q21 h
  refine R_tableOut 95 e_X12_does_1.2.1 q3 (by omega) (by decide) ?_
  replace h := h.2.2.2.2.2 (by omega)
  refine R_iconst e_X12_does_4.2.2.2.2.2.1 ?_
  exact R_zreturn e_X12_does_4.2.2.2.2.2.2 rfl (Or.inr rfl) h
/-! KiteLandModel.holds(I)Z -/
theorem e_X12_holds_0 : decode cX12_holds 0 = .ok (.aload_n 0, 1) ∧ decode cX12_holds 1 = .ok (.getfield 7, 3) ∧ decode cX12_holds 4 = .ok (.iload_n 1, 1) ∧ decode cX12_holds 5 = .ok (.iaload, 1) ∧ decode cX12_holds 6 = .ok (.sipush 2000, 3) ∧ decode cX12_holds 9 = .ok (.isub, 1) ∧ decode cX12_holds 10 = .ok (.istore_n 2, 1) ∧ decode cX12_holds 11 = .ok (.aload_n 0, 1) ∧ decode cX12_holds 12 = .ok (.getfield 7, 3) ∧ decode cX12_holds 15 = .ok (.iload_n 1, 1) := by decide +kernel
theorem e_X12_holds_1 : decode cX12_holds 16 = .ok (.iconst 1, 1) ∧ decode cX12_holds 17 = .ok (.iadd, 1) ∧ decode cX12_holds 18 = .ok (.iaload, 1) ∧ decode cX12_holds 19 = .ok (.istore_n 3, 1) ∧ decode cX12_holds 20 = .ok (.iload_n 2, 1) ∧ decode cX12_holds 21 = .ok (.bipush 25, 2) ∧ decode cX12_holds 23 = .ok (.if_icmp .ne 9, 3) ∧ decode cX12_holds 26 = .ok (.aload_n 0, 1) ∧ decode cX12_holds 27 = .ok (.iload_n 3, 1) ∧ decode cX12_holds 28 = .ok (.invokevirtual 331, 3) := by decide +kernel
theorem e_X12_holds_2 : decode cX12_holds 31 = .ok (.ireturn, 1) ∧ decode cX12_holds 32 = .ok (.iload_n 2, 1) ∧ decode cX12_holds 33 = .ok (.bipush 26, 2) ∧ decode cX12_holds 35 = .ok (.if_icmp .ne 13, 3) ∧ decode cX12_holds 38 = .ok (.aload_n 0, 1) ∧ decode cX12_holds 39 = .ok (.iload_n 3, 1) ∧ decode cX12_holds 40 = .ok (.aload_n 0, 1) ∧ decode cX12_holds 41 = .ok (.invokevirtual 325, 3) ∧ decode cX12_holds 44 = .ok (.invokevirtual 319, 3) ∧ decode cX12_holds 47 = .ok (.ireturn, 1) := by decide +kernel
theorem e_X12_holds_3 : decode cX12_holds 48 = .ok (.aload_n 0, 1) ∧ decode cX12_holds 49 = .ok (.iload_n 3, 1) ∧ decode cX12_holds 50 = .ok (.iconst 5, 1) ∧ decode cX12_holds 51 = .ok (.invokevirtual 268, 3) ∧ decode cX12_holds 54 = .ok (.istore 4, 2) ∧ decode cX12_holds 56 = .ok (.aload_n 0, 1) ∧ decode cX12_holds 57 = .ok (.getfield 7, 3) ∧ decode cX12_holds 60 = .ok (.iload_n 1, 1) ∧ decode cX12_holds 61 = .ok (.iconst 5, 1) ∧ decode cX12_holds 62 = .ok (.iadd, 1) := by decide +kernel
theorem e_X12_holds_4 : decode cX12_holds 63 = .ok (.iaload, 1) ∧ decode cX12_holds 64 = .ok (.bipush 60, 2) ∧ decode cX12_holds 66 = .ok (.if_icmp .ne 24, 3) ∧ decode cX12_holds 69 = .ok (.iload 4, 2) ∧ decode cX12_holds 71 = .ok (.aload_n 0, 1) ∧ decode cX12_holds 72 = .ok (.getfield 7, 3) ∧ decode cX12_holds 75 = .ok (.iload_n 1, 1) ∧ decode cX12_holds 76 = .ok (.iconst 2, 1) ∧ decode cX12_holds 77 = .ok (.iadd, 1) ∧ decode cX12_holds 78 = .ok (.iaload, 1) := by decide +kernel
theorem e_X12_holds_5 : decode cX12_holds 79 = .ok (.if_icmp .ge 7, 3) ∧ decode cX12_holds 82 = .ok (.iconst 1, 1) ∧ decode cX12_holds 83 = .ok (.goto 59, 3) ∧ decode cX12_holds 86 = .ok (.iconst 0, 1) ∧ decode cX12_holds 87 = .ok (.goto 55, 3) ∧ decode cX12_holds 90 = .ok (.aload_n 0, 1) ∧ decode cX12_holds 91 = .ok (.getfield 7, 3) ∧ decode cX12_holds 94 = .ok (.iload_n 1, 1) ∧ decode cX12_holds 95 = .ok (.iconst 5, 1) ∧ decode cX12_holds 96 = .ok (.iadd, 1) := by decide +kernel
theorem e_X12_holds_6 : decode cX12_holds 97 = .ok (.iaload, 1) ∧ decode cX12_holds 98 = .ok (.bipush 62, 2) ∧ decode cX12_holds 100 = .ok (.if_icmp .ne 24, 3) ∧ decode cX12_holds 103 = .ok (.iload 4, 2) ∧ decode cX12_holds 105 = .ok (.aload_n 0, 1) ∧ decode cX12_holds 106 = .ok (.getfield 7, 3) ∧ decode cX12_holds 109 = .ok (.iload_n 1, 1) ∧ decode cX12_holds 110 = .ok (.iconst 2, 1) ∧ decode cX12_holds 111 = .ok (.iadd, 1) ∧ decode cX12_holds 112 = .ok (.iaload, 1) := by decide +kernel
theorem e_X12_holds_7 : decode cX12_holds 113 = .ok (.if_icmp .le 7, 3) ∧ decode cX12_holds 116 = .ok (.iconst 1, 1) ∧ decode cX12_holds 117 = .ok (.goto 25, 3) ∧ decode cX12_holds 120 = .ok (.iconst 0, 1) ∧ decode cX12_holds 121 = .ok (.goto 21, 3) ∧ decode cX12_holds 124 = .ok (.iload 4, 2) ∧ decode cX12_holds 126 = .ok (.aload_n 0, 1) ∧ decode cX12_holds 127 = .ok (.getfield 7, 3) ∧ decode cX12_holds 130 = .ok (.iload_n 1, 1) ∧ decode cX12_holds 131 = .ok (.iconst 2, 1) := by decide +kernel
theorem e_X12_holds_8 : decode cX12_holds 132 = .ok (.iadd, 1) ∧ decode cX12_holds 133 = .ok (.iaload, 1) ∧ decode cX12_holds 134 = .ok (.if_icmp .ne 7, 3) ∧ decode cX12_holds 137 = .ok (.iconst 1, 1) ∧ decode cX12_holds 138 = .ok (.goto 4, 3) ∧ decode cX12_holds 141 = .ok (.iconst 0, 1) ∧ decode cX12_holds 142 = .ok (.ireturn, 1) := by decide +kernel
theorem S_X12_holds {G : Kg} {σ : Kmem} {Q : Int → Kmem → Prop} {l1 : Int}  (h : (0 ≤ l1 ∧ l1 < 3598) ∧ (0 ≤ l1 + 1 ∧ l1 + 1 < 3598) ∧ (rI ((σ 1 l1) - 2000)) ∧ (((σ 1 l1) - 2000 ≠ 25 → (((σ 1 l1) - 2000 ≠ 26 → Run G WM M_X12_of 1 0 0 [vA G 0, vI (σ 1 (l1 + 1)), vI 5] σ (fun r4 s5 => (0 ≤ l1 + 5 ∧ l1 + 5 < 3598) ∧ (rI (s5 1 (l1 + 5))) ∧ ((s5 1 (l1 + 5) ≠ 60 → (0 ≤ l1 + 5 ∧ l1 + 5 < 3598) ∧ ((s5 1 (l1 + 5) ≠ 62 → (0 ≤ l1 + 2 ∧ l1 + 2 < 3598) ∧ (rI r4) ∧ (rI (s5 1 (l1 + 2))) ∧ ((r4 ≠ s5 1 (l1 + 2) → Q 0 s5) ∧ (r4 = s5 1 (l1 + 2) → Q 1 s5))) ∧ (s5 1 (l1 + 5) = 62 → (0 ≤ l1 + 2 ∧ l1 + 2 < 3598) ∧ (rI r4) ∧ (rI (s5 1 (l1 + 2))) ∧ ((r4 ≤ s5 1 (l1 + 2) → Q 0 s5) ∧ (s5 1 (l1 + 2) < r4 → Q 1 s5))))) ∧ (s5 1 (l1 + 5) = 60 → (0 ≤ l1 + 2 ∧ l1 + 2 < 3598) ∧ (rI r4) ∧ (rI (s5 1 (l1 + 2))) ∧ ((s5 1 (l1 + 2) ≤ r4 → Q 0 s5) ∧ (r4 < s5 1 (l1 + 2) → Q 1 s5)))))) ∧ ((σ 1 l1) - 2000 = 26 → Run G WM M_X12_now 0 0 0 [vA G 0] σ (fun r18 s19 => Run G WM M_X12_isUp 3 0 0 [vA G 0, vI (σ 1 (l1 + 1)), vI r18] s19 (fun r20 s21 => (r20 = 0 ∨ r20 = 1) ∧ Q r20 s21))))) ∧ ((σ 1 l1) - 2000 = 25 → Run G WM M_X12_isRipe 1 0 0 [vA G 0, vI (σ 1 (l1 + 1))] σ (fun r23 s24 => (r23 = 0 ∨ r23 = 1) ∧ Q r23 s24)))) : Run G WM M_X12_holds 4 0 0 [vA G 0, vI l1] σ Q := by
  refine Run.of (by decide +kernel) (by show (2 : Nat) ≤ 5; decide) ?_
  show Ex G WM M_X12_holds 4 0 0 0 [(0, vA G 0), (1, vI l1)] [] σ Q
  refine R_aload_n e_X12_holds_0.1 0 rfl ?_
  refine R_getA 12 0 1 e_X12_holds_0.2.1 f_X12_7 km_0 (fun _ _ => rfl) rm_0_0 (by decide) ?_
  refine R_iload_n e_X12_holds_0.2.2.1 1 rfl ?_
  obtain ⟨q1, h⟩ := h
  refine R_iald 3598 e_X12_holds_0.2.2.2.1 kma_1 q1 ?_
  refine R_sipush e_X12_holds_0.2.2.2.2.1 (by decide) ?_
  refine R_isub e_X12_holds_0.2.2.2.2.2.1 ?_
  refine R_istore_n (ls2 := [(2, vI ((σ 1 l1) - 2000)), (0, vA G 0), (1, vI l1)]) e_X12_holds_0.2.2.2.2.2.2.1 (by decide) rfl ?_
  refine R_aload_n e_X12_holds_0.2.2.2.2.2.2.2.1 1 rfl ?_
  refine R_getA 12 0 1 e_X12_holds_0.2.2.2.2.2.2.2.2.1 f_X12_7 km_0 (fun _ _ => rfl) rm_0_0 (by decide) ?_
  refine R_iload_n e_X12_holds_0.2.2.2.2.2.2.2.2.2 2 rfl ?_
  refine R_iconst e_X12_holds_1.1 ?_
  refine R_iadd e_X12_holds_1.2.1 ?_
  obtain ⟨q2, h⟩ := h
  refine R_iald 3598 e_X12_holds_1.2.2.1 kma_1 q2 ?_
  refine R_istore_n (ls2 := [(3, vI (σ 1 (l1 + 1))), (2, vI ((σ 1 l1) - 2000)), (0, vA G 0), (1, vI l1)]) e_X12_holds_1.2.2.2.1 (by decide) rfl ?_
  refine R_iload_n e_X12_holds_1.2.2.2.2.1 1 rfl ?_
  refine R_bipush e_X12_holds_1.2.2.2.2.2.1 (by decide) ?_
  obtain ⟨q3, h⟩ := h
  refine R_icmp_ne 32 e_X12_holds_1.2.2.2.2.2.2.1 (by decide) q3 (by decide) (fun q => ?_) (fun q => ?_)
  · replace h := h.1 q
    refine R_iload_n e_X12_holds_2.2.1 1 rfl ?_
    refine R_bipush e_X12_holds_2.2.2.1 (by decide) ?_
    refine R_icmp_ne 48 e_X12_holds_2.2.2.2.1 (by decide) q3 (by decide) (fun q => ?_) (fun q => ?_)
    · replace h := h.1 q
      refine R_aload_n e_X12_holds_3.1 2 rfl ?_
      refine R_iload_n e_X12_holds_3.2.1 0 rfl ?_
      refine R_iconst e_X12_holds_3.2.2.1 ?_
      refine R_callV (mc := 0) (ms := 0) (mc' := 0) (ms' := 0) (M' := M_X12_of) (d' := 1) (as := [vI (σ 1 (l1 + 1)), vI 5]) (st := []) 12 2 e_X12_holds_3.2.2.2.1 (kCVof m_X12_of l_X12_268) rfl (by decide) km_0 (by decide) (by decide) rfl rfl (by show (0 : Nat) ≤ 8; decide) ?_
      refine Run.mono h (fun r4 s5 h => ?_)
      refine R_eqs (st2 := [vI r4]) rfl rfl ?_
      refine R_istore (ls2 := [(4, vI r4), (3, vI (σ 1 (l1 + 1))), (2, vI ((σ 1 l1) - 2000)), (0, vA G 0), (1, vI l1)]) e_X12_holds_3.2.2.2.2.1 (by decide) rfl ?_
      refine R_aload_n e_X12_holds_3.2.2.2.2.2.1 3 rfl ?_
      refine R_getA 12 0 1 e_X12_holds_3.2.2.2.2.2.2.1 f_X12_7 km_0 (fun _ _ => rfl) rm_0_0 (by decide) ?_
      refine R_iload_n e_X12_holds_3.2.2.2.2.2.2.2.1 4 rfl ?_
      refine R_iconst e_X12_holds_3.2.2.2.2.2.2.2.2.1 ?_
      refine R_iadd e_X12_holds_3.2.2.2.2.2.2.2.2.2 ?_
      obtain ⟨q6, h⟩ := h
      refine R_iald 3598 e_X12_holds_4.1 kma_1 q6 ?_
      refine R_bipush e_X12_holds_4.2.1 (by decide) ?_
      obtain ⟨q7, h⟩ := h
      refine R_icmp_ne 90 e_X12_holds_4.2.2.1 (by decide) q7 (by decide) (fun q => ?_) (fun q => ?_)
      · replace h := h.1 q
        refine R_aload_n e_X12_holds_5.2.2.2.2.2.1 3 rfl ?_
        refine R_getA 12 0 1 e_X12_holds_5.2.2.2.2.2.2.1 f_X12_7 km_0 (fun _ _ => rfl) rm_0_0 (by decide) ?_
        refine R_iload_n e_X12_holds_5.2.2.2.2.2.2.2.1 4 rfl ?_
        refine R_iconst e_X12_holds_5.2.2.2.2.2.2.2.2.1 ?_
        refine R_iadd e_X12_holds_5.2.2.2.2.2.2.2.2.2 ?_
        obtain ⟨q8, h⟩ := h
        refine R_iald 3598 e_X12_holds_6.1 kma_1 q8 ?_
        refine R_bipush e_X12_holds_6.2.1 (by decide) ?_
        refine R_icmp_ne 124 e_X12_holds_6.2.2.1 (by decide) q7 (by decide) (fun q => ?_) (fun q => ?_)
        · replace h := h.1 q
          refine R_iload e_X12_holds_7.2.2.2.2.2.1 0 rfl ?_
          refine R_aload_n e_X12_holds_7.2.2.2.2.2.2.1 3 rfl ?_
          refine R_getA 12 0 1 e_X12_holds_7.2.2.2.2.2.2.2.1 f_X12_7 km_0 (fun _ _ => rfl) rm_0_0 (by decide) ?_
          refine R_iload_n e_X12_holds_7.2.2.2.2.2.2.2.2.1 4 rfl ?_
          refine R_iconst e_X12_holds_7.2.2.2.2.2.2.2.2.2 ?_
          refine R_iadd e_X12_holds_8.1 ?_
          obtain ⟨q9, h⟩ := h
          refine R_iald 3598 e_X12_holds_8.2.1 kma_1 q9 ?_
          obtain ⟨q10, h⟩ := h
          obtain ⟨q11, h⟩ := h
          refine R_icmp_ne 141 e_X12_holds_8.2.2.1 (by decide) q10 q11 (fun q => ?_) (fun q => ?_)
          · replace h := h.1 q
            refine R_iconst e_X12_holds_8.2.2.2.2.2.1 ?_
            exact R_zreturn e_X12_holds_8.2.2.2.2.2.2 rfl (Or.inl rfl) h
          · replace h := h.2 q
            refine R_iconst e_X12_holds_8.2.2.2.1 ?_
            refine R_goto 142 e_X12_holds_8.2.2.2.2.1 (by decide) ?_
            exact R_zreturn e_X12_holds_8.2.2.2.2.2.2 rfl (Or.inr rfl) h
        · replace h := h.2 q
          refine R_iload e_X12_holds_6.2.2.2.1 0 rfl ?_
          refine R_aload_n e_X12_holds_6.2.2.2.2.1 3 rfl ?_
          refine R_getA 12 0 1 e_X12_holds_6.2.2.2.2.2.1 f_X12_7 km_0 (fun _ _ => rfl) rm_0_0 (by decide) ?_
          refine R_iload_n e_X12_holds_6.2.2.2.2.2.2.1 4 rfl ?_
          refine R_iconst e_X12_holds_6.2.2.2.2.2.2.2.1 ?_
          refine R_iadd e_X12_holds_6.2.2.2.2.2.2.2.2.1 ?_
          obtain ⟨q12, h⟩ := h
          refine R_iald 3598 e_X12_holds_6.2.2.2.2.2.2.2.2.2 kma_1 q12 ?_
          obtain ⟨q13, h⟩ := h
          obtain ⟨q14, h⟩ := h
          refine R_icmp_le 120 e_X12_holds_7.1 (by decide) q13 q14 (fun q => ?_) (fun q => ?_)
          · replace h := h.1 q
            refine R_iconst e_X12_holds_7.2.2.2.1 ?_
            refine R_goto 142 e_X12_holds_7.2.2.2.2.1 (by decide) ?_
            exact R_zreturn e_X12_holds_8.2.2.2.2.2.2 rfl (Or.inl rfl) h
          · replace h := h.2 q
            refine R_iconst e_X12_holds_7.2.1 ?_
            refine R_goto 142 e_X12_holds_7.2.2.1 (by decide) ?_
            exact R_zreturn e_X12_holds_8.2.2.2.2.2.2 rfl (Or.inr rfl) h
      · replace h := h.2 q
        refine R_iload e_X12_holds_4.2.2.2.1 0 rfl ?_
        refine R_aload_n e_X12_holds_4.2.2.2.2.1 3 rfl ?_
        refine R_getA 12 0 1 e_X12_holds_4.2.2.2.2.2.1 f_X12_7 km_0 (fun _ _ => rfl) rm_0_0 (by decide) ?_
        refine R_iload_n e_X12_holds_4.2.2.2.2.2.2.1 4 rfl ?_
        refine R_iconst e_X12_holds_4.2.2.2.2.2.2.2.1 ?_
        refine R_iadd e_X12_holds_4.2.2.2.2.2.2.2.2.1 ?_
        obtain ⟨q15, h⟩ := h
        refine R_iald 3598 e_X12_holds_4.2.2.2.2.2.2.2.2.2 kma_1 q15 ?_
        obtain ⟨q16, h⟩ := h
        obtain ⟨q17, h⟩ := h
        refine R_icmp_ge 86 e_X12_holds_5.1 (by decide) q16 q17 (fun q => ?_) (fun q => ?_)
        · replace h := h.1 q
          refine R_iconst e_X12_holds_5.2.2.2.1 ?_
          refine R_goto 142 e_X12_holds_5.2.2.2.2.1 (by decide) ?_
          exact R_zreturn e_X12_holds_8.2.2.2.2.2.2 rfl (Or.inl rfl) h
        · replace h := h.2 q
          refine R_iconst e_X12_holds_5.2.1 ?_
          refine R_goto 142 e_X12_holds_5.2.2.1 (by decide) ?_
          exact R_zreturn e_X12_holds_8.2.2.2.2.2.2 rfl (Or.inr rfl) h
    · replace h := h.2 q
      refine R_aload_n e_X12_holds_2.2.2.2.2.1 2 rfl ?_
      refine R_iload_n e_X12_holds_2.2.2.2.2.2.1 0 rfl ?_
      refine R_aload_n e_X12_holds_2.2.2.2.2.2.2.1 2 rfl ?_
      refine R_callV (mc := 0) (ms := 0) (mc' := 0) (ms' := 0) (M' := M_X12_now) (d' := 0) (as := []) (st := [vI (σ 1 (l1 + 1)), vA G 0]) 12 0 e_X12_holds_2.2.2.2.2.2.2.2.1 (kCVof m_X12_now l_X12_325) rfl (by decide) km_0 (by decide) (by decide) rfl rfl (by show (2 : Nat) ≤ 8; decide) ?_
      refine Run.mono h (fun r18 s19 h => ?_)
      refine R_eqs (st2 := [vI r18, vI (σ 1 (l1 + 1)), vA G 0]) rfl rfl ?_
      refine R_callV (mc := 0) (ms := 0) (mc' := 0) (ms' := 0) (M' := M_X12_isUp) (d' := 3) (as := [vI (σ 1 (l1 + 1)), vI r18]) (st := []) 12 2 e_X12_holds_2.2.2.2.2.2.2.2.2.1 (kCVof m_X12_isUp l_X12_319) rfl (by decide) km_0 (by decide) (by decide) rfl rfl (by show (0 : Nat) ≤ 8; decide) ?_
      refine Run.mono h (fun r20 s21 h => ?_)
      refine R_eqs (st2 := [vI r20]) rfl rfl ?_
      obtain ⟨q22, h⟩ := h
      exact R_zreturn e_X12_holds_2.2.2.2.2.2.2.2.2.2 rfl q22 h
  · replace h := h.2 q
    refine R_aload_n e_X12_holds_1.2.2.2.2.2.2.2.1 2 rfl ?_
    refine R_iload_n e_X12_holds_1.2.2.2.2.2.2.2.2.1 0 rfl ?_
    refine R_callV (mc := 0) (ms := 0) (mc' := 0) (ms' := 0) (M' := M_X12_isRipe) (d' := 1) (as := [vI (σ 1 (l1 + 1))]) (st := []) 12 1 e_X12_holds_1.2.2.2.2.2.2.2.2.2 (kCVof m_X12_isRipe l_X12_331) rfl (by decide) km_0 (by decide) (by decide) rfl rfl (by show (0 : Nat) ≤ 8; decide) ?_
    refine Run.mono h (fun r23 s24 h => ?_)
    refine R_eqs (st2 := [vI r23]) rfl rfl ?_
    obtain ⟨q25, h⟩ := h
    exact R_zreturn e_X12_holds_2.1 rfl q25 h
/-! KiteLandModel.behindEnds(I)I -/
theorem e_X12_behindEnds_0 : decode cX12_behindEnds 0 = .ok (.iload_n 1, 1) ∧ decode cX12_behindEnds 1 = .ok (.istore_n 2, 1) ∧ decode cX12_behindEnds 2 = .ok (.iload_n 2, 1) ∧ decode cX12_behindEnds 3 = .ok (.aload_n 0, 1) ∧ decode cX12_behindEnds 4 = .ok (.getfield 7, 3) ∧ decode cX12_behindEnds 7 = .ok (.bipush 8, 2) ∧ decode cX12_behindEnds 9 = .ok (.iaload, 1) ∧ decode cX12_behindEnds 10 = .ok (.if_icmp .ge 108, 3) ∧ decode cX12_behindEnds 13 = .ok (.aload_n 0, 1) ∧ decode cX12_behindEnds 14 = .ok (.getfield 7, 3) := by decide +kernel
theorem e_X12_behindEnds_1 : decode cX12_behindEnds 17 = .ok (.sipush 150, 3) ∧ decode cX12_behindEnds 20 = .ok (.bipush 6, 2) ∧ decode cX12_behindEnds 22 = .ok (.iload_n 2, 1) ∧ decode cX12_behindEnds 23 = .ok (.imul, 1) ∧ decode cX12_behindEnds 24 = .ok (.iadd, 1) ∧ decode cX12_behindEnds 25 = .ok (.iaload, 1) ∧ decode cX12_behindEnds 26 = .ok (.bipush 22, 2) ∧ decode cX12_behindEnds 28 = .ok (.if_icmp .ne 90, 3) ∧ decode cX12_behindEnds 31 = .ok (.aload_n 0, 1) ∧ decode cX12_behindEnds 32 = .ok (.getfield 7, 3) := by decide +kernel
theorem e_X12_behindEnds_2 : decode cX12_behindEnds 35 = .ok (.sipush 150, 3) ∧ decode cX12_behindEnds 38 = .ok (.bipush 6, 2) ∧ decode cX12_behindEnds 40 = .ok (.iload_n 2, 1) ∧ decode cX12_behindEnds 41 = .ok (.imul, 1) ∧ decode cX12_behindEnds 42 = .ok (.iadd, 1) ∧ decode cX12_behindEnds 43 = .ok (.iconst 4, 1) ∧ decode cX12_behindEnds 44 = .ok (.iadd, 1) ∧ decode cX12_behindEnds 45 = .ok (.iaload, 1) ∧ decode cX12_behindEnds 46 = .ok (.istore_n 3, 1) ∧ decode cX12_behindEnds 47 = .ok (.aload_n 0, 1) := by decide +kernel
theorem e_X12_behindEnds_3 : decode cX12_behindEnds 48 = .ok (.getfield 7, 3) ∧ decode cX12_behindEnds 51 = .ok (.sipush 150, 3) ∧ decode cX12_behindEnds 54 = .ok (.bipush 6, 2) ∧ decode cX12_behindEnds 56 = .ok (.iload_n 3, 1) ∧ decode cX12_behindEnds 57 = .ok (.imul, 1) ∧ decode cX12_behindEnds 58 = .ok (.iadd, 1) ∧ decode cX12_behindEnds 59 = .ok (.iaload, 1) ∧ decode cX12_behindEnds 60 = .ok (.bipush 21, 2) ∧ decode cX12_behindEnds 62 = .ok (.if_icmp .ne 16, 3) ∧ decode cX12_behindEnds 65 = .ok (.aload_n 0, 1) := by decide +kernel
theorem e_X12_behindEnds_4 : decode cX12_behindEnds 66 = .ok (.getfield 74, 3) ∧ decode cX12_behindEnds 69 = .ok (.iload_n 3, 1) ∧ decode cX12_behindEnds 70 = .ok (.iaload, 1) ∧ decode cX12_behindEnds 71 = .ok (.ifCond .le 7, 3) ∧ decode cX12_behindEnds 74 = .ok (.iconst 1, 1) ∧ decode cX12_behindEnds 75 = .ok (.goto 4, 3) ∧ decode cX12_behindEnds 78 = .ok (.iconst 0, 1) ∧ decode cX12_behindEnds 79 = .ok (.istore 4, 2) ∧ decode cX12_behindEnds 81 = .ok (.aload_n 0, 1) ∧ decode cX12_behindEnds 82 = .ok (.getfield 74, 3) := by decide +kernel
theorem e_X12_behindEnds_5 : decode cX12_behindEnds 85 = .ok (.iload_n 3, 1) ∧ decode cX12_behindEnds 86 = .ok (.dup2, 1) ∧ decode cX12_behindEnds 87 = .ok (.iaload, 1) ∧ decode cX12_behindEnds 88 = .ok (.iload 4, 2) ∧ decode cX12_behindEnds 90 = .ok (.ifCond .eq 7, 3) ∧ decode cX12_behindEnds 93 = .ok (.iconst 1, 1) ∧ decode cX12_behindEnds 94 = .ok (.goto 4, 3) ∧ decode cX12_behindEnds 97 = .ok (.iconst 0, 1) ∧ decode cX12_behindEnds 98 = .ok (.isub, 1) ∧ decode cX12_behindEnds 99 = .ok (.iastore, 1) := by decide +kernel
theorem e_X12_behindEnds_6 : decode cX12_behindEnds 100 = .ok (.iload 4, 2) ∧ decode cX12_behindEnds 102 = .ok (.ifCond .eq 9, 3) ∧ decode cX12_behindEnds 105 = .ok (.iload_n 3, 1) ∧ decode cX12_behindEnds 106 = .ok (.iconst 1, 1) ∧ decode cX12_behindEnds 107 = .ok (.iadd, 1) ∧ decode cX12_behindEnds 108 = .ok (.goto 6, 3) ∧ decode cX12_behindEnds 111 = .ok (.iload_n 2, 1) ∧ decode cX12_behindEnds 112 = .ok (.iconst 1, 1) ∧ decode cX12_behindEnds 113 = .ok (.iadd, 1) ∧ decode cX12_behindEnds 114 = .ok (.istore_n 2, 1) := by decide +kernel
theorem e_X12_behindEnds_7 : decode cX12_behindEnds 115 = .ok (.goto (-113), 3) ∧ decode cX12_behindEnds 118 = .ok (.iload_n 2, 1) ∧ decode cX12_behindEnds 119 = .ok (.ireturn, 1) := by decide +kernel
abbrev E_X12_behindEnds_2 (G : Kg) (l2 : Int) (σ : Kmem) (Q : Int → Kmem → Prop) : Prop := Ex G WM M_X12_behindEnds 0 0 0 2 [(0, vA G 0), (2, vI l2)] [] σ Q
abbrev E_X12_behindEnds_79 (G : Kg) (l2 l3 p0 : Int) (σ : Kmem) (Q : Int → Kmem → Prop) : Prop := Ex G WM M_X12_behindEnds 0 0 0 79 [(0, vA G 0), (2, vI l2), (3, vI l3)] [vI p0] σ Q
theorem S_X12_behindEnds {G : Kg} {σ : Kmem} {Q : Int → Kmem → Prop} {l1 : Int}  (h : E_X12_behindEnds_2 G l1 σ Q) : Run G WM M_X12_behindEnds 0 0 0 [vA G 0, vI l1] σ Q := by
  refine Run.of (by decide +kernel) (by show (2 : Nat) ≤ 5; decide) ?_
  show Ex G WM M_X12_behindEnds 0 0 0 0 [(0, vA G 0), (1, vI l1)] [] σ Q
  refine R_iload_n e_X12_behindEnds_0.1 1 rfl ?_
  refine R_istore_n (ls2 := [(2, vI l1), (0, vA G 0), (1, vI l1)]) e_X12_behindEnds_0.2.1 (by decide) rfl ?_
  refine R_ls (ls2 := [(0, vA G 0), (2, vI l1)]) [1, 0] rfl ?_
  exact h
theorem S_X12_behindEnds_2 {G : Kg} {σ : Kmem} {Q : Int → Kmem → Prop} {l1 l2 : Int}  (h : (rI l2) ∧ (rI (σ 1 8)) ∧ ((σ 1 8 ≤ l2 → Q l2 σ) ∧ (l2 < σ 1 8 → (0 ≤ 150 + (6 * l2) ∧ 150 + (6 * l2) < 3598) ∧ (rI (σ 1 (150 + (6 * l2)))) ∧ ((σ 1 (150 + (6 * l2)) ≠ 22 → Q l2 σ) ∧ (σ 1 (150 + (6 * l2)) = 22 → (0 ≤ (150 + (6 * l2)) + 4 ∧ (150 + (6 * l2)) + 4 < 3598) ∧ (0 ≤ 150 + (6 * (σ 1 ((150 + (6 * l2)) + 4))) ∧ 150 + (6 * (σ 1 ((150 + (6 * l2)) + 4))) < 3598) ∧ (rI (σ 1 (150 + (6 * (σ 1 ((150 + (6 * l2)) + 4)))))) ∧ ((σ 1 (150 + (6 * (σ 1 ((150 + (6 * l2)) + 4)))) ≠ 21 → E_X12_behindEnds_79 G l2 (σ 1 ((150 + (6 * l2)) + 4)) 0 σ Q) ∧ (σ 1 (150 + (6 * (σ 1 ((150 + (6 * l2)) + 4)))) = 21 → (0 ≤ σ 1 ((150 + (6 * l2)) + 4) ∧ σ 1 ((150 + (6 * l2)) + 4) < 80) ∧ (rI (σ 18 (σ 1 ((150 + (6 * l2)) + 4)))) ∧ ((σ 18 (σ 1 ((150 + (6 * l2)) + 4)) ≤ 0 → E_X12_behindEnds_79 G l2 (σ 1 ((150 + (6 * l2)) + 4)) 0 σ Q) ∧ (0 < σ 18 (σ 1 ((150 + (6 * l2)) + 4)) → E_X12_behindEnds_79 G l2 (σ 1 ((150 + (6 * l2)) + 4)) 1 σ Q))))))))) : E_X12_behindEnds_2 G l2 σ Q := by
  refine R_iload_n e_X12_behindEnds_0.2.2.1 1 rfl ?_
  refine R_aload_n e_X12_behindEnds_0.2.2.2.1 0 rfl ?_
  refine R_getA 12 0 1 e_X12_behindEnds_0.2.2.2.2.1 f_X12_7 km_0 (fun _ _ => rfl) rm_0_0 (by decide) ?_
  refine R_bipush e_X12_behindEnds_0.2.2.2.2.2.1 (by decide) ?_
  refine R_iald 3598 e_X12_behindEnds_0.2.2.2.2.2.2.1 kma_1 (by decide) ?_
  obtain ⟨q1, h⟩ := h
  obtain ⟨q2, h⟩ := h
  refine R_icmp_ge 118 e_X12_behindEnds_0.2.2.2.2.2.2.2.1 (by decide) q1 q2 (fun q => ?_) (fun q => ?_)
  · replace h := h.1 q
    refine R_iload_n e_X12_behindEnds_7.2.1 1 rfl ?_
    exact R_ireturn e_X12_behindEnds_7.2.2 rfl h
  · replace h := h.2 q
    refine R_aload_n e_X12_behindEnds_0.2.2.2.2.2.2.2.2.1 0 rfl ?_
    refine R_getA 12 0 1 e_X12_behindEnds_0.2.2.2.2.2.2.2.2.2 f_X12_7 km_0 (fun _ _ => rfl) rm_0_0 (by decide) ?_
    refine R_sipush e_X12_behindEnds_1.1 (by decide) ?_
    refine R_bipush e_X12_behindEnds_1.2.1 (by decide) ?_
    refine R_iload_n e_X12_behindEnds_1.2.2.1 1 rfl ?_
    refine R_imul e_X12_behindEnds_1.2.2.2.1 ?_
    refine R_iadd e_X12_behindEnds_1.2.2.2.2.1 ?_
    obtain ⟨q3, h⟩ := h
    refine R_iald 3598 e_X12_behindEnds_1.2.2.2.2.2.1 kma_1 q3 ?_
    refine R_bipush e_X12_behindEnds_1.2.2.2.2.2.2.1 (by decide) ?_
    obtain ⟨q4, h⟩ := h
    refine R_icmp_ne 118 e_X12_behindEnds_1.2.2.2.2.2.2.2.1 (by decide) q4 (by decide) (fun q => ?_) (fun q => ?_)
    · replace h := h.1 q
      refine R_iload_n e_X12_behindEnds_7.2.1 1 rfl ?_
      exact R_ireturn e_X12_behindEnds_7.2.2 rfl h
    · replace h := h.2 q
      refine R_aload_n e_X12_behindEnds_1.2.2.2.2.2.2.2.2.1 0 rfl ?_
      refine R_getA 12 0 1 e_X12_behindEnds_1.2.2.2.2.2.2.2.2.2 f_X12_7 km_0 (fun _ _ => rfl) rm_0_0 (by decide) ?_
      refine R_sipush e_X12_behindEnds_2.1 (by decide) ?_
      refine R_bipush e_X12_behindEnds_2.2.1 (by decide) ?_
      refine R_iload_n e_X12_behindEnds_2.2.2.1 1 rfl ?_
      refine R_imul e_X12_behindEnds_2.2.2.2.1 ?_
      refine R_iadd e_X12_behindEnds_2.2.2.2.2.1 ?_
      refine R_iconst e_X12_behindEnds_2.2.2.2.2.2.1 ?_
      refine R_iadd e_X12_behindEnds_2.2.2.2.2.2.2.1 ?_
      obtain ⟨q5, h⟩ := h
      refine R_iald 3598 e_X12_behindEnds_2.2.2.2.2.2.2.2.1 kma_1 q5 ?_
      refine R_istore_n (ls2 := [(3, vI (σ 1 ((150 + (6 * l2)) + 4))), (0, vA G 0), (2, vI l2)]) e_X12_behindEnds_2.2.2.2.2.2.2.2.2.1 (by decide) rfl ?_
      refine R_aload_n e_X12_behindEnds_2.2.2.2.2.2.2.2.2.2 1 rfl ?_
      refine R_getA 12 0 1 e_X12_behindEnds_3.1 f_X12_7 km_0 (fun _ _ => rfl) rm_0_0 (by decide) ?_
      refine R_sipush e_X12_behindEnds_3.2.1 (by decide) ?_
      refine R_bipush e_X12_behindEnds_3.2.2.1 (by decide) ?_
      refine R_iload_n e_X12_behindEnds_3.2.2.2.1 0 rfl ?_
      refine R_imul e_X12_behindEnds_3.2.2.2.2.1 ?_
      refine R_iadd e_X12_behindEnds_3.2.2.2.2.2.1 ?_
      obtain ⟨q6, h⟩ := h
      refine R_iald 3598 e_X12_behindEnds_3.2.2.2.2.2.2.1 kma_1 q6 ?_
      refine R_bipush e_X12_behindEnds_3.2.2.2.2.2.2.2.1 (by decide) ?_
      obtain ⟨q7, h⟩ := h
      refine R_icmp_ne 78 e_X12_behindEnds_3.2.2.2.2.2.2.2.2.1 (by decide) q7 (by decide) (fun q => ?_) (fun q => ?_)
      · replace h := h.1 q
        refine R_iconst e_X12_behindEnds_4.2.2.2.2.2.2.1 ?_
        refine R_ls (ls2 := [(0, vA G 0), (2, vI l2), (3, vI (σ 1 ((150 + (6 * l2)) + 4)))]) [1, 2, 0] rfl ?_
        exact h
      · replace h := h.2 q
        refine R_aload_n e_X12_behindEnds_3.2.2.2.2.2.2.2.2.2 1 rfl ?_
        refine R_getA 12 37 18 e_X12_behindEnds_4.1 f_X12_74 km_0 (fun _ _ => rfl) rm_0_37 (by decide) ?_
        refine R_iload_n e_X12_behindEnds_4.2.1 0 rfl ?_
        obtain ⟨q8, h⟩ := h
        refine R_iald 80 e_X12_behindEnds_4.2.2.1 kma_18 q8 ?_
        obtain ⟨q9, h⟩ := h
        refine R_if_le 78 e_X12_behindEnds_4.2.2.2.1 (by decide) q9  (fun q => ?_) (fun q => ?_)
        · replace h := h.1 q
          refine R_iconst e_X12_behindEnds_4.2.2.2.2.2.2.1 ?_
          refine R_ls (ls2 := [(0, vA G 0), (2, vI l2), (3, vI (σ 1 ((150 + (6 * l2)) + 4)))]) [1, 2, 0] rfl ?_
          exact h
        · replace h := h.2 q
          refine R_iconst e_X12_behindEnds_4.2.2.2.2.1 ?_
          refine R_goto 79 e_X12_behindEnds_4.2.2.2.2.2.1 (by decide) ?_
          refine R_ls (ls2 := [(0, vA G 0), (2, vI l2), (3, vI (σ 1 ((150 + (6 * l2)) + 4)))]) [1, 2, 0] rfl ?_
          exact h
theorem S_X12_behindEnds_79 {G : Kg} {σ : Kmem} {Q : Int → Kmem → Prop} {l1 l2 l3 p0 : Int}  (h : (0 ≤ l3 ∧ l3 < 80) ∧ (rI p0) ∧ ((p0 = 0 → (0 ≤ l3 ∧ l3 < 80) ∧ ((p0 = 0 → E_X12_behindEnds_2 G (l2 + 1) (kup σ 18 l3 ((σ 18 l3) - 0)) Q) ∧ (p0 ≠ 0 → E_X12_behindEnds_2 G (l3 + 1) (kup σ 18 l3 ((σ 18 l3) - 0)) Q))) ∧ (p0 ≠ 0 → (0 ≤ l3 ∧ l3 < 80) ∧ ((p0 = 0 → E_X12_behindEnds_2 G (l2 + 1) (kup σ 18 l3 ((σ 18 l3) - 1)) Q) ∧ (p0 ≠ 0 → E_X12_behindEnds_2 G (l3 + 1) (kup σ 18 l3 ((σ 18 l3) - 1)) Q))))) : E_X12_behindEnds_79 G l2 l3 p0 σ Q := by
  refine R_istore (ls2 := [(4, vI p0), (0, vA G 0), (2, vI l2), (3, vI l3)]) e_X12_behindEnds_4.2.2.2.2.2.2.2.1 (by decide) rfl ?_
  refine R_aload_n e_X12_behindEnds_4.2.2.2.2.2.2.2.2.1 1 rfl ?_
  refine R_getA 12 37 18 e_X12_behindEnds_4.2.2.2.2.2.2.2.2.2 f_X12_74 km_0 (fun _ _ => rfl) rm_0_37 (by decide) ?_
  refine R_iload_n e_X12_behindEnds_5.1 3 rfl ?_
  refine R_dup2 e_X12_behindEnds_5.2.1 rfl rfl ?_
  obtain ⟨q10, h⟩ := h
  refine R_iald 80 e_X12_behindEnds_5.2.2.1 kma_18 q10 ?_
  refine R_iload e_X12_behindEnds_5.2.2.2.1 0 rfl ?_
  obtain ⟨q11, h⟩ := h
  refine R_if_eq 97 e_X12_behindEnds_5.2.2.2.2.1 (by decide) q11  (fun q => ?_) (fun q => ?_)
  · replace h := h.1 q
    refine R_iconst e_X12_behindEnds_5.2.2.2.2.2.2.2.1 ?_
    refine R_isub e_X12_behindEnds_5.2.2.2.2.2.2.2.2.1 ?_
    obtain ⟨q12, h⟩ := h
    refine R_iast 80 WM_ok e_X12_behindEnds_5.2.2.2.2.2.2.2.2.2 kma_18 q12 ?_
    refine R_iload e_X12_behindEnds_6.1 0 rfl ?_
    refine R_if_eq 111 e_X12_behindEnds_6.2.1 (by decide) q11  (fun q => ?_) (fun q => ?_)
    · replace h := h.1 q
      refine R_iload_n e_X12_behindEnds_6.2.2.2.2.2.2.1 2 rfl ?_
      refine R_iconst e_X12_behindEnds_6.2.2.2.2.2.2.2.1 ?_
      refine R_iadd e_X12_behindEnds_6.2.2.2.2.2.2.2.2.1 ?_
      refine R_istore_n (ls2 := [(2, vI (l2 + 1)), (4, vI p0), (0, vA G 0), (3, vI l3)]) e_X12_behindEnds_6.2.2.2.2.2.2.2.2.2 (by decide) rfl ?_
      refine R_goto 2 e_X12_behindEnds_7.1 (by decide) ?_
      refine R_ls (ls2 := [(0, vA G 0), (2, vI (l2 + 1))]) [2, 0] rfl ?_
      exact h
    · replace h := h.2 q
      refine R_iload_n e_X12_behindEnds_6.2.2.1 3 rfl ?_
      refine R_iconst e_X12_behindEnds_6.2.2.2.1 ?_
      refine R_iadd e_X12_behindEnds_6.2.2.2.2.1 ?_
      refine R_goto 114 e_X12_behindEnds_6.2.2.2.2.2.1 (by decide) ?_
      refine R_istore_n (ls2 := [(2, vI (l3 + 1)), (4, vI p0), (0, vA G 0), (3, vI l3)]) e_X12_behindEnds_6.2.2.2.2.2.2.2.2.2 (by decide) rfl ?_
      refine R_goto 2 e_X12_behindEnds_7.1 (by decide) ?_
      refine R_ls (ls2 := [(0, vA G 0), (2, vI (l3 + 1))]) [2, 0] rfl ?_
      exact h
  · replace h := h.2 q
    refine R_iconst e_X12_behindEnds_5.2.2.2.2.2.1 ?_
    refine R_goto 98 e_X12_behindEnds_5.2.2.2.2.2.2.1 (by decide) ?_
    refine R_isub e_X12_behindEnds_5.2.2.2.2.2.2.2.2.1 ?_
    obtain ⟨q13, h⟩ := h
    refine R_iast 80 WM_ok e_X12_behindEnds_5.2.2.2.2.2.2.2.2.2 kma_18 q13 ?_
    refine R_iload e_X12_behindEnds_6.1 0 rfl ?_
    refine R_if_eq 111 e_X12_behindEnds_6.2.1 (by decide) q11  (fun q => ?_) (fun q => ?_)
    · replace h := h.1 q
      refine R_iload_n e_X12_behindEnds_6.2.2.2.2.2.2.1 2 rfl ?_
      refine R_iconst e_X12_behindEnds_6.2.2.2.2.2.2.2.1 ?_
      refine R_iadd e_X12_behindEnds_6.2.2.2.2.2.2.2.2.1 ?_
      refine R_istore_n (ls2 := [(2, vI (l2 + 1)), (4, vI p0), (0, vA G 0), (3, vI l3)]) e_X12_behindEnds_6.2.2.2.2.2.2.2.2.2 (by decide) rfl ?_
      refine R_goto 2 e_X12_behindEnds_7.1 (by decide) ?_
      refine R_ls (ls2 := [(0, vA G 0), (2, vI (l2 + 1))]) [2, 0] rfl ?_
      exact h
    · replace h := h.2 q
      refine R_iload_n e_X12_behindEnds_6.2.2.1 3 rfl ?_
      refine R_iconst e_X12_behindEnds_6.2.2.2.1 ?_
      refine R_iadd e_X12_behindEnds_6.2.2.2.2.1 ?_
      refine R_goto 114 e_X12_behindEnds_6.2.2.2.2.2.1 (by decide) ?_
      refine R_istore_n (ls2 := [(2, vI (l3 + 1)), (4, vI p0), (0, vA G 0), (3, vI l3)]) e_X12_behindEnds_6.2.2.2.2.2.2.2.2.2 (by decide) rfl ?_
      refine R_goto 2 e_X12_behindEnds_7.1 (by decide) ?_
      refine R_ls (ls2 := [(0, vA G 0), (2, vI (l3 + 1))]) [2, 0] rfl ?_
      exact h
/-! KiteLandModel.lives(I)V -/
theorem e_X12_lives_0 : decode cX12_lives 0 = .ok (.aload_n 0, 1) ∧ decode cX12_lives 1 = .ok (.iload_n 1, 1) ∧ decode cX12_lives 2 = .ok (.putfield 499, 3) ∧ decode cX12_lives 5 = .ok (.aload_n 0, 1) ∧ decode cX12_lives 6 = .ok (.iconst 0, 1) ∧ decode cX12_lives 7 = .ok (.putfield 512, 3) ∧ decode cX12_lives 10 = .ok (.iconst 0, 1) ∧ decode cX12_lives 11 = .ok (.istore_n 2, 1) ∧ decode cX12_lives 12 = .ok (.iload_n 2, 1) ∧ decode cX12_lives 13 = .ok (.iconst 5, 1) := by decide +kernel
theorem e_X12_lives_1 : decode cX12_lives 14 = .ok (.if_icmp .ge 16, 3) ∧ decode cX12_lives 17 = .ok (.aload_n 0, 1) ∧ decode cX12_lives 18 = .ok (.getfield 77, 3) ∧ decode cX12_lives 21 = .ok (.iload_n 2, 1) ∧ decode cX12_lives 22 = .ok (.iconst 0, 1) ∧ decode cX12_lives 23 = .ok (.iastore, 1) ∧ decode cX12_lives 24 = .ok (.iinc 2 1, 3) ∧ decode cX12_lives 27 = .ok (.goto (-15), 3) ∧ decode cX12_lives 30 = .ok (.iconst 0, 1) ∧ decode cX12_lives 31 = .ok (.istore_n 2, 1) := by decide +kernel
theorem e_X12_lives_2 : decode cX12_lives 32 = .ok (.iload_n 2, 1) ∧ decode cX12_lives 33 = .ok (.aload_n 0, 1) ∧ decode cX12_lives 34 = .ok (.getfield 7, 3) ∧ decode cX12_lives 37 = .ok (.bipush 8, 2) ∧ decode cX12_lives 39 = .ok (.iaload, 1) ∧ decode cX12_lives 40 = .ok (.if_icmp .ge 145, 3) ∧ decode cX12_lives 43 = .ok (.aload_n 0, 1) ∧ decode cX12_lives 44 = .ok (.getfield 512, 3) ∧ decode cX12_lives 47 = .ok (.sipush 300, 3) ∧ decode cX12_lives 50 = .ok (.if_icmp .ne 11, 3) := by decide +kernel
theorem e_X12_lives_3 : decode cX12_lives 53 = .ok (.aload_n 0, 1) ∧ decode cX12_lives 54 = .ok (.getfield 77, 3) ∧ decode cX12_lives 57 = .ok (.iconst 4, 1) ∧ decode cX12_lives 58 = .ok (.iconst 1, 1) ∧ decode cX12_lives 59 = .ok (.iastore, 1) ∧ decode cX12_lives 60 = .ok (.return_, 1) ∧ decode cX12_lives 61 = .ok (.sipush 150, 3) ∧ decode cX12_lives 64 = .ok (.bipush 6, 2) ∧ decode cX12_lives 66 = .ok (.iload_n 2, 1) ∧ decode cX12_lives 67 = .ok (.imul, 1) := by decide +kernel
theorem e_X12_lives_4 : decode cX12_lives 68 = .ok (.iadd, 1) ∧ decode cX12_lives 69 = .ok (.istore_n 3, 1) ∧ decode cX12_lives 70 = .ok (.aload_n 0, 1) ∧ decode cX12_lives 71 = .ok (.dup, 1) ∧ decode cX12_lives 72 = .ok (.getfield 512, 3) ∧ decode cX12_lives 75 = .ok (.iconst 1, 1) ∧ decode cX12_lives 76 = .ok (.iadd, 1) ∧ decode cX12_lives 77 = .ok (.putfield 512, 3) ∧ decode cX12_lives 80 = .ok (.aload_n 0, 1) ∧ decode cX12_lives 81 = .ok (.getfield 7, 3) := by decide +kernel
theorem e_X12_lives_5 : decode cX12_lives 84 = .ok (.iload_n 3, 1) ∧ decode cX12_lives 85 = .ok (.iaload, 1) ∧ decode cX12_lives 86 = .ok (.bipush 23, 2) ∧ decode cX12_lives 88 = .ok (.if_icmp .ne 4, 3) ∧ decode cX12_lives 91 = .ok (.return_, 1) ∧ decode cX12_lives 92 = .ok (.aload_n 0, 1) ∧ decode cX12_lives 93 = .ok (.getfield 77, 3) ∧ decode cX12_lives 96 = .ok (.iconst 0, 1) ∧ decode cX12_lives 97 = .ok (.dup2, 1) ∧ decode cX12_lives 98 = .ok (.iaload, 1) := by decide +kernel
theorem e_X12_lives_6 : decode cX12_lives 99 = .ok (.aload_n 0, 1) ∧ decode cX12_lives 100 = .ok (.iload_n 3, 1) ∧ decode cX12_lives 101 = .ok (.invokevirtual 515, 3) ∧ decode cX12_lives 104 = .ok (.ifCond .eq 7, 3) ∧ decode cX12_lives 107 = .ok (.iconst 0, 1) ∧ decode cX12_lives 108 = .ok (.goto 4, 3) ∧ decode cX12_lives 111 = .ok (.iconst 1, 1) ∧ decode cX12_lives 112 = .ok (.iadd, 1) ∧ decode cX12_lives 113 = .ok (.iastore, 1) ∧ decode cX12_lives 114 = .ok (.aload_n 0, 1) := by decide +kernel
theorem e_X12_lives_7 : decode cX12_lives 115 = .ok (.getfield 7, 3) ∧ decode cX12_lives 118 = .ok (.iload_n 3, 1) ∧ decode cX12_lives 119 = .ok (.iaload, 1) ∧ decode cX12_lives 120 = .ok (.bipush 21, 2) ∧ decode cX12_lives 122 = .ok (.if_icmp .ne 19, 3) ∧ decode cX12_lives 125 = .ok (.aload_n 0, 1) ∧ decode cX12_lives 126 = .ok (.getfield 74, 3) ∧ decode cX12_lives 129 = .ok (.iload_n 2, 1) ∧ decode cX12_lives 130 = .ok (.aload_n 0, 1) ∧ decode cX12_lives 131 = .ok (.getfield 7, 3) := by decide +kernel
theorem e_X12_lives_8 : decode cX12_lives 134 = .ok (.iload_n 3, 1) ∧ decode cX12_lives 135 = .ok (.iconst 1, 1) ∧ decode cX12_lives 136 = .ok (.iadd, 1) ∧ decode cX12_lives 137 = .ok (.iaload, 1) ∧ decode cX12_lives 138 = .ok (.iconst 1, 1) ∧ decode cX12_lives 139 = .ok (.isub, 1) ∧ decode cX12_lives 140 = .ok (.iastore, 1) ∧ decode cX12_lives 141 = .ok (.aload_n 0, 1) ∧ decode cX12_lives 142 = .ok (.aload_n 0, 1) ∧ decode cX12_lives 143 = .ok (.getfield 7, 3) := by decide +kernel
theorem e_X12_lives_9 : decode cX12_lives 146 = .ok (.iload_n 3, 1) ∧ decode cX12_lives 147 = .ok (.iaload, 1) ∧ decode cX12_lives 148 = .ok (.sipush 2000, 3) ∧ decode cX12_lives 151 = .ok (.if_icmp .lt 24, 3) ∧ decode cX12_lives 154 = .ok (.aload_n 0, 1) ∧ decode cX12_lives 155 = .ok (.iload_n 3, 1) ∧ decode cX12_lives 156 = .ok (.invokevirtual 518, 3) ∧ decode cX12_lives 159 = .ok (.ifCond .ne 16, 3) ∧ decode cX12_lives 162 = .ok (.aload_n 0, 1) ∧ decode cX12_lives 163 = .ok (.getfield 7, 3) := by decide +kernel
theorem e_X12_lives_10 : decode cX12_lives 166 = .ok (.iload_n 3, 1) ∧ decode cX12_lives 167 = .ok (.iconst 4, 1) ∧ decode cX12_lives 168 = .ok (.iadd, 1) ∧ decode cX12_lives 169 = .ok (.iaload, 1) ∧ decode cX12_lives 170 = .ok (.iconst 1, 1) ∧ decode cX12_lives 171 = .ok (.iadd, 1) ∧ decode cX12_lives 172 = .ok (.goto 6, 3) ∧ decode cX12_lives 175 = .ok (.iload_n 2, 1) ∧ decode cX12_lives 176 = .ok (.iconst 1, 1) ∧ decode cX12_lives 177 = .ok (.iadd, 1) := by decide +kernel
theorem e_X12_lives_11 : decode cX12_lives 178 = .ok (.invokevirtual 521, 3) ∧ decode cX12_lives 181 = .ok (.istore_n 2, 1) ∧ decode cX12_lives 182 = .ok (.goto (-150), 3) ∧ decode cX12_lives 185 = .ok (.return_, 1) := by decide +kernel
abbrev E_X12_lives_12 (G : Kg) (l2 : Int) (σ : Kmem) (Q : Int → Kmem → Prop) : Prop := Ex G WM M_X12_lives 11 0 0 12 [(0, vA G 0), (2, vI l2)] [] σ Q
abbrev E_X12_lives_32 (G : Kg) (l2 : Int) (σ : Kmem) (Q : Int → Kmem → Prop) : Prop := Ex G WM M_X12_lives 11 0 0 32 [(0, vA G 0), (2, vI l2)] [] σ Q
abbrev E_X12_lives_141 (G : Kg) (l2 l3 : Int) (σ : Kmem) (Q : Int → Kmem → Prop) : Prop := Ex G WM M_X12_lives 11 0 0 141 [(0, vA G 0), (2, vI l2), (3, vI l3)] [] σ Q
theorem S_X12_lives {G : Kg} {σ : Kmem} {Q : Int → Kmem → Prop} {l1 : Int}  (h : E_X12_lives_12 G 0 (kup (kup σ 0 35 l1) 0 36 0) Q) : Run G WM M_X12_lives 11 0 0 [vA G 0, vI l1] σ Q := by
  refine Run.of (by decide +kernel) (by show (2 : Nat) ≤ 4; decide) ?_
  show Ex G WM M_X12_lives 11 0 0 0 [(0, vA G 0), (1, vI l1)] [] σ Q
  refine R_aload_n e_X12_lives_0.1 0 rfl ?_
  refine R_iload_n e_X12_lives_0.2.1 1 rfl ?_
  refine R_putI 12 35 35 WM_ok e_X12_lives_0.2.2.1 f_X12_499 km_0 rfl rfl rfl ?_
  refine R_aload_n e_X12_lives_0.2.2.2.1 0 rfl ?_
  refine R_iconst e_X12_lives_0.2.2.2.2.1 ?_
  refine R_putI 12 36 36 WM_ok e_X12_lives_0.2.2.2.2.2.1 f_X12_512 km_0 rfl rfl rfl ?_
  refine R_iconst e_X12_lives_0.2.2.2.2.2.2.1 ?_
  refine R_istore_n (ls2 := [(2, vI 0), (0, vA G 0), (1, vI l1)]) e_X12_lives_0.2.2.2.2.2.2.2.1 (by decide) rfl ?_
  refine R_ls (ls2 := [(0, vA G 0), (2, vI 0)]) [1, 0] rfl ?_
  exact h
theorem S_X12_lives_12 {G : Kg} {σ : Kmem} {Q : Int → Kmem → Prop} {l1 l2 : Int}  (h : (rI l2) ∧ ((5 ≤ l2 → E_X12_lives_32 G 0 σ Q) ∧ (l2 < 5 → (0 ≤ l2 ∧ l2 < 5) ∧ E_X12_lives_12 G (l2 + 1) (kup σ 19 l2 0) Q))) : E_X12_lives_12 G l2 σ Q := by
  refine R_iload_n e_X12_lives_0.2.2.2.2.2.2.2.2.1 1 rfl ?_
  refine R_iconst e_X12_lives_0.2.2.2.2.2.2.2.2.2 ?_
  obtain ⟨q1, h⟩ := h
  refine R_icmp_ge 30 e_X12_lives_1.1 (by decide) q1 (by decide) (fun q => ?_) (fun q => ?_)
  · replace h := h.1 q
    refine R_iconst e_X12_lives_1.2.2.2.2.2.2.2.2.1 ?_
    refine R_istore_n (ls2 := [(2, vI 0), (0, vA G 0)]) e_X12_lives_1.2.2.2.2.2.2.2.2.2 (by decide) rfl ?_
    refine R_ls (ls2 := [(0, vA G 0), (2, vI 0)]) [1, 0] rfl ?_
    exact h
  · replace h := h.2 q
    refine R_aload_n e_X12_lives_1.2.1 0 rfl ?_
    refine R_getA 12 38 19 e_X12_lives_1.2.2.1 f_X12_77 km_0 (fun _ _ => rfl) rm_0_38 (by decide) ?_
    refine R_iload_n e_X12_lives_1.2.2.2.1 1 rfl ?_
    refine R_iconst e_X12_lives_1.2.2.2.2.1 ?_
    obtain ⟨q2, h⟩ := h
    refine R_iast 5 WM_ok e_X12_lives_1.2.2.2.2.2.1 kma_19 q2 ?_
    refine R_iinc (ls2 := [(2, vI (l2 + 1)), (0, vA G 0)]) e_X12_lives_1.2.2.2.2.2.2.1 1 rfl (by decide) rfl ?_
    refine R_goto 12 e_X12_lives_1.2.2.2.2.2.2.2.1 (by decide) ?_
    refine R_ls (ls2 := [(0, vA G 0), (2, vI (l2 + 1))]) [1, 0] rfl ?_
    exact h
theorem S_X12_lives_32 {G : Kg} {σ : Kmem} {Q : Int → Kmem → Prop} {l1 l2 : Int}  (h : (rI l2) ∧ (rI (σ 1 8)) ∧ ((σ 1 8 ≤ l2 → Q 0 σ) ∧ (l2 < σ 1 8 → (rI (σ 0 36)) ∧ ((σ 0 36 ≠ 300 → (0 ≤ 150 + (6 * l2) ∧ 150 + (6 * l2) < 3598) ∧ (rI ((kup σ 0 36 ((σ 0 36) + 1)) 1 (150 + (6 * l2)))) ∧ (((kup σ 0 36 ((σ 0 36) + 1)) 1 (150 + (6 * l2)) ≠ 23 → Run G WM M_X12_does 10 0 0 [vA G 0, vI (150 + (6 * l2))] (kup σ 0 36 ((σ 0 36) + 1)) (fun r8 s9 => (rI r8) ∧ ((r8 = 0 → (0 ≤ 150 + (6 * l2) ∧ 150 + (6 * l2) < 3598) ∧ (rI ((kup s9 19 0 (((kup σ 0 36 ((σ 0 36) + 1)) 19 0) + 1)) 1 (150 + (6 * l2)))) ∧ (((kup s9 19 0 (((kup σ 0 36 ((σ 0 36) + 1)) 19 0) + 1)) 1 (150 + (6 * l2)) ≠ 21 → E_X12_lives_141 G l2 (150 + (6 * l2)) (kup s9 19 0 (((kup σ 0 36 ((σ 0 36) + 1)) 19 0) + 1)) Q) ∧ ((kup s9 19 0 (((kup σ 0 36 ((σ 0 36) + 1)) 19 0) + 1)) 1 (150 + (6 * l2)) = 21 → (0 ≤ (150 + (6 * l2)) + 1 ∧ (150 + (6 * l2)) + 1 < 3598) ∧ (0 ≤ l2 ∧ l2 < 80) ∧ E_X12_lives_141 G l2 (150 + (6 * l2)) (kup (kup s9 19 0 (((kup σ 0 36 ((σ 0 36) + 1)) 19 0) + 1)) 18 l2 (((kup s9 19 0 (((kup σ 0 36 ((σ 0 36) + 1)) 19 0) + 1)) 1 ((150 + (6 * l2)) + 1)) - 1)) Q))) ∧ (r8 ≠ 0 → (0 ≤ 150 + (6 * l2) ∧ 150 + (6 * l2) < 3598) ∧ (rI ((kup s9 19 0 (((kup σ 0 36 ((σ 0 36) + 1)) 19 0) + 0)) 1 (150 + (6 * l2)))) ∧ (((kup s9 19 0 (((kup σ 0 36 ((σ 0 36) + 1)) 19 0) + 0)) 1 (150 + (6 * l2)) ≠ 21 → E_X12_lives_141 G l2 (150 + (6 * l2)) (kup s9 19 0 (((kup σ 0 36 ((σ 0 36) + 1)) 19 0) + 0)) Q) ∧ ((kup s9 19 0 (((kup σ 0 36 ((σ 0 36) + 1)) 19 0) + 0)) 1 (150 + (6 * l2)) = 21 → (0 ≤ (150 + (6 * l2)) + 1 ∧ (150 + (6 * l2)) + 1 < 3598) ∧ (0 ≤ l2 ∧ l2 < 80) ∧ E_X12_lives_141 G l2 (150 + (6 * l2)) (kup (kup s9 19 0 (((kup σ 0 36 ((σ 0 36) + 1)) 19 0) + 0)) 18 l2 (((kup s9 19 0 (((kup σ 0 36 ((σ 0 36) + 1)) 19 0) + 0)) 1 ((150 + (6 * l2)) + 1)) - 1)) Q)))))) ∧ ((kup σ 0 36 ((σ 0 36) + 1)) 1 (150 + (6 * l2)) = 23 → Q 0 (kup σ 0 36 ((σ 0 36) + 1))))) ∧ (σ 0 36 = 300 → Q 0 (kup σ 19 4 1)))))) : E_X12_lives_32 G l2 σ Q := by
  refine R_iload_n e_X12_lives_2.1 1 rfl ?_
  refine R_aload_n e_X12_lives_2.2.1 0 rfl ?_
  refine R_getA 12 0 1 e_X12_lives_2.2.2.1 f_X12_7 km_0 (fun _ _ => rfl) rm_0_0 (by decide) ?_
  refine R_bipush e_X12_lives_2.2.2.2.1 (by decide) ?_
  refine R_iald 3598 e_X12_lives_2.2.2.2.2.1 kma_1 (by decide) ?_
  obtain ⟨q3, h⟩ := h
  obtain ⟨q4, h⟩ := h
  refine R_icmp_ge 185 e_X12_lives_2.2.2.2.2.2.1 (by decide) q3 q4 (fun q => ?_) (fun q => ?_)
  · replace h := h.1 q
    exact R_return e_X12_lives_11.2.2.2 rfl h
  · replace h := h.2 q
    refine R_aload_n e_X12_lives_2.2.2.2.2.2.2.1 0 rfl ?_
    refine R_getI 12 36 36 e_X12_lives_2.2.2.2.2.2.2.2.1 f_X12_512 km_0 (fun _ _ => rfl) rfl ?_
    refine R_sipush e_X12_lives_2.2.2.2.2.2.2.2.2.1 (by decide) ?_
    obtain ⟨q5, h⟩ := h
    refine R_icmp_ne 61 e_X12_lives_2.2.2.2.2.2.2.2.2.2 (by decide) q5 (by decide) (fun q => ?_) (fun q => ?_)
    · replace h := h.1 q
      refine R_sipush e_X12_lives_3.2.2.2.2.2.2.1 (by decide) ?_
      refine R_bipush e_X12_lives_3.2.2.2.2.2.2.2.1 (by decide) ?_
      refine R_iload_n e_X12_lives_3.2.2.2.2.2.2.2.2.1 1 rfl ?_
      refine R_imul e_X12_lives_3.2.2.2.2.2.2.2.2.2 ?_
      refine R_iadd e_X12_lives_4.1 ?_
      refine R_istore_n (ls2 := [(3, vI (150 + (6 * l2))), (0, vA G 0), (2, vI l2)]) e_X12_lives_4.2.1 (by decide) rfl ?_
      refine R_aload_n e_X12_lives_4.2.2.1 1 rfl ?_
      refine R_dup e_X12_lives_4.2.2.2.1 rfl ?_
      refine R_getI 12 36 36 e_X12_lives_4.2.2.2.2.1 f_X12_512 km_0 (fun _ _ => rfl) rfl ?_
      refine R_iconst e_X12_lives_4.2.2.2.2.2.1 ?_
      refine R_iadd e_X12_lives_4.2.2.2.2.2.2.1 ?_
      refine R_putI 12 36 36 WM_ok e_X12_lives_4.2.2.2.2.2.2.2.1 f_X12_512 km_0 rfl rfl rfl ?_
      refine R_aload_n e_X12_lives_4.2.2.2.2.2.2.2.2.1 1 rfl ?_
      refine R_getA 12 0 1 e_X12_lives_4.2.2.2.2.2.2.2.2.2 f_X12_7 km_0 (fun _ _ => rfl) rm_0_0 (by decide) ?_
      refine R_iload_n e_X12_lives_5.1 0 rfl ?_
      obtain ⟨q6, h⟩ := h
      refine R_iald 3598 e_X12_lives_5.2.1 kma_1 q6 ?_
      refine R_bipush e_X12_lives_5.2.2.1 (by decide) ?_
      obtain ⟨q7, h⟩ := h
      refine R_icmp_ne 92 e_X12_lives_5.2.2.2.1 (by decide) q7 (by decide) (fun q => ?_) (fun q => ?_)
      · replace h := h.1 q
        refine R_aload_n e_X12_lives_5.2.2.2.2.2.1 1 rfl ?_
        refine R_getA 12 38 19 e_X12_lives_5.2.2.2.2.2.2.1 f_X12_77 km_0 (fun _ _ => rfl) rm_0_38 (by decide) ?_
        refine R_iconst e_X12_lives_5.2.2.2.2.2.2.2.1 ?_
        refine R_dup2 e_X12_lives_5.2.2.2.2.2.2.2.2.1 rfl rfl ?_
        refine R_iald 5 e_X12_lives_5.2.2.2.2.2.2.2.2.2 kma_19 (by decide) ?_
        refine R_aload_n e_X12_lives_6.1 1 rfl ?_
        refine R_iload_n e_X12_lives_6.2.1 0 rfl ?_
        refine R_callV (mc := 0) (ms := 0) (mc' := 0) (ms' := 0) (M' := M_X12_does) (d' := 10) (as := [vI (150 + (6 * l2))]) (st := [vI ((kup σ 0 36 ((σ 0 36) + 1)) 19 0), vI 0, vA G 19]) 12 1 e_X12_lives_6.2.2.1 (kCVof m_X12_does l_X12_515) rfl (by decide) km_0 (by decide) (by decide) rfl rfl (by show (3 : Nat) ≤ 8; decide) ?_
        refine Run.mono h (fun r8 s9 h => ?_)
        refine R_eqs (st2 := [vI r8, vI ((kup σ 0 36 ((σ 0 36) + 1)) 19 0), vI 0, vA G 19]) rfl rfl ?_
        obtain ⟨q10, h⟩ := h
        refine R_if_eq 111 e_X12_lives_6.2.2.2.1 (by decide) q10  (fun q => ?_) (fun q => ?_)
        · replace h := h.1 q
          refine R_iconst e_X12_lives_6.2.2.2.2.2.2.1 ?_
          refine R_iadd e_X12_lives_6.2.2.2.2.2.2.2.1 ?_
          refine R_iast 5 WM_ok e_X12_lives_6.2.2.2.2.2.2.2.2.1 kma_19 (by decide) ?_
          refine R_aload_n e_X12_lives_6.2.2.2.2.2.2.2.2.2 1 rfl ?_
          refine R_getA 12 0 1 e_X12_lives_7.1 f_X12_7 km_0 (fun _ _ => rfl) rm_0_0 (by decide) ?_
          refine R_iload_n e_X12_lives_7.2.1 0 rfl ?_
          obtain ⟨q11, h⟩ := h
          refine R_iald 3598 e_X12_lives_7.2.2.1 kma_1 q11 ?_
          refine R_bipush e_X12_lives_7.2.2.2.1 (by decide) ?_
          obtain ⟨q12, h⟩ := h
          refine R_icmp_ne 141 e_X12_lives_7.2.2.2.2.1 (by decide) q12 (by decide) (fun q => ?_) (fun q => ?_)
          · replace h := h.1 q
            refine R_ls (ls2 := [(0, vA G 0), (2, vI l2), (3, vI (150 + (6 * l2)))]) [1, 2, 0] rfl ?_
            exact h
          · replace h := h.2 q
            refine R_aload_n e_X12_lives_7.2.2.2.2.2.1 1 rfl ?_
            refine R_getA 12 37 18 e_X12_lives_7.2.2.2.2.2.2.1 f_X12_74 km_0 (fun _ _ => rfl) rm_0_37 (by decide) ?_
            refine R_iload_n e_X12_lives_7.2.2.2.2.2.2.2.1 2 rfl ?_
            refine R_aload_n e_X12_lives_7.2.2.2.2.2.2.2.2.1 1 rfl ?_
            refine R_getA 12 0 1 e_X12_lives_7.2.2.2.2.2.2.2.2.2 f_X12_7 km_0 (fun _ _ => rfl) rm_0_0 (by decide) ?_
            refine R_iload_n e_X12_lives_8.1 0 rfl ?_
            refine R_iconst e_X12_lives_8.2.1 ?_
            refine R_iadd e_X12_lives_8.2.2.1 ?_
            obtain ⟨q13, h⟩ := h
            refine R_iald 3598 e_X12_lives_8.2.2.2.1 kma_1 q13 ?_
            refine R_iconst e_X12_lives_8.2.2.2.2.1 ?_
            refine R_isub e_X12_lives_8.2.2.2.2.2.1 ?_
            obtain ⟨q14, h⟩ := h
            refine R_iast 80 WM_ok e_X12_lives_8.2.2.2.2.2.2.1 kma_18 q14 ?_
            refine R_ls (ls2 := [(0, vA G 0), (2, vI l2), (3, vI (150 + (6 * l2)))]) [1, 2, 0] rfl ?_
            exact h
        · replace h := h.2 q
          refine R_iconst e_X12_lives_6.2.2.2.2.1 ?_
          refine R_goto 112 e_X12_lives_6.2.2.2.2.2.1 (by decide) ?_
          refine R_iadd e_X12_lives_6.2.2.2.2.2.2.2.1 ?_
          refine R_iast 5 WM_ok e_X12_lives_6.2.2.2.2.2.2.2.2.1 kma_19 (by decide) ?_
          refine R_aload_n e_X12_lives_6.2.2.2.2.2.2.2.2.2 1 rfl ?_
          refine R_getA 12 0 1 e_X12_lives_7.1 f_X12_7 km_0 (fun _ _ => rfl) rm_0_0 (by decide) ?_
          refine R_iload_n e_X12_lives_7.2.1 0 rfl ?_
          obtain ⟨q15, h⟩ := h
          refine R_iald 3598 e_X12_lives_7.2.2.1 kma_1 q15 ?_
          refine R_bipush e_X12_lives_7.2.2.2.1 (by decide) ?_
          obtain ⟨q16, h⟩ := h
          refine R_icmp_ne 141 e_X12_lives_7.2.2.2.2.1 (by decide) q16 (by decide) (fun q => ?_) (fun q => ?_)
          · replace h := h.1 q
            refine R_ls (ls2 := [(0, vA G 0), (2, vI l2), (3, vI (150 + (6 * l2)))]) [1, 2, 0] rfl ?_
            exact h
          · replace h := h.2 q
            refine R_aload_n e_X12_lives_7.2.2.2.2.2.1 1 rfl ?_
            refine R_getA 12 37 18 e_X12_lives_7.2.2.2.2.2.2.1 f_X12_74 km_0 (fun _ _ => rfl) rm_0_37 (by decide) ?_
            refine R_iload_n e_X12_lives_7.2.2.2.2.2.2.2.1 2 rfl ?_
            refine R_aload_n e_X12_lives_7.2.2.2.2.2.2.2.2.1 1 rfl ?_
            refine R_getA 12 0 1 e_X12_lives_7.2.2.2.2.2.2.2.2.2 f_X12_7 km_0 (fun _ _ => rfl) rm_0_0 (by decide) ?_
            refine R_iload_n e_X12_lives_8.1 0 rfl ?_
            refine R_iconst e_X12_lives_8.2.1 ?_
            refine R_iadd e_X12_lives_8.2.2.1 ?_
            obtain ⟨q17, h⟩ := h
            refine R_iald 3598 e_X12_lives_8.2.2.2.1 kma_1 q17 ?_
            refine R_iconst e_X12_lives_8.2.2.2.2.1 ?_
            refine R_isub e_X12_lives_8.2.2.2.2.2.1 ?_
            obtain ⟨q18, h⟩ := h
            refine R_iast 80 WM_ok e_X12_lives_8.2.2.2.2.2.2.1 kma_18 q18 ?_
            refine R_ls (ls2 := [(0, vA G 0), (2, vI l2), (3, vI (150 + (6 * l2)))]) [1, 2, 0] rfl ?_
            exact h
      · replace h := h.2 q
        exact R_return e_X12_lives_5.2.2.2.2.1 rfl h
    · replace h := h.2 q
      refine R_aload_n e_X12_lives_3.1 0 rfl ?_
      refine R_getA 12 38 19 e_X12_lives_3.2.1 f_X12_77 km_0 (fun _ _ => rfl) rm_0_38 (by decide) ?_
      refine R_iconst e_X12_lives_3.2.2.1 ?_
      refine R_iconst e_X12_lives_3.2.2.2.1 ?_
      refine R_iast 5 WM_ok e_X12_lives_3.2.2.2.2.1 kma_19 (by decide) ?_
      exact R_return e_X12_lives_3.2.2.2.2.2.1 rfl h
theorem S_X12_lives_141 {G : Kg} {σ : Kmem} {Q : Int → Kmem → Prop} {l1 l2 l3 : Int}  (h : (0 ≤ l3 ∧ l3 < 3598) ∧ (rI (σ 1 l3)) ∧ ((σ 1 l3 < 2000 → Run G WM M_X12_behindEnds 0 0 0 [vA G 0, vI (l2 + 1)] σ (fun r21 s22 => E_X12_lives_32 G r21 s22 Q)) ∧ (2000 ≤ σ 1 l3 → Run G WM M_X12_holds 4 0 0 [vA G 0, vI l3] σ (fun r23 s24 => (rI r23) ∧ ((r23 ≠ 0 → Run G WM M_X12_behindEnds 0 0 0 [vA G 0, vI (l2 + 1)] s24 (fun r26 s27 => E_X12_lives_32 G r26 s27 Q)) ∧ (r23 = 0 → (0 ≤ l3 + 4 ∧ l3 + 4 < 3598) ∧ Run G WM M_X12_behindEnds 0 0 0 [vA G 0, vI ((s24 1 (l3 + 4)) + 1)] s24 (fun r29 s30 => E_X12_lives_32 G r29 s30 Q))))))) : E_X12_lives_141 G l2 l3 σ Q := by
  refine R_aload_n e_X12_lives_8.2.2.2.2.2.2.2.1 0 rfl ?_
  refine R_aload_n e_X12_lives_8.2.2.2.2.2.2.2.2.1 0 rfl ?_
  refine R_getA 12 0 1 e_X12_lives_8.2.2.2.2.2.2.2.2.2 f_X12_7 km_0 (fun _ _ => rfl) rm_0_0 (by decide) ?_
  refine R_iload_n e_X12_lives_9.1 2 rfl ?_
  obtain ⟨q19, h⟩ := h
  refine R_iald 3598 e_X12_lives_9.2.1 kma_1 q19 ?_
  refine R_sipush e_X12_lives_9.2.2.1 (by decide) ?_
  obtain ⟨q20, h⟩ := h
  refine R_icmp_lt 175 e_X12_lives_9.2.2.2.1 (by decide) q20 (by decide) (fun q => ?_) (fun q => ?_)
  · replace h := h.1 q
    refine R_iload_n e_X12_lives_10.2.2.2.2.2.2.2.1 1 rfl ?_
    refine R_iconst e_X12_lives_10.2.2.2.2.2.2.2.2.1 ?_
    refine R_iadd e_X12_lives_10.2.2.2.2.2.2.2.2.2 ?_
    refine R_callV (mc := 0) (ms := 0) (mc' := 0) (ms' := 0) (M' := M_X12_behindEnds) (d' := 0) (as := [vI (l2 + 1)]) (st := []) 12 1 e_X12_lives_11.1 (kCVof m_X12_behindEnds l_X12_521) rfl (by decide) km_0 (by decide) (by decide) rfl rfl (by show (0 : Nat) ≤ 8; decide) ?_
    refine Run.mono h (fun r21 s22 h => ?_)
    refine R_eqs (st2 := [vI r21]) rfl rfl ?_
    refine R_istore_n (ls2 := [(2, vI r21), (0, vA G 0), (3, vI l3)]) e_X12_lives_11.2.1 (by decide) rfl ?_
    refine R_goto 32 e_X12_lives_11.2.2.1 (by decide) ?_
    refine R_ls (ls2 := [(0, vA G 0), (2, vI r21)]) [1, 0] rfl ?_
    exact h
  · replace h := h.2 q
    refine R_aload_n e_X12_lives_9.2.2.2.2.1 0 rfl ?_
    refine R_iload_n e_X12_lives_9.2.2.2.2.2.1 2 rfl ?_
    refine R_callV (mc := 0) (ms := 0) (mc' := 0) (ms' := 0) (M' := M_X12_holds) (d' := 4) (as := [vI l3]) (st := [vA G 0]) 12 1 e_X12_lives_9.2.2.2.2.2.2.1 (kCVof m_X12_holds l_X12_518) rfl (by decide) km_0 (by decide) (by decide) rfl rfl (by show (1 : Nat) ≤ 8; decide) ?_
    refine Run.mono h (fun r23 s24 h => ?_)
    refine R_eqs (st2 := [vI r23, vA G 0]) rfl rfl ?_
    obtain ⟨q25, h⟩ := h
    refine R_if_ne 175 e_X12_lives_9.2.2.2.2.2.2.2.1 (by decide) q25  (fun q => ?_) (fun q => ?_)
    · replace h := h.1 q
      refine R_iload_n e_X12_lives_10.2.2.2.2.2.2.2.1 1 rfl ?_
      refine R_iconst e_X12_lives_10.2.2.2.2.2.2.2.2.1 ?_
      refine R_iadd e_X12_lives_10.2.2.2.2.2.2.2.2.2 ?_
      refine R_callV (mc := 0) (ms := 0) (mc' := 0) (ms' := 0) (M' := M_X12_behindEnds) (d' := 0) (as := [vI (l2 + 1)]) (st := []) 12 1 e_X12_lives_11.1 (kCVof m_X12_behindEnds l_X12_521) rfl (by decide) km_0 (by decide) (by decide) rfl rfl (by show (0 : Nat) ≤ 8; decide) ?_
      refine Run.mono h (fun r26 s27 h => ?_)
      refine R_eqs (st2 := [vI r26]) rfl rfl ?_
      refine R_istore_n (ls2 := [(2, vI r26), (0, vA G 0), (3, vI l3)]) e_X12_lives_11.2.1 (by decide) rfl ?_
      refine R_goto 32 e_X12_lives_11.2.2.1 (by decide) ?_
      refine R_ls (ls2 := [(0, vA G 0), (2, vI r26)]) [1, 0] rfl ?_
      exact h
    · replace h := h.2 q
      refine R_aload_n e_X12_lives_9.2.2.2.2.2.2.2.2.1 0 rfl ?_
      refine R_getA 12 0 1 e_X12_lives_9.2.2.2.2.2.2.2.2.2 f_X12_7 km_0 (fun _ _ => rfl) rm_0_0 (by decide) ?_
      refine R_iload_n e_X12_lives_10.1 2 rfl ?_
      refine R_iconst e_X12_lives_10.2.1 ?_
      refine R_iadd e_X12_lives_10.2.2.1 ?_
      obtain ⟨q28, h⟩ := h
      refine R_iald 3598 e_X12_lives_10.2.2.2.1 kma_1 q28 ?_
      refine R_iconst e_X12_lives_10.2.2.2.2.1 ?_
      refine R_iadd e_X12_lives_10.2.2.2.2.2.1 ?_
      refine R_goto 178 e_X12_lives_10.2.2.2.2.2.2.1 (by decide) ?_
      refine R_callV (mc := 0) (ms := 0) (mc' := 0) (ms' := 0) (M' := M_X12_behindEnds) (d' := 0) (as := [vI ((s24 1 (l3 + 4)) + 1)]) (st := []) 12 1 e_X12_lives_11.1 (kCVof m_X12_behindEnds l_X12_521) rfl (by decide) km_0 (by decide) (by decide) rfl rfl (by show (0 : Nat) ≤ 8; decide) ?_
      refine Run.mono h (fun r29 s30 h => ?_)
      refine R_eqs (st2 := [vI r29]) rfl rfl ?_
      refine R_istore_n (ls2 := [(2, vI r29), (0, vA G 0), (3, vI l3)]) e_X12_lives_11.2.1 (by decide) rfl ?_
      refine R_goto 32 e_X12_lives_11.2.2.1 (by decide) ?_
      refine R_ls (ls2 := [(0, vA G 0), (2, vI r29)]) [1, 0] rfl ?_
      exact h
/-! KiteLandModel.live(I)I -/
theorem e_X12_live_0 : decode cX12_live 0 = .ok (.iload_n 1, 1) ∧ decode cX12_live 1 = .ok (.i2l, 1) ∧ decode cX12_live 2 = .ok (.lconst 0, 1) ∧ decode cX12_live 3 = .ok (.ldc2_w 524, 3) ∧ decode cX12_live 6 = .ok (.invokestatic 393, 3) ∧ decode cX12_live 9 = .ok (.ifCond .ne 9, 3) ∧ decode cX12_live 12 = .ok (.aload_n 0, 1) ∧ decode cX12_live 13 = .ok (.iconst 1, 1) ∧ decode cX12_live 14 = .ok (.invokevirtual 93, 3) ∧ decode cX12_live 17 = .ok (.ireturn, 1) := by decide +kernel
theorem e_X12_live_1 : decode cX12_live 18 = .ok (.aload_n 0, 1) ∧ decode cX12_live 19 = .ok (.getfield 7, 3) ∧ decode cX12_live 22 = .ok (.bipush 8, 2) ∧ decode cX12_live 24 = .ok (.iaload, 1) ∧ decode cX12_live 25 = .ok (.iconst (-1), 1) ∧ decode cX12_live 26 = .ok (.if_icmp .ne 10, 3) ∧ decode cX12_live 29 = .ok (.aload_n 0, 1) ∧ decode cX12_live 30 = .ok (.bipush 6, 2) ∧ decode cX12_live 32 = .ok (.invokevirtual 93, 3) ∧ decode cX12_live 35 = .ok (.ireturn, 1) := by decide +kernel
theorem e_X12_live_2 : decode cX12_live 36 = .ok (.aload_n 0, 1) ∧ decode cX12_live 37 = .ok (.iload_n 1, 1) ∧ decode cX12_live 38 = .ok (.invokevirtual 526, 3) ∧ decode cX12_live 41 = .ok (.iconst 0, 1) ∧ decode cX12_live 42 = .ok (.istore_n 2, 1) ∧ decode cX12_live 43 = .ok (.iload_n 2, 1) ∧ decode cX12_live 44 = .ok (.iconst 5, 1) ∧ decode cX12_live 45 = .ok (.if_icmp .ge 21, 3) ∧ decode cX12_live 48 = .ok (.aload_n 0, 1) ∧ decode cX12_live 49 = .ok (.getfield 80, 3) := by decide +kernel
theorem e_X12_live_3 : decode cX12_live 52 = .ok (.iload_n 2, 1) ∧ decode cX12_live 53 = .ok (.aload_n 0, 1) ∧ decode cX12_live 54 = .ok (.getfield 77, 3) ∧ decode cX12_live 57 = .ok (.iload_n 2, 1) ∧ decode cX12_live 58 = .ok (.iaload, 1) ∧ decode cX12_live 59 = .ok (.iastore, 1) ∧ decode cX12_live 60 = .ok (.iinc 2 1, 3) ∧ decode cX12_live 63 = .ok (.goto (-20), 3) ∧ decode cX12_live 66 = .ok (.aload_n 0, 1) ∧ decode cX12_live 67 = .ok (.iconst 1, 1) := by decide +kernel
theorem e_X12_live_4 : decode cX12_live 68 = .ok (.putfield 529, 3) ∧ decode cX12_live 71 = .ok (.aload_n 0, 1) ∧ decode cX12_live 72 = .ok (.aload_n 0, 1) ∧ decode cX12_live 73 = .ok (.getfield 512, 3) ∧ decode cX12_live 76 = .ok (.invokevirtual 97, 3) ∧ decode cX12_live 79 = .ok (.ireturn, 1) := by decide +kernel
abbrev E_X12_live_43 (G : Kg) (l2 : Int) (σ : Kmem) (Q : Int → Kmem → Prop) : Prop := Ex G WM M_X12_live 12 0 0 43 [(0, vA G 0), (2, vI l2)] [] σ Q
theorem S_X12_live {G : Kg} {σ : Kmem} {Q : Int → Kmem → Prop} {l1 : Int}  (h : (rI l1) ∧ Run G WM M_X12_isFrom 0 0 0 [vL l1, vL 0, vL 9999] σ (fun r2 s3 => (rI r2) ∧ ((r2 ≠ 0 → (rI (s3 1 8)) ∧ ((s3 1 8 ≠ -1 → Run G WM M_X12_lives 11 0 0 [vA G 0, vI l1] s3 (fun r6 s7 => E_X12_live_43 G 0 s7 Q)) ∧ (s3 1 8 = -1 → Run G WM M_X12_refuse 0 0 0 [vA G 0, vI 6] s3 (fun r8 s9 => Q r8 s9)))) ∧ (r2 = 0 → Run G WM M_X12_refuse 0 0 0 [vA G 0, vI 1] s3 (fun r10 s11 => Q r10 s11))))) : Run G WM M_X12_live 12 0 0 [vA G 0, vI l1] σ Q := by
  refine Run.of (by decide +kernel) (by show (2 : Nat) ≤ 3; decide) ?_
  show Ex G WM M_X12_live 12 0 0 0 [(0, vA G 0), (1, vI l1)] [] σ Q
  refine R_iload_n e_X12_live_0.1 1 rfl ?_
  obtain ⟨q1, h⟩ := h
  refine R_i2l e_X12_live_0.2.1 q1 ?_
  refine R_lconst 0 e_X12_live_0.2.2.1 (by decide) ?_
  refine R_ldc2 (9999) k_X12_524 e_X12_live_0.2.2.2.1 ?_
  refine R_callS (mc := 0) (ms := 0) (mc' := 0) (ms' := 0) (M' := M_X12_isFrom) (d' := 0) (as := [vL l1, vL 0, vL 9999]) (st := []) 3 e_X12_live_0.2.2.2.2.1 (kCSof m_X12_isFrom l_X12_393) (by decide) (by decide) rfl rfl (by show (0 : Nat) ≤ 8; decide) ?_
  refine Run.mono h (fun r2 s3 h => ?_)
  refine R_eqs (st2 := [vI r2]) rfl rfl ?_
  obtain ⟨q4, h⟩ := h
  refine R_if_ne 18 e_X12_live_0.2.2.2.2.2.1 (by decide) q4  (fun q => ?_) (fun q => ?_)
  · replace h := h.1 q
    refine R_aload_n e_X12_live_1.1 0 rfl ?_
    refine R_getA 12 0 1 e_X12_live_1.2.1 f_X12_7 km_0 (fun _ _ => rfl) rm_0_0 (by decide) ?_
    refine R_bipush e_X12_live_1.2.2.1 (by decide) ?_
    refine R_iald 3598 e_X12_live_1.2.2.2.1 kma_1 (by decide) ?_
    refine R_iconst e_X12_live_1.2.2.2.2.1 ?_
    obtain ⟨q5, h⟩ := h
    refine R_icmp_ne 36 e_X12_live_1.2.2.2.2.2.1 (by decide) q5 (by decide) (fun q => ?_) (fun q => ?_)
    · replace h := h.1 q
      refine R_aload_n e_X12_live_2.1 0 rfl ?_
      refine R_iload_n e_X12_live_2.2.1 1 rfl ?_
      refine R_callV (mc := 0) (ms := 0) (mc' := 0) (ms' := 0) (M' := M_X12_lives) (d' := 11) (as := [vI l1]) (st := []) 12 1 e_X12_live_2.2.2.1 (kCVof m_X12_lives l_X12_526) rfl (by decide) km_0 (by decide) (by decide) rfl rfl (by show (0 : Nat) ≤ 8; decide) ?_
      refine Run.mono h (fun r6 s7 h => ?_)
      refine R_eqs (st2 := []) rfl rfl ?_
      refine R_iconst e_X12_live_2.2.2.2.1 ?_
      refine R_istore_n (ls2 := [(2, vI 0), (0, vA G 0), (1, vI l1)]) e_X12_live_2.2.2.2.2.1 (by decide) rfl ?_
      refine R_ls (ls2 := [(0, vA G 0), (2, vI 0)]) [1, 0] rfl ?_
      exact h
    · replace h := h.2 q
      refine R_aload_n e_X12_live_1.2.2.2.2.2.2.1 0 rfl ?_
      refine R_bipush e_X12_live_1.2.2.2.2.2.2.2.1 (by decide) ?_
      refine R_callV (mc := 0) (ms := 0) (mc' := 0) (ms' := 0) (M' := M_X12_refuse) (d' := 0) (as := [vI 6]) (st := []) 12 1 e_X12_live_1.2.2.2.2.2.2.2.2.1 (kCVof m_X12_refuse l_X12_93) rfl (by decide) km_0 (by decide) (by decide) rfl rfl (by show (0 : Nat) ≤ 8; decide) ?_
      refine Run.mono h (fun r8 s9 h => ?_)
      refine R_eqs (st2 := [vI r8]) rfl rfl ?_
      exact R_ireturn e_X12_live_1.2.2.2.2.2.2.2.2.2 rfl h
  · replace h := h.2 q
    refine R_aload_n e_X12_live_0.2.2.2.2.2.2.1 0 rfl ?_
    refine R_iconst e_X12_live_0.2.2.2.2.2.2.2.1 ?_
    refine R_callV (mc := 0) (ms := 0) (mc' := 0) (ms' := 0) (M' := M_X12_refuse) (d' := 0) (as := [vI 1]) (st := []) 12 1 e_X12_live_0.2.2.2.2.2.2.2.2.1 (kCVof m_X12_refuse l_X12_93) rfl (by decide) km_0 (by decide) (by decide) rfl rfl (by show (0 : Nat) ≤ 8; decide) ?_
    refine Run.mono h (fun r10 s11 h => ?_)
    refine R_eqs (st2 := [vI r10]) rfl rfl ?_
    exact R_ireturn e_X12_live_0.2.2.2.2.2.2.2.2.2 rfl h
theorem S_X12_live_43 {G : Kg} {σ : Kmem} {Q : Int → Kmem → Prop} {l1 l2 : Int}  (h : (rI l2) ∧ ((5 ≤ l2 → Run G WM M_X12_gives 0 0 0 [vA G 0, vI ((kup σ 0 40 1) 0 36)] (kup σ 0 40 1) (fun r13 s14 => Q r13 s14)) ∧ (l2 < 5 → (0 ≤ l2 ∧ l2 < 5) ∧ (0 ≤ l2 ∧ l2 < 5) ∧ E_X12_live_43 G (l2 + 1) (kup σ 20 l2 (σ 19 l2)) Q))) : E_X12_live_43 G l2 σ Q := by
  refine R_iload_n e_X12_live_2.2.2.2.2.2.1 1 rfl ?_
  refine R_iconst e_X12_live_2.2.2.2.2.2.2.1 ?_
  obtain ⟨q12, h⟩ := h
  refine R_icmp_ge 66 e_X12_live_2.2.2.2.2.2.2.2.1 (by decide) q12 (by decide) (fun q => ?_) (fun q => ?_)
  · replace h := h.1 q
    refine R_aload_n e_X12_live_3.2.2.2.2.2.2.2.2.1 0 rfl ?_
    refine R_iconst e_X12_live_3.2.2.2.2.2.2.2.2.2 ?_
    refine R_putZ 12 40 40 WM_ok e_X12_live_4.1 f_X12_529 km_0 rfl rfl rfl (Or.inr rfl) ?_
    refine R_aload_n e_X12_live_4.2.1 0 rfl ?_
    refine R_aload_n e_X12_live_4.2.2.1 0 rfl ?_
    refine R_getI 12 36 36 e_X12_live_4.2.2.2.1 f_X12_512 km_0 (fun _ _ => rfl) rfl ?_
    refine R_callV (mc := 0) (ms := 0) (mc' := 0) (ms' := 0) (M' := M_X12_gives) (d' := 0) (as := [vI ((kup σ 0 40 1) 0 36)]) (st := []) 12 1 e_X12_live_4.2.2.2.2.1 (kCVof m_X12_gives l_X12_97) rfl (by decide) km_0 (by decide) (by decide) rfl rfl (by show (0 : Nat) ≤ 8; decide) ?_
    refine Run.mono h (fun r13 s14 h => ?_)
    refine R_eqs (st2 := [vI r13]) rfl rfl ?_
    exact R_ireturn e_X12_live_4.2.2.2.2.2 rfl h
  · replace h := h.2 q
    refine R_aload_n e_X12_live_2.2.2.2.2.2.2.2.2.1 0 rfl ?_
    refine R_getA 12 39 20 e_X12_live_2.2.2.2.2.2.2.2.2.2 f_X12_80 km_0 (fun _ _ => rfl) rm_0_39 (by decide) ?_
    refine R_iload_n e_X12_live_3.1 1 rfl ?_
    refine R_aload_n e_X12_live_3.2.1 0 rfl ?_
    refine R_getA 12 38 19 e_X12_live_3.2.2.1 f_X12_77 km_0 (fun _ _ => rfl) rm_0_38 (by decide) ?_
    refine R_iload_n e_X12_live_3.2.2.2.1 1 rfl ?_
    obtain ⟨q15, h⟩ := h
    refine R_iald 5 e_X12_live_3.2.2.2.2.1 kma_19 q15 ?_
    obtain ⟨q16, h⟩ := h
    refine R_iast 5 WM_ok e_X12_live_3.2.2.2.2.2.1 kma_20 q16 ?_
    refine R_iinc (ls2 := [(2, vI (l2 + 1)), (0, vA G 0)]) e_X12_live_3.2.2.2.2.2.2.1 1 rfl (by decide) rfl ?_
    refine R_goto 43 e_X12_live_3.2.2.2.2.2.2.2.1 (by decide) ?_
    refine R_ls (ls2 := [(0, vA G 0), (2, vI (l2 + 1))]) [1, 0] rfl ?_
    exact h
/-! KiteLandModel.lived(I)I -/
theorem e_X12_lived_0 : decode cX12_lived 0 = .ok (.iload_n 1, 1) ∧ decode cX12_lived 1 = .ok (.ifCond .lt 8, 3) ∧ decode cX12_lived 4 = .ok (.iload_n 1, 1) ∧ decode cX12_lived 5 = .ok (.iconst 4, 1) ∧ decode cX12_lived 6 = .ok (.if_icmp .le 11, 3) ∧ decode cX12_lived 9 = .ok (.aload_n 0, 1) ∧ decode cX12_lived 10 = .ok (.iconst 1, 1) ∧ decode cX12_lived 11 = .ok (.invokevirtual 93, 3) ∧ decode cX12_lived 14 = .ok (.goto 29, 3) ∧ decode cX12_lived 17 = .ok (.aload_n 0, 1) := by decide +kernel
theorem e_X12_lived_1 : decode cX12_lived 18 = .ok (.getfield 529, 3) ∧ decode cX12_lived 21 = .ok (.ifCond .eq 16, 3) ∧ decode cX12_lived 24 = .ok (.aload_n 0, 1) ∧ decode cX12_lived 25 = .ok (.aload_n 0, 1) ∧ decode cX12_lived 26 = .ok (.getfield 80, 3) ∧ decode cX12_lived 29 = .ok (.iload_n 1, 1) ∧ decode cX12_lived 30 = .ok (.iaload, 1) ∧ decode cX12_lived 31 = .ok (.invokevirtual 97, 3) ∧ decode cX12_lived 34 = .ok (.goto 9, 3) ∧ decode cX12_lived 37 = .ok (.aload_n 0, 1) := by decide +kernel
theorem e_X12_lived_2 : decode cX12_lived 38 = .ok (.bipush 6, 2) ∧ decode cX12_lived 40 = .ok (.invokevirtual 93, 3) ∧ decode cX12_lived 43 = .ok (.ireturn, 1) := by decide +kernel
theorem S_X12_lived {G : Kg} {σ : Kmem} {Q : Int → Kmem → Prop} {l1 : Int}  (h : (rI l1) ∧ ((l1 < 0 → Run G WM M_X12_refuse 0 0 0 [vA G 0, vI 1] σ (fun r2 s3 => Q r2 s3)) ∧ (0 ≤ l1 → ((l1 ≤ 4 → (rI (σ 0 40)) ∧ ((σ 0 40 = 0 → Run G WM M_X12_refuse 0 0 0 [vA G 0, vI 6] σ (fun r5 s6 => Q r5 s6)) ∧ (σ 0 40 ≠ 0 → (0 ≤ l1 ∧ l1 < 5) ∧ Run G WM M_X12_gives 0 0 0 [vA G 0, vI (σ 20 l1)] σ (fun r8 s9 => Q r8 s9)))) ∧ (4 < l1 → Run G WM M_X12_refuse 0 0 0 [vA G 0, vI 1] σ (fun r10 s11 => Q r10 s11)))))) : Run G WM M_X12_lived 1 0 0 [vA G 0, vI l1] σ Q := by
  refine Run.of (by decide +kernel) (by show (2 : Nat) ≤ 2; decide) ?_
  show Ex G WM M_X12_lived 1 0 0 0 [(0, vA G 0), (1, vI l1)] [] σ Q
  refine R_iload_n e_X12_lived_0.1 1 rfl ?_
  obtain ⟨q1, h⟩ := h
  refine R_if_lt 9 e_X12_lived_0.2.1 (by decide) q1  (fun q => ?_) (fun q => ?_)
  · replace h := h.1 q
    refine R_aload_n e_X12_lived_0.2.2.2.2.2.1 0 rfl ?_
    refine R_iconst e_X12_lived_0.2.2.2.2.2.2.1 ?_
    refine R_callV (mc := 0) (ms := 0) (mc' := 0) (ms' := 0) (M' := M_X12_refuse) (d' := 0) (as := [vI 1]) (st := []) 12 1 e_X12_lived_0.2.2.2.2.2.2.2.1 (kCVof m_X12_refuse l_X12_93) rfl (by decide) km_0 (by decide) (by decide) rfl rfl (by show (0 : Nat) ≤ 8; decide) ?_
    refine Run.mono h (fun r2 s3 h => ?_)
    refine R_eqs (st2 := [vI r2]) rfl rfl ?_
    refine R_goto 43 e_X12_lived_0.2.2.2.2.2.2.2.2.1 (by decide) ?_
    exact R_ireturn e_X12_lived_2.2.2 rfl h
  · replace h := h.2 q
    refine R_iload_n e_X12_lived_0.2.2.1 1 rfl ?_
    refine R_iconst e_X12_lived_0.2.2.2.1 ?_
    refine R_icmp_le 17 e_X12_lived_0.2.2.2.2.1 (by decide) q1 (by decide) (fun q => ?_) (fun q => ?_)
    · replace h := h.1 q
      refine R_aload_n e_X12_lived_0.2.2.2.2.2.2.2.2.2 0 rfl ?_
      refine R_getI 12 40 40 e_X12_lived_1.1 f_X12_529 km_0 (fun _ _ => rfl) rfl ?_
      obtain ⟨q4, h⟩ := h
      refine R_if_eq 37 e_X12_lived_1.2.1 (by decide) q4  (fun q => ?_) (fun q => ?_)
      · replace h := h.1 q
        refine R_aload_n e_X12_lived_1.2.2.2.2.2.2.2.2.2 0 rfl ?_
        refine R_bipush e_X12_lived_2.1 (by decide) ?_
        refine R_callV (mc := 0) (ms := 0) (mc' := 0) (ms' := 0) (M' := M_X12_refuse) (d' := 0) (as := [vI 6]) (st := []) 12 1 e_X12_lived_2.2.1 (kCVof m_X12_refuse l_X12_93) rfl (by decide) km_0 (by decide) (by decide) rfl rfl (by show (0 : Nat) ≤ 8; decide) ?_
        refine Run.mono h (fun r5 s6 h => ?_)
        refine R_eqs (st2 := [vI r5]) rfl rfl ?_
        exact R_ireturn e_X12_lived_2.2.2 rfl h
      · replace h := h.2 q
        refine R_aload_n e_X12_lived_1.2.2.1 0 rfl ?_
        refine R_aload_n e_X12_lived_1.2.2.2.1 0 rfl ?_
        refine R_getA 12 39 20 e_X12_lived_1.2.2.2.2.1 f_X12_80 km_0 (fun _ _ => rfl) rm_0_39 (by decide) ?_
        refine R_iload_n e_X12_lived_1.2.2.2.2.2.1 1 rfl ?_
        obtain ⟨q7, h⟩ := h
        refine R_iald 5 e_X12_lived_1.2.2.2.2.2.2.1 kma_20 q7 ?_
        refine R_callV (mc := 0) (ms := 0) (mc' := 0) (ms' := 0) (M' := M_X12_gives) (d' := 0) (as := [vI (σ 20 l1)]) (st := []) 12 1 e_X12_lived_1.2.2.2.2.2.2.2.1 (kCVof m_X12_gives l_X12_97) rfl (by decide) km_0 (by decide) (by decide) rfl rfl (by show (0 : Nat) ≤ 8; decide) ?_
        refine Run.mono h (fun r8 s9 h => ?_)
        refine R_eqs (st2 := [vI r8]) rfl rfl ?_
        refine R_goto 43 e_X12_lived_1.2.2.2.2.2.2.2.2.1 (by decide) ?_
        exact R_ireturn e_X12_lived_2.2.2 rfl h
    · replace h := h.2 q
      refine R_aload_n e_X12_lived_0.2.2.2.2.2.1 0 rfl ?_
      refine R_iconst e_X12_lived_0.2.2.2.2.2.2.1 ?_
      refine R_callV (mc := 0) (ms := 0) (mc' := 0) (ms' := 0) (M' := M_X12_refuse) (d' := 0) (as := [vI 1]) (st := []) 12 1 e_X12_lived_0.2.2.2.2.2.2.2.1 (kCVof m_X12_refuse l_X12_93) rfl (by decide) km_0 (by decide) (by decide) rfl rfl (by show (0 : Nat) ≤ 8; decide) ?_
      refine Run.mono h (fun r10 s11 h => ?_)
      refine R_eqs (st2 := [vI r10]) rfl rfl ?_
      refine R_goto 43 e_X12_lived_0.2.2.2.2.2.2.2.2.1 (by decide) ?_
      exact R_ireturn e_X12_lived_2.2.2 rfl h
/-! KiteLandModel.mean(III)Z -/
theorem e_X12_mean_0 : decode cX12_mean 0 = .ok (.aload_n 0, 1) ∧ decode cX12_mean 1 = .ok (.iload_n 1, 1) ∧ decode cX12_mean 2 = .ok (.invokevirtual 343, 3) ∧ decode cX12_mean 5 = .ok (.ifCond .eq 38, 3) ∧ decode cX12_mean 8 = .ok (.iload_n 2, 1) ∧ decode cX12_mean 9 = .ok (.i2l, 1) ∧ decode cX12_mean 10 = .ok (.lconst 0, 1) ∧ decode cX12_mean 11 = .ok (.ldc2_w 524, 3) ∧ decode cX12_mean 14 = .ok (.invokestatic 393, 3) ∧ decode cX12_mean 17 = .ok (.ifCond .eq 26, 3) := by decide +kernel
theorem e_X12_mean_1 : decode cX12_mean 20 = .ok (.iload_n 3, 1) ∧ decode cX12_mean 21 = .ok (.i2l, 1) ∧ decode cX12_mean 22 = .ok (.lconst 1, 1) ∧ decode cX12_mean 23 = .ok (.ldc2_w 449, 3) ∧ decode cX12_mean 26 = .ok (.invokestatic 393, 3) ∧ decode cX12_mean 29 = .ok (.ifCond .eq 14, 3) ∧ decode cX12_mean 32 = .ok (.iload_n 2, 1) ∧ decode cX12_mean 33 = .ok (.iload_n 3, 1) ∧ decode cX12_mean 34 = .ok (.iadd, 1) ∧ decode cX12_mean 35 = .ok (.iconst 1, 1) := by decide +kernel
theorem e_X12_mean_2 : decode cX12_mean 36 = .ok (.isub, 1) ∧ decode cX12_mean 37 = .ok (.sipush 9999, 3) ∧ decode cX12_mean 40 = .ok (.if_icmp .le 9, 3) ∧ decode cX12_mean 43 = .ok (.aload_n 0, 1) ∧ decode cX12_mean 44 = .ok (.iconst 1, 1) ∧ decode cX12_mean 45 = .ok (.invokevirtual 100, 3) ∧ decode cX12_mean 48 = .ok (.ireturn, 1) ∧ decode cX12_mean 49 = .ok (.aload_n 0, 1) ∧ decode cX12_mean 50 = .ok (.getfield 7, 3) ∧ decode cX12_mean 53 = .ok (.bipush 8, 2) := by decide +kernel
theorem e_X12_mean_3 : decode cX12_mean 55 = .ok (.iaload, 1) ∧ decode cX12_mean 56 = .ok (.iconst (-1), 1) ∧ decode cX12_mean 57 = .ok (.if_icmp .ne 10, 3) ∧ decode cX12_mean 60 = .ok (.aload_n 0, 1) ∧ decode cX12_mean 61 = .ok (.bipush 6, 2) ∧ decode cX12_mean 63 = .ok (.invokevirtual 100, 3) ∧ decode cX12_mean 66 = .ok (.ireturn, 1) ∧ decode cX12_mean 67 = .ok (.aload_n 0, 1) ∧ decode cX12_mean 68 = .ok (.sipush 2570, 3) ∧ decode cX12_mean 71 = .ok (.invokevirtual 419, 3) := by decide +kernel
theorem e_X12_mean_4 : decode cX12_mean 74 = .ok (.lconst 0, 1) ∧ decode cX12_mean 75 = .ok (.lstore 4, 2) ∧ decode cX12_mean 77 = .ok (.iconst 0, 1) ∧ decode cX12_mean 78 = .ok (.istore 6, 2) ∧ decode cX12_mean 80 = .ok (.iload 6, 2) ∧ decode cX12_mean 82 = .ok (.iload_n 3, 1) ∧ decode cX12_mean 83 = .ok (.if_icmp .ge 36, 3) ∧ decode cX12_mean 86 = .ok (.aload_n 0, 1) ∧ decode cX12_mean 87 = .ok (.iload_n 2, 1) ∧ decode cX12_mean 88 = .ok (.iload 6, 2) := by decide +kernel
theorem e_X12_mean_5 : decode cX12_mean 90 = .ok (.iadd, 1) ∧ decode cX12_mean 91 = .ok (.invokevirtual 526, 3) ∧ decode cX12_mean 94 = .ok (.lload 4, 2) ∧ decode cX12_mean 96 = .ok (.aload_n 0, 1) ∧ decode cX12_mean 97 = .ok (.iload_n 1, 1) ∧ decode cX12_mean 98 = .ok (.iconst 5, 1) ∧ decode cX12_mean 99 = .ok (.invokevirtual 268, 3) ∧ decode cX12_mean 102 = .ok (.i2l, 1) ∧ decode cX12_mean 103 = .ok (.ladd, 1) ∧ decode cX12_mean 104 = .ok (.lstore 4, 2) := by decide +kernel
theorem e_X12_mean_6 : decode cX12_mean 106 = .ok (.aload_n 0, 1) ∧ decode cX12_mean 107 = .ok (.sipush 2570, 3) ∧ decode cX12_mean 110 = .ok (.invokevirtual 422, 3) ∧ decode cX12_mean 113 = .ok (.iinc 6 1, 3) ∧ decode cX12_mean 116 = .ok (.goto (-36), 3) ∧ decode cX12_mean 119 = .ok (.aload_n 0, 1) ∧ decode cX12_mean 120 = .ok (.lload 4, 2) ∧ decode cX12_mean 122 = .ok (.iload_n 3, 1) ∧ decode cX12_mean 123 = .ok (.i2l, 1) ∧ decode cX12_mean 124 = .ok (.invokevirtual 493, 3) := by decide +kernel
theorem e_X12_mean_7 : decode cX12_mean 127 = .ok (.ireturn, 1) := by decide +kernel
abbrev E_X12_mean_80 (G : Kg) (l1 l2 l3 l4 l6 : Int) (σ : Kmem) (Q : Int → Kmem → Prop) : Prop := Ex G WM M_X12_mean 12 0 0 80 [(0, vA G 0), (1, vI l1), (2, vI l2), (3, vI l3), (4, vL l4), (6, vI l6)] [] σ Q
theorem S_X12_mean {G : Kg} {σ : Kmem} {Q : Int → Kmem → Prop} {l1 l2 l3 : Int}  (h : Run G WM M_X12_isKite 0 0 0 [vA G 0, vI l1] σ (fun r1 s2 => (rI r1) ∧ ((r1 = 0 → Run G WM M_X12_is 0 0 0 [vA G 0, vI 1] s2 (fun r4 s5 => (r4 = 0 ∨ r4 = 1) ∧ Q r4 s5)) ∧ (r1 ≠ 0 → (rI l2) ∧ Run G WM M_X12_isFrom 0 0 0 [vL l2, vL 0, vL 9999] s2 (fun r8 s9 => (rI r8) ∧ ((r8 = 0 → Run G WM M_X12_is 0 0 0 [vA G 0, vI 1] s9 (fun r11 s12 => (r11 = 0 ∨ r11 = 1) ∧ Q r11 s12)) ∧ (r8 ≠ 0 → (rI l3) ∧ Run G WM M_X12_isFrom 0 0 0 [vL l3, vL 1, vL 20] s9 (fun r15 s16 => (rI r15) ∧ ((r15 = 0 → Run G WM M_X12_is 0 0 0 [vA G 0, vI 1] s16 (fun r18 s19 => (r18 = 0 ∨ r18 = 1) ∧ Q r18 s19)) ∧ (r15 ≠ 0 → (rI ((l2 + l3) - 1)) ∧ (((l2 + l3) - 1 ≤ 9999 → (rI (s16 1 8)) ∧ ((s16 1 8 ≠ -1 → Run G WM M_X12_keeps 0 0 0 [vA G 0, vI 2570] s16 (fun r23 s24 => E_X12_mean_80 G l1 l2 l3 0 0 s24 Q)) ∧ (s16 1 8 = -1 → Run G WM M_X12_is 0 0 0 [vA G 0, vI 6] s16 (fun r25 s26 => (r25 = 0 ∨ r25 = 1) ∧ Q r25 s26)))) ∧ (9999 < (l2 + l3) - 1 → Run G WM M_X12_is 0 0 0 [vA G 0, vI 1] s16 (fun r28 s29 => (r28 = 0 ∨ r28 = 1) ∧ Q r28 s29))))))))))))) : Run G WM M_X12_mean 12 0 0 [vA G 0, vI l1, vI l2, vI l3] σ Q := by
  refine Run.of (by decide +kernel) (by show (4 : Nat) ≤ 7; decide) ?_
  show Ex G WM M_X12_mean 12 0 0 0 [(0, vA G 0), (1, vI l1), (2, vI l2), (3, vI l3)] [] σ Q
  refine R_aload_n e_X12_mean_0.1 0 rfl ?_
  refine R_iload_n e_X12_mean_0.2.1 1 rfl ?_
  refine R_callV (mc := 0) (ms := 0) (mc' := 0) (ms' := 0) (M' := M_X12_isKite) (d' := 0) (as := [vI l1]) (st := []) 12 1 e_X12_mean_0.2.2.1 (kCVof m_X12_isKite l_X12_343) rfl (by decide) km_0 (by decide) (by decide) rfl rfl (by show (0 : Nat) ≤ 8; decide) ?_
  refine Run.mono h (fun r1 s2 h => ?_)
  refine R_eqs (st2 := [vI r1]) rfl rfl ?_
  obtain ⟨q3, h⟩ := h
  refine R_if_eq 43 e_X12_mean_0.2.2.2.1 (by decide) q3  (fun q => ?_) (fun q => ?_)
  · replace h := h.1 q
    refine R_aload_n e_X12_mean_2.2.2.2.1 0 rfl ?_
    refine R_iconst e_X12_mean_2.2.2.2.2.1 ?_
    refine R_callV (mc := 0) (ms := 0) (mc' := 0) (ms' := 0) (M' := M_X12_is) (d' := 0) (as := [vI 1]) (st := []) 12 1 e_X12_mean_2.2.2.2.2.2.1 (kCVof m_X12_is l_X12_100) rfl (by decide) km_0 (by decide) (by decide) rfl rfl (by show (0 : Nat) ≤ 8; decide) ?_
    refine Run.mono h (fun r4 s5 h => ?_)
    refine R_eqs (st2 := [vI r4]) rfl rfl ?_
    obtain ⟨q6, h⟩ := h
    exact R_zreturn e_X12_mean_2.2.2.2.2.2.2.1 rfl q6 h
  · replace h := h.2 q
    refine R_iload_n e_X12_mean_0.2.2.2.2.1 2 rfl ?_
    obtain ⟨q7, h⟩ := h
    refine R_i2l e_X12_mean_0.2.2.2.2.2.1 q7 ?_
    refine R_lconst 0 e_X12_mean_0.2.2.2.2.2.2.1 (by decide) ?_
    refine R_ldc2 (9999) k_X12_524 e_X12_mean_0.2.2.2.2.2.2.2.1 ?_
    refine R_callS (mc := 0) (ms := 0) (mc' := 0) (ms' := 0) (M' := M_X12_isFrom) (d' := 0) (as := [vL l2, vL 0, vL 9999]) (st := []) 3 e_X12_mean_0.2.2.2.2.2.2.2.2.1 (kCSof m_X12_isFrom l_X12_393) (by decide) (by decide) rfl rfl (by show (0 : Nat) ≤ 8; decide) ?_
    refine Run.mono h (fun r8 s9 h => ?_)
    refine R_eqs (st2 := [vI r8]) rfl rfl ?_
    obtain ⟨q10, h⟩ := h
    refine R_if_eq 43 e_X12_mean_0.2.2.2.2.2.2.2.2.2 (by decide) q10  (fun q => ?_) (fun q => ?_)
    · replace h := h.1 q
      refine R_aload_n e_X12_mean_2.2.2.2.1 0 rfl ?_
      refine R_iconst e_X12_mean_2.2.2.2.2.1 ?_
      refine R_callV (mc := 0) (ms := 0) (mc' := 0) (ms' := 0) (M' := M_X12_is) (d' := 0) (as := [vI 1]) (st := []) 12 1 e_X12_mean_2.2.2.2.2.2.1 (kCVof m_X12_is l_X12_100) rfl (by decide) km_0 (by decide) (by decide) rfl rfl (by show (0 : Nat) ≤ 8; decide) ?_
      refine Run.mono h (fun r11 s12 h => ?_)
      refine R_eqs (st2 := [vI r11]) rfl rfl ?_
      obtain ⟨q13, h⟩ := h
      exact R_zreturn e_X12_mean_2.2.2.2.2.2.2.1 rfl q13 h
    · replace h := h.2 q
      refine R_iload_n e_X12_mean_1.1 3 rfl ?_
      obtain ⟨q14, h⟩ := h
      refine R_i2l e_X12_mean_1.2.1 q14 ?_
      refine R_lconst 1 e_X12_mean_1.2.2.1 (by decide) ?_
      refine R_ldc2 (20) k_X12_449 e_X12_mean_1.2.2.2.1 ?_
      refine R_callS (mc := 0) (ms := 0) (mc' := 0) (ms' := 0) (M' := M_X12_isFrom) (d' := 0) (as := [vL l3, vL 1, vL 20]) (st := []) 3 e_X12_mean_1.2.2.2.2.1 (kCSof m_X12_isFrom l_X12_393) (by decide) (by decide) rfl rfl (by show (0 : Nat) ≤ 8; decide) ?_
      refine Run.mono h (fun r15 s16 h => ?_)
      refine R_eqs (st2 := [vI r15]) rfl rfl ?_
      obtain ⟨q17, h⟩ := h
      refine R_if_eq 43 e_X12_mean_1.2.2.2.2.2.1 (by decide) q17  (fun q => ?_) (fun q => ?_)
      · replace h := h.1 q
        refine R_aload_n e_X12_mean_2.2.2.2.1 0 rfl ?_
        refine R_iconst e_X12_mean_2.2.2.2.2.1 ?_
        refine R_callV (mc := 0) (ms := 0) (mc' := 0) (ms' := 0) (M' := M_X12_is) (d' := 0) (as := [vI 1]) (st := []) 12 1 e_X12_mean_2.2.2.2.2.2.1 (kCVof m_X12_is l_X12_100) rfl (by decide) km_0 (by decide) (by decide) rfl rfl (by show (0 : Nat) ≤ 8; decide) ?_
        refine Run.mono h (fun r18 s19 h => ?_)
        refine R_eqs (st2 := [vI r18]) rfl rfl ?_
        obtain ⟨q20, h⟩ := h
        exact R_zreturn e_X12_mean_2.2.2.2.2.2.2.1 rfl q20 h
      · replace h := h.2 q
        refine R_iload_n e_X12_mean_1.2.2.2.2.2.2.1 2 rfl ?_
        refine R_iload_n e_X12_mean_1.2.2.2.2.2.2.2.1 3 rfl ?_
        refine R_iadd e_X12_mean_1.2.2.2.2.2.2.2.2.1 ?_
        refine R_iconst e_X12_mean_1.2.2.2.2.2.2.2.2.2 ?_
        refine R_isub e_X12_mean_2.1 ?_
        refine R_sipush e_X12_mean_2.2.1 (by decide) ?_
        obtain ⟨q21, h⟩ := h
        refine R_icmp_le 49 e_X12_mean_2.2.2.1 (by decide) q21 (by decide) (fun q => ?_) (fun q => ?_)
        · replace h := h.1 q
          refine R_aload_n e_X12_mean_2.2.2.2.2.2.2.2.1 0 rfl ?_
          refine R_getA 12 0 1 e_X12_mean_2.2.2.2.2.2.2.2.2.1 f_X12_7 km_0 (fun _ _ => rfl) rm_0_0 (by decide) ?_
          refine R_bipush e_X12_mean_2.2.2.2.2.2.2.2.2.2 (by decide) ?_
          refine R_iald 3598 e_X12_mean_3.1 kma_1 (by decide) ?_
          refine R_iconst e_X12_mean_3.2.1 ?_
          obtain ⟨q22, h⟩ := h
          refine R_icmp_ne 67 e_X12_mean_3.2.2.1 (by decide) q22 (by decide) (fun q => ?_) (fun q => ?_)
          · replace h := h.1 q
            refine R_aload_n e_X12_mean_3.2.2.2.2.2.2.2.1 0 rfl ?_
            refine R_sipush e_X12_mean_3.2.2.2.2.2.2.2.2.1 (by decide) ?_
            refine R_callV (mc := 0) (ms := 0) (mc' := 0) (ms' := 0) (M' := M_X12_keeps) (d' := 0) (as := [vI 2570]) (st := []) 12 1 e_X12_mean_3.2.2.2.2.2.2.2.2.2 (kCVof m_X12_keeps l_X12_419) rfl (by decide) km_0 (by decide) (by decide) rfl rfl (by show (0 : Nat) ≤ 8; decide) ?_
            refine Run.mono h (fun r23 s24 h => ?_)
            refine R_eqs (st2 := []) rfl rfl ?_
            refine R_lconst 0 e_X12_mean_4.1 (by decide) ?_
            refine R_lstore (ls2 := [(4, vL 0), (0, vA G 0), (1, vI l1), (2, vI l2), (3, vI l3)]) e_X12_mean_4.2.1 (by decide) rfl ?_
            refine R_iconst e_X12_mean_4.2.2.1 ?_
            refine R_istore (ls2 := [(6, vI 0), (4, vL 0), (0, vA G 0), (1, vI l1), (2, vI l2), (3, vI l3)]) e_X12_mean_4.2.2.2.1 (by decide) rfl ?_
            refine R_ls (ls2 := [(0, vA G 0), (1, vI l1), (2, vI l2), (3, vI l3), (4, vL 0), (6, vI 0)]) [2, 3, 4, 5, 1, 0] rfl ?_
            exact h
          · replace h := h.2 q
            refine R_aload_n e_X12_mean_3.2.2.2.1 0 rfl ?_
            refine R_bipush e_X12_mean_3.2.2.2.2.1 (by decide) ?_
            refine R_callV (mc := 0) (ms := 0) (mc' := 0) (ms' := 0) (M' := M_X12_is) (d' := 0) (as := [vI 6]) (st := []) 12 1 e_X12_mean_3.2.2.2.2.2.1 (kCVof m_X12_is l_X12_100) rfl (by decide) km_0 (by decide) (by decide) rfl rfl (by show (0 : Nat) ≤ 8; decide) ?_
            refine Run.mono h (fun r25 s26 h => ?_)
            refine R_eqs (st2 := [vI r25]) rfl rfl ?_
            obtain ⟨q27, h⟩ := h
            exact R_zreturn e_X12_mean_3.2.2.2.2.2.2.1 rfl q27 h
        · replace h := h.2 q
          refine R_aload_n e_X12_mean_2.2.2.2.1 0 rfl ?_
          refine R_iconst e_X12_mean_2.2.2.2.2.1 ?_
          refine R_callV (mc := 0) (ms := 0) (mc' := 0) (ms' := 0) (M' := M_X12_is) (d' := 0) (as := [vI 1]) (st := []) 12 1 e_X12_mean_2.2.2.2.2.2.1 (kCVof m_X12_is l_X12_100) rfl (by decide) km_0 (by decide) (by decide) rfl rfl (by show (0 : Nat) ≤ 8; decide) ?_
          refine Run.mono h (fun r28 s29 h => ?_)
          refine R_eqs (st2 := [vI r28]) rfl rfl ?_
          obtain ⟨q30, h⟩ := h
          exact R_zreturn e_X12_mean_2.2.2.2.2.2.2.1 rfl q30 h
theorem S_X12_mean_80 {G : Kg} {σ : Kmem} {Q : Int → Kmem → Prop} {l1 l2 l3 l4 l6 : Int}  (h : (rI l6) ∧ (rI l3) ∧ ((l3 ≤ l6 → Run G WM M_X12_tellsBy 1 0 0 [vA G 0, vL l4, vL l3] σ (fun r33 s34 => (r33 = 0 ∨ r33 = 1) ∧ Q r33 s34)) ∧ (l6 < l3 → Run G WM M_X12_lives 11 0 0 [vA G 0, vI (l2 + l6)] σ (fun r36 s37 => Run G WM M_X12_of 1 0 0 [vA G 0, vI l1, vI 5] s37 (fun r38 s39 => (rI r38) ∧ Run G WM M_X12_restores 0 0 0 [vA G 0, vI 2570] s39 (fun r41 s42 => E_X12_mean_80 G l1 l2 l3 (l4 + r38) (l6 + 1) s42 Q)))))) : E_X12_mean_80 G l1 l2 l3 l4 l6 σ Q := by
  refine R_iload e_X12_mean_4.2.2.2.2.1 5 rfl ?_
  refine R_iload_n e_X12_mean_4.2.2.2.2.2.1 3 rfl ?_
  obtain ⟨q31, h⟩ := h
  obtain ⟨q32, h⟩ := h
  refine R_icmp_ge 119 e_X12_mean_4.2.2.2.2.2.2.1 (by decide) q31 q32 (fun q => ?_) (fun q => ?_)
  · replace h := h.1 q
    refine R_aload_n e_X12_mean_6.2.2.2.2.2.1 0 rfl ?_
    refine R_lload e_X12_mean_6.2.2.2.2.2.2.1 4 rfl ?_
    refine R_iload_n e_X12_mean_6.2.2.2.2.2.2.2.1 3 rfl ?_
    refine R_i2l e_X12_mean_6.2.2.2.2.2.2.2.2.1 q32 ?_
    refine R_callV (mc := 0) (ms := 0) (mc' := 0) (ms' := 0) (M' := M_X12_tellsBy) (d' := 1) (as := [vL l4, vL l3]) (st := []) 12 2 e_X12_mean_6.2.2.2.2.2.2.2.2.2 (kCVof m_X12_tellsBy l_X12_493) rfl (by decide) km_0 (by decide) (by decide) rfl rfl (by show (0 : Nat) ≤ 8; decide) ?_
    refine Run.mono h (fun r33 s34 h => ?_)
    refine R_eqs (st2 := [vI r33]) rfl rfl ?_
    obtain ⟨q35, h⟩ := h
    exact R_zreturn e_X12_mean_7 rfl q35 h
  · replace h := h.2 q
    refine R_aload_n e_X12_mean_4.2.2.2.2.2.2.2.1 0 rfl ?_
    refine R_iload_n e_X12_mean_4.2.2.2.2.2.2.2.2.1 2 rfl ?_
    refine R_iload e_X12_mean_4.2.2.2.2.2.2.2.2.2 5 rfl ?_
    refine R_iadd e_X12_mean_5.1 ?_
    refine R_callV (mc := 0) (ms := 0) (mc' := 0) (ms' := 0) (M' := M_X12_lives) (d' := 11) (as := [vI (l2 + l6)]) (st := []) 12 1 e_X12_mean_5.2.1 (kCVof m_X12_lives l_X12_526) rfl (by decide) km_0 (by decide) (by decide) rfl rfl (by show (0 : Nat) ≤ 8; decide) ?_
    refine Run.mono h (fun r36 s37 h => ?_)
    refine R_eqs (st2 := []) rfl rfl ?_
    refine R_lload e_X12_mean_5.2.2.1 4 rfl ?_
    refine R_aload_n e_X12_mean_5.2.2.2.1 0 rfl ?_
    refine R_iload_n e_X12_mean_5.2.2.2.2.1 1 rfl ?_
    refine R_iconst e_X12_mean_5.2.2.2.2.2.1 ?_
    refine R_callV (mc := 0) (ms := 0) (mc' := 0) (ms' := 0) (M' := M_X12_of) (d' := 1) (as := [vI l1, vI 5]) (st := [vL l4]) 12 2 e_X12_mean_5.2.2.2.2.2.2.1 (kCVof m_X12_of l_X12_268) rfl (by decide) km_0 (by decide) (by decide) rfl rfl (by show (2 : Nat) ≤ 8; decide) ?_
    refine Run.mono h (fun r38 s39 h => ?_)
    refine R_eqs (st2 := [vI r38, vL l4]) rfl rfl ?_
    obtain ⟨q40, h⟩ := h
    refine R_i2l e_X12_mean_5.2.2.2.2.2.2.2.1 q40 ?_
    refine R_ladd e_X12_mean_5.2.2.2.2.2.2.2.2.1 ?_
    refine R_lstore (ls2 := [(4, vL (l4 + r38)), (0, vA G 0), (1, vI l1), (2, vI l2), (3, vI l3), (6, vI l6)]) e_X12_mean_5.2.2.2.2.2.2.2.2.2 (by decide) rfl ?_
    refine R_aload_n e_X12_mean_6.1 1 rfl ?_
    refine R_sipush e_X12_mean_6.2.1 (by decide) ?_
    refine R_callV (mc := 0) (ms := 0) (mc' := 0) (ms' := 0) (M' := M_X12_restores) (d' := 0) (as := [vI 2570]) (st := []) 12 1 e_X12_mean_6.2.2.1 (kCVof m_X12_restores l_X12_422) rfl (by decide) km_0 (by decide) (by decide) rfl rfl (by show (0 : Nat) ≤ 8; decide) ?_
    refine Run.mono h (fun r41 s42 h => ?_)
    refine R_eqs (st2 := []) rfl rfl ?_
    refine R_iinc (ls2 := [(6, vI (l6 + 1)), (4, vL (l4 + r38)), (0, vA G 0), (1, vI l1), (2, vI l2), (3, vI l3)]) e_X12_mean_6.2.2.2.1 5 rfl (by decide) rfl ?_
    refine R_goto 80 e_X12_mean_6.2.2.2.2.1 (by decide) ?_
    refine R_ls (ls2 := [(0, vA G 0), (1, vI l1), (2, vI l2), (3, vI l3), (4, vL (l4 + r38)), (6, vI (l6 + 1))]) [2, 3, 4, 5, 1, 0] rfl ?_
    exact h
/-! KiteLandModel.copies(II)V -/
theorem e_X12_copies_0 : decode cX12_copies 0 = .ok (.iconst 0, 1) ∧ decode cX12_copies 1 = .ok (.istore_n 3, 1) ∧ decode cX12_copies 2 = .ok (.iload_n 3, 1) ∧ decode cX12_copies 3 = .ok (.sipush 514, 3) ∧ decode cX12_copies 6 = .ok (.if_icmp .ge 33, 3) ∧ decode cX12_copies 9 = .ok (.aload_n 0, 1) ∧ decode cX12_copies 10 = .ok (.getfield 7, 3) ∧ decode cX12_copies 13 = .ok (.sipush 514, 3) ∧ decode cX12_copies 16 = .ok (.iload_n 2, 1) ∧ decode cX12_copies 17 = .ok (.imul, 1) := by decide +kernel
theorem e_X12_copies_1 : decode cX12_copies 18 = .ok (.iload_n 3, 1) ∧ decode cX12_copies 19 = .ok (.iadd, 1) ∧ decode cX12_copies 20 = .ok (.aload_n 0, 1) ∧ decode cX12_copies 21 = .ok (.getfield 7, 3) ∧ decode cX12_copies 24 = .ok (.sipush 514, 3) ∧ decode cX12_copies 27 = .ok (.iload_n 1, 1) ∧ decode cX12_copies 28 = .ok (.imul, 1) ∧ decode cX12_copies 29 = .ok (.iload_n 3, 1) ∧ decode cX12_copies 30 = .ok (.iadd, 1) ∧ decode cX12_copies 31 = .ok (.iaload, 1) := by decide +kernel
theorem e_X12_copies_2 : decode cX12_copies 32 = .ok (.iastore, 1) ∧ decode cX12_copies 33 = .ok (.iinc 3 1, 3) ∧ decode cX12_copies 36 = .ok (.goto (-34), 3) ∧ decode cX12_copies 39 = .ok (.iconst 0, 1) ∧ decode cX12_copies 40 = .ok (.istore_n 3, 1) ∧ decode cX12_copies 41 = .ok (.iload_n 3, 1) ∧ decode cX12_copies 42 = .ok (.bipush 20, 2) ∧ decode cX12_copies 44 = .ok (.if_icmp .ge 31, 3) ∧ decode cX12_copies 47 = .ok (.aload_n 0, 1) ∧ decode cX12_copies 48 = .ok (.getfield 13, 3) := by decide +kernel
theorem e_X12_copies_3 : decode cX12_copies 51 = .ok (.bipush 20, 2) ∧ decode cX12_copies 53 = .ok (.iload_n 2, 1) ∧ decode cX12_copies 54 = .ok (.imul, 1) ∧ decode cX12_copies 55 = .ok (.iload_n 3, 1) ∧ decode cX12_copies 56 = .ok (.iadd, 1) ∧ decode cX12_copies 57 = .ok (.aload_n 0, 1) ∧ decode cX12_copies 58 = .ok (.getfield 13, 3) ∧ decode cX12_copies 61 = .ok (.bipush 20, 2) ∧ decode cX12_copies 63 = .ok (.iload_n 1, 1) ∧ decode cX12_copies 64 = .ok (.imul, 1) := by decide +kernel
theorem e_X12_copies_4 : decode cX12_copies 65 = .ok (.iload_n 3, 1) ∧ decode cX12_copies 66 = .ok (.iadd, 1) ∧ decode cX12_copies 67 = .ok (.laload, 1) ∧ decode cX12_copies 68 = .ok (.lastore, 1) ∧ decode cX12_copies 69 = .ok (.iinc 3 1, 3) ∧ decode cX12_copies 72 = .ok (.goto (-31), 3) ∧ decode cX12_copies 75 = .ok (.return_, 1) := by decide +kernel
abbrev E_X12_copies_2 (G : Kg) (l1 l2 l3 : Int) (σ : Kmem) (Q : Int → Kmem → Prop) : Prop := Ex G WM M_X12_copies 0 0 0 2 [(0, vA G 0), (1, vI l1), (2, vI l2), (3, vI l3)] [] σ Q
abbrev E_X12_copies_41 (G : Kg) (l1 l2 l3 : Int) (σ : Kmem) (Q : Int → Kmem → Prop) : Prop := Ex G WM M_X12_copies 0 0 0 41 [(0, vA G 0), (1, vI l1), (2, vI l2), (3, vI l3)] [] σ Q
theorem S_X12_copies {G : Kg} {σ : Kmem} {Q : Int → Kmem → Prop} {l1 l2 : Int}  (h : E_X12_copies_2 G l1 l2 0 σ Q) : Run G WM M_X12_copies 0 0 0 [vA G 0, vI l1, vI l2] σ Q := by
  refine Run.of (by decide +kernel) (by show (3 : Nat) ≤ 4; decide) ?_
  show Ex G WM M_X12_copies 0 0 0 0 [(0, vA G 0), (1, vI l1), (2, vI l2)] [] σ Q
  refine R_iconst e_X12_copies_0.1 ?_
  refine R_istore_n (ls2 := [(3, vI 0), (0, vA G 0), (1, vI l1), (2, vI l2)]) e_X12_copies_0.2.1 (by decide) rfl ?_
  refine R_ls (ls2 := [(0, vA G 0), (1, vI l1), (2, vI l2), (3, vI 0)]) [1, 2, 3, 0] rfl ?_
  exact h
theorem S_X12_copies_2 {G : Kg} {σ : Kmem} {Q : Int → Kmem → Prop} {l1 l2 l3 : Int}  (h : (rI l3) ∧ ((514 ≤ l3 → E_X12_copies_41 G l1 l2 0 σ Q) ∧ (l3 < 514 → (0 ≤ (514 * l1) + l3 ∧ (514 * l1) + l3 < 3598) ∧ (0 ≤ (514 * l2) + l3 ∧ (514 * l2) + l3 < 3598) ∧ E_X12_copies_2 G l1 l2 (l3 + 1) (kup σ 1 ((514 * l2) + l3) (σ 1 ((514 * l1) + l3))) Q))) : E_X12_copies_2 G l1 l2 l3 σ Q := by
  refine R_iload_n e_X12_copies_0.2.2.1 3 rfl ?_
  refine R_sipush e_X12_copies_0.2.2.2.1 (by decide) ?_
  obtain ⟨q1, h⟩ := h
  refine R_icmp_ge 39 e_X12_copies_0.2.2.2.2.1 (by decide) q1 (by decide) (fun q => ?_) (fun q => ?_)
  · replace h := h.1 q
    refine R_iconst e_X12_copies_2.2.2.2.1 ?_
    refine R_istore_n (ls2 := [(3, vI 0), (0, vA G 0), (1, vI l1), (2, vI l2)]) e_X12_copies_2.2.2.2.2.1 (by decide) rfl ?_
    refine R_ls (ls2 := [(0, vA G 0), (1, vI l1), (2, vI l2), (3, vI 0)]) [1, 2, 3, 0] rfl ?_
    exact h
  · replace h := h.2 q
    refine R_aload_n e_X12_copies_0.2.2.2.2.2.1 0 rfl ?_
    refine R_getA 12 0 1 e_X12_copies_0.2.2.2.2.2.2.1 f_X12_7 km_0 (fun _ _ => rfl) rm_0_0 (by decide) ?_
    refine R_sipush e_X12_copies_0.2.2.2.2.2.2.2.1 (by decide) ?_
    refine R_iload_n e_X12_copies_0.2.2.2.2.2.2.2.2.1 2 rfl ?_
    refine R_imul e_X12_copies_0.2.2.2.2.2.2.2.2.2 ?_
    refine R_iload_n e_X12_copies_1.1 3 rfl ?_
    refine R_iadd e_X12_copies_1.2.1 ?_
    refine R_aload_n e_X12_copies_1.2.2.1 0 rfl ?_
    refine R_getA 12 0 1 e_X12_copies_1.2.2.2.1 f_X12_7 km_0 (fun _ _ => rfl) rm_0_0 (by decide) ?_
    refine R_sipush e_X12_copies_1.2.2.2.2.1 (by decide) ?_
    refine R_iload_n e_X12_copies_1.2.2.2.2.2.1 1 rfl ?_
    refine R_imul e_X12_copies_1.2.2.2.2.2.2.1 ?_
    refine R_iload_n e_X12_copies_1.2.2.2.2.2.2.2.1 3 rfl ?_
    refine R_iadd e_X12_copies_1.2.2.2.2.2.2.2.2.1 ?_
    obtain ⟨q2, h⟩ := h
    refine R_iald 3598 e_X12_copies_1.2.2.2.2.2.2.2.2.2 kma_1 q2 ?_
    obtain ⟨q3, h⟩ := h
    refine R_iast 3598 WM_ok e_X12_copies_2.1 kma_1 q3 ?_
    refine R_iinc (ls2 := [(3, vI (l3 + 1)), (0, vA G 0), (1, vI l1), (2, vI l2)]) e_X12_copies_2.2.1 3 rfl (by decide) rfl ?_
    refine R_goto 2 e_X12_copies_2.2.2.1 (by decide) ?_
    refine R_ls (ls2 := [(0, vA G 0), (1, vI l1), (2, vI l2), (3, vI (l3 + 1))]) [1, 2, 3, 0] rfl ?_
    exact h
theorem S_X12_copies_41 {G : Kg} {σ : Kmem} {Q : Int → Kmem → Prop} {l1 l2 l3 : Int}  (h : (rI l3) ∧ ((20 ≤ l3 → Q 0 σ) ∧ (l3 < 20 → (0 ≤ (20 * l1) + l3 ∧ (20 * l1) + l3 < 120) ∧ (0 ≤ (20 * l2) + l3 ∧ (20 * l2) + l3 < 120) ∧ E_X12_copies_41 G l1 l2 (l3 + 1) (kup σ 2 ((20 * l2) + l3) (σ 2 ((20 * l1) + l3))) Q))) : E_X12_copies_41 G l1 l2 l3 σ Q := by
  refine R_iload_n e_X12_copies_2.2.2.2.2.2.1 3 rfl ?_
  refine R_bipush e_X12_copies_2.2.2.2.2.2.2.1 (by decide) ?_
  obtain ⟨q4, h⟩ := h
  refine R_icmp_ge 75 e_X12_copies_2.2.2.2.2.2.2.2.1 (by decide) q4 (by decide) (fun q => ?_) (fun q => ?_)
  · replace h := h.1 q
    exact R_return e_X12_copies_4.2.2.2.2.2.2 rfl h
  · replace h := h.2 q
    refine R_aload_n e_X12_copies_2.2.2.2.2.2.2.2.2.1 0 rfl ?_
    refine R_getA 12 1 2 e_X12_copies_2.2.2.2.2.2.2.2.2.2 f_X12_13 km_0 (fun _ _ => rfl) rm_0_1 (by decide) ?_
    refine R_bipush e_X12_copies_3.1 (by decide) ?_
    refine R_iload_n e_X12_copies_3.2.1 2 rfl ?_
    refine R_imul e_X12_copies_3.2.2.1 ?_
    refine R_iload_n e_X12_copies_3.2.2.2.1 3 rfl ?_
    refine R_iadd e_X12_copies_3.2.2.2.2.1 ?_
    refine R_aload_n e_X12_copies_3.2.2.2.2.2.1 0 rfl ?_
    refine R_getA 12 1 2 e_X12_copies_3.2.2.2.2.2.2.1 f_X12_13 km_0 (fun _ _ => rfl) rm_0_1 (by decide) ?_
    refine R_bipush e_X12_copies_3.2.2.2.2.2.2.2.1 (by decide) ?_
    refine R_iload_n e_X12_copies_3.2.2.2.2.2.2.2.2.1 1 rfl ?_
    refine R_imul e_X12_copies_3.2.2.2.2.2.2.2.2.2 ?_
    refine R_iload_n e_X12_copies_4.1 3 rfl ?_
    refine R_iadd e_X12_copies_4.2.1 ?_
    obtain ⟨q5, h⟩ := h
    refine R_lald 120 e_X12_copies_4.2.2.1 kma_2 q5 ?_
    obtain ⟨q6, h⟩ := h
    refine R_last 120 WM_ok e_X12_copies_4.2.2.2.1 kma_2 q6 ?_
    refine R_iinc (ls2 := [(3, vI (l3 + 1)), (0, vA G 0), (1, vI l1), (2, vI l2)]) e_X12_copies_4.2.2.2.2.1 3 rfl (by decide) rfl ?_
    refine R_goto 41 e_X12_copies_4.2.2.2.2.2.1 (by decide) ?_
    refine R_ls (ls2 := [(0, vA G 0), (1, vI l1), (2, vI l2), (3, vI (l3 + 1))]) [1, 2, 3, 0] rfl ?_
    exact h
/-! KiteLandModel.mark()I -/
theorem e_X12_mark_0 : decode cX12_mark 0 = .ok (.aload_n 0, 1) ∧ decode cX12_mark 1 = .ok (.getfield 533, 3) ∧ decode cX12_mark 4 = .ok (.iconst 3, 1) ∧ decode cX12_mark 5 = .ok (.if_icmp .ne 9, 3) ∧ decode cX12_mark 8 = .ok (.aload_n 0, 1) ∧ decode cX12_mark 9 = .ok (.iconst 4, 1) ∧ decode cX12_mark 10 = .ok (.invokevirtual 93, 3) ∧ decode cX12_mark 13 = .ok (.ireturn, 1) ∧ decode cX12_mark 14 = .ok (.aload_n 0, 1) ∧ decode cX12_mark 15 = .ok (.dup, 1) := by decide +kernel
theorem e_X12_mark_1 : decode cX12_mark 16 = .ok (.getfield 533, 3) ∧ decode cX12_mark 19 = .ok (.iconst 1, 1) ∧ decode cX12_mark 20 = .ok (.iadd, 1) ∧ decode cX12_mark 21 = .ok (.putfield 533, 3) ∧ decode cX12_mark 24 = .ok (.aload_n 0, 1) ∧ decode cX12_mark 25 = .ok (.iconst 0, 1) ∧ decode cX12_mark 26 = .ok (.aload_n 0, 1) ∧ decode cX12_mark 27 = .ok (.getfield 533, 3) ∧ decode cX12_mark 30 = .ok (.invokevirtual 536, 3) ∧ decode cX12_mark 33 = .ok (.aload_n 0, 1) := by decide +kernel
theorem e_X12_mark_2 : decode cX12_mark 34 = .ok (.aload_n 0, 1) ∧ decode cX12_mark 35 = .ok (.getfield 533, 3) ∧ decode cX12_mark 38 = .ok (.invokevirtual 97, 3) ∧ decode cX12_mark 41 = .ok (.ireturn, 1) := by decide +kernel
theorem S_X12_mark {G : Kg} {σ : Kmem} {Q : Int → Kmem → Prop}  (h : (rI (σ 0 41)) ∧ ((σ 0 41 ≠ 3 → Run G WM M_X12_copies 0 0 0 [vA G 0, vI 0, vI ((kup σ 0 41 ((σ 0 41) + 1)) 0 41)] (kup σ 0 41 ((σ 0 41) + 1)) (fun r2 s3 => Run G WM M_X12_gives 0 0 0 [vA G 0, vI (s3 0 41)] s3 (fun r4 s5 => Q r4 s5))) ∧ (σ 0 41 = 3 → Run G WM M_X12_refuse 0 0 0 [vA G 0, vI 4] σ (fun r6 s7 => Q r6 s7)))) : Run G WM M_X12_mark 1 0 0 [vA G 0] σ Q := by
  refine Run.of (by decide +kernel) (by show (1 : Nat) ≤ 1; decide) ?_
  show Ex G WM M_X12_mark 1 0 0 0 [(0, vA G 0)] [] σ Q
  refine R_aload_n e_X12_mark_0.1 0 rfl ?_
  refine R_getI 12 41 41 e_X12_mark_0.2.1 f_X12_533 km_0 (fun _ _ => rfl) rfl ?_
  refine R_iconst e_X12_mark_0.2.2.1 ?_
  obtain ⟨q1, h⟩ := h
  refine R_icmp_ne 14 e_X12_mark_0.2.2.2.1 (by decide) q1 (by decide) (fun q => ?_) (fun q => ?_)
  · replace h := h.1 q
    refine R_aload_n e_X12_mark_0.2.2.2.2.2.2.2.2.1 0 rfl ?_
    refine R_dup e_X12_mark_0.2.2.2.2.2.2.2.2.2 rfl ?_
    refine R_getI 12 41 41 e_X12_mark_1.1 f_X12_533 km_0 (fun _ _ => rfl) rfl ?_
    refine R_iconst e_X12_mark_1.2.1 ?_
    refine R_iadd e_X12_mark_1.2.2.1 ?_
    refine R_putI 12 41 41 WM_ok e_X12_mark_1.2.2.2.1 f_X12_533 km_0 rfl rfl rfl ?_
    refine R_aload_n e_X12_mark_1.2.2.2.2.1 0 rfl ?_
    refine R_iconst e_X12_mark_1.2.2.2.2.2.1 ?_
    refine R_aload_n e_X12_mark_1.2.2.2.2.2.2.1 0 rfl ?_
    refine R_getI 12 41 41 e_X12_mark_1.2.2.2.2.2.2.2.1 f_X12_533 km_0 (fun _ _ => rfl) rfl ?_
    refine R_callV (mc := 0) (ms := 0) (mc' := 0) (ms' := 0) (M' := M_X12_copies) (d' := 0) (as := [vI 0, vI ((kup σ 0 41 ((σ 0 41) + 1)) 0 41)]) (st := []) 12 2 e_X12_mark_1.2.2.2.2.2.2.2.2.1 (kCVof m_X12_copies l_X12_536) rfl (by decide) km_0 (by decide) (by decide) rfl rfl (by show (0 : Nat) ≤ 8; decide) ?_
    refine Run.mono h (fun r2 s3 h => ?_)
    refine R_eqs (st2 := []) rfl rfl ?_
    refine R_aload_n e_X12_mark_1.2.2.2.2.2.2.2.2.2 0 rfl ?_
    refine R_aload_n e_X12_mark_2.1 0 rfl ?_
    refine R_getI 12 41 41 e_X12_mark_2.2.1 f_X12_533 km_0 (fun _ _ => rfl) rfl ?_
    refine R_callV (mc := 0) (ms := 0) (mc' := 0) (ms' := 0) (M' := M_X12_gives) (d' := 0) (as := [vI (s3 0 41)]) (st := []) 12 1 e_X12_mark_2.2.2.1 (kCVof m_X12_gives l_X12_97) rfl (by decide) km_0 (by decide) (by decide) rfl rfl (by show (0 : Nat) ≤ 8; decide) ?_
    refine Run.mono h (fun r4 s5 h => ?_)
    refine R_eqs (st2 := [vI r4]) rfl rfl ?_
    exact R_ireturn e_X12_mark_2.2.2.2 rfl h
  · replace h := h.2 q
    refine R_aload_n e_X12_mark_0.2.2.2.2.1 0 rfl ?_
    refine R_iconst e_X12_mark_0.2.2.2.2.2.1 ?_
    refine R_callV (mc := 0) (ms := 0) (mc' := 0) (ms' := 0) (M' := M_X12_refuse) (d' := 0) (as := [vI 4]) (st := []) 12 1 e_X12_mark_0.2.2.2.2.2.2.1 (kCVof m_X12_refuse l_X12_93) rfl (by decide) km_0 (by decide) (by decide) rfl rfl (by show (0 : Nat) ≤ 8; decide) ?_
    refine Run.mono h (fun r6 s7 h => ?_)
    refine R_eqs (st2 := [vI r6]) rfl rfl ?_
    exact R_ireturn e_X12_mark_0.2.2.2.2.2.2.2.1 rfl h
/-! KiteLandModel.undo()I -/
theorem e_X12_undo_0 : decode cX12_undo 0 = .ok (.aload_n 0, 1) ∧ decode cX12_undo 1 = .ok (.getfield 533, 3) ∧ decode cX12_undo 4 = .ok (.ifCond .ne 10, 3) ∧ decode cX12_undo 7 = .ok (.aload_n 0, 1) ∧ decode cX12_undo 8 = .ok (.bipush 6, 2) ∧ decode cX12_undo 10 = .ok (.invokevirtual 93, 3) ∧ decode cX12_undo 13 = .ok (.ireturn, 1) ∧ decode cX12_undo 14 = .ok (.aload_n 0, 1) ∧ decode cX12_undo 15 = .ok (.aload_n 0, 1) ∧ decode cX12_undo 16 = .ok (.getfield 533, 3) := by decide +kernel
theorem e_X12_undo_1 : decode cX12_undo 19 = .ok (.iconst 0, 1) ∧ decode cX12_undo 20 = .ok (.invokevirtual 536, 3) ∧ decode cX12_undo 23 = .ok (.aload_n 0, 1) ∧ decode cX12_undo 24 = .ok (.dup, 1) ∧ decode cX12_undo 25 = .ok (.getfield 533, 3) ∧ decode cX12_undo 28 = .ok (.iconst 1, 1) ∧ decode cX12_undo 29 = .ok (.isub, 1) ∧ decode cX12_undo 30 = .ok (.putfield 533, 3) ∧ decode cX12_undo 33 = .ok (.aload_n 0, 1) ∧ decode cX12_undo 34 = .ok (.aload_n 0, 1) := by decide +kernel
theorem e_X12_undo_2 : decode cX12_undo 35 = .ok (.getfield 533, 3) ∧ decode cX12_undo 38 = .ok (.invokevirtual 97, 3) ∧ decode cX12_undo 41 = .ok (.ireturn, 1) := by decide +kernel
theorem S_X12_undo {G : Kg} {σ : Kmem} {Q : Int → Kmem → Prop}  (h : (rI (σ 0 41)) ∧ ((σ 0 41 ≠ 0 → Run G WM M_X12_copies 0 0 0 [vA G 0, vI (σ 0 41), vI 0] σ (fun r2 s3 => Run G WM M_X12_gives 0 0 0 [vA G 0, vI ((kup s3 0 41 ((s3 0 41) - 1)) 0 41)] (kup s3 0 41 ((s3 0 41) - 1)) (fun r4 s5 => Q r4 s5))) ∧ (σ 0 41 = 0 → Run G WM M_X12_refuse 0 0 0 [vA G 0, vI 6] σ (fun r6 s7 => Q r6 s7)))) : Run G WM M_X12_undo 1 0 0 [vA G 0] σ Q := by
  refine Run.of (by decide +kernel) (by show (1 : Nat) ≤ 1; decide) ?_
  show Ex G WM M_X12_undo 1 0 0 0 [(0, vA G 0)] [] σ Q
  refine R_aload_n e_X12_undo_0.1 0 rfl ?_
  refine R_getI 12 41 41 e_X12_undo_0.2.1 f_X12_533 km_0 (fun _ _ => rfl) rfl ?_
  obtain ⟨q1, h⟩ := h
  refine R_if_ne 14 e_X12_undo_0.2.2.1 (by decide) q1  (fun q => ?_) (fun q => ?_)
  · replace h := h.1 q
    refine R_aload_n e_X12_undo_0.2.2.2.2.2.2.2.1 0 rfl ?_
    refine R_aload_n e_X12_undo_0.2.2.2.2.2.2.2.2.1 0 rfl ?_
    refine R_getI 12 41 41 e_X12_undo_0.2.2.2.2.2.2.2.2.2 f_X12_533 km_0 (fun _ _ => rfl) rfl ?_
    refine R_iconst e_X12_undo_1.1 ?_
    refine R_callV (mc := 0) (ms := 0) (mc' := 0) (ms' := 0) (M' := M_X12_copies) (d' := 0) (as := [vI (σ 0 41), vI 0]) (st := []) 12 2 e_X12_undo_1.2.1 (kCVof m_X12_copies l_X12_536) rfl (by decide) km_0 (by decide) (by decide) rfl rfl (by show (0 : Nat) ≤ 8; decide) ?_
    refine Run.mono h (fun r2 s3 h => ?_)
    refine R_eqs (st2 := []) rfl rfl ?_
    refine R_aload_n e_X12_undo_1.2.2.1 0 rfl ?_
    refine R_dup e_X12_undo_1.2.2.2.1 rfl ?_
    refine R_getI 12 41 41 e_X12_undo_1.2.2.2.2.1 f_X12_533 km_0 (fun _ _ => rfl) rfl ?_
    refine R_iconst e_X12_undo_1.2.2.2.2.2.1 ?_
    refine R_isub e_X12_undo_1.2.2.2.2.2.2.1 ?_
    refine R_putI 12 41 41 WM_ok e_X12_undo_1.2.2.2.2.2.2.2.1 f_X12_533 km_0 rfl rfl rfl ?_
    refine R_aload_n e_X12_undo_1.2.2.2.2.2.2.2.2.1 0 rfl ?_
    refine R_aload_n e_X12_undo_1.2.2.2.2.2.2.2.2.2 0 rfl ?_
    refine R_getI 12 41 41 e_X12_undo_2.1 f_X12_533 km_0 (fun _ _ => rfl) rfl ?_
    refine R_callV (mc := 0) (ms := 0) (mc' := 0) (ms' := 0) (M' := M_X12_gives) (d' := 0) (as := [vI ((kup s3 0 41 ((s3 0 41) - 1)) 0 41)]) (st := []) 12 1 e_X12_undo_2.2.1 (kCVof m_X12_gives l_X12_97) rfl (by decide) km_0 (by decide) (by decide) rfl rfl (by show (0 : Nat) ≤ 8; decide) ?_
    refine Run.mono h (fun r4 s5 h => ?_)
    refine R_eqs (st2 := [vI r4]) rfl rfl ?_
    exact R_ireturn e_X12_undo_2.2.2 rfl h
  · replace h := h.2 q
    refine R_aload_n e_X12_undo_0.2.2.2.1 0 rfl ?_
    refine R_bipush e_X12_undo_0.2.2.2.2.1 (by decide) ?_
    refine R_callV (mc := 0) (ms := 0) (mc' := 0) (ms' := 0) (M' := M_X12_refuse) (d' := 0) (as := [vI 6]) (st := []) 12 1 e_X12_undo_0.2.2.2.2.2.1 (kCVof m_X12_refuse l_X12_93) rfl (by decide) km_0 (by decide) (by decide) rfl rfl (by show (0 : Nat) ≤ 8; decide) ?_
    refine Run.mono h (fun r6 s7 h => ?_)
    refine R_eqs (st2 := [vI r6]) rfl rfl ?_
    exact R_ireturn e_X12_undo_0.2.2.2.2.2.2.1 rfl h
