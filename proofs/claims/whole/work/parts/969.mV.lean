/-! KiteLandModel.seasons(I)I -/
theorem e_X12_seasons_0 : decode cX12_seasons 0 = .ok (.aload_n 0, 1) ∧ decode cX12_seasons 1 = .ok (.iload_n 1, 1) ∧ decode cX12_seasons 2 = .ok (.sipush 300, 3) ∧ decode cX12_seasons 5 = .ok (.invokevirtual 237, 3) ∧ decode cX12_seasons 8 = .ok (.ifCond .ne 9, 3) ∧ decode cX12_seasons 11 = .ok (.aload_n 0, 1) ∧ decode cX12_seasons 12 = .ok (.iconst 1, 1) ∧ decode cX12_seasons 13 = .ok (.invokevirtual 93, 3) ∧ decode cX12_seasons 16 = .ok (.ireturn, 1) ∧ decode cX12_seasons 17 = .ok (.aload_n 0, 1) := by decide +kernel
theorem e_X12_seasons_1 : decode cX12_seasons 18 = .ok (.getfield 7, 3) ∧ decode cX12_seasons 21 = .ok (.sipush 2064, 3) ∧ decode cX12_seasons 24 = .ok (.iconst 0, 1) ∧ decode cX12_seasons 25 = .ok (.iastore, 1) ∧ decode cX12_seasons 26 = .ok (.aload_n 0, 1) ∧ decode cX12_seasons 27 = .ok (.iconst 0, 1) ∧ decode cX12_seasons 28 = .ok (.putfield 253, 3) ∧ decode cX12_seasons 31 = .ok (.aload_n 0, 1) ∧ decode cX12_seasons 32 = .ok (.iconst 0, 1) ∧ decode cX12_seasons 33 = .ok (.putfield 256, 3) := by decide +kernel
theorem e_X12_seasons_2 : decode cX12_seasons 36 = .ok (.iconst 1, 1) ∧ decode cX12_seasons 37 = .ok (.istore_n 2, 1) ∧ decode cX12_seasons 38 = .ok (.iload_n 2, 1) ∧ decode cX12_seasons 39 = .ok (.ifCond .eq 18, 3) ∧ decode cX12_seasons 42 = .ok (.aload_n 0, 1) ∧ decode cX12_seasons 43 = .ok (.getfield 138, 3) ∧ decode cX12_seasons 46 = .ok (.ifCond .eq 11, 3) ∧ decode cX12_seasons 49 = .ok (.aload_n 0, 1) ∧ decode cX12_seasons 50 = .ok (.invokevirtual 262, 3) ∧ decode cX12_seasons 53 = .ok (.istore_n 2, 1) := by decide +kernel
theorem e_X12_seasons_3 : decode cX12_seasons 54 = .ok (.goto (-16), 3) ∧ decode cX12_seasons 57 = .ok (.aload_n 0, 1) ∧ decode cX12_seasons 58 = .ok (.getfield 163, 3) ∧ decode cX12_seasons 61 = .ok (.ifCond .ne 16, 3) ∧ decode cX12_seasons 64 = .ok (.aload_n 0, 1) ∧ decode cX12_seasons 65 = .ok (.getfield 253, 3) ∧ decode cX12_seasons 68 = .ok (.ifCond .le 9, 3) ∧ decode cX12_seasons 71 = .ok (.aload_n 0, 1) ∧ decode cX12_seasons 72 = .ok (.iconst 2, 1) ∧ decode cX12_seasons 73 = .ok (.invokevirtual 175, 3) := by decide +kernel
theorem e_X12_seasons_4 : decode cX12_seasons 76 = .ok (.pop, 1) ∧ decode cX12_seasons 77 = .ok (.aload_n 0, 1) ∧ decode cX12_seasons 78 = .ok (.getfield 163, 3) ∧ decode cX12_seasons 81 = .ok (.ifCond .ne 51, 3) ∧ decode cX12_seasons 84 = .ok (.aload_n 0, 1) ∧ decode cX12_seasons 85 = .ok (.getfield 7, 3) ∧ decode cX12_seasons 88 = .ok (.bipush 8, 2) ∧ decode cX12_seasons 90 = .ok (.aload_n 0, 1) ∧ decode cX12_seasons 91 = .ok (.getfield 7, 3) ∧ decode cX12_seasons 94 = .ok (.sipush 2064, 3) := by decide +kernel
theorem e_X12_seasons_5 : decode cX12_seasons 97 = .ok (.iaload, 1) ∧ decode cX12_seasons 98 = .ok (.iastore, 1) ∧ decode cX12_seasons 99 = .ok (.sipush 150, 3) ∧ decode cX12_seasons 102 = .ok (.istore_n 3, 1) ∧ decode cX12_seasons 103 = .ok (.iload_n 3, 1) ∧ decode cX12_seasons 104 = .ok (.sipush 510, 3) ∧ decode cX12_seasons 107 = .ok (.if_icmp .ge 25, 3) ∧ decode cX12_seasons 110 = .ok (.aload_n 0, 1) ∧ decode cX12_seasons 111 = .ok (.getfield 7, 3) ∧ decode cX12_seasons 114 = .ok (.iload_n 3, 1) := by decide +kernel
theorem e_X12_seasons_6 : decode cX12_seasons 115 = .ok (.aload_n 0, 1) ∧ decode cX12_seasons 116 = .ok (.getfield 7, 3) ∧ decode cX12_seasons 119 = .ok (.sipush 2056, 3) ∧ decode cX12_seasons 122 = .ok (.iload_n 3, 1) ∧ decode cX12_seasons 123 = .ok (.iadd, 1) ∧ decode cX12_seasons 124 = .ok (.iaload, 1) ∧ decode cX12_seasons 125 = .ok (.iastore, 1) ∧ decode cX12_seasons 126 = .ok (.iinc 3 1, 3) ∧ decode cX12_seasons 129 = .ok (.goto (-26), 3) ∧ decode cX12_seasons 132 = .ok (.aload_n 0, 1) := by decide +kernel
theorem e_X12_seasons_7 : decode cX12_seasons 133 = .ok (.aload_n 0, 1) ∧ decode cX12_seasons 134 = .ok (.getfield 256, 3) ∧ decode cX12_seasons 137 = .ok (.invokevirtual 244, 3) ∧ decode cX12_seasons 140 = .ok (.ireturn, 1) := by decide +kernel
abbrev E_X12_seasons_38 (G : Kg) (l2 : Int) (σ : Kmem) (Q : Int → Kmem → Prop) : Prop := Ex G WM M_X12_seasons 11 0 0 38 [(0, vA G 0), (2, vI l2)] [] σ Q
abbrev E_X12_seasons_57 (G : Kg) (σ : Kmem) (Q : Int → Kmem → Prop) : Prop := Ex G WM M_X12_seasons 11 0 0 57 [(0, vA G 0)] [] σ Q
abbrev E_X12_seasons_103 (G : Kg) (l3 : Int) (σ : Kmem) (Q : Int → Kmem → Prop) : Prop := Ex G WM M_X12_seasons 11 0 0 103 [(0, vA G 0), (3, vI l3)] [] σ Q
theorem S_X12_seasons {G : Kg} {σ : Kmem} {Q : Int → Kmem → Prop} {l1 : Int}  (h : Run G WM M_X12_begins 2 0 0 [vA G 0, vI l1, vI 300] σ (fun r1 s2 => (rI r1) ∧ ((r1 ≠ 0 → ∀ m4 : Kmem, m4 = (kup s2 1 2064 0) → ∀ m6 : Kmem, m6 = (kup m4 0 22 0) → ∀ m8 : Kmem, m8 = (kup m6 0 23 0) → E_X12_seasons_38 G 1 m8 Q) ∧ (r1 = 0 → Q (-1) (kup s2 0 2 1))))) : Run G WM M_X12_seasons 11 0 0 [vA G 0, vI l1] σ Q := by
  refine Run.of (by decide +kernel) (by show (2 : Nat) ≤ 4; decide) ?_
  show Ex G WM M_X12_seasons 11 0 0 0 [(0, vA G 0), (1, vI l1)] [] σ Q
  refine R_aload_n e_X12_seasons_0.1 0 rfl ?_
  refine R_iload_n e_X12_seasons_0.2.1 1 rfl ?_
  refine R_sipush e_X12_seasons_0.2.2.1 (by decide) ?_
  refine R_callV (mc := 0) (ms := 0) (mc' := 0) (ms' := 0) (M' := M_X12_begins) (d' := 2) (as := [vI l1, vI 300]) (st := []) 12 2 e_X12_seasons_0.2.2.2.1 (kCVof m_X12_begins l_X12_237) rfl (by decide) km_0 (by decide) (by decide) rfl rfl (by show (0 : Nat) ≤ 8; decide) ?_
  refine Run.mono h (fun r1 s2 h => ?_)
  refine R_eqs (st2 := [vI r1]) rfl rfl ?_
  obtain ⟨q3, h⟩ := h
  refine R_if_ne 17 e_X12_seasons_0.2.2.2.2.1 (by decide) q3  (fun q => ?_) (fun q => ?_)
  · replace h := h.1 q
    refine R_aload_n e_X12_seasons_0.2.2.2.2.2.2.2.2.2 0 rfl ?_
    refine R_getA 12 0 1 e_X12_seasons_1.1 f_X12_7 km_0 (fun _ _ => rfl) rm_0_0 (by decide) ?_
    refine R_sipush e_X12_seasons_1.2.1 (by decide) ?_
    refine R_iconst e_X12_seasons_1.2.2.1 ?_
    refine R_iast 3598 WM_ok e_X12_seasons_1.2.2.2.1 kma_1 (by decide) ?_
    obtain ⟨m4, e5⟩ : ∃ z : Kmem, z = (kup s2 1 2064 0) := ⟨_, rfl⟩
    rw [← e5]
    replace h := h m4 e5
    refine R_aload_n e_X12_seasons_1.2.2.2.2.1 0 rfl ?_
    refine R_iconst e_X12_seasons_1.2.2.2.2.2.1 ?_
    refine R_putI 12 22 22 WM_ok e_X12_seasons_1.2.2.2.2.2.2.1 f_X12_253 km_0 rfl rfl rfl ?_
    obtain ⟨m6, e7⟩ : ∃ z : Kmem, z = (kup m4 0 22 0) := ⟨_, rfl⟩
    rw [← e7]
    replace h := h m6 e7
    refine R_aload_n e_X12_seasons_1.2.2.2.2.2.2.2.1 0 rfl ?_
    refine R_iconst e_X12_seasons_1.2.2.2.2.2.2.2.2.1 ?_
    refine R_putI 12 23 23 WM_ok e_X12_seasons_1.2.2.2.2.2.2.2.2.2 f_X12_256 km_0 rfl rfl rfl ?_
    obtain ⟨m8, e9⟩ : ∃ z : Kmem, z = (kup m6 0 23 0) := ⟨_, rfl⟩
    rw [← e9]
    replace h := h m8 e9
    refine R_iconst e_X12_seasons_2.1 ?_
    refine R_istore_n (ls2 := [(2, vI 1), (0, vA G 0), (1, vI l1)]) e_X12_seasons_2.2.1 (by decide) rfl ?_
    refine R_ls (ls2 := [(0, vA G 0), (2, vI 1)]) [1, 0] rfl ?_
    exact h
  · replace h := h.2 q
    refine R_aload_n e_X12_seasons_0.2.2.2.2.2.1 0 rfl ?_
    refine R_iconst e_X12_seasons_0.2.2.2.2.2.2.1 ?_
    refine R_callV (mc := 0) (ms := 0) (mc' := 0) (ms' := 0) (M' := M_X12_refuse) (d' := 0) (as := [vI 1]) (st := []) 12 1 e_X12_seasons_0.2.2.2.2.2.2.2.1 (kCVof m_X12_refuse l_X12_93) rfl (by decide) km_0 (by decide) (by decide) rfl rfl (by show (0 : Nat) ≤ 8; decide) ?_
    refine S_X12_refuse ?_
    refine R_eqs (st2 := [vI (-1)]) (σ2 := (kup s2 0 2 1)) rfl rfl ?_
    exact R_ireturn e_X12_seasons_0.2.2.2.2.2.2.2.2.1 rfl h
theorem S_X12_seasons_38 {G : Kg} {σ : Kmem} {Q : Int → Kmem → Prop} {l1 l2 : Int}  (h : (rI l2) ∧ ((l2 = 0 → E_X12_seasons_57 G σ Q) ∧ (l2 ≠ 0 → (rI (σ 0 12)) ∧ ((σ 0 12 = 0 → E_X12_seasons_57 G σ Q) ∧ (σ 0 12 ≠ 0 → (snI σ) ∧ E_X12_seasons_38 G (kb ((cStep σ).1)) ((cStep σ).2) Q))))) : E_X12_seasons_38 G l2 σ Q := by
  refine R_iload_n e_X12_seasons_2.2.2.1 1 rfl ?_
  obtain ⟨q12, h⟩ := h
  refine R_if_eq 57 e_X12_seasons_2.2.2.2.1 (by decide) q12  (fun q => ?_) (fun q => ?_)
  · replace h := h.1 q
    refine R_ls (ls2 := [(0, vA G 0)]) [0] rfl ?_
    exact h
  · replace h := h.2 q
    refine R_aload_n e_X12_seasons_2.2.2.2.2.1 0 rfl ?_
    refine R_getI 12 12 12 e_X12_seasons_2.2.2.2.2.2.1 f_X12_138 km_0 (fun _ _ => rfl) rfl ?_
    obtain ⟨q13, h⟩ := h
    refine R_if_eq 57 e_X12_seasons_2.2.2.2.2.2.2.1 (by decide) q13  (fun q => ?_) (fun q => ?_)
    · replace h := h.1 q
      refine R_ls (ls2 := [(0, vA G 0)]) [0] rfl ?_
      exact h
    · replace h := h.2 q
      refine R_aload_n e_X12_seasons_2.2.2.2.2.2.2.2.1 0 rfl ?_
      obtain ⟨q16, h⟩ := h
      refine R_callV (mc := 0) (ms := 0) (mc' := 0) (ms' := 0) (M' := M_X12_seasonStep) (d' := 10) (as := []) (st := []) 12 0 e_X12_seasons_2.2.2.2.2.2.2.2.2.1 (kCVof m_X12_seasonStep l_X12_262) rfl (by decide) km_0 (by decide) (by decide) rfl rfl (by show (0 : Nat) ≤ 8; decide) ?_
      refine Run.mono (P_X12_seasonStep q16) (fun r s e => ?_)
      obtain ⟨e1, e2⟩ := e
      refine R_eqs (st2 := [vI (kb ((cStep σ).1))]) (σ2 := ((cStep σ).2)) (by rw [e1]; rfl) e2 ?_
      refine R_istore_n (ls2 := [(2, vI (kb ((cStep σ).1))), (0, vA G 0)]) e_X12_seasons_2.2.2.2.2.2.2.2.2.2 (by decide) rfl ?_
      refine R_goto 38 e_X12_seasons_3.1 (by decide) ?_
      refine R_ls (ls2 := [(0, vA G 0), (2, vI (kb ((cStep σ).1)))]) [1, 0] rfl ?_
      exact h
theorem S_X12_seasons_57 {G : Kg} {σ : Kmem} {Q : Int → Kmem → Prop} {l1 : Int}  (h : (rI (σ 0 18)) ∧ ((σ 0 18 ≠ 0 → ((σ 0 18 ≠ 0 → Run G WM M_X12_taken 1 0 0 [vA G 0, vI (σ 0 23)] σ (fun r18 s19 => Q r18 s19)) ∧ (σ 0 18 = 0 → ∀ m20 : Kmem, m20 = (kup σ 1 8 (σ 1 2064)) → E_X12_seasons_103 G 150 m20 Q))) ∧ (σ 0 18 = 0 → (rI (σ 0 22)) ∧ ((σ 0 22 ≤ 0 → ((σ 0 18 ≠ 0 → Run G WM M_X12_taken 1 0 0 [vA G 0, vI (σ 0 23)] σ (fun r23 s24 => Q r23 s24)) ∧ (σ 0 18 = 0 → ∀ m25 : Kmem, m25 = (kup σ 1 8 (σ 1 2064)) → E_X12_seasons_103 G 150 m25 Q))) ∧ (0 < σ 0 22 → (tok σ ∧ (0 : Int) ≤ σ 0 18 ∧ (σ 0 18 : Int) ≤ 9) ∧ (rI ((tF σ (2)) 0 18)) ∧ (((tF σ (2)) 0 18 ≠ 0 → Run G WM M_X12_taken 1 0 0 [vA G 0, vI ((tF σ (2)) 0 23)] (tF σ (2)) (fun r31 s32 => Q r31 s32)) ∧ ((tF σ (2)) 0 18 = 0 → ∀ m33 : Kmem, m33 = (kup (tF σ (2)) 1 8 ((tF σ (2)) 1 2064)) → E_X12_seasons_103 G 150 m33 Q))))))) : E_X12_seasons_57 G σ Q := by
  refine R_aload_n e_X12_seasons_3.2.1 0 rfl ?_
  refine R_getI 12 18 18 e_X12_seasons_3.2.2.1 f_X12_163 km_0 (fun _ _ => rfl) rfl ?_
  obtain ⟨q17, h⟩ := h
  refine R_if_ne 77 e_X12_seasons_3.2.2.2.1 (by decide) q17  (fun q => ?_) (fun q => ?_)
  · replace h := h.1 q
    refine R_aload_n e_X12_seasons_4.2.1 0 rfl ?_
    refine R_getI 12 18 18 e_X12_seasons_4.2.2.1 f_X12_163 km_0 (fun _ _ => rfl) rfl ?_
    refine R_if_ne 132 e_X12_seasons_4.2.2.2.1 (by decide) q17  (fun q => ?_) (fun q => ?_)
    · replace h := h.1 q
      refine R_aload_n e_X12_seasons_6.2.2.2.2.2.2.2.2.2 0 rfl ?_
      refine R_aload_n e_X12_seasons_7.1 0 rfl ?_
      refine R_getI 12 23 23 e_X12_seasons_7.2.1 f_X12_256 km_0 (fun _ _ => rfl) rfl ?_
      refine R_callV (mc := 0) (ms := 0) (mc' := 0) (ms' := 0) (M' := M_X12_taken) (d' := 1) (as := [vI (σ 0 23)]) (st := []) 12 1 e_X12_seasons_7.2.2.1 (kCVof m_X12_taken l_X12_244) rfl (by decide) km_0 (by decide) (by decide) rfl rfl (by show (0 : Nat) ≤ 8; decide) ?_
      refine Run.mono h (fun r18 s19 h => ?_)
      refine R_eqs (st2 := [vI r18]) rfl rfl ?_
      exact R_ireturn e_X12_seasons_7.2.2.2 rfl h
    · replace h := h.2 q
      refine R_aload_n e_X12_seasons_4.2.2.2.2.1 0 rfl ?_
      refine R_getA 12 0 1 e_X12_seasons_4.2.2.2.2.2.1 f_X12_7 km_0 (fun _ _ => rfl) rm_0_0 (by decide) ?_
      refine R_bipush e_X12_seasons_4.2.2.2.2.2.2.1 (by decide) ?_
      refine R_aload_n e_X12_seasons_4.2.2.2.2.2.2.2.1 0 rfl ?_
      refine R_getA 12 0 1 e_X12_seasons_4.2.2.2.2.2.2.2.2.1 f_X12_7 km_0 (fun _ _ => rfl) rm_0_0 (by decide) ?_
      refine R_sipush e_X12_seasons_4.2.2.2.2.2.2.2.2.2 (by decide) ?_
      refine R_iald 3598 e_X12_seasons_5.1 kma_1 (by decide) ?_
      refine R_iast 3598 WM_ok e_X12_seasons_5.2.1 kma_1 (by decide) ?_
      obtain ⟨m20, e21⟩ : ∃ z : Kmem, z = (kup σ 1 8 (σ 1 2064)) := ⟨_, rfl⟩
      rw [← e21]
      replace h := h m20 e21
      refine R_sipush e_X12_seasons_5.2.2.1 (by decide) ?_
      refine R_istore_n (ls2 := [(3, vI 150), (0, vA G 0)]) e_X12_seasons_5.2.2.2.1 (by decide) rfl ?_
      refine R_ls (ls2 := [(0, vA G 0), (3, vI 150)]) [1, 0] rfl ?_
      exact h
  · replace h := h.2 q
    refine R_aload_n e_X12_seasons_3.2.2.2.2.1 0 rfl ?_
    refine R_getI 12 22 22 e_X12_seasons_3.2.2.2.2.2.1 f_X12_253 km_0 (fun _ _ => rfl) rfl ?_
    obtain ⟨q22, h⟩ := h
    refine R_if_le 77 e_X12_seasons_3.2.2.2.2.2.2.1 (by decide) q22  (fun q => ?_) (fun q => ?_)
    · replace h := h.1 q
      refine R_aload_n e_X12_seasons_4.2.1 0 rfl ?_
      refine R_getI 12 18 18 e_X12_seasons_4.2.2.1 f_X12_163 km_0 (fun _ _ => rfl) rfl ?_
      refine R_if_ne 132 e_X12_seasons_4.2.2.2.1 (by decide) q17  (fun q => ?_) (fun q => ?_)
      · replace h := h.1 q
        refine R_aload_n e_X12_seasons_6.2.2.2.2.2.2.2.2.2 0 rfl ?_
        refine R_aload_n e_X12_seasons_7.1 0 rfl ?_
        refine R_getI 12 23 23 e_X12_seasons_7.2.1 f_X12_256 km_0 (fun _ _ => rfl) rfl ?_
        refine R_callV (mc := 0) (ms := 0) (mc' := 0) (ms' := 0) (M' := M_X12_taken) (d' := 1) (as := [vI (σ 0 23)]) (st := []) 12 1 e_X12_seasons_7.2.2.1 (kCVof m_X12_taken l_X12_244) rfl (by decide) km_0 (by decide) (by decide) rfl rfl (by show (0 : Nat) ≤ 8; decide) ?_
        refine Run.mono h (fun r23 s24 h => ?_)
        refine R_eqs (st2 := [vI r23]) rfl rfl ?_
        exact R_ireturn e_X12_seasons_7.2.2.2 rfl h
      · replace h := h.2 q
        refine R_aload_n e_X12_seasons_4.2.2.2.2.1 0 rfl ?_
        refine R_getA 12 0 1 e_X12_seasons_4.2.2.2.2.2.1 f_X12_7 km_0 (fun _ _ => rfl) rm_0_0 (by decide) ?_
        refine R_bipush e_X12_seasons_4.2.2.2.2.2.2.1 (by decide) ?_
        refine R_aload_n e_X12_seasons_4.2.2.2.2.2.2.2.1 0 rfl ?_
        refine R_getA 12 0 1 e_X12_seasons_4.2.2.2.2.2.2.2.2.1 f_X12_7 km_0 (fun _ _ => rfl) rm_0_0 (by decide) ?_
        refine R_sipush e_X12_seasons_4.2.2.2.2.2.2.2.2.2 (by decide) ?_
        refine R_iald 3598 e_X12_seasons_5.1 kma_1 (by decide) ?_
        refine R_iast 3598 WM_ok e_X12_seasons_5.2.1 kma_1 (by decide) ?_
        obtain ⟨m25, e26⟩ : ∃ z : Kmem, z = (kup σ 1 8 (σ 1 2064)) := ⟨_, rfl⟩
        rw [← e26]
        replace h := h m25 e26
        refine R_sipush e_X12_seasons_5.2.2.1 (by decide) ?_
        refine R_istore_n (ls2 := [(3, vI 150), (0, vA G 0)]) e_X12_seasons_5.2.2.2.1 (by decide) rfl ?_
        refine R_ls (ls2 := [(0, vA G 0), (3, vI 150)]) [1, 0] rfl ?_
        exact h
    · replace h := h.2 q
      refine R_aload_n e_X12_seasons_3.2.2.2.2.2.2.2.1 0 rfl ?_
      refine R_iconst e_X12_seasons_3.2.2.2.2.2.2.2.2.1 ?_
      obtain ⟨q29, h⟩ := h
      refine R_callV (mc := 0) (ms := 0) (mc' := 0) (ms' := 0) (M' := M_X12_fails) (d' := 0) (as := [vI 2]) (st := []) 12 1 e_X12_seasons_3.2.2.2.2.2.2.2.2.2 (kCVof m_X12_fails l_X12_175) rfl (by decide) km_0 (by decide) (by decide) rfl rfl (by show (0 : Nat) ≤ 8; decide) ?_
      refine Run.mono (P_X12_fails q29) (fun r s e => ?_)
      obtain ⟨e1, e2⟩ := e
      refine R_eqs (st2 := [vI 0]) (σ2 := (tF σ (2))) (by rw [e1]; rfl) e2 ?_
      refine R_pop e_X12_seasons_4.1 rfl ?_
      refine R_aload_n e_X12_seasons_4.2.1 0 rfl ?_
      refine R_getI 12 18 18 e_X12_seasons_4.2.2.1 f_X12_163 km_0 (fun _ _ => rfl) rfl ?_
      obtain ⟨q30, h⟩ := h
      refine R_if_ne 132 e_X12_seasons_4.2.2.2.1 (by decide) q30  (fun q => ?_) (fun q => ?_)
      · replace h := h.1 q
        refine R_aload_n e_X12_seasons_6.2.2.2.2.2.2.2.2.2 0 rfl ?_
        refine R_aload_n e_X12_seasons_7.1 0 rfl ?_
        refine R_getI 12 23 23 e_X12_seasons_7.2.1 f_X12_256 km_0 (fun _ _ => rfl) rfl ?_
        refine R_callV (mc := 0) (ms := 0) (mc' := 0) (ms' := 0) (M' := M_X12_taken) (d' := 1) (as := [vI ((tF σ (2)) 0 23)]) (st := []) 12 1 e_X12_seasons_7.2.2.1 (kCVof m_X12_taken l_X12_244) rfl (by decide) km_0 (by decide) (by decide) rfl rfl (by show (0 : Nat) ≤ 8; decide) ?_
        refine Run.mono h (fun r31 s32 h => ?_)
        refine R_eqs (st2 := [vI r31]) rfl rfl ?_
        exact R_ireturn e_X12_seasons_7.2.2.2 rfl h
      · replace h := h.2 q
        refine R_aload_n e_X12_seasons_4.2.2.2.2.1 0 rfl ?_
        refine R_getA 12 0 1 e_X12_seasons_4.2.2.2.2.2.1 f_X12_7 km_0 (fun _ _ => rfl) rm_0_0 (by decide) ?_
        refine R_bipush e_X12_seasons_4.2.2.2.2.2.2.1 (by decide) ?_
        refine R_aload_n e_X12_seasons_4.2.2.2.2.2.2.2.1 0 rfl ?_
        refine R_getA 12 0 1 e_X12_seasons_4.2.2.2.2.2.2.2.2.1 f_X12_7 km_0 (fun _ _ => rfl) rm_0_0 (by decide) ?_
        refine R_sipush e_X12_seasons_4.2.2.2.2.2.2.2.2.2 (by decide) ?_
        refine R_iald 3598 e_X12_seasons_5.1 kma_1 (by decide) ?_
        refine R_iast 3598 WM_ok e_X12_seasons_5.2.1 kma_1 (by decide) ?_
        obtain ⟨m33, e34⟩ : ∃ z : Kmem, z = (kup (tF σ (2)) 1 8 ((tF σ (2)) 1 2064)) := ⟨_, rfl⟩
        rw [← e34]
        replace h := h m33 e34
        refine R_sipush e_X12_seasons_5.2.2.1 (by decide) ?_
        refine R_istore_n (ls2 := [(3, vI 150), (0, vA G 0)]) e_X12_seasons_5.2.2.2.1 (by decide) rfl ?_
        refine R_ls (ls2 := [(0, vA G 0), (3, vI 150)]) [1, 0] rfl ?_
        exact h
theorem S_X12_seasons_103 {G : Kg} {σ : Kmem} {Q : Int → Kmem → Prop} {l1 l3 : Int}  (h : (rI l3) ∧ ((510 ≤ l3 → Run G WM M_X12_taken 1 0 0 [vA G 0, vI (σ 0 23)] σ (fun r36 s37 => Q r36 s37)) ∧ (l3 < 510 → (0 ≤ 2056 + l3 ∧ 2056 + l3 < 3598) ∧ (0 ≤ l3 ∧ l3 < 3598) ∧ ∀ m40 : Kmem, m40 = (kup σ 1 l3 (σ 1 (2056 + l3))) → E_X12_seasons_103 G (l3 + 1) m40 Q))) : E_X12_seasons_103 G l3 σ Q := by
  refine R_iload_n e_X12_seasons_5.2.2.2.2.1 1 rfl ?_
  refine R_sipush e_X12_seasons_5.2.2.2.2.2.1 (by decide) ?_
  obtain ⟨q35, h⟩ := h
  refine R_icmp_ge 132 e_X12_seasons_5.2.2.2.2.2.2.1 (by decide) q35 (by decide) (fun q => ?_) (fun q => ?_)
  · replace h := h.1 q
    refine R_aload_n e_X12_seasons_6.2.2.2.2.2.2.2.2.2 0 rfl ?_
    refine R_aload_n e_X12_seasons_7.1 0 rfl ?_
    refine R_getI 12 23 23 e_X12_seasons_7.2.1 f_X12_256 km_0 (fun _ _ => rfl) rfl ?_
    refine R_callV (mc := 0) (ms := 0) (mc' := 0) (ms' := 0) (M' := M_X12_taken) (d' := 1) (as := [vI (σ 0 23)]) (st := []) 12 1 e_X12_seasons_7.2.2.1 (kCVof m_X12_taken l_X12_244) rfl (by decide) km_0 (by decide) (by decide) rfl rfl (by show (0 : Nat) ≤ 8; decide) ?_
    refine Run.mono h (fun r36 s37 h => ?_)
    refine R_eqs (st2 := [vI r36]) rfl rfl ?_
    exact R_ireturn e_X12_seasons_7.2.2.2 rfl h
  · replace h := h.2 q
    refine R_aload_n e_X12_seasons_5.2.2.2.2.2.2.2.1 0 rfl ?_
    refine R_getA 12 0 1 e_X12_seasons_5.2.2.2.2.2.2.2.2.1 f_X12_7 km_0 (fun _ _ => rfl) rm_0_0 (by decide) ?_
    refine R_iload_n e_X12_seasons_5.2.2.2.2.2.2.2.2.2 1 rfl ?_
    refine R_aload_n e_X12_seasons_6.1 0 rfl ?_
    refine R_getA 12 0 1 e_X12_seasons_6.2.1 f_X12_7 km_0 (fun _ _ => rfl) rm_0_0 (by decide) ?_
    refine R_sipush e_X12_seasons_6.2.2.1 (by decide) ?_
    refine R_iload_n e_X12_seasons_6.2.2.2.1 1 rfl ?_
    refine R_iadd e_X12_seasons_6.2.2.2.2.1 ?_
    obtain ⟨q38, h⟩ := h
    refine R_iald 3598 e_X12_seasons_6.2.2.2.2.2.1 kma_1 q38 ?_
    obtain ⟨q39, h⟩ := h
    refine R_iast 3598 WM_ok e_X12_seasons_6.2.2.2.2.2.2.1 kma_1 q39 ?_
    obtain ⟨m40, e41⟩ : ∃ z : Kmem, z = (kup σ 1 l3 (σ 1 (2056 + l3))) := ⟨_, rfl⟩
    rw [← e41]
    replace h := h m40 e41
    refine R_iinc (ls2 := [(3, vI (l3 + 1)), (0, vA G 0)]) e_X12_seasons_6.2.2.2.2.2.2.2.1 1 rfl (by decide) rfl ?_
    refine R_goto 103 e_X12_seasons_6.2.2.2.2.2.2.2.2.1 (by decide) ?_
    refine R_ls (ls2 := [(0, vA G 0), (3, vI (l3 + 1))]) [1, 0] rfl ?_
    exact h
