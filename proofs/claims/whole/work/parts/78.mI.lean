/-! KiteLandModel.lives(I)V -/
theorem e_X12_lives_0 : decode cX12_lives 0 = .ok (.aload_n 0, 1) ∧ decode cX12_lives 1 = .ok (.iload_n 1, 1) ∧ decode cX12_lives 2 = .ok (.putfield 499, 3) ∧ decode cX12_lives 5 = .ok (.aload_n 0, 1) ∧ decode cX12_lives 6 = .ok (.iconst 0, 1) ∧ decode cX12_lives 7 = .ok (.putfield 512, 3) ∧ decode cX12_lives 10 = .ok (.iconst 0, 1) ∧ decode cX12_lives 11 = .ok (.istore_n 2, 1) ∧ decode cX12_lives 12 = .ok (.iload_n 2, 1) ∧ decode cX12_lives 13 = .ok (.iconst 5, 1) := by decide +kernel
theorem e_X12_lives_1 : decode cX12_lives 14 = .ok (.if_icmp .ge 16, 3) ∧ decode cX12_lives 17 = .ok (.aload_n 0, 1) ∧ decode cX12_lives 18 = .ok (.getfield 77, 3) ∧ decode cX12_lives 21 = .ok (.iload_n 2, 1) ∧ decode cX12_lives 22 = .ok (.iconst 0, 1) ∧ decode cX12_lives 23 = .ok (.iastore, 1) ∧ decode cX12_lives 24 = .ok (.iinc 2 1, 3) ∧ decode cX12_lives 27 = .ok (.goto (-15), 3) ∧ decode cX12_lives 30 = .ok (.iconst 0, 1) ∧ decode cX12_lives 31 = .ok (.istore_n 2, 1) := by decide +kernel
theorem e_X12_lives_2 : decode cX12_lives 32 = .ok (.iload_n 2, 1) ∧ decode cX12_lives 33 = .ok (.aload_n 0, 1) ∧ decode cX12_lives 34 = .ok (.getfield 7, 3) ∧ decode cX12_lives 37 = .ok (.bipush 8, 2) ∧ decode cX12_lives 39 = .ok (.iaload, 1) ∧ decode cX12_lives 40 = .ok (.if_icmp .ge 145, 3) ∧ decode cX12_lives 43 = .ok (.aload_n 0, 1) ∧ decode cX12_lives 44 = .ok (.getfield 512, 3) ∧ decode cX12_lives 47 = .ok (.sipush 300, 3) ∧ decode cX12_lives 50 = .ok (.if_icmp .ne 11, 3) := by decide +kernel
theorem e_X12_lives_3 : decode cX12_lives 53 = .ok (.aload_n 0, 1) ∧ decode cX12_lives 54 = .ok (.getfield 77, 3) ∧ decode cX12_lives 57 = .ok (.iconst 4, 1) ∧ decode cX12_lives 58 = .ok (.iconst 1, 1) ∧ decode cX12_lives 59 = .ok (.iastore, 1) ∧ decode cX12_lives 60 = .ok (.return_, 1) ∧ decode cX12_lives 61 = .ok (.sipush 150, 3) ∧ decode cX12_lives 64 = .ok (.bipush 6, 2) ∧ decode cX12_lives 66 = .ok (.iload_n 2, 1) ∧ decode cX12_lives 67 = .ok (.imul, 1) := by decide +kernel
theorem e_X12_lives_4 : decode cX12_lives 68 = .ok (.iadd, 1) ∧ decode cX12_lives 69 = .ok (.istore_n 3, 1) ∧ decode cX12_lives 70 = .ok (.aload_n 0, 1) ∧ decode cX12_lives 71 = .ok (.dup, 1) ∧ decode cX12_lives 72 = .ok (.getfield 512, 3) ∧ decode cX12_lives 75 = .ok (.iconst 1, 1) ∧ decode cX12_lives 76 = .ok (.iadd, 1) ∧ decode cX12_lives 77 = .ok (.putfield 512, 3) ∧ decode cX12_lives 80 = .ok (.aload_n 0, 1) ∧ decode cX12_lives 81 = .ok (.getfield 7, 3) := by decide +kernel
theorem e_X12_lives_5 : decode cX12_lives 84 = .ok (.iload_n 3, 1) ∧ decode cX12_lives 85 = .ok (.iaload, 1) ∧ decode cX12_lives 86 = .ok (.bipush 23, 2) ∧ decode cX12_lives 88 = .ok (.if_icmp .ne 4, 3) ∧ decode cX12_lives 91 = .ok (.return_, 1) ∧ decode cX12_lives 92 = .ok (.aload_n 0, 1) ∧ decode cX12_lives 93 = .ok (.getfield 77, 3) ∧ decode cX12_lives 96 = .ok (.iconst 0, 1) ∧ decode cX12_lives 97 = .ok (.dup2, 1) ∧ decode cX12_lives 98 = .ok (.iaload, 1) := by decide +kernel
theorem e_X12_lives_6 : decode cX12_lives 99 = .ok (.aload_n 0, 1) ∧ decode cX12_lives 100 = .ok (.iload_n 3, 1) ∧ decode cX12_lives 101 = .ok (.invokevirtual 515, 3) ∧ decode cX12_lives 104 = .ok (.ifCond .eq 7, 3) ∧ decode cX12_lives 107 = .ok (.iconst 0, 1) ∧ decode cX12_lives 108 = .ok (.goto 4, 3) ∧ decode cX12_lives 111 = .ok (.iconst 1, 1) ∧ decode cX12_lives 112 = .ok (.iadd, 1) ∧ decode cX12_lives 113 = .ok (.iastore, 1) ∧ decode cX12_lives 114 = .ok (.aload_n 0, 1) := by decide +kernel
theorem e_X12_lives_7 : decode cX12_lives 115 = .ok (.getfield 7, 3) ∧ decode cX12_lives 118 = .ok (.iload_n 3, 1) ∧ decode cX12_lives 119 = .ok (.iaload, 1) ∧ decode cX12_lives 120 = .ok (.bipush 21, 2) ∧ decode cX12_lives 122 = .ok (.if_icmp .ne 19, 3) ∧ decode cX12_lives 125 = .ok (.aload_n 0, 1) ∧ decode cX12_lives 126 = .ok (.getfield 74, 3) ∧ decode cX12_lives 129 = .ok (.iload_n 2, 1) ∧ decode cX12_lives 130 = .ok (.aload_n 0, 1) ∧ decode cX12_lives 131 = .ok (.getfield 7, 3) := by decide +kernel
theorem e_X12_lives_8 : decode cX12_lives 134 = .ok (.iload_n 3, 1) ∧ decode cX12_lives 135 = .ok (.iconst 1, 1) ∧ decode cX12_lives 136 = .ok (.iadd, 1) ∧ decode cX12_lives 137 = .ok (.iaload, 1) ∧ decode cX12_lives 138 = .ok (.iconst 1, 1) ∧ decode cX12_lives 139 = .ok (.isub, 1) ∧ decode cX12_lives 140 = .ok (.iastore, 1) ∧ decode cX12_lives 141 = .ok (.aload_n 0, 1) ∧ decode cX12_lives 142 = .ok (.aload_n 0, 1) ∧ decode cX12_lives 143 = .ok (.getfield 7, 3) := by decide +kernel
theorem e_X12_lives_9 : decode cX12_lives 146 = .ok (.iload_n 3, 1) ∧ decode cX12_lives 147 = .ok (.iaload, 1) ∧ decode cX12_lives 148 = .ok (.sipush 2000, 3) ∧ decode cX12_lives 151 = .ok (.if_icmp .lt 24, 3) ∧ decode cX12_lives 154 = .ok (.aload_n 0, 1) ∧ decode cX12_lives 155 = .ok (.iload_n 3, 1) ∧ decode cX12_lives 156 = .ok (.invokevirtual 518, 3) ∧ decode cX12_lives 159 = .ok (.ifCond .ne 16, 3) ∧ decode cX12_lives 162 = .ok (.aload_n 0, 1) ∧ decode cX12_lives 163 = .ok (.getfield 7, 3) := by decide +kernel
theorem e_X12_lives_10 : decode cX12_lives 166 = .ok (.iload_n 3, 1) ∧ decode cX12_lives 167 = .ok (.iconst 4, 1) ∧ decode cX12_lives 168 = .ok (.iadd, 1) ∧ decode cX12_lives 169 = .ok (.iaload, 1) ∧ decode cX12_lives 170 = .ok (.iconst 1, 1) ∧ decode cX12_lives 171 = .ok (.iadd, 1) ∧ decode cX12_lives 172 = .ok (.goto 6, 3) ∧ decode cX12_lives 175 = .ok (.iload_n 2, 1) ∧ decode cX12_lives 176 = .ok (.iconst 1, 1) ∧ decode cX12_lives 177 = .ok (.iadd, 1) := by decide +kernel
theorem e_X12_lives_11 : decode cX12_lives 178 = .ok (.invokevirtual 521, 3) ∧ decode cX12_lives 181 = .ok (.istore_n 2, 1) ∧ decode cX12_lives 182 = .ok (.goto (-150), 3) ∧ decode cX12_lives 185 = .ok (.return_, 1) := by decide +kernel
abbrev E_X12_lives_12 (G : Kg) (l2 : Int) (σ : Kmem) (Q : Int → Kmem → Prop) : Prop := Ex G WM M_X12_lives 11 0 0 12 [(0, vA G 0), (2, vI l2)] [] σ Q
abbrev E_X12_lives_32 (G : Kg) (l2 : Int) (σ : Kmem) (Q : Int → Kmem → Prop) : Prop := Ex G WM M_X12_lives 11 0 0 32 [(0, vA G 0), (2, vI l2)] [] σ Q
abbrev E_X12_lives_141 (G : Kg) (l2 l3 : Int) (σ : Kmem) (Q : Int → Kmem → Prop) : Prop := Ex G WM M_X12_lives 11 0 0 141 [(0, vA G 0), (2, vI l2), (3, vI l3)] [] σ Q
theorem S_X12_lives {G : Kg} {σ : Kmem} {Q : Int → Kmem → Prop} {l1 : Int}  (h : ∀ m1 : Kmem, m1 = (kup σ 0 35 l1) → ∀ m3 : Kmem, m3 = (kup m1 0 36 0) → E_X12_lives_12 G 0 m3 Q) : Run G WM M_X12_lives 11 0 0 [vA G 0, vI l1] σ Q := by
  refine Run.of (by decide +kernel) (by show (2 : Nat) ≤ 4; decide) ?_
  show Ex G WM M_X12_lives 11 0 0 0 [(0, vA G 0), (1, vI l1)] [] σ Q
  refine R_aload_n e_X12_lives_0.1 0 rfl ?_
  refine R_iload_n e_X12_lives_0.2.1 1 rfl ?_
  refine R_putI 12 35 35 WM_ok e_X12_lives_0.2.2.1 f_X12_499 km_0 rfl rfl rfl ?_
  obtain ⟨m1, e2⟩ : ∃ z : Kmem, z = (kup σ 0 35 l1) := ⟨_, rfl⟩
  rw [← e2]
  replace h := h m1 e2
  refine R_aload_n e_X12_lives_0.2.2.2.1 0 rfl ?_
  refine R_iconst e_X12_lives_0.2.2.2.2.1 ?_
  refine R_putI 12 36 36 WM_ok e_X12_lives_0.2.2.2.2.2.1 f_X12_512 km_0 rfl rfl rfl ?_
  obtain ⟨m3, e4⟩ : ∃ z : Kmem, z = (kup m1 0 36 0) := ⟨_, rfl⟩
  rw [← e4]
  replace h := h m3 e4
  refine R_iconst e_X12_lives_0.2.2.2.2.2.2.1 ?_
  refine R_istore_n (ls2 := [(2, vI 0), (0, vA G 0), (1, vI l1)]) e_X12_lives_0.2.2.2.2.2.2.2.1 (by decide) rfl ?_
  refine R_ls (ls2 := [(0, vA G 0), (2, vI 0)]) [1, 0] rfl ?_
  exact h
theorem S_X12_lives_12 {G : Kg} {σ : Kmem} {Q : Int → Kmem → Prop} {l1 l2 : Int}  (h : (rI l2) ∧ ((5 ≤ l2 → E_X12_lives_32 G 0 σ Q) ∧ (l2 < 5 → (0 ≤ l2 ∧ l2 < 5) ∧ ∀ m7 : Kmem, m7 = (kup σ 19 l2 0) → E_X12_lives_12 G (l2 + 1) m7 Q))) : E_X12_lives_12 G l2 σ Q := by
  refine R_iload_n e_X12_lives_0.2.2.2.2.2.2.2.2.1 1 rfl ?_
  refine R_iconst e_X12_lives_0.2.2.2.2.2.2.2.2.2 ?_
  obtain ⟨q5, h⟩ := h
  refine R_icmp_ge 30 e_X12_lives_1.1 (by decide) q5 (by decide) (fun q => ?_) (fun q => ?_)
  · replace h := h.1 q
    refine R_iconst e_X12_lives_1.2.2.2.2.2.2.2.2.1 ?_
    refine R_istore_n (ls2 := [(2, vI 0), (0, vA G 0)]) e_X12_lives_1.2.2.2.2.2.2.2.2.2 (by decide) rfl ?_
    refine R_ls (ls2 := [(0, vA G 0), (2, vI 0)]) [1, 0] rfl ?_
    exact h
  · replace h := h.2 q
    refine R_aload_n e_X12_lives_1.2.1 0 rfl ?_
    refine R_getA 12 38 19 e_X12_lives_1.2.2.1 f_X12_77 km_0 (fun _ _ => rfl) rm_0_38 (by decide) ?_
    refine R_iload_n e_X12_lives_1.2.2.2.1 1 rfl ?_
    refine R_iconst e_X12_lives_1.2.2.2.2.1 ?_
    obtain ⟨q6, h⟩ := h
    refine R_iast 5 WM_ok e_X12_lives_1.2.2.2.2.2.1 kma_19 q6 ?_
    obtain ⟨m7, e8⟩ : ∃ z : Kmem, z = (kup σ 19 l2 0) := ⟨_, rfl⟩
    rw [← e8]
    replace h := h m7 e8
    refine R_iinc (ls2 := [(2, vI (l2 + 1)), (0, vA G 0)]) e_X12_lives_1.2.2.2.2.2.2.1 1 rfl (by decide) rfl ?_
    refine R_goto 12 e_X12_lives_1.2.2.2.2.2.2.2.1 (by decide) ?_
    refine R_ls (ls2 := [(0, vA G 0), (2, vI (l2 + 1))]) [1, 0] rfl ?_
    exact h
theorem S_X12_lives_32 {G : Kg} {σ : Kmem} {Q : Int → Kmem → Prop} {l1 l2 : Int}  (h : (rI l2) ∧ (rI (σ 1 8)) ∧ ((σ 1 8 ≤ l2 → Q 0 σ) ∧ (l2 < σ 1 8 → (rI (σ 0 36)) ∧ ((σ 0 36 ≠ 300 → ∀ m12 : Kmem, m12 = (kup σ 0 36 ((σ 0 36) + 1)) → (0 ≤ 150 + (6 * l2) ∧ 150 + (6 * l2) < 3598) ∧ (rI (m12 1 (150 + (6 * l2)))) ∧ ((m12 1 (150 + (6 * l2)) ≠ 23 → Run G WM M_X12_does 10 0 0 [vA G 0, vI (150 + (6 * l2))] m12 (fun r16 s17 => (rI r16) ∧ ((r16 = 0 → ∀ m19 : Kmem, m19 = (kup s17 19 0 ((m12 19 0) + 1)) → (0 ≤ 150 + (6 * l2) ∧ 150 + (6 * l2) < 3598) ∧ (rI (m19 1 (150 + (6 * l2)))) ∧ ((m19 1 (150 + (6 * l2)) ≠ 21 → E_X12_lives_141 G l2 (150 + (6 * l2)) m19 Q) ∧ (m19 1 (150 + (6 * l2)) = 21 → (0 ≤ (150 + (6 * l2)) + 1 ∧ (150 + (6 * l2)) + 1 < 3598) ∧ (0 ≤ l2 ∧ l2 < 80) ∧ ∀ m25 : Kmem, m25 = (kup m19 18 l2 ((m19 1 ((150 + (6 * l2)) + 1)) - 1)) → E_X12_lives_141 G l2 (150 + (6 * l2)) m25 Q))) ∧ (r16 ≠ 0 → ∀ m27 : Kmem, m27 = (kup s17 19 0 ((m12 19 0) + 0)) → (0 ≤ 150 + (6 * l2) ∧ 150 + (6 * l2) < 3598) ∧ (rI (m27 1 (150 + (6 * l2)))) ∧ ((m27 1 (150 + (6 * l2)) ≠ 21 → E_X12_lives_141 G l2 (150 + (6 * l2)) m27 Q) ∧ (m27 1 (150 + (6 * l2)) = 21 → (0 ≤ (150 + (6 * l2)) + 1 ∧ (150 + (6 * l2)) + 1 < 3598) ∧ (0 ≤ l2 ∧ l2 < 80) ∧ ∀ m33 : Kmem, m33 = (kup m27 18 l2 ((m27 1 ((150 + (6 * l2)) + 1)) - 1)) → E_X12_lives_141 G l2 (150 + (6 * l2)) m33 Q)))))) ∧ (m12 1 (150 + (6 * l2)) = 23 → Q 0 m12))) ∧ (σ 0 36 = 300 → ∀ m35 : Kmem, m35 = (kup σ 19 4 1) → Q 0 m35))))) : E_X12_lives_32 G l2 σ Q := by
  refine R_iload_n e_X12_lives_2.1 1 rfl ?_
  refine R_aload_n e_X12_lives_2.2.1 0 rfl ?_
  refine R_getA 12 0 1 e_X12_lives_2.2.2.1 f_X12_7 km_0 (fun _ _ => rfl) rm_0_0 (by decide) ?_
  refine R_bipush e_X12_lives_2.2.2.2.1 (by decide) ?_
  refine R_iald 3598 e_X12_lives_2.2.2.2.2.1 kma_1 (by decide) ?_
  obtain ⟨q9, h⟩ := h
  obtain ⟨q10, h⟩ := h
  refine R_icmp_ge 185 e_X12_lives_2.2.2.2.2.2.1 (by decide) q9 q10 (fun q => ?_) (fun q => ?_)
  · replace h := h.1 q
    exact R_return e_X12_lives_11.2.2.2 rfl h
  · replace h := h.2 q
    refine R_aload_n e_X12_lives_2.2.2.2.2.2.2.1 0 rfl ?_
    refine R_getI 12 36 36 e_X12_lives_2.2.2.2.2.2.2.2.1 f_X12_512 km_0 (fun _ _ => rfl) rfl ?_
    refine R_sipush e_X12_lives_2.2.2.2.2.2.2.2.2.1 (by decide) ?_
    obtain ⟨q11, h⟩ := h
    refine R_icmp_ne 61 e_X12_lives_2.2.2.2.2.2.2.2.2.2 (by decide) q11 (by decide) (fun q => ?_) (fun q => ?_)
    · replace h := h.1 q
      refine R_sipush e_X12_lives_3.2.2.2.2.2.2.1 (by decide) ?_
      refine R_bipush e_X12_lives_3.2.2.2.2.2.2.2.1 (by decide) ?_
      refine R_iload_n e_X12_lives_3.2.2.2.2.2.2.2.2.1 1 rfl ?_
      refine R_imul e_X12_lives_3.2.2.2.2.2.2.2.2.2 ?_
      refine R_iadd e_X12_lives_4.1 ?_
      refine R_istore_n (ls2 := [(3, vI (150 + (6 * l2))), (0, vA G 0), (2, vI l2)]) e_X12_lives_4.2.1 (by decide) rfl ?_
      refine R_aload_n e_X12_lives_4.2.2.1 1 rfl ?_
      refine R_dup e_X12_lives_4.2.2.2.1 rfl ?_
      refine R_getI 12 36 36 e_X12_lives_4.2.2.2.2.1 f_X12_512 km_0 (fun _ _ => rfl) rfl ?_
      refine R_iconst e_X12_lives_4.2.2.2.2.2.1 ?_
      refine R_iadd e_X12_lives_4.2.2.2.2.2.2.1 ?_
      refine R_putI 12 36 36 WM_ok e_X12_lives_4.2.2.2.2.2.2.2.1 f_X12_512 km_0 rfl rfl rfl ?_
      obtain ⟨m12, e13⟩ : ∃ z : Kmem, z = (kup σ 0 36 ((σ 0 36) + 1)) := ⟨_, rfl⟩
      rw [← e13]
      replace h := h m12 e13
      refine R_aload_n e_X12_lives_4.2.2.2.2.2.2.2.2.1 1 rfl ?_
      refine R_getA 12 0 1 e_X12_lives_4.2.2.2.2.2.2.2.2.2 f_X12_7 km_0 (fun _ _ => rfl) rm_0_0 (by decide) ?_
      refine R_iload_n e_X12_lives_5.1 0 rfl ?_
      obtain ⟨q14, h⟩ := h
      refine R_iald 3598 e_X12_lives_5.2.1 kma_1 q14 ?_
      refine R_bipush e_X12_lives_5.2.2.1 (by decide) ?_
      obtain ⟨q15, h⟩ := h
      refine R_icmp_ne 92 e_X12_lives_5.2.2.2.1 (by decide) q15 (by decide) (fun q => ?_) (fun q => ?_)
      · replace h := h.1 q
        refine R_aload_n e_X12_lives_5.2.2.2.2.2.1 1 rfl ?_
        refine R_getA 12 38 19 e_X12_lives_5.2.2.2.2.2.2.1 f_X12_77 km_0 (fun _ _ => rfl) rm_0_38 (by decide) ?_
        refine R_iconst e_X12_lives_5.2.2.2.2.2.2.2.1 ?_
        refine R_dup2 e_X12_lives_5.2.2.2.2.2.2.2.2.1 rfl rfl ?_
        refine R_iald 5 e_X12_lives_5.2.2.2.2.2.2.2.2.2 kma_19 (by decide) ?_
        refine R_aload_n e_X12_lives_6.1 1 rfl ?_
        refine R_iload_n e_X12_lives_6.2.1 0 rfl ?_
        refine R_callV (mc := 0) (ms := 0) (mc' := 0) (ms' := 0) (M' := M_X12_does) (d' := 10) (as := [vI (150 + (6 * l2))]) (st := [vI (m12 19 0), vI 0, vA G 19]) 12 1 e_X12_lives_6.2.2.1 (kCVof m_X12_does l_X12_515) rfl (by decide) km_0 (by decide) (by decide) rfl rfl (by show (3 : Nat) ≤ 8; decide) ?_
        refine Run.mono h (fun r16 s17 h => ?_)
        refine R_eqs (st2 := [vI r16, vI (m12 19 0), vI 0, vA G 19]) rfl rfl ?_
        obtain ⟨q18, h⟩ := h
        refine R_if_eq 111 e_X12_lives_6.2.2.2.1 (by decide) q18  (fun q => ?_) (fun q => ?_)
        · replace h := h.1 q
          refine R_iconst e_X12_lives_6.2.2.2.2.2.2.1 ?_
          refine R_iadd e_X12_lives_6.2.2.2.2.2.2.2.1 ?_
          refine R_iast 5 WM_ok e_X12_lives_6.2.2.2.2.2.2.2.2.1 kma_19 (by decide) ?_
          obtain ⟨m19, e20⟩ : ∃ z : Kmem, z = (kup s17 19 0 ((m12 19 0) + 1)) := ⟨_, rfl⟩
          rw [← e20]
          replace h := h m19 e20
          refine R_aload_n e_X12_lives_6.2.2.2.2.2.2.2.2.2 1 rfl ?_
          refine R_getA 12 0 1 e_X12_lives_7.1 f_X12_7 km_0 (fun _ _ => rfl) rm_0_0 (by decide) ?_
          refine R_iload_n e_X12_lives_7.2.1 0 rfl ?_
          obtain ⟨q21, h⟩ := h
          refine R_iald 3598 e_X12_lives_7.2.2.1 kma_1 q21 ?_
          refine R_bipush e_X12_lives_7.2.2.2.1 (by decide) ?_
          obtain ⟨q22, h⟩ := h
          refine R_icmp_ne 141 e_X12_lives_7.2.2.2.2.1 (by decide) q22 (by decide) (fun q => ?_) (fun q => ?_)
          · replace h := h.1 q
            refine R_ls (ls2 := [(0, vA G 0), (2, vI l2), (3, vI (150 + (6 * l2)))]) [1, 2, 0] rfl ?_
            exact h
          · replace h := h.2 q
            refine R_aload_n e_X12_lives_7.2.2.2.2.2.1 1 rfl ?_
            refine R_getA 12 37 18 e_X12_lives_7.2.2.2.2.2.2.1 f_X12_74 km_0 (fun _ _ => rfl) rm_0_37 (by decide) ?_
            refine R_iload_n e_X12_lives_7.2.2.2.2.2.2.2.1 2 rfl ?_
            refine R_aload_n e_X12_lives_7.2.2.2.2.2.2.2.2.1 1 rfl ?_
            refine R_getA 12 0 1 e_X12_lives_7.2.2.2.2.2.2.2.2.2 f_X12_7 km_0 (fun _ _ => rfl) rm_0_0 (by decide) ?_
            refine R_iload_n e_X12_lives_8.1 0 rfl ?_
            refine R_iconst e_X12_lives_8.2.1 ?_
            refine R_iadd e_X12_lives_8.2.2.1 ?_
            obtain ⟨q23, h⟩ := h
            refine R_iald 3598 e_X12_lives_8.2.2.2.1 kma_1 q23 ?_
            refine R_iconst e_X12_lives_8.2.2.2.2.1 ?_
            refine R_isub e_X12_lives_8.2.2.2.2.2.1 ?_
            obtain ⟨q24, h⟩ := h
            refine R_iast 80 WM_ok e_X12_lives_8.2.2.2.2.2.2.1 kma_18 q24 ?_
            obtain ⟨m25, e26⟩ : ∃ z : Kmem, z = (kup m19 18 l2 ((m19 1 ((150 + (6 * l2)) + 1)) - 1)) := ⟨_, rfl⟩
            rw [← e26]
            replace h := h m25 e26
            refine R_ls (ls2 := [(0, vA G 0), (2, vI l2), (3, vI (150 + (6 * l2)))]) [1, 2, 0] rfl ?_
            exact h
        · replace h := h.2 q
          refine R_iconst e_X12_lives_6.2.2.2.2.1 ?_
          refine R_goto 112 e_X12_lives_6.2.2.2.2.2.1 (by decide) ?_
          refine R_iadd e_X12_lives_6.2.2.2.2.2.2.2.1 ?_
          refine R_iast 5 WM_ok e_X12_lives_6.2.2.2.2.2.2.2.2.1 kma_19 (by decide) ?_
          obtain ⟨m27, e28⟩ : ∃ z : Kmem, z = (kup s17 19 0 ((m12 19 0) + 0)) := ⟨_, rfl⟩
          rw [← e28]
          replace h := h m27 e28
          refine R_aload_n e_X12_lives_6.2.2.2.2.2.2.2.2.2 1 rfl ?_
          refine R_getA 12 0 1 e_X12_lives_7.1 f_X12_7 km_0 (fun _ _ => rfl) rm_0_0 (by decide) ?_
          refine R_iload_n e_X12_lives_7.2.1 0 rfl ?_
          obtain ⟨q29, h⟩ := h
          refine R_iald 3598 e_X12_lives_7.2.2.1 kma_1 q29 ?_
          refine R_bipush e_X12_lives_7.2.2.2.1 (by decide) ?_
          obtain ⟨q30, h⟩ := h
          refine R_icmp_ne 141 e_X12_lives_7.2.2.2.2.1 (by decide) q30 (by decide) (fun q => ?_) (fun q => ?_)
          · replace h := h.1 q
            refine R_ls (ls2 := [(0, vA G 0), (2, vI l2), (3, vI (150 + (6 * l2)))]) [1, 2, 0] rfl ?_
            exact h
          · replace h := h.2 q
            refine R_aload_n e_X12_lives_7.2.2.2.2.2.1 1 rfl ?_
            refine R_getA 12 37 18 e_X12_lives_7.2.2.2.2.2.2.1 f_X12_74 km_0 (fun _ _ => rfl) rm_0_37 (by decide) ?_
            refine R_iload_n e_X12_lives_7.2.2.2.2.2.2.2.1 2 rfl ?_
            refine R_aload_n e_X12_lives_7.2.2.2.2.2.2.2.2.1 1 rfl ?_
            refine R_getA 12 0 1 e_X12_lives_7.2.2.2.2.2.2.2.2.2 f_X12_7 km_0 (fun _ _ => rfl) rm_0_0 (by decide) ?_
            refine R_iload_n e_X12_lives_8.1 0 rfl ?_
            refine R_iconst e_X12_lives_8.2.1 ?_
            refine R_iadd e_X12_lives_8.2.2.1 ?_
            obtain ⟨q31, h⟩ := h
            refine R_iald 3598 e_X12_lives_8.2.2.2.1 kma_1 q31 ?_
            refine R_iconst e_X12_lives_8.2.2.2.2.1 ?_
            refine R_isub e_X12_lives_8.2.2.2.2.2.1 ?_
            obtain ⟨q32, h⟩ := h
            refine R_iast 80 WM_ok e_X12_lives_8.2.2.2.2.2.2.1 kma_18 q32 ?_
            obtain ⟨m33, e34⟩ : ∃ z : Kmem, z = (kup m27 18 l2 ((m27 1 ((150 + (6 * l2)) + 1)) - 1)) := ⟨_, rfl⟩
            rw [← e34]
            replace h := h m33 e34
            refine R_ls (ls2 := [(0, vA G 0), (2, vI l2), (3, vI (150 + (6 * l2)))]) [1, 2, 0] rfl ?_
            exact h
      · replace h := h.2 q
        exact R_return e_X12_lives_5.2.2.2.2.1 rfl h
    · replace h := h.2 q
      refine R_aload_n e_X12_lives_3.1 0 rfl ?_
      refine R_getA 12 38 19 e_X12_lives_3.2.1 f_X12_77 km_0 (fun _ _ => rfl) rm_0_38 (by decide) ?_
      refine R_iconst e_X12_lives_3.2.2.1 ?_
      refine R_iconst e_X12_lives_3.2.2.2.1 ?_
      refine R_iast 5 WM_ok e_X12_lives_3.2.2.2.2.1 kma_19 (by decide) ?_
      obtain ⟨m35, e36⟩ : ∃ z : Kmem, z = (kup σ 19 4 1) := ⟨_, rfl⟩
      rw [← e36]
      replace h := h m35 e36
      exact R_return e_X12_lives_3.2.2.2.2.2.1 rfl h
theorem S_X12_lives_141 {G : Kg} {σ : Kmem} {Q : Int → Kmem → Prop} {l1 l2 l3 : Int}  (h : (0 ≤ l3 ∧ l3 < 3598) ∧ (rI (σ 1 l3)) ∧ ((σ 1 l3 < 2000 → (pwf (σ 1) ∧ ((0 : Int) ≤ (l2 + 1) ∧ ((l2 + 1) : Int) ≤ (σ 1) 8) ∧ lpR (σ 18)) ∧ E_X12_lives_32 G ((sEnds (σ 1) 200 ((l2 + 1), σ 18)).1) (kst σ 18 (sEnds (σ 1) 200 ((l2 + 1), σ 18)).2) Q) ∧ (2000 ≤ σ 1 l3 → Run G WM M_X12_holds 4 0 0 [vA G 0, vI l3] σ (fun r42 s43 => (rI r42) ∧ ((r42 ≠ 0 → (pwf (s43 1) ∧ ((0 : Int) ≤ (l2 + 1) ∧ ((l2 + 1) : Int) ≤ (s43 1) 8) ∧ lpR (s43 18)) ∧ E_X12_lives_32 G ((sEnds (s43 1) 200 ((l2 + 1), s43 18)).1) (kst s43 18 (sEnds (s43 1) 200 ((l2 + 1), s43 18)).2) Q) ∧ (r42 = 0 → (0 ≤ l3 + 4 ∧ l3 + 4 < 3598) ∧ (pwf (s43 1) ∧ ((0 : Int) ≤ ((s43 1 (l3 + 4)) + 1) ∧ (((s43 1 (l3 + 4)) + 1) : Int) ≤ (s43 1) 8) ∧ lpR (s43 18)) ∧ E_X12_lives_32 G ((sEnds (s43 1) 200 (((s43 1 (l3 + 4)) + 1), s43 18)).1) (kst s43 18 (sEnds (s43 1) 200 (((s43 1 (l3 + 4)) + 1), s43 18)).2) Q)))))) : E_X12_lives_141 G l2 l3 σ Q := by
  refine R_aload_n e_X12_lives_8.2.2.2.2.2.2.2.1 0 rfl ?_
  refine R_aload_n e_X12_lives_8.2.2.2.2.2.2.2.2.1 0 rfl ?_
  refine R_getA 12 0 1 e_X12_lives_8.2.2.2.2.2.2.2.2.2 f_X12_7 km_0 (fun _ _ => rfl) rm_0_0 (by decide) ?_
  refine R_iload_n e_X12_lives_9.1 2 rfl ?_
  obtain ⟨q37, h⟩ := h
  refine R_iald 3598 e_X12_lives_9.2.1 kma_1 q37 ?_
  refine R_sipush e_X12_lives_9.2.2.1 (by decide) ?_
  obtain ⟨q38, h⟩ := h
  refine R_icmp_lt 175 e_X12_lives_9.2.2.2.1 (by decide) q38 (by decide) (fun q => ?_) (fun q => ?_)
  · replace h := h.1 q
    refine R_iload_n e_X12_lives_10.2.2.2.2.2.2.2.1 1 rfl ?_
    refine R_iconst e_X12_lives_10.2.2.2.2.2.2.2.2.1 ?_
    refine R_iadd e_X12_lives_10.2.2.2.2.2.2.2.2.2 ?_
    obtain ⟨q41, h⟩ := h
    refine R_callV (mc := 0) (ms := 0) (mc' := 0) (ms' := 0) (M' := M_X12_behindEnds) (d' := 0) (as := [vI (l2 + 1)]) (st := []) 12 1 e_X12_lives_11.1 (kCVof m_X12_behindEnds l_X12_521) rfl (by decide) km_0 (by decide) (by decide) rfl rfl (by show (0 : Nat) ≤ 8; decide) ?_
    refine Run.mono (P_X12_behindEnds q41) (fun r s e => ?_)
    obtain ⟨e1, e2⟩ := e
    refine R_eqs (st2 := [vI ((sEnds (σ 1) 200 ((l2 + 1), σ 18)).1)]) (σ2 := (kst σ 18 (sEnds (σ 1) 200 ((l2 + 1), σ 18)).2)) (by rw [e1]; rfl) e2 ?_
    refine R_istore_n (ls2 := [(2, vI ((sEnds (σ 1) 200 ((l2 + 1), σ 18)).1)), (0, vA G 0), (3, vI l3)]) e_X12_lives_11.2.1 (by decide) rfl ?_
    refine R_goto 32 e_X12_lives_11.2.2.1 (by decide) ?_
    refine R_ls (ls2 := [(0, vA G 0), (2, vI ((sEnds (σ 1) 200 ((l2 + 1), σ 18)).1))]) [1, 0] rfl ?_
    exact h
  · replace h := h.2 q
    refine R_aload_n e_X12_lives_9.2.2.2.2.1 0 rfl ?_
    refine R_iload_n e_X12_lives_9.2.2.2.2.2.1 2 rfl ?_
    refine R_callV (mc := 0) (ms := 0) (mc' := 0) (ms' := 0) (M' := M_X12_holds) (d' := 4) (as := [vI l3]) (st := [vA G 0]) 12 1 e_X12_lives_9.2.2.2.2.2.2.1 (kCVof m_X12_holds l_X12_518) rfl (by decide) km_0 (by decide) (by decide) rfl rfl (by show (1 : Nat) ≤ 8; decide) ?_
    refine Run.mono h (fun r42 s43 h => ?_)
    refine R_eqs (st2 := [vI r42, vA G 0]) rfl rfl ?_
    obtain ⟨q44, h⟩ := h
    refine R_if_ne 175 e_X12_lives_9.2.2.2.2.2.2.2.1 (by decide) q44  (fun q => ?_) (fun q => ?_)
    · replace h := h.1 q
      refine R_iload_n e_X12_lives_10.2.2.2.2.2.2.2.1 1 rfl ?_
      refine R_iconst e_X12_lives_10.2.2.2.2.2.2.2.2.1 ?_
      refine R_iadd e_X12_lives_10.2.2.2.2.2.2.2.2.2 ?_
      obtain ⟨q47, h⟩ := h
      refine R_callV (mc := 0) (ms := 0) (mc' := 0) (ms' := 0) (M' := M_X12_behindEnds) (d' := 0) (as := [vI (l2 + 1)]) (st := []) 12 1 e_X12_lives_11.1 (kCVof m_X12_behindEnds l_X12_521) rfl (by decide) km_0 (by decide) (by decide) rfl rfl (by show (0 : Nat) ≤ 8; decide) ?_
      refine Run.mono (P_X12_behindEnds q47) (fun r s e => ?_)
      obtain ⟨e1, e2⟩ := e
      refine R_eqs (st2 := [vI ((sEnds (s43 1) 200 ((l2 + 1), s43 18)).1)]) (σ2 := (kst s43 18 (sEnds (s43 1) 200 ((l2 + 1), s43 18)).2)) (by rw [e1]; rfl) e2 ?_
      refine R_istore_n (ls2 := [(2, vI ((sEnds (s43 1) 200 ((l2 + 1), s43 18)).1)), (0, vA G 0), (3, vI l3)]) e_X12_lives_11.2.1 (by decide) rfl ?_
      refine R_goto 32 e_X12_lives_11.2.2.1 (by decide) ?_
      refine R_ls (ls2 := [(0, vA G 0), (2, vI ((sEnds (s43 1) 200 ((l2 + 1), s43 18)).1))]) [1, 0] rfl ?_
      exact h
    · replace h := h.2 q
      refine R_aload_n e_X12_lives_9.2.2.2.2.2.2.2.2.1 0 rfl ?_
      refine R_getA 12 0 1 e_X12_lives_9.2.2.2.2.2.2.2.2.2 f_X12_7 km_0 (fun _ _ => rfl) rm_0_0 (by decide) ?_
      refine R_iload_n e_X12_lives_10.1 2 rfl ?_
      refine R_iconst e_X12_lives_10.2.1 ?_
      refine R_iadd e_X12_lives_10.2.2.1 ?_
      obtain ⟨q48, h⟩ := h
      refine R_iald 3598 e_X12_lives_10.2.2.2.1 kma_1 q48 ?_
      refine R_iconst e_X12_lives_10.2.2.2.2.1 ?_
      refine R_iadd e_X12_lives_10.2.2.2.2.2.1 ?_
      refine R_goto 178 e_X12_lives_10.2.2.2.2.2.2.1 (by decide) ?_
      obtain ⟨q51, h⟩ := h
      refine R_callV (mc := 0) (ms := 0) (mc' := 0) (ms' := 0) (M' := M_X12_behindEnds) (d' := 0) (as := [vI ((s43 1 (l3 + 4)) + 1)]) (st := []) 12 1 e_X12_lives_11.1 (kCVof m_X12_behindEnds l_X12_521) rfl (by decide) km_0 (by decide) (by decide) rfl rfl (by show (0 : Nat) ≤ 8; decide) ?_
      refine Run.mono (P_X12_behindEnds q51) (fun r s e => ?_)
      obtain ⟨e1, e2⟩ := e
      refine R_eqs (st2 := [vI ((sEnds (s43 1) 200 (((s43 1 (l3 + 4)) + 1), s43 18)).1)]) (σ2 := (kst s43 18 (sEnds (s43 1) 200 (((s43 1 (l3 + 4)) + 1), s43 18)).2)) (by rw [e1]; rfl) e2 ?_
      refine R_istore_n (ls2 := [(2, vI ((sEnds (s43 1) 200 (((s43 1 (l3 + 4)) + 1), s43 18)).1)), (0, vA G 0), (3, vI l3)]) e_X12_lives_11.2.1 (by decide) rfl ?_
      refine R_goto 32 e_X12_lives_11.2.2.1 (by decide) ?_
      refine R_ls (ls2 := [(0, vA G 0), (2, vI ((sEnds (s43 1) 200 (((s43 1 (l3 + 4)) + 1), s43 18)).1))]) [1, 0] rfl ?_
      exact h
