/-! KiteLand$Scanner.next()V -/
theorem e_X6_next_0 : decode cX6_next 0 = .ok (.aload_n 0, 1) ∧ decode cX6_next 1 = .ok (.aload_n 0, 1) ∧ decode cX6_next 2 = .ok (.getfield 25, 3) ∧ decode cX6_next 5 = .ok (.putfield 22, 3) ∧ decode cX6_next 8 = .ok (.aload_n 0, 1) ∧ decode cX6_next 9 = .ok (.getfield 22, 3) ∧ decode cX6_next 12 = .ok (.aload_n 0, 1) ∧ decode cX6_next 13 = .ok (.getfield 15, 3) ∧ decode cX6_next 16 = .ok (.if_icmp .ge 44, 3) ∧ decode cX6_next 19 = .ok (.aload_n 0, 1) := by decide +kernel
theorem e_X6_next_1 : decode cX6_next 20 = .ok (.getfield 9, 3) ∧ decode cX6_next 23 = .ok (.aload_n 0, 1) ∧ decode cX6_next 24 = .ok (.getfield 22, 3) ∧ decode cX6_next 27 = .ok (.baload, 1) ∧ decode cX6_next 28 = .ok (.bipush 10, 2) ∧ decode cX6_next 30 = .ok (.if_icmp .eq 17, 3) ∧ decode cX6_next 33 = .ok (.aload_n 0, 1) ∧ decode cX6_next 34 = .ok (.getfield 9, 3) ∧ decode cX6_next 37 = .ok (.aload_n 0, 1) ∧ decode cX6_next 38 = .ok (.getfield 22, 3) := by decide +kernel
theorem e_X6_next_2 : decode cX6_next 41 = .ok (.baload, 1) ∧ decode cX6_next 42 = .ok (.bipush 32, 2) ∧ decode cX6_next 44 = .ok (.if_icmp .ne 16, 3) ∧ decode cX6_next 47 = .ok (.aload_n 0, 1) ∧ decode cX6_next 48 = .ok (.dup, 1) ∧ decode cX6_next 49 = .ok (.getfield 22, 3) ∧ decode cX6_next 52 = .ok (.iconst 1, 1) ∧ decode cX6_next 53 = .ok (.iadd, 1) ∧ decode cX6_next 54 = .ok (.putfield 22, 3) ∧ decode cX6_next 57 = .ok (.goto (-49), 3) := by decide +kernel
theorem e_X6_next_3 : decode cX6_next 60 = .ok (.aload_n 0, 1) ∧ decode cX6_next 61 = .ok (.aload_n 0, 1) ∧ decode cX6_next 62 = .ok (.getfield 22, 3) ∧ decode cX6_next 65 = .ok (.putfield 25, 3) ∧ decode cX6_next 68 = .ok (.aload_n 0, 1) ∧ decode cX6_next 69 = .ok (.getfield 22, 3) ∧ decode cX6_next 72 = .ok (.aload_n 0, 1) ∧ decode cX6_next 73 = .ok (.getfield 15, 3) ∧ decode cX6_next 76 = .ok (.if_icmp .lt 11, 3) ∧ decode cX6_next 79 = .ok (.aload_n 0, 1) := by decide +kernel
theorem e_X6_next_4 : decode cX6_next 80 = .ok (.iconst 0, 1) ∧ decode cX6_next 81 = .ok (.putfield 19, 3) ∧ decode cX6_next 84 = .ok (.goto 108, 3) ∧ decode cX6_next 87 = .ok (.aload_n 0, 1) ∧ decode cX6_next 88 = .ok (.getfield 9, 3) ∧ decode cX6_next 91 = .ok (.aload_n 0, 1) ∧ decode cX6_next 92 = .ok (.getfield 22, 3) ∧ decode cX6_next 95 = .ok (.baload, 1) ∧ decode cX6_next 96 = .ok (.bipush 97, 2) ∧ decode cX6_next 98 = .ok (.if_icmp .lt 24, 3) := by decide +kernel
theorem e_X6_next_5 : decode cX6_next 101 = .ok (.aload_n 0, 1) ∧ decode cX6_next 102 = .ok (.getfield 9, 3) ∧ decode cX6_next 105 = .ok (.aload_n 0, 1) ∧ decode cX6_next 106 = .ok (.getfield 22, 3) ∧ decode cX6_next 109 = .ok (.baload, 1) ∧ decode cX6_next 110 = .ok (.bipush 122, 2) ∧ decode cX6_next 112 = .ok (.if_icmp .gt 10, 3) ∧ decode cX6_next 115 = .ok (.aload_n 0, 1) ∧ decode cX6_next 116 = .ok (.invokevirtual 53, 3) ∧ decode cX6_next 119 = .ok (.goto 73, 3) := by decide +kernel
theorem e_X6_next_6 : decode cX6_next 122 = .ok (.aload_n 0, 1) ∧ decode cX6_next 123 = .ok (.getfield 9, 3) ∧ decode cX6_next 126 = .ok (.aload_n 0, 1) ∧ decode cX6_next 127 = .ok (.getfield 22, 3) ∧ decode cX6_next 130 = .ok (.baload, 1) ∧ decode cX6_next 131 = .ok (.bipush 48, 2) ∧ decode cX6_next 133 = .ok (.if_icmp .lt 24, 3) ∧ decode cX6_next 136 = .ok (.aload_n 0, 1) ∧ decode cX6_next 137 = .ok (.getfield 9, 3) ∧ decode cX6_next 140 = .ok (.aload_n 0, 1) := by decide +kernel
theorem e_X6_next_7 : decode cX6_next 141 = .ok (.getfield 22, 3) ∧ decode cX6_next 144 = .ok (.baload, 1) ∧ decode cX6_next 145 = .ok (.bipush 57, 2) ∧ decode cX6_next 147 = .ok (.if_icmp .gt 10, 3) ∧ decode cX6_next 150 = .ok (.aload_n 0, 1) ∧ decode cX6_next 151 = .ok (.invokevirtual 56, 3) ∧ decode cX6_next 154 = .ok (.goto 38, 3) ∧ decode cX6_next 157 = .ok (.aload_n 0, 1) ∧ decode cX6_next 158 = .ok (.aload_n 0, 1) ∧ decode cX6_next 159 = .ok (.aload_n 0, 1) := by decide +kernel
theorem e_X6_next_8 : decode cX6_next 160 = .ok (.getfield 9, 3) ∧ decode cX6_next 163 = .ok (.aload_n 0, 1) ∧ decode cX6_next 164 = .ok (.getfield 22, 3) ∧ decode cX6_next 167 = .ok (.baload, 1) ∧ decode cX6_next 168 = .ok (.invokevirtual 59, 3) ∧ decode cX6_next 171 = .ok (.ifCond .eq 7, 3) ∧ decode cX6_next 174 = .ok (.iconst 4, 1) ∧ decode cX6_next 175 = .ok (.goto 4, 3) ∧ decode cX6_next 178 = .ok (.iconst 1, 1) ∧ decode cX6_next 179 = .ok (.putfield 19, 3) := by decide +kernel
theorem e_X6_next_9 : decode cX6_next 182 = .ok (.aload_n 0, 1) ∧ decode cX6_next 183 = .ok (.aload_n 0, 1) ∧ decode cX6_next 184 = .ok (.getfield 22, 3) ∧ decode cX6_next 187 = .ok (.iconst 1, 1) ∧ decode cX6_next 188 = .ok (.iadd, 1) ∧ decode cX6_next 189 = .ok (.putfield 25, 3) ∧ decode cX6_next 192 = .ok (.return_, 1) := by decide +kernel
abbrev E_X6_next_8 (G : Kg) (σ : Kmem) (Q : Int → Kmem → Prop) : Prop := Ex G WX M_X6_next 1 0 0 8 [(0, vA G 3)] [] σ Q
abbrev E_X6_next_60 (G : Kg) (σ : Kmem) (Q : Int → Kmem → Prop) : Prop := Ex G WX M_X6_next 1 0 0 60 [(0, vA G 3)] [] σ Q
abbrev E_X6_next_122 (G : Kg) (σ : Kmem) (Q : Int → Kmem → Prop) : Prop := Ex G WX M_X6_next 1 0 0 122 [(0, vA G 3)] [] σ Q
theorem S_X6_next {G : Kg} {σ : Kmem} {Q : Int → Kmem → Prop}  (h : E_X6_next_8 G (kup σ 3 3 (σ 3 4)) Q) : Run G WX M_X6_next 1 0 0 [vA G 3] σ Q := by
  refine Run.of (by decide +kernel) (by show (1 : Nat) ≤ 1; decide) ?_
  show Ex G WX M_X6_next 1 0 0 0 [(0, vA G 3)] [] σ Q
  refine R_aload_n e_X6_next_0.1 0 rfl ?_
  refine R_aload_n e_X6_next_0.2.1 0 rfl ?_
  refine R_getI 6 4 4 e_X6_next_0.2.2.1 f_X6_25 kx_3 (fun _ _ => rfl) rfl ?_
  refine R_putI 6 3 3 WX_ok e_X6_next_0.2.2.2.1 f_X6_22 kx_3 rfl rfl rfl ?_
  refine R_ls (ls2 := [(0, vA G 3)]) [0] rfl ?_
  exact h
theorem S_X6_next_8 {G : Kg} {σ : Kmem} {Q : Int → Kmem → Prop}  (h : (rI (σ 3 3)) ∧ (rI (σ 3 1)) ∧ ((σ 3 1 ≤ σ 3 3 → E_X6_next_60 G σ Q) ∧ (σ 3 3 < σ 3 1 → (0 ≤ σ 3 3 ∧ σ 3 3 < 900) ∧ (rI (σ 4 (σ 3 3))) ∧ ((σ 4 (σ 3 3) = 10 → E_X6_next_8 G (kup σ 3 3 ((σ 3 3) + 1)) Q) ∧ (σ 4 (σ 3 3) ≠ 10 → (0 ≤ σ 3 3 ∧ σ 3 3 < 900) ∧ ((σ 4 (σ 3 3) ≠ 32 → E_X6_next_60 G σ Q) ∧ (σ 4 (σ 3 3) = 32 → E_X6_next_8 G (kup σ 3 3 ((σ 3 3) + 1)) Q))))))) : E_X6_next_8 G σ Q := by
  refine R_aload_n e_X6_next_0.2.2.2.2.1 0 rfl ?_
  refine R_getI 6 3 3 e_X6_next_0.2.2.2.2.2.1 f_X6_22 kx_3 (fun _ _ => rfl) rfl ?_
  refine R_aload_n e_X6_next_0.2.2.2.2.2.2.1 0 rfl ?_
  refine R_getI 6 1 1 e_X6_next_0.2.2.2.2.2.2.2.1 f_X6_15 kx_3 (fun _ _ => rfl) rfl ?_
  obtain ⟨q1, h⟩ := h
  obtain ⟨q2, h⟩ := h
  refine R_icmp_ge 60 e_X6_next_0.2.2.2.2.2.2.2.2.1 (by decide) q1 q2 (fun q => ?_) (fun q => ?_)
  · replace h := h.1 q
    refine R_ls (ls2 := [(0, vA G 3)]) [0] rfl ?_
    exact h
  · replace h := h.2 q
    refine R_aload_n e_X6_next_0.2.2.2.2.2.2.2.2.2 0 rfl ?_
    refine R_getA 6 0 4 e_X6_next_1.1 f_X6_9 kx_3 (fun _ _ => rfl) rx_3_0 (by decide) ?_
    refine R_aload_n e_X6_next_1.2.1 0 rfl ?_
    refine R_getI 6 3 3 e_X6_next_1.2.2.1 f_X6_22 kx_3 (fun _ _ => rfl) rfl ?_
    obtain ⟨q3, h⟩ := h
    refine R_bald 900 e_X6_next_1.2.2.2.1 kxa_4 q3 ?_
    refine R_bipush e_X6_next_1.2.2.2.2.1 (by decide) ?_
    obtain ⟨q4, h⟩ := h
    refine R_icmp_eq 47 e_X6_next_1.2.2.2.2.2.1 (by decide) q4 (by decide) (fun q => ?_) (fun q => ?_)
    · replace h := h.1 q
      refine R_aload_n e_X6_next_2.2.2.2.1 0 rfl ?_
      refine R_dup e_X6_next_2.2.2.2.2.1 rfl ?_
      refine R_getI 6 3 3 e_X6_next_2.2.2.2.2.2.1 f_X6_22 kx_3 (fun _ _ => rfl) rfl ?_
      refine R_iconst e_X6_next_2.2.2.2.2.2.2.1 ?_
      refine R_iadd e_X6_next_2.2.2.2.2.2.2.2.1 ?_
      refine R_putI 6 3 3 WX_ok e_X6_next_2.2.2.2.2.2.2.2.2.1 f_X6_22 kx_3 rfl rfl rfl ?_
      refine R_goto 8 e_X6_next_2.2.2.2.2.2.2.2.2.2 (by decide) ?_
      refine R_ls (ls2 := [(0, vA G 3)]) [0] rfl ?_
      exact h
    · replace h := h.2 q
      refine R_aload_n e_X6_next_1.2.2.2.2.2.2.1 0 rfl ?_
      refine R_getA 6 0 4 e_X6_next_1.2.2.2.2.2.2.2.1 f_X6_9 kx_3 (fun _ _ => rfl) rx_3_0 (by decide) ?_
      refine R_aload_n e_X6_next_1.2.2.2.2.2.2.2.2.1 0 rfl ?_
      refine R_getI 6 3 3 e_X6_next_1.2.2.2.2.2.2.2.2.2 f_X6_22 kx_3 (fun _ _ => rfl) rfl ?_
      obtain ⟨q5, h⟩ := h
      refine R_bald 900 e_X6_next_2.1 kxa_4 q5 ?_
      refine R_bipush e_X6_next_2.2.1 (by decide) ?_
      refine R_icmp_ne 60 e_X6_next_2.2.2.1 (by decide) q4 (by decide) (fun q => ?_) (fun q => ?_)
      · replace h := h.1 q
        refine R_ls (ls2 := [(0, vA G 3)]) [0] rfl ?_
        exact h
      · replace h := h.2 q
        refine R_aload_n e_X6_next_2.2.2.2.1 0 rfl ?_
        refine R_dup e_X6_next_2.2.2.2.2.1 rfl ?_
        refine R_getI 6 3 3 e_X6_next_2.2.2.2.2.2.1 f_X6_22 kx_3 (fun _ _ => rfl) rfl ?_
        refine R_iconst e_X6_next_2.2.2.2.2.2.2.1 ?_
        refine R_iadd e_X6_next_2.2.2.2.2.2.2.2.1 ?_
        refine R_putI 6 3 3 WX_ok e_X6_next_2.2.2.2.2.2.2.2.2.1 f_X6_22 kx_3 rfl rfl rfl ?_
        refine R_goto 8 e_X6_next_2.2.2.2.2.2.2.2.2.2 (by decide) ?_
        refine R_ls (ls2 := [(0, vA G 3)]) [0] rfl ?_
        exact h
theorem S_X6_next_60 {G : Kg} {σ : Kmem} {Q : Int → Kmem → Prop}  (h : (rI ((kup σ 3 4 (σ 3 3)) 3 3)) ∧ (rI ((kup σ 3 4 (σ 3 3)) 3 1)) ∧ (((kup σ 3 4 (σ 3 3)) 3 3 < (kup σ 3 4 (σ 3 3)) 3 1 → (0 ≤ (kup σ 3 4 (σ 3 3)) 3 3 ∧ (kup σ 3 4 (σ 3 3)) 3 3 < 900) ∧ (rI ((kup σ 3 4 (σ 3 3)) 4 ((kup σ 3 4 (σ 3 3)) 3 3))) ∧ (((kup σ 3 4 (σ 3 3)) 4 ((kup σ 3 4 (σ 3 3)) 3 3) < 97 → E_X6_next_122 G (kup σ 3 4 (σ 3 3)) Q) ∧ (97 ≤ (kup σ 3 4 (σ 3 3)) 4 ((kup σ 3 4 (σ 3 3)) 3 3) → (0 ≤ (kup σ 3 4 (σ 3 3)) 3 3 ∧ (kup σ 3 4 (σ 3 3)) 3 3 < 900) ∧ ((122 < (kup σ 3 4 (σ 3 3)) 4 ((kup σ 3 4 (σ 3 3)) 3 3) → E_X6_next_122 G (kup σ 3 4 (σ 3 3)) Q) ∧ ((kup σ 3 4 (σ 3 3)) 4 ((kup σ 3 4 (σ 3 3)) 3 3) ≤ 122 → Run G WX M_X6_nextWord 0 0 0 [vA G 3] (kup σ 3 4 (σ 3 3)) (fun r11 s12 => Q 0 s12)))))) ∧ ((kup σ 3 4 (σ 3 3)) 3 1 ≤ (kup σ 3 4 (σ 3 3)) 3 3 → Q 0 (kup (kup σ 3 4 (σ 3 3)) 3 2 0)))) : E_X6_next_60 G σ Q := by
  refine R_aload_n e_X6_next_3.1 0 rfl ?_
  refine R_aload_n e_X6_next_3.2.1 0 rfl ?_
  refine R_getI 6 3 3 e_X6_next_3.2.2.1 f_X6_22 kx_3 (fun _ _ => rfl) rfl ?_
  refine R_putI 6 4 4 WX_ok e_X6_next_3.2.2.2.1 f_X6_25 kx_3 rfl rfl rfl ?_
  refine R_aload_n e_X6_next_3.2.2.2.2.1 0 rfl ?_
  refine R_getI 6 3 3 e_X6_next_3.2.2.2.2.2.1 f_X6_22 kx_3 (fun _ _ => rfl) rfl ?_
  refine R_aload_n e_X6_next_3.2.2.2.2.2.2.1 0 rfl ?_
  refine R_getI 6 1 1 e_X6_next_3.2.2.2.2.2.2.2.1 f_X6_15 kx_3 (fun _ _ => rfl) rfl ?_
  obtain ⟨q6, h⟩ := h
  obtain ⟨q7, h⟩ := h
  refine R_icmp_lt 87 e_X6_next_3.2.2.2.2.2.2.2.2.1 (by decide) q6 q7 (fun q => ?_) (fun q => ?_)
  · replace h := h.1 q
    refine R_aload_n e_X6_next_4.2.2.2.1 0 rfl ?_
    refine R_getA 6 0 4 e_X6_next_4.2.2.2.2.1 f_X6_9 kx_3 (fun _ _ => rfl) rx_3_0 (by decide) ?_
    refine R_aload_n e_X6_next_4.2.2.2.2.2.1 0 rfl ?_
    refine R_getI 6 3 3 e_X6_next_4.2.2.2.2.2.2.1 f_X6_22 kx_3 (fun _ _ => rfl) rfl ?_
    obtain ⟨q8, h⟩ := h
    refine R_bald 900 e_X6_next_4.2.2.2.2.2.2.2.1 kxa_4 q8 ?_
    refine R_bipush e_X6_next_4.2.2.2.2.2.2.2.2.1 (by decide) ?_
    obtain ⟨q9, h⟩ := h
    refine R_icmp_lt 122 e_X6_next_4.2.2.2.2.2.2.2.2.2 (by decide) q9 (by decide) (fun q => ?_) (fun q => ?_)
    · replace h := h.1 q
      refine R_ls (ls2 := [(0, vA G 3)]) [0] rfl ?_
      exact h
    · replace h := h.2 q
      refine R_aload_n e_X6_next_5.1 0 rfl ?_
      refine R_getA 6 0 4 e_X6_next_5.2.1 f_X6_9 kx_3 (fun _ _ => rfl) rx_3_0 (by decide) ?_
      refine R_aload_n e_X6_next_5.2.2.1 0 rfl ?_
      refine R_getI 6 3 3 e_X6_next_5.2.2.2.1 f_X6_22 kx_3 (fun _ _ => rfl) rfl ?_
      obtain ⟨q10, h⟩ := h
      refine R_bald 900 e_X6_next_5.2.2.2.2.1 kxa_4 q10 ?_
      refine R_bipush e_X6_next_5.2.2.2.2.2.1 (by decide) ?_
      refine R_icmp_gt 122 e_X6_next_5.2.2.2.2.2.2.1 (by decide) q9 (by decide) (fun q => ?_) (fun q => ?_)
      · replace h := h.1 q
        refine R_ls (ls2 := [(0, vA G 3)]) [0] rfl ?_
        exact h
      · replace h := h.2 q
        refine R_aload_n e_X6_next_5.2.2.2.2.2.2.2.1 0 rfl ?_
        refine R_callV (mc := 0) (ms := 0) (mc' := 0) (ms' := 0) (M' := M_X6_nextWord) (d' := 0) (as := []) (st := []) 6 0 e_X6_next_5.2.2.2.2.2.2.2.2.1 (kCVof m_X6_nextWord l_X6_53) rfl (by decide) kx_3 (by decide) (by decide) rfl rfl (by show (0 : Nat) ≤ 8; decide) ?_
        refine Run.mono h (fun r11 s12 h => ?_)
        refine R_eqs (st2 := []) rfl rfl ?_
        refine R_goto 192 e_X6_next_5.2.2.2.2.2.2.2.2.2 (by decide) ?_
        exact R_return e_X6_next_9.2.2.2.2.2.2 rfl h
  · replace h := h.2 q
    refine R_aload_n e_X6_next_3.2.2.2.2.2.2.2.2.2 0 rfl ?_
    refine R_iconst e_X6_next_4.1 ?_
    refine R_putI 6 2 2 WX_ok e_X6_next_4.2.1 f_X6_19 kx_3 rfl rfl rfl ?_
    refine R_goto 192 e_X6_next_4.2.2.1 (by decide) ?_
    exact R_return e_X6_next_9.2.2.2.2.2.2 rfl h
theorem S_X6_next_122 {G : Kg} {σ : Kmem} {Q : Int → Kmem → Prop}  (h : (0 ≤ σ 3 3 ∧ σ 3 3 < 900) ∧ (rI (σ 4 (σ 3 3))) ∧ ((σ 4 (σ 3 3) < 48 → (0 ≤ σ 3 3 ∧ σ 3 3 < 900) ∧ (rI ((σ 4 (σ 3 3)))) ∧ ((¬ (cSi ((σ 4 (σ 3 3)))) → Q 0 (kup (kup σ 3 2 1) 3 4 (((kup σ 3 2 1) 3 3) + 1))) ∧ ((cSi ((σ 4 (σ 3 3)))) → Q 0 (kup (kup σ 3 2 4) 3 4 (((kup σ 3 2 4) 3 3) + 1))))) ∧ (48 ≤ σ 4 (σ 3 3) → (0 ≤ σ 3 3 ∧ σ 3 3 < 900) ∧ ((57 < σ 4 (σ 3 3) → (0 ≤ σ 3 3 ∧ σ 3 3 < 900) ∧ (rI ((σ 4 (σ 3 3)))) ∧ ((¬ (cSi ((σ 4 (σ 3 3)))) → Q 0 (kup (kup σ 3 2 1) 3 4 (((kup σ 3 2 1) 3 3) + 1))) ∧ ((cSi ((σ 4 (σ 3 3)))) → Q 0 (kup (kup σ 3 2 4) 3 4 (((kup σ 3 2 4) 3 3) + 1))))) ∧ (σ 4 (σ 3 3) ≤ 57 → Run G WX M_X6_nextNumber 0 0 0 [vA G 3] σ (fun r24 s25 => Q 0 s25)))))) : E_X6_next_122 G σ Q := by
  refine R_aload_n e_X6_next_6.1 0 rfl ?_
  refine R_getA 6 0 4 e_X6_next_6.2.1 f_X6_9 kx_3 (fun _ _ => rfl) rx_3_0 (by decide) ?_
  refine R_aload_n e_X6_next_6.2.2.1 0 rfl ?_
  refine R_getI 6 3 3 e_X6_next_6.2.2.2.1 f_X6_22 kx_3 (fun _ _ => rfl) rfl ?_
  obtain ⟨q13, h⟩ := h
  refine R_bald 900 e_X6_next_6.2.2.2.2.1 kxa_4 q13 ?_
  refine R_bipush e_X6_next_6.2.2.2.2.2.1 (by decide) ?_
  obtain ⟨q14, h⟩ := h
  refine R_icmp_lt 157 e_X6_next_6.2.2.2.2.2.2.1 (by decide) q14 (by decide) (fun q => ?_) (fun q => ?_)
  · replace h := h.1 q
    refine R_aload_n e_X6_next_7.2.2.2.2.2.2.2.1 0 rfl ?_
    refine R_aload_n e_X6_next_7.2.2.2.2.2.2.2.2.1 0 rfl ?_
    refine R_aload_n e_X6_next_7.2.2.2.2.2.2.2.2.2 0 rfl ?_
    refine R_getA 6 0 4 e_X6_next_8.1 f_X6_9 kx_3 (fun _ _ => rfl) rx_3_0 (by decide) ?_
    refine R_aload_n e_X6_next_8.2.1 0 rfl ?_
    refine R_getI 6 3 3 e_X6_next_8.2.2.1 f_X6_22 kx_3 (fun _ _ => rfl) rfl ?_
    obtain ⟨q15, h⟩ := h
    refine R_bald 900 e_X6_next_8.2.2.2.1 kxa_4 q15 ?_
    obtain ⟨q18, h⟩ := h
    refine R_callV (mc := 0) (ms := 0) (mc' := 0) (ms' := 0) (M' := M_X6_isSign) (d' := 0) (as := [vI (σ 4 (σ 3 3))]) (st := [vA G 3]) 6 1 e_X6_next_8.2.2.2.2.1 (kCVof m_X6_isSign l_X6_59) rfl (by decide) kx_3 (by decide) (by decide) rfl rfl (by show (1 : Nat) ≤ 8; decide) ?_
    refine Run.mono (P_X6_isSign q18) (fun r s e => ?_)
    obtain ⟨e1, e2⟩ := e
    refine R_eqs (st2 := [vI (kb (cSi ((σ 4 (σ 3 3))))), vA G 3]) (σ2 := σ) (by rw [e1]; rfl) e2 ?_
    refine R_if_eq 178 e_X6_next_8.2.2.2.2.2.1 (by decide) (kb_r _) (fun q => ?_) (fun q => ?_)
    · replace h := h.1 (kb_f q)
      refine R_iconst e_X6_next_8.2.2.2.2.2.2.2.2.1 ?_
      refine R_putI 6 2 2 WX_ok e_X6_next_8.2.2.2.2.2.2.2.2.2 f_X6_19 kx_3 rfl rfl rfl ?_
      refine R_aload_n e_X6_next_9.1 0 rfl ?_
      refine R_aload_n e_X6_next_9.2.1 0 rfl ?_
      refine R_getI 6 3 3 e_X6_next_9.2.2.1 f_X6_22 kx_3 (fun _ _ => rfl) rfl ?_
      refine R_iconst e_X6_next_9.2.2.2.1 ?_
      refine R_iadd e_X6_next_9.2.2.2.2.1 ?_
      refine R_putI 6 4 4 WX_ok e_X6_next_9.2.2.2.2.2.1 f_X6_25 kx_3 rfl rfl rfl ?_
      exact R_return e_X6_next_9.2.2.2.2.2.2 rfl h
    · replace h := h.2 (kb_t q)
      refine R_iconst e_X6_next_8.2.2.2.2.2.2.1 ?_
      refine R_goto 179 e_X6_next_8.2.2.2.2.2.2.2.1 (by decide) ?_
      refine R_putI 6 2 2 WX_ok e_X6_next_8.2.2.2.2.2.2.2.2.2 f_X6_19 kx_3 rfl rfl rfl ?_
      refine R_aload_n e_X6_next_9.1 0 rfl ?_
      refine R_aload_n e_X6_next_9.2.1 0 rfl ?_
      refine R_getI 6 3 3 e_X6_next_9.2.2.1 f_X6_22 kx_3 (fun _ _ => rfl) rfl ?_
      refine R_iconst e_X6_next_9.2.2.2.1 ?_
      refine R_iadd e_X6_next_9.2.2.2.2.1 ?_
      refine R_putI 6 4 4 WX_ok e_X6_next_9.2.2.2.2.2.1 f_X6_25 kx_3 rfl rfl rfl ?_
      exact R_return e_X6_next_9.2.2.2.2.2.2 rfl h
  · replace h := h.2 q
    refine R_aload_n e_X6_next_6.2.2.2.2.2.2.2.1 0 rfl ?_
    refine R_getA 6 0 4 e_X6_next_6.2.2.2.2.2.2.2.2.1 f_X6_9 kx_3 (fun _ _ => rfl) rx_3_0 (by decide) ?_
    refine R_aload_n e_X6_next_6.2.2.2.2.2.2.2.2.2 0 rfl ?_
    refine R_getI 6 3 3 e_X6_next_7.1 f_X6_22 kx_3 (fun _ _ => rfl) rfl ?_
    obtain ⟨q19, h⟩ := h
    refine R_bald 900 e_X6_next_7.2.1 kxa_4 q19 ?_
    refine R_bipush e_X6_next_7.2.2.1 (by decide) ?_
    refine R_icmp_gt 157 e_X6_next_7.2.2.2.1 (by decide) q14 (by decide) (fun q => ?_) (fun q => ?_)
    · replace h := h.1 q
      refine R_aload_n e_X6_next_7.2.2.2.2.2.2.2.1 0 rfl ?_
      refine R_aload_n e_X6_next_7.2.2.2.2.2.2.2.2.1 0 rfl ?_
      refine R_aload_n e_X6_next_7.2.2.2.2.2.2.2.2.2 0 rfl ?_
      refine R_getA 6 0 4 e_X6_next_8.1 f_X6_9 kx_3 (fun _ _ => rfl) rx_3_0 (by decide) ?_
      refine R_aload_n e_X6_next_8.2.1 0 rfl ?_
      refine R_getI 6 3 3 e_X6_next_8.2.2.1 f_X6_22 kx_3 (fun _ _ => rfl) rfl ?_
      obtain ⟨q20, h⟩ := h
      refine R_bald 900 e_X6_next_8.2.2.2.1 kxa_4 q20 ?_
      obtain ⟨q23, h⟩ := h
      refine R_callV (mc := 0) (ms := 0) (mc' := 0) (ms' := 0) (M' := M_X6_isSign) (d' := 0) (as := [vI (σ 4 (σ 3 3))]) (st := [vA G 3]) 6 1 e_X6_next_8.2.2.2.2.1 (kCVof m_X6_isSign l_X6_59) rfl (by decide) kx_3 (by decide) (by decide) rfl rfl (by show (1 : Nat) ≤ 8; decide) ?_
      refine Run.mono (P_X6_isSign q23) (fun r s e => ?_)
      obtain ⟨e1, e2⟩ := e
      refine R_eqs (st2 := [vI (kb (cSi ((σ 4 (σ 3 3))))), vA G 3]) (σ2 := σ) (by rw [e1]; rfl) e2 ?_
      refine R_if_eq 178 e_X6_next_8.2.2.2.2.2.1 (by decide) (kb_r _) (fun q => ?_) (fun q => ?_)
      · replace h := h.1 (kb_f q)
        refine R_iconst e_X6_next_8.2.2.2.2.2.2.2.2.1 ?_
        refine R_putI 6 2 2 WX_ok e_X6_next_8.2.2.2.2.2.2.2.2.2 f_X6_19 kx_3 rfl rfl rfl ?_
        refine R_aload_n e_X6_next_9.1 0 rfl ?_
        refine R_aload_n e_X6_next_9.2.1 0 rfl ?_
        refine R_getI 6 3 3 e_X6_next_9.2.2.1 f_X6_22 kx_3 (fun _ _ => rfl) rfl ?_
        refine R_iconst e_X6_next_9.2.2.2.1 ?_
        refine R_iadd e_X6_next_9.2.2.2.2.1 ?_
        refine R_putI 6 4 4 WX_ok e_X6_next_9.2.2.2.2.2.1 f_X6_25 kx_3 rfl rfl rfl ?_
        exact R_return e_X6_next_9.2.2.2.2.2.2 rfl h
      · replace h := h.2 (kb_t q)
        refine R_iconst e_X6_next_8.2.2.2.2.2.2.1 ?_
        refine R_goto 179 e_X6_next_8.2.2.2.2.2.2.2.1 (by decide) ?_
        refine R_putI 6 2 2 WX_ok e_X6_next_8.2.2.2.2.2.2.2.2.2 f_X6_19 kx_3 rfl rfl rfl ?_
        refine R_aload_n e_X6_next_9.1 0 rfl ?_
        refine R_aload_n e_X6_next_9.2.1 0 rfl ?_
        refine R_getI 6 3 3 e_X6_next_9.2.2.1 f_X6_22 kx_3 (fun _ _ => rfl) rfl ?_
        refine R_iconst e_X6_next_9.2.2.2.1 ?_
        refine R_iadd e_X6_next_9.2.2.2.2.1 ?_
        refine R_putI 6 4 4 WX_ok e_X6_next_9.2.2.2.2.2.1 f_X6_25 kx_3 rfl rfl rfl ?_
        exact R_return e_X6_next_9.2.2.2.2.2.2 rfl h
    · replace h := h.2 q
      refine R_aload_n e_X6_next_7.2.2.2.2.1 0 rfl ?_
      refine R_callV (mc := 0) (ms := 0) (mc' := 0) (ms' := 0) (M' := M_X6_nextNumber) (d' := 0) (as := []) (st := []) 6 0 e_X6_next_7.2.2.2.2.2.1 (kCVof m_X6_nextNumber l_X6_56) rfl (by decide) kx_3 (by decide) (by decide) rfl rfl (by show (0 : Nat) ≤ 8; decide) ?_
      refine Run.mono h (fun r24 s25 h => ?_)
      refine R_eqs (st2 := []) rfl rfl ?_
      refine R_goto 192 e_X6_next_7.2.2.2.2.2.2.1 (by decide) ?_
      exact R_return e_X6_next_9.2.2.2.2.2.2 rfl h
/-! KiteLand$Scanner.open([BI)V -/
theorem e_X6_open_0 : decode cX6_open 0 = .ok (.aload_n 1, 1) ∧ decode cX6_open 1 = .ok (.iconst 0, 1) ∧ decode cX6_open 2 = .ok (.aload_n 0, 1) ∧ decode cX6_open 3 = .ok (.getfield 9, 3) ∧ decode cX6_open 6 = .ok (.iconst 0, 1) ∧ decode cX6_open 7 = .ok (.iload_n 2, 1) ∧ decode cX6_open 8 = .ok (.invokestatic 44, 3) ∧ decode cX6_open 11 = .ok (.aload_n 0, 1) ∧ decode cX6_open 12 = .ok (.iload_n 2, 1) ∧ decode cX6_open 13 = .ok (.putfield 15, 3) := by decide +kernel
theorem e_X6_open_1 : decode cX6_open 16 = .ok (.aload_n 0, 1) ∧ decode cX6_open 17 = .ok (.iconst 0, 1) ∧ decode cX6_open 18 = .ok (.putfield 25, 3) ∧ decode cX6_open 21 = .ok (.aload_n 0, 1) ∧ decode cX6_open 22 = .ok (.iconst 0, 1) ∧ decode cX6_open 23 = .ok (.putfield 38, 3) ∧ decode cX6_open 26 = .ok (.aload_n 0, 1) ∧ decode cX6_open 27 = .ok (.iconst (-1), 1) ∧ decode cX6_open 28 = .ok (.putfield 41, 3) ∧ decode cX6_open 31 = .ok (.aload_n 0, 1) := by decide +kernel
theorem e_X6_open_2 : decode cX6_open 32 = .ok (.invokevirtual 50, 3) ∧ decode cX6_open 35 = .ok (.return_, 1) := by decide +kernel
theorem S_X6_open {G : Kg} {σ : Kmem} {Q : Int → Kmem → Prop} {l2 : Int}  (h : (((0 : Int) ≤ 0 ∧ (0 : Int) ≤ 0 ∧ (0 : Int) ≤ l2) ∧ (0 : Int) + l2 ≤ 900 ∧ (0 : Int) + l2 ≤ 900) ∧ (∀ k : Int, 0 ≤ k → k < 0 + l2 → -128 ≤ σ 2 k ∧ σ 2 k ≤ 127) ∧ Run G WX M_X6_next 1 0 0 [vA G 3] (kup (kup (kup (kup (kcpy σ 2 0 4 0 l2) 3 1 l2) 3 4 0) 3 8 0) 3 9 (-1)) (fun r3 s4 => Q 0 s4)) : Run G WX M_X6_open 2 0 0 [vA G 3, vA G 2, vI l2] σ Q := by
  refine Run.of (by decide +kernel) (by show (3 : Nat) ≤ 3; decide) ?_
  show Ex G WX M_X6_open 2 0 0 0 [(0, vA G 3), (1, vA G 2), (2, vI l2)] [] σ Q
  refine R_aload_n e_X6_open_0.1 1 rfl ?_
  refine R_iconst e_X6_open_0.2.1 ?_
  refine R_aload_n e_X6_open_0.2.2.1 0 rfl ?_
  refine R_getA 6 0 4 e_X6_open_0.2.2.2.1 f_X6_9 kx_3 (fun _ _ => rfl) rx_3_0 (by decide) ?_
  refine R_iconst e_X6_open_0.2.2.2.2.1 ?_
  refine R_iload_n e_X6_open_0.2.2.2.2.2.1 2 rfl ?_
  obtain ⟨q1, h⟩ := h
  obtain ⟨q2, h⟩ := h
  refine R_copyB 900 900 rfl WX_rd e_X6_open_0.2.2.2.2.2.2.1 kxa_2 kxa_4 q1 q2 l_cp_X6_44 (by decide) (by show (0 : Nat) ≤ 8; decide) ?_
  refine R_aload_n e_X6_open_0.2.2.2.2.2.2.2.1 0 rfl ?_
  refine R_iload_n e_X6_open_0.2.2.2.2.2.2.2.2.1 2 rfl ?_
  refine R_putI 6 1 1 WX_ok e_X6_open_0.2.2.2.2.2.2.2.2.2 f_X6_15 kx_3 rfl rfl rfl ?_
  refine R_aload_n e_X6_open_1.1 0 rfl ?_
  refine R_iconst e_X6_open_1.2.1 ?_
  refine R_putI 6 4 4 WX_ok e_X6_open_1.2.2.1 f_X6_25 kx_3 rfl rfl rfl ?_
  refine R_aload_n e_X6_open_1.2.2.2.1 0 rfl ?_
  refine R_iconst e_X6_open_1.2.2.2.2.1 ?_
  refine R_putI 6 8 8 WX_ok e_X6_open_1.2.2.2.2.2.1 f_X6_38 kx_3 rfl rfl rfl ?_
  refine R_aload_n e_X6_open_1.2.2.2.2.2.2.1 0 rfl ?_
  refine R_iconst e_X6_open_1.2.2.2.2.2.2.2.1 ?_
  refine R_putI 6 9 9 WX_ok e_X6_open_1.2.2.2.2.2.2.2.2.1 f_X6_41 kx_3 rfl rfl rfl ?_
  refine R_aload_n e_X6_open_1.2.2.2.2.2.2.2.2.2 0 rfl ?_
  refine R_callV (mc := 0) (ms := 0) (mc' := 0) (ms' := 0) (M' := M_X6_next) (d' := 1) (as := []) (st := []) 6 0 e_X6_open_2.1 (kCVof m_X6_next l_X6_50) rfl (by decide) kx_3 (by decide) (by decide) rfl rfl (by show (0 : Nat) ≤ 8; decide) ?_
  refine Run.mono h (fun r3 s4 h => ?_)
  refine R_eqs (st2 := []) rfl rfl ?_
  exact R_return e_X6_open_2.2 rfl h
/-! KiteLand$Scanner.takeWord(Ljava/lang/String;)Z -/
theorem e_X6_takeWord_0 : decode cX6_takeWord 0 = .ok (.aload_n 0, 1) ∧ decode cX6_takeWord 1 = .ok (.aload_n 1, 1) ∧ decode cX6_takeWord 2 = .ok (.invokevirtual 76, 3) ∧ decode cX6_takeWord 5 = .ok (.ifCond .ne 9, 3) ∧ decode cX6_takeWord 8 = .ok (.aload_n 0, 1) ∧ decode cX6_takeWord 9 = .ok (.iconst 2, 1) ∧ decode cX6_takeWord 10 = .ok (.invokevirtual 80, 3) ∧ decode cX6_takeWord 13 = .ok (.ireturn, 1) ∧ decode cX6_takeWord 14 = .ok (.aload_n 0, 1) ∧ decode cX6_takeWord 15 = .ok (.invokevirtual 50, 3) := by decide +kernel
theorem e_X6_takeWord_1 : decode cX6_takeWord 18 = .ok (.iconst 1, 1) ∧ decode cX6_takeWord 19 = .ok (.ireturn, 1) := by decide +kernel
theorem S_X6_takeWord {G : Kg} {σ : Kmem} {Q : Int → Kmem → Prop} {i : Nat} {si : String × Nat × String × List Int32} (hi : kStrs[i]? = some si)  (h : (xT0 σ ∧ isStr ((-((10 + i : Nat) : Int)))) ∧ (((xW σ ((-((10 + i : Nat) : Int)))) → Run G WX M_X6_next 1 0 0 [vA G 3] σ (fun r4 s5 => Q 1 s5)) ∧ (¬ (xW σ ((-((10 + i : Nat) : Int)))) → (rI (σ 3 2)) ∧ Q 0 (xF σ (2))))) : Run G WX M_X6_takeWord 5 0 0 [vA G 3, vA G (-((10 + i : Nat) : Int))] σ Q := by
  refine Run.of (by decide +kernel) (by show (2 : Nat) ≤ 2; decide) ?_
  show Ex G WX M_X6_takeWord 5 0 0 0 [(0, vA G 3), (1, vA G (-((10 + i : Nat) : Int)))] [] σ Q
  refine R_aload_n e_X6_takeWord_0.1 0 rfl ?_
  refine R_aload_n e_X6_takeWord_0.2.1 1 rfl ?_
  obtain ⟨q3, h⟩ := h
  refine R_callV (mc := 0) (ms := 0) (mc' := 0) (ms' := 0) (M' := M_X6_isWord) (d' := 4) (as := [vA G (-((10 + i : Nat) : Int))]) (st := []) 6 1 e_X6_takeWord_0.2.2.1 (kCVof m_X6_isWord l_X6_76) rfl (by decide) kx_3 (by decide) (by decide) rfl rfl (by show (0 : Nat) ≤ 8; decide) ?_
  refine Run.mono (P_X6_isWord q3) (fun r s e => ?_)
  obtain ⟨e1, e2⟩ := e
  refine R_eqs (st2 := [vI (kb (xW σ ((-((10 + i : Nat) : Int)))))]) (σ2 := σ) (by rw [e1]; rfl) e2 ?_
  refine R_if_ne 14 e_X6_takeWord_0.2.2.2.1 (by decide) (kb_r _) (fun q => ?_) (fun q => ?_)
  · replace h := h.1 (kb_t q)
    refine R_aload_n e_X6_takeWord_0.2.2.2.2.2.2.2.2.1 0 rfl ?_
    refine R_callV (mc := 0) (ms := 0) (mc' := 0) (ms' := 0) (M' := M_X6_next) (d' := 1) (as := []) (st := []) 6 0 e_X6_takeWord_0.2.2.2.2.2.2.2.2.2 (kCVof m_X6_next l_X6_50) rfl (by decide) kx_3 (by decide) (by decide) rfl rfl (by show (0 : Nat) ≤ 8; decide) ?_
    refine Run.mono h (fun r4 s5 h => ?_)
    refine R_eqs (st2 := []) rfl rfl ?_
    refine R_iconst e_X6_takeWord_1.1 ?_
    exact R_zreturn e_X6_takeWord_1.2 rfl (Or.inr rfl) h
  · replace h := h.2 (kb_f q)
    refine R_aload_n e_X6_takeWord_0.2.2.2.2.1 0 rfl ?_
    refine R_iconst e_X6_takeWord_0.2.2.2.2.2.1 ?_
    obtain ⟨q8, h⟩ := h
    refine R_callV (mc := 0) (ms := 0) (mc' := 0) (ms' := 0) (M' := M_X6_fail) (d' := 0) (as := [vI 2]) (st := []) 6 1 e_X6_takeWord_0.2.2.2.2.2.2.1 (kCVof m_X6_fail l_X6_80) rfl (by decide) kx_3 (by decide) (by decide) rfl rfl (by show (0 : Nat) ≤ 8; decide) ?_
    refine Run.mono (P_X6_fail q8) (fun r s e => ?_)
    obtain ⟨e1, e2⟩ := e
    refine R_eqs (st2 := [vI 0]) (σ2 := (xF σ (2))) (by rw [e1]; rfl) e2 ?_
    exact R_zreturn e_X6_takeWord_0.2.2.2.2.2.2.2.1 rfl (Or.inl rfl) h
/-! KiteLand$Scanner.takeSign(C)Z -/
theorem e_X6_takeSign_0 : decode cX6_takeSign 0 = .ok (.aload_n 0, 1) ∧ decode cX6_takeSign 1 = .ok (.iload_n 1, 1) ∧ decode cX6_takeSign 2 = .ok (.invokevirtual 83, 3) ∧ decode cX6_takeSign 5 = .ok (.ifCond .ne 9, 3) ∧ decode cX6_takeSign 8 = .ok (.aload_n 0, 1) ∧ decode cX6_takeSign 9 = .ok (.iconst 2, 1) ∧ decode cX6_takeSign 10 = .ok (.invokevirtual 80, 3) ∧ decode cX6_takeSign 13 = .ok (.ireturn, 1) ∧ decode cX6_takeSign 14 = .ok (.aload_n 0, 1) ∧ decode cX6_takeSign 15 = .ok (.invokevirtual 50, 3) := by decide +kernel
theorem e_X6_takeSign_1 : decode cX6_takeSign 18 = .ok (.iconst 1, 1) ∧ decode cX6_takeSign 19 = .ok (.ireturn, 1) := by decide +kernel
theorem S_X6_takeSign {G : Kg} {σ : Kmem} {Q : Int → Kmem → Prop} {l1 : Int}  (h : (xT0 σ ∧ rI (l1)) ∧ (((xSg σ (l1)) → Run G WX M_X6_next 1 0 0 [vA G 3] σ (fun r4 s5 => Q 1 s5)) ∧ (¬ (xSg σ (l1)) → (rI (σ 3 2)) ∧ Q 0 (xF σ (2))))) : Run G WX M_X6_takeSign 2 0 0 [vA G 3, vI l1] σ Q := by
  refine Run.of (by decide +kernel) (by show (2 : Nat) ≤ 2; decide) ?_
  show Ex G WX M_X6_takeSign 2 0 0 0 [(0, vA G 3), (1, vI l1)] [] σ Q
  refine R_aload_n e_X6_takeSign_0.1 0 rfl ?_
  refine R_iload_n e_X6_takeSign_0.2.1 1 rfl ?_
  obtain ⟨q3, h⟩ := h
  refine R_callV (mc := 0) (ms := 0) (mc' := 0) (ms' := 0) (M' := M_X6_isSignOf) (d' := 0) (as := [vI l1]) (st := []) 6 1 e_X6_takeSign_0.2.2.1 (kCVof m_X6_isSignOf l_X6_83) rfl (by decide) kx_3 (by decide) (by decide) rfl rfl (by show (0 : Nat) ≤ 8; decide) ?_
  refine Run.mono (P_X6_isSignOf q3) (fun r s e => ?_)
  obtain ⟨e1, e2⟩ := e
  refine R_eqs (st2 := [vI (kb (xSg σ (l1)))]) (σ2 := σ) (by rw [e1]; rfl) e2 ?_
  refine R_if_ne 14 e_X6_takeSign_0.2.2.2.1 (by decide) (kb_r _) (fun q => ?_) (fun q => ?_)
  · replace h := h.1 (kb_t q)
    refine R_aload_n e_X6_takeSign_0.2.2.2.2.2.2.2.2.1 0 rfl ?_
    refine R_callV (mc := 0) (ms := 0) (mc' := 0) (ms' := 0) (M' := M_X6_next) (d' := 1) (as := []) (st := []) 6 0 e_X6_takeSign_0.2.2.2.2.2.2.2.2.2 (kCVof m_X6_next l_X6_50) rfl (by decide) kx_3 (by decide) (by decide) rfl rfl (by show (0 : Nat) ≤ 8; decide) ?_
    refine Run.mono h (fun r4 s5 h => ?_)
    refine R_eqs (st2 := []) rfl rfl ?_
    refine R_iconst e_X6_takeSign_1.1 ?_
    exact R_zreturn e_X6_takeSign_1.2 rfl (Or.inr rfl) h
  · replace h := h.2 (kb_f q)
    refine R_aload_n e_X6_takeSign_0.2.2.2.2.1 0 rfl ?_
    refine R_iconst e_X6_takeSign_0.2.2.2.2.2.1 ?_
    obtain ⟨q8, h⟩ := h
    refine R_callV (mc := 0) (ms := 0) (mc' := 0) (ms' := 0) (M' := M_X6_fail) (d' := 0) (as := [vI 2]) (st := []) 6 1 e_X6_takeSign_0.2.2.2.2.2.2.1 (kCVof m_X6_fail l_X6_80) rfl (by decide) kx_3 (by decide) (by decide) rfl rfl (by show (0 : Nat) ≤ 8; decide) ?_
    refine Run.mono (P_X6_fail q8) (fun r s e => ?_)
    obtain ⟨e1, e2⟩ := e
    refine R_eqs (st2 := [vI 0]) (σ2 := (xF σ (2))) (by rw [e1]; rfl) e2 ?_
    exact R_zreturn e_X6_takeSign_0.2.2.2.2.2.2.2.1 rfl (Or.inl rfl) h
/-! KiteLand$Scanner.takeNumber(II)Z -/
theorem e_X6_takeNumber_0 : decode cX6_takeNumber 0 = .ok (.aload_n 0, 1) ∧ decode cX6_takeNumber 1 = .ok (.getfield 19, 3) ∧ decode cX6_takeNumber 4 = .ok (.iconst 3, 1) ∧ decode cX6_takeNumber 5 = .ok (.if_icmp .eq 9, 3) ∧ decode cX6_takeNumber 8 = .ok (.aload_n 0, 1) ∧ decode cX6_takeNumber 9 = .ok (.iconst 2, 1) ∧ decode cX6_takeNumber 10 = .ok (.invokevirtual 80, 3) ∧ decode cX6_takeNumber 13 = .ok (.ireturn, 1) ∧ decode cX6_takeNumber 14 = .ok (.aload_n 0, 1) ∧ decode cX6_takeNumber 15 = .ok (.getfield 28, 3) := by decide +kernel
theorem e_X6_takeNumber_1 : decode cX6_takeNumber 18 = .ok (.iload_n 1, 1) ∧ decode cX6_takeNumber 19 = .ok (.if_icmp .lt 11, 3) ∧ decode cX6_takeNumber 22 = .ok (.aload_n 0, 1) ∧ decode cX6_takeNumber 23 = .ok (.getfield 28, 3) ∧ decode cX6_takeNumber 26 = .ok (.iload_n 2, 1) ∧ decode cX6_takeNumber 27 = .ok (.if_icmp .le 9, 3) ∧ decode cX6_takeNumber 30 = .ok (.aload_n 0, 1) ∧ decode cX6_takeNumber 31 = .ok (.iconst 4, 1) ∧ decode cX6_takeNumber 32 = .ok (.invokevirtual 80, 3) ∧ decode cX6_takeNumber 35 = .ok (.ireturn, 1) := by decide +kernel
theorem e_X6_takeNumber_2 : decode cX6_takeNumber 36 = .ok (.aload_n 0, 1) ∧ decode cX6_takeNumber 37 = .ok (.aload_n 0, 1) ∧ decode cX6_takeNumber 38 = .ok (.getfield 28, 3) ∧ decode cX6_takeNumber 41 = .ok (.putfield 35, 3) ∧ decode cX6_takeNumber 44 = .ok (.aload_n 0, 1) ∧ decode cX6_takeNumber 45 = .ok (.invokevirtual 50, 3) ∧ decode cX6_takeNumber 48 = .ok (.iconst 1, 1) ∧ decode cX6_takeNumber 49 = .ok (.ireturn, 1) := by decide +kernel
theorem S_X6_takeNumber {G : Kg} {σ : Kmem} {Q : Int → Kmem → Prop} {l1 l2 : Int}  (h : (rI (σ 3 2)) ∧ ((σ 3 2 = 3 → (rI (σ 3 5)) ∧ (rI l1) ∧ ((σ 3 5 < l1 → (rI (σ 3 2)) ∧ Q 0 (xF σ (4))) ∧ (l1 ≤ σ 3 5 → (rI l2) ∧ ((σ 3 5 ≤ l2 → Run G WX M_X6_next 1 0 0 [vA G 3] (kup σ 3 7 (σ 3 5)) (fun r8 s9 => Q 1 s9)) ∧ (l2 < σ 3 5 → (rI (σ 3 2)) ∧ Q 0 (xF σ (4))))))) ∧ (σ 3 2 ≠ 3 → (rI (σ 3 2)) ∧ Q 0 (xF σ (2))))) : Run G WX M_X6_takeNumber 2 0 0 [vA G 3, vI l1, vI l2] σ Q := by
  refine Run.of (by decide +kernel) (by show (3 : Nat) ≤ 3; decide) ?_
  show Ex G WX M_X6_takeNumber 2 0 0 0 [(0, vA G 3), (1, vI l1), (2, vI l2)] [] σ Q
  refine R_aload_n e_X6_takeNumber_0.1 0 rfl ?_
  refine R_getI 6 2 2 e_X6_takeNumber_0.2.1 f_X6_19 kx_3 (fun _ _ => rfl) rfl ?_
  refine R_iconst e_X6_takeNumber_0.2.2.1 ?_
  obtain ⟨q1, h⟩ := h
  refine R_icmp_eq 14 e_X6_takeNumber_0.2.2.2.1 (by decide) q1 (by decide) (fun q => ?_) (fun q => ?_)
  · replace h := h.1 q
    refine R_aload_n e_X6_takeNumber_0.2.2.2.2.2.2.2.2.1 0 rfl ?_
    refine R_getI 6 5 5 e_X6_takeNumber_0.2.2.2.2.2.2.2.2.2 f_X6_28 kx_3 (fun _ _ => rfl) rfl ?_
    refine R_iload_n e_X6_takeNumber_1.1 1 rfl ?_
    obtain ⟨q2, h⟩ := h
    obtain ⟨q3, h⟩ := h
    refine R_icmp_lt 30 e_X6_takeNumber_1.2.1 (by decide) q2 q3 (fun q => ?_) (fun q => ?_)
    · replace h := h.1 q
      refine R_aload_n e_X6_takeNumber_1.2.2.2.2.2.2.1 0 rfl ?_
      refine R_iconst e_X6_takeNumber_1.2.2.2.2.2.2.2.1 ?_
      obtain ⟨q6, h⟩ := h
      refine R_callV (mc := 0) (ms := 0) (mc' := 0) (ms' := 0) (M' := M_X6_fail) (d' := 0) (as := [vI 4]) (st := []) 6 1 e_X6_takeNumber_1.2.2.2.2.2.2.2.2.1 (kCVof m_X6_fail l_X6_80) rfl (by decide) kx_3 (by decide) (by decide) rfl rfl (by show (0 : Nat) ≤ 8; decide) ?_
      refine Run.mono (P_X6_fail q6) (fun r s e => ?_)
      obtain ⟨e1, e2⟩ := e
      refine R_eqs (st2 := [vI 0]) (σ2 := (xF σ (4))) (by rw [e1]; rfl) e2 ?_
      exact R_zreturn e_X6_takeNumber_1.2.2.2.2.2.2.2.2.2 rfl (Or.inl rfl) h
    · replace h := h.2 q
      refine R_aload_n e_X6_takeNumber_1.2.2.1 0 rfl ?_
      refine R_getI 6 5 5 e_X6_takeNumber_1.2.2.2.1 f_X6_28 kx_3 (fun _ _ => rfl) rfl ?_
      refine R_iload_n e_X6_takeNumber_1.2.2.2.2.1 2 rfl ?_
      obtain ⟨q7, h⟩ := h
      refine R_icmp_le 36 e_X6_takeNumber_1.2.2.2.2.2.1 (by decide) q2 q7 (fun q => ?_) (fun q => ?_)
      · replace h := h.1 q
        refine R_aload_n e_X6_takeNumber_2.1 0 rfl ?_
        refine R_aload_n e_X6_takeNumber_2.2.1 0 rfl ?_
        refine R_getI 6 5 5 e_X6_takeNumber_2.2.2.1 f_X6_28 kx_3 (fun _ _ => rfl) rfl ?_
        refine R_putI 6 7 7 WX_ok e_X6_takeNumber_2.2.2.2.1 f_X6_35 kx_3 rfl rfl rfl ?_
        refine R_aload_n e_X6_takeNumber_2.2.2.2.2.1 0 rfl ?_
        refine R_callV (mc := 0) (ms := 0) (mc' := 0) (ms' := 0) (M' := M_X6_next) (d' := 1) (as := []) (st := []) 6 0 e_X6_takeNumber_2.2.2.2.2.2.1 (kCVof m_X6_next l_X6_50) rfl (by decide) kx_3 (by decide) (by decide) rfl rfl (by show (0 : Nat) ≤ 8; decide) ?_
        refine Run.mono h (fun r8 s9 h => ?_)
        refine R_eqs (st2 := []) rfl rfl ?_
        refine R_iconst e_X6_takeNumber_2.2.2.2.2.2.2.1 ?_
        exact R_zreturn e_X6_takeNumber_2.2.2.2.2.2.2.2 rfl (Or.inr rfl) h
      · replace h := h.2 q
        refine R_aload_n e_X6_takeNumber_1.2.2.2.2.2.2.1 0 rfl ?_
        refine R_iconst e_X6_takeNumber_1.2.2.2.2.2.2.2.1 ?_
        obtain ⟨q12, h⟩ := h
        refine R_callV (mc := 0) (ms := 0) (mc' := 0) (ms' := 0) (M' := M_X6_fail) (d' := 0) (as := [vI 4]) (st := []) 6 1 e_X6_takeNumber_1.2.2.2.2.2.2.2.2.1 (kCVof m_X6_fail l_X6_80) rfl (by decide) kx_3 (by decide) (by decide) rfl rfl (by show (0 : Nat) ≤ 8; decide) ?_
        refine Run.mono (P_X6_fail q12) (fun r s e => ?_)
        obtain ⟨e1, e2⟩ := e
        refine R_eqs (st2 := [vI 0]) (σ2 := (xF σ (4))) (by rw [e1]; rfl) e2 ?_
        exact R_zreturn e_X6_takeNumber_1.2.2.2.2.2.2.2.2.2 rfl (Or.inl rfl) h
  · replace h := h.2 q
    refine R_aload_n e_X6_takeNumber_0.2.2.2.2.1 0 rfl ?_
    refine R_iconst e_X6_takeNumber_0.2.2.2.2.2.1 ?_
    obtain ⟨q15, h⟩ := h
    refine R_callV (mc := 0) (ms := 0) (mc' := 0) (ms' := 0) (M' := M_X6_fail) (d' := 0) (as := [vI 2]) (st := []) 6 1 e_X6_takeNumber_0.2.2.2.2.2.2.1 (kCVof m_X6_fail l_X6_80) rfl (by decide) kx_3 (by decide) (by decide) rfl rfl (by show (0 : Nat) ≤ 8; decide) ?_
    refine Run.mono (P_X6_fail q15) (fun r s e => ?_)
    obtain ⟨e1, e2⟩ := e
    refine R_eqs (st2 := [vI 0]) (σ2 := (xF σ (2))) (by rw [e1]; rfl) e2 ?_
    exact R_zreturn e_X6_takeNumber_0.2.2.2.2.2.2.2.1 rfl (Or.inl rfl) h
/-! KiteLand$Scanner.isNameHere()Z -/
theorem e_X6_isNameHere_0 : decode cX6_isNameHere 0 = .ok (.aload_n 0, 1) ∧ decode cX6_isNameHere 1 = .ok (.getfield 19, 3) ∧ decode cX6_isNameHere 4 = .ok (.iconst 2, 1) ∧ decode cX6_isNameHere 5 = .ok (.if_icmp .ne 24, 3) ∧ decode cX6_isNameHere 8 = .ok (.aload_n 0, 1) ∧ decode cX6_isNameHere 9 = .ok (.getfield 25, 3) ∧ decode cX6_isNameHere 12 = .ok (.aload_n 0, 1) ∧ decode cX6_isNameHere 13 = .ok (.getfield 22, 3) ∧ decode cX6_isNameHere 16 = .ok (.isub, 1) ∧ decode cX6_isNameHere 17 = .ok (.bipush 8, 2) := by decide +kernel
theorem e_X6_isNameHere_1 : decode cX6_isNameHere 19 = .ok (.if_icmp .gt 10, 3) ∧ decode cX6_isNameHere 22 = .ok (.aload_n 0, 1) ∧ decode cX6_isNameHere 23 = .ok (.invokevirtual 87, 3) ∧ decode cX6_isNameHere 26 = .ok (.ifCond .eq 11, 3) ∧ decode cX6_isNameHere 29 = .ok (.aload_n 0, 1) ∧ decode cX6_isNameHere 30 = .ok (.iconst 2, 1) ∧ decode cX6_isNameHere 31 = .ok (.invokevirtual 80, 3) ∧ decode cX6_isNameHere 34 = .ok (.ifCond .eq 7, 3) ∧ decode cX6_isNameHere 37 = .ok (.iconst 1, 1) ∧ decode cX6_isNameHere 38 = .ok (.goto 4, 3) := by decide +kernel
theorem e_X6_isNameHere_2 : decode cX6_isNameHere 41 = .ok (.iconst 0, 1) ∧ decode cX6_isNameHere 42 = .ok (.ireturn, 1) := by decide +kernel
theorem S_X6_isNameHere {G : Kg} {σ : Kmem} {Q : Int → Kmem → Prop}  (h : (rI (σ 3 2)) ∧ ((σ 3 2 ≠ 2 → (rI (σ 3 2)) ∧ Q 0 (xF σ (2))) ∧ (σ 3 2 = 2 → (rI ((σ 3 4) - (σ 3 3))) ∧ ((8 < (σ 3 4) - (σ 3 3) → (rI (σ 3 2)) ∧ Q 0 (xF σ (2))) ∧ ((σ 3 4) - (σ 3 3) ≤ 8 → Run G WX M_X6_isReserved 4 0 0 [vA G 3] σ (fun r9 s10 => (rI r9) ∧ ((r9 = 0 → Q 1 s10) ∧ (r9 ≠ 0 → (rI (s10 3 2)) ∧ Q 0 (xF s10 (2)))))))))) : Run G WX M_X6_isNameHere 5 0 0 [vA G 3] σ Q := by
  refine Run.of (by decide +kernel) (by show (1 : Nat) ≤ 1; decide) ?_
  show Ex G WX M_X6_isNameHere 5 0 0 0 [(0, vA G 3)] [] σ Q
  refine R_aload_n e_X6_isNameHere_0.1 0 rfl ?_
  refine R_getI 6 2 2 e_X6_isNameHere_0.2.1 f_X6_19 kx_3 (fun _ _ => rfl) rfl ?_
  refine R_iconst e_X6_isNameHere_0.2.2.1 ?_
  obtain ⟨q1, h⟩ := h
  refine R_icmp_ne 29 e_X6_isNameHere_0.2.2.2.1 (by decide) q1 (by decide) (fun q => ?_) (fun q => ?_)
  · replace h := h.1 q
    refine R_aload_n e_X6_isNameHere_1.2.2.2.2.1 0 rfl ?_
    refine R_iconst e_X6_isNameHere_1.2.2.2.2.2.1 ?_
    obtain ⟨q4, h⟩ := h
    refine R_callV (mc := 0) (ms := 0) (mc' := 0) (ms' := 0) (M' := M_X6_fail) (d' := 0) (as := [vI 2]) (st := []) 6 1 e_X6_isNameHere_1.2.2.2.2.2.2.1 (kCVof m_X6_fail l_X6_80) rfl (by decide) kx_3 (by decide) (by decide) rfl rfl (by show (0 : Nat) ≤ 8; decide) ?_
    refine Run.mono (P_X6_fail q4) (fun r s e => ?_)
    obtain ⟨e1, e2⟩ := e
    refine R_eqs (st2 := [vI 0]) (σ2 := (xF σ (2))) (by rw [e1]; rfl) e2 ?_
    refine R_if_eq 41 e_X6_isNameHere_1.2.2.2.2.2.2.2.1 (by decide) (by decide)  (fun q => ?_) (fun q => absurd q (by decide))
    refine R_iconst e_X6_isNameHere_2.1 ?_
    exact R_zreturn e_X6_isNameHere_2.2 rfl (Or.inl rfl) h
  · replace h := h.2 q
    refine R_aload_n e_X6_isNameHere_0.2.2.2.2.1 0 rfl ?_
    refine R_getI 6 4 4 e_X6_isNameHere_0.2.2.2.2.2.1 f_X6_25 kx_3 (fun _ _ => rfl) rfl ?_
    refine R_aload_n e_X6_isNameHere_0.2.2.2.2.2.2.1 0 rfl ?_
    refine R_getI 6 3 3 e_X6_isNameHere_0.2.2.2.2.2.2.2.1 f_X6_22 kx_3 (fun _ _ => rfl) rfl ?_
    refine R_isub e_X6_isNameHere_0.2.2.2.2.2.2.2.2.1 ?_
    refine R_bipush e_X6_isNameHere_0.2.2.2.2.2.2.2.2.2 (by decide) ?_
    obtain ⟨q5, h⟩ := h
    refine R_icmp_gt 29 e_X6_isNameHere_1.1 (by decide) q5 (by decide) (fun q => ?_) (fun q => ?_)
    · replace h := h.1 q
      refine R_aload_n e_X6_isNameHere_1.2.2.2.2.1 0 rfl ?_
      refine R_iconst e_X6_isNameHere_1.2.2.2.2.2.1 ?_
      obtain ⟨q8, h⟩ := h
      refine R_callV (mc := 0) (ms := 0) (mc' := 0) (ms' := 0) (M' := M_X6_fail) (d' := 0) (as := [vI 2]) (st := []) 6 1 e_X6_isNameHere_1.2.2.2.2.2.2.1 (kCVof m_X6_fail l_X6_80) rfl (by decide) kx_3 (by decide) (by decide) rfl rfl (by show (0 : Nat) ≤ 8; decide) ?_
      refine Run.mono (P_X6_fail q8) (fun r s e => ?_)
      obtain ⟨e1, e2⟩ := e
      refine R_eqs (st2 := [vI 0]) (σ2 := (xF σ (2))) (by rw [e1]; rfl) e2 ?_
      refine R_if_eq 41 e_X6_isNameHere_1.2.2.2.2.2.2.2.1 (by decide) (by decide)  (fun q => ?_) (fun q => absurd q (by decide))
      refine R_iconst e_X6_isNameHere_2.1 ?_
      exact R_zreturn e_X6_isNameHere_2.2 rfl (Or.inl rfl) h
    · replace h := h.2 q
      refine R_aload_n e_X6_isNameHere_1.2.1 0 rfl ?_
      refine R_callV (mc := 0) (ms := 0) (mc' := 0) (ms' := 0) (M' := M_X6_isReserved) (d' := 4) (as := []) (st := []) 6 0 e_X6_isNameHere_1.2.2.1 (kCVof m_X6_isReserved l_X6_87) rfl (by decide) kx_3 (by decide) (by decide) rfl rfl (by show (0 : Nat) ≤ 8; decide) ?_
      refine Run.mono h (fun r9 s10 h => ?_)
      refine R_eqs (st2 := [vI r9]) rfl rfl ?_
      obtain ⟨q11, h⟩ := h
      refine R_if_eq 37 e_X6_isNameHere_1.2.2.2.1 (by decide) q11  (fun q => ?_) (fun q => ?_)
      · replace h := h.1 q
        refine R_iconst e_X6_isNameHere_1.2.2.2.2.2.2.2.2.1 ?_
        refine R_goto 42 e_X6_isNameHere_1.2.2.2.2.2.2.2.2.2 (by decide) ?_
        exact R_zreturn e_X6_isNameHere_2.2 rfl (Or.inr rfl) h
      · replace h := h.2 q
        refine R_aload_n e_X6_isNameHere_1.2.2.2.2.1 0 rfl ?_
        refine R_iconst e_X6_isNameHere_1.2.2.2.2.2.1 ?_
        obtain ⟨q14, h⟩ := h
        refine R_callV (mc := 0) (ms := 0) (mc' := 0) (ms' := 0) (M' := M_X6_fail) (d' := 0) (as := [vI 2]) (st := []) 6 1 e_X6_isNameHere_1.2.2.2.2.2.2.1 (kCVof m_X6_fail l_X6_80) rfl (by decide) kx_3 (by decide) (by decide) rfl rfl (by show (0 : Nat) ≤ 8; decide) ?_
        refine Run.mono (P_X6_fail q14) (fun r s e => ?_)
        obtain ⟨e1, e2⟩ := e
        refine R_eqs (st2 := [vI 0]) (σ2 := (xF s10 (2))) (by rw [e1]; rfl) e2 ?_
        refine R_if_eq 41 e_X6_isNameHere_1.2.2.2.2.2.2.2.1 (by decide) (by decide)  (fun q => ?_) (fun q => absurd q (by decide))
        refine R_iconst e_X6_isNameHere_2.1 ?_
        exact R_zreturn e_X6_isNameHere_2.2 rfl (Or.inl rfl) h
