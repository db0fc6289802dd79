/-! KiteLand$Scanner.isSign(I)Z -/
theorem e_X6_isSign_0 : decode cX6_isSign 0 = .ok (.iload_n 1, 1) ∧ decode cX6_isSign 1 = .ok (.bipush 59, 2) ∧ decode cX6_isSign 3 = .ok (.if_icmp .eq 21, 3) ∧ decode cX6_isSign 6 = .ok (.iload_n 1, 1) ∧ decode cX6_isSign 7 = .ok (.bipush 60, 2) ∧ decode cX6_isSign 9 = .ok (.if_icmp .eq 15, 3) ∧ decode cX6_isSign 12 = .ok (.iload_n 1, 1) ∧ decode cX6_isSign 13 = .ok (.bipush 62, 2) ∧ decode cX6_isSign 15 = .ok (.if_icmp .eq 9, 3) ∧ decode cX6_isSign 18 = .ok (.iload_n 1, 1) := by decide +kernel
theorem e_X6_isSign_1 : decode cX6_isSign 19 = .ok (.bipush 61, 2) ∧ decode cX6_isSign 21 = .ok (.if_icmp .ne 7, 3) ∧ decode cX6_isSign 24 = .ok (.iconst 1, 1) ∧ decode cX6_isSign 25 = .ok (.goto 4, 3) ∧ decode cX6_isSign 28 = .ok (.iconst 0, 1) ∧ decode cX6_isSign 29 = .ok (.ireturn, 1) := by decide +kernel
theorem S_X6_isSign {G : Kg} {σ : Kmem} {Q : Int → Kmem → Prop} {l1 : Int}  (h : (rI l1) ∧ ((l1 = 59 → Q 1 σ) ∧ (l1 ≠ 59 → ((l1 = 60 → Q 1 σ) ∧ (l1 ≠ 60 → ((l1 = 62 → Q 1 σ) ∧ (l1 ≠ 62 → ((l1 ≠ 61 → Q 0 σ) ∧ (l1 = 61 → Q 1 σ))))))))) : Run G WX M_X6_isSign 0 0 0 [vA G 3, vI l1] σ Q := by
  refine Run.of (by decide +kernel) (by show (2 : Nat) ≤ 2; decide) ?_
  show Ex G WX M_X6_isSign 0 0 0 0 [(0, vA G 3), (1, vI l1)] [] σ Q
  refine R_iload_n e_X6_isSign_0.1 1 rfl ?_
  refine R_bipush e_X6_isSign_0.2.1 (by decide) ?_
  obtain ⟨q1, h⟩ := h
  refine R_icmp_eq 24 e_X6_isSign_0.2.2.1 (by decide) q1 (by decide) (fun q => ?_) (fun q => ?_)
  · replace h := h.1 q
    refine R_iconst e_X6_isSign_1.2.2.1 ?_
    refine R_goto 29 e_X6_isSign_1.2.2.2.1 (by decide) ?_
    exact R_zreturn e_X6_isSign_1.2.2.2.2.2 rfl (Or.inr rfl) h
  · replace h := h.2 q
    refine R_iload_n e_X6_isSign_0.2.2.2.1 1 rfl ?_
    refine R_bipush e_X6_isSign_0.2.2.2.2.1 (by decide) ?_
    refine R_icmp_eq 24 e_X6_isSign_0.2.2.2.2.2.1 (by decide) q1 (by decide) (fun q => ?_) (fun q => ?_)
    · replace h := h.1 q
      refine R_iconst e_X6_isSign_1.2.2.1 ?_
      refine R_goto 29 e_X6_isSign_1.2.2.2.1 (by decide) ?_
      exact R_zreturn e_X6_isSign_1.2.2.2.2.2 rfl (Or.inr rfl) h
    · replace h := h.2 q
      refine R_iload_n e_X6_isSign_0.2.2.2.2.2.2.1 1 rfl ?_
      refine R_bipush e_X6_isSign_0.2.2.2.2.2.2.2.1 (by decide) ?_
      refine R_icmp_eq 24 e_X6_isSign_0.2.2.2.2.2.2.2.2.1 (by decide) q1 (by decide) (fun q => ?_) (fun q => ?_)
      · replace h := h.1 q
        refine R_iconst e_X6_isSign_1.2.2.1 ?_
        refine R_goto 29 e_X6_isSign_1.2.2.2.1 (by decide) ?_
        exact R_zreturn e_X6_isSign_1.2.2.2.2.2 rfl (Or.inr rfl) h
      · replace h := h.2 q
        refine R_iload_n e_X6_isSign_0.2.2.2.2.2.2.2.2.2 1 rfl ?_
        refine R_bipush e_X6_isSign_1.1 (by decide) ?_
        refine R_icmp_ne 28 e_X6_isSign_1.2.1 (by decide) q1 (by decide) (fun q => ?_) (fun q => ?_)
        · replace h := h.1 q
          refine R_iconst e_X6_isSign_1.2.2.2.2.1 ?_
          exact R_zreturn e_X6_isSign_1.2.2.2.2.2 rfl (Or.inl rfl) h
        · replace h := h.2 q
          refine R_iconst e_X6_isSign_1.2.2.1 ?_
          refine R_goto 29 e_X6_isSign_1.2.2.2.1 (by decide) ?_
          exact R_zreturn e_X6_isSign_1.2.2.2.2.2 rfl (Or.inr rfl) h
/-! KiteLand$Scanner.isAtEnd()Z -/
theorem e_X6_isAtEnd_0 : decode cX6_isAtEnd 0 = .ok (.aload_n 0, 1) ∧ decode cX6_isAtEnd 1 = .ok (.getfield 19, 3) ∧ decode cX6_isAtEnd 4 = .ok (.ifCond .ne 7, 3) ∧ decode cX6_isAtEnd 7 = .ok (.iconst 1, 1) ∧ decode cX6_isAtEnd 8 = .ok (.goto 4, 3) ∧ decode cX6_isAtEnd 11 = .ok (.iconst 0, 1) ∧ decode cX6_isAtEnd 12 = .ok (.ireturn, 1) := by decide +kernel
theorem S_X6_isAtEnd {G : Kg} {σ : Kmem} {Q : Int → Kmem → Prop}  (h : (rI (σ 3 2)) ∧ ((σ 3 2 ≠ 0 → Q 0 σ) ∧ (σ 3 2 = 0 → Q 1 σ))) : Run G WX M_X6_isAtEnd 0 0 0 [vA G 3] σ Q := by
  refine Run.of (by decide +kernel) (by show (1 : Nat) ≤ 1; decide) ?_
  show Ex G WX M_X6_isAtEnd 0 0 0 0 [(0, vA G 3)] [] σ Q
  refine R_aload_n e_X6_isAtEnd_0.1 0 rfl ?_
  refine R_getI 6 2 2 e_X6_isAtEnd_0.2.1 f_X6_19 kx_3 (fun _ _ => rfl) rfl ?_
  obtain ⟨q1, h⟩ := h
  refine R_if_ne 11 e_X6_isAtEnd_0.2.2.1 (by decide) q1  (fun q => ?_) (fun q => ?_)
  · replace h := h.1 q
    refine R_iconst e_X6_isAtEnd_0.2.2.2.2.2.1 ?_
    exact R_zreturn e_X6_isAtEnd_0.2.2.2.2.2.2 rfl (Or.inl rfl) h
  · replace h := h.2 q
    refine R_iconst e_X6_isAtEnd_0.2.2.2.1 ?_
    refine R_goto 12 e_X6_isAtEnd_0.2.2.2.2.1 (by decide) ?_
    exact R_zreturn e_X6_isAtEnd_0.2.2.2.2.2.2 rfl (Or.inr rfl) h
/-! KiteLand$Scanner.isSignOf(C)Z -/
theorem e_X6_isSignOf_0 : decode cX6_isSignOf 0 = .ok (.aload_n 0, 1) ∧ decode cX6_isSignOf 1 = .ok (.getfield 19, 3) ∧ decode cX6_isSignOf 4 = .ok (.iconst 4, 1) ∧ decode cX6_isSignOf 5 = .ok (.if_icmp .ne 20, 3) ∧ decode cX6_isSignOf 8 = .ok (.aload_n 0, 1) ∧ decode cX6_isSignOf 9 = .ok (.getfield 9, 3) ∧ decode cX6_isSignOf 12 = .ok (.aload_n 0, 1) ∧ decode cX6_isSignOf 13 = .ok (.getfield 22, 3) ∧ decode cX6_isSignOf 16 = .ok (.baload, 1) ∧ decode cX6_isSignOf 17 = .ok (.iload_n 1, 1) := by decide +kernel
theorem e_X6_isSignOf_1 : decode cX6_isSignOf 18 = .ok (.if_icmp .ne 7, 3) ∧ decode cX6_isSignOf 21 = .ok (.iconst 1, 1) ∧ decode cX6_isSignOf 22 = .ok (.goto 4, 3) ∧ decode cX6_isSignOf 25 = .ok (.iconst 0, 1) ∧ decode cX6_isSignOf 26 = .ok (.ireturn, 1) := by decide +kernel
theorem S_X6_isSignOf {G : Kg} {σ : Kmem} {Q : Int → Kmem → Prop} {l1 : Int}  (h : (rI (σ 3 2)) ∧ ((σ 3 2 ≠ 4 → Q 0 σ) ∧ (σ 3 2 = 4 → (0 ≤ σ 3 3 ∧ σ 3 3 < 900) ∧ (rI (σ 4 (σ 3 3))) ∧ (rI l1) ∧ ((σ 4 (σ 3 3) ≠ l1 → Q 0 σ) ∧ (σ 4 (σ 3 3) = l1 → Q 1 σ))))) : Run G WX M_X6_isSignOf 0 0 0 [vA G 3, vI l1] σ Q := by
  refine Run.of (by decide +kernel) (by show (2 : Nat) ≤ 2; decide) ?_
  show Ex G WX M_X6_isSignOf 0 0 0 0 [(0, vA G 3), (1, vI l1)] [] σ Q
  refine R_aload_n e_X6_isSignOf_0.1 0 rfl ?_
  refine R_getI 6 2 2 e_X6_isSignOf_0.2.1 f_X6_19 kx_3 (fun _ _ => rfl) rfl ?_
  refine R_iconst e_X6_isSignOf_0.2.2.1 ?_
  obtain ⟨q1, h⟩ := h
  refine R_icmp_ne 25 e_X6_isSignOf_0.2.2.2.1 (by decide) q1 (by decide) (fun q => ?_) (fun q => ?_)
  · replace h := h.1 q
    refine R_iconst e_X6_isSignOf_1.2.2.2.1 ?_
    exact R_zreturn e_X6_isSignOf_1.2.2.2.2 rfl (Or.inl rfl) h
  · replace h := h.2 q
    refine R_aload_n e_X6_isSignOf_0.2.2.2.2.1 0 rfl ?_
    refine R_getA 6 0 4 e_X6_isSignOf_0.2.2.2.2.2.1 f_X6_9 kx_3 (fun _ _ => rfl) rx_3_0 (by decide) ?_
    refine R_aload_n e_X6_isSignOf_0.2.2.2.2.2.2.1 0 rfl ?_
    refine R_getI 6 3 3 e_X6_isSignOf_0.2.2.2.2.2.2.2.1 f_X6_22 kx_3 (fun _ _ => rfl) rfl ?_
    obtain ⟨q2, h⟩ := h
    refine R_bald 900 e_X6_isSignOf_0.2.2.2.2.2.2.2.2.1 kxa_4 q2 ?_
    refine R_iload_n e_X6_isSignOf_0.2.2.2.2.2.2.2.2.2 1 rfl ?_
    obtain ⟨q3, h⟩ := h
    obtain ⟨q4, h⟩ := h
    refine R_icmp_ne 25 e_X6_isSignOf_1.1 (by decide) q3 q4 (fun q => ?_) (fun q => ?_)
    · replace h := h.1 q
      refine R_iconst e_X6_isSignOf_1.2.2.2.1 ?_
      exact R_zreturn e_X6_isSignOf_1.2.2.2.2 rfl (Or.inl rfl) h
    · replace h := h.2 q
      refine R_iconst e_X6_isSignOf_1.2.1 ?_
      refine R_goto 26 e_X6_isSignOf_1.2.2.1 (by decide) ?_
      exact R_zreturn e_X6_isSignOf_1.2.2.2.2 rfl (Or.inr rfl) h
/-! KiteLand$Scanner.fail(I)Z -/
theorem e_X6_fail_0 : decode cX6_fail 0 = .ok (.aload_n 0, 1) ∧ decode cX6_fail 1 = .ok (.aload_n 0, 1) ∧ decode cX6_fail 2 = .ok (.getfield 19, 3) ∧ decode cX6_fail 5 = .ok (.iconst 1, 1) ∧ decode cX6_fail 6 = .ok (.if_icmp .ne 7, 3) ∧ decode cX6_fail 9 = .ok (.iconst 1, 1) ∧ decode cX6_fail 10 = .ok (.goto 4, 3) ∧ decode cX6_fail 13 = .ok (.iload_n 1, 1) ∧ decode cX6_fail 14 = .ok (.putfield 38, 3) ∧ decode cX6_fail 17 = .ok (.aload_n 0, 1) := by decide +kernel
theorem e_X6_fail_1 : decode cX6_fail 18 = .ok (.aload_n 0, 1) ∧ decode cX6_fail 19 = .ok (.getfield 22, 3) ∧ decode cX6_fail 22 = .ok (.putfield 41, 3) ∧ decode cX6_fail 25 = .ok (.iconst 0, 1) ∧ decode cX6_fail 26 = .ok (.ireturn, 1) := by decide +kernel
theorem S_X6_fail {G : Kg} {σ : Kmem} {Q : Int → Kmem → Prop} {l1 : Int}  (h : (rI (σ 3 2)) ∧ ((σ 3 2 ≠ 1 → Q 0 (kup (kup σ 3 8 l1) 3 9 ((kup σ 3 8 l1) 3 3))) ∧ (σ 3 2 = 1 → Q 0 (kup (kup σ 3 8 1) 3 9 ((kup σ 3 8 1) 3 3))))) : Run G WX M_X6_fail 0 0 0 [vA G 3, vI l1] σ Q := by
  refine Run.of (by decide +kernel) (by show (2 : Nat) ≤ 2; decide) ?_
  show Ex G WX M_X6_fail 0 0 0 0 [(0, vA G 3), (1, vI l1)] [] σ Q
  refine R_aload_n e_X6_fail_0.1 0 rfl ?_
  refine R_aload_n e_X6_fail_0.2.1 0 rfl ?_
  refine R_getI 6 2 2 e_X6_fail_0.2.2.1 f_X6_19 kx_3 (fun _ _ => rfl) rfl ?_
  refine R_iconst e_X6_fail_0.2.2.2.1 ?_
  obtain ⟨q1, h⟩ := h
  refine R_icmp_ne 13 e_X6_fail_0.2.2.2.2.1 (by decide) q1 (by decide) (fun q => ?_) (fun q => ?_)
  · replace h := h.1 q
    refine R_iload_n e_X6_fail_0.2.2.2.2.2.2.2.1 1 rfl ?_
    refine R_putI 6 8 8 WX_ok e_X6_fail_0.2.2.2.2.2.2.2.2.1 f_X6_38 kx_3 rfl rfl rfl ?_
    refine R_aload_n e_X6_fail_0.2.2.2.2.2.2.2.2.2 0 rfl ?_
    refine R_aload_n e_X6_fail_1.1 0 rfl ?_
    refine R_getI 6 3 3 e_X6_fail_1.2.1 f_X6_22 kx_3 (fun _ _ => rfl) rfl ?_
    refine R_putI 6 9 9 WX_ok e_X6_fail_1.2.2.1 f_X6_41 kx_3 rfl rfl rfl ?_
    refine R_iconst e_X6_fail_1.2.2.2.1 ?_
    exact R_zreturn e_X6_fail_1.2.2.2.2 rfl (Or.inl rfl) h
  · replace h := h.2 q
    refine R_iconst e_X6_fail_0.2.2.2.2.2.1 ?_
    refine R_goto 14 e_X6_fail_0.2.2.2.2.2.2.1 (by decide) ?_
    refine R_putI 6 8 8 WX_ok e_X6_fail_0.2.2.2.2.2.2.2.2.1 f_X6_38 kx_3 rfl rfl rfl ?_
    refine R_aload_n e_X6_fail_0.2.2.2.2.2.2.2.2.2 0 rfl ?_
    refine R_aload_n e_X6_fail_1.1 0 rfl ?_
    refine R_getI 6 3 3 e_X6_fail_1.2.1 f_X6_22 kx_3 (fun _ _ => rfl) rfl ?_
    refine R_putI 6 9 9 WX_ok e_X6_fail_1.2.2.1 f_X6_41 kx_3 rfl rfl rfl ?_
    refine R_iconst e_X6_fail_1.2.2.2.1 ?_
    exact R_zreturn e_X6_fail_1.2.2.2.2 rfl (Or.inl rfl) h
/-! KiteLand$Scanner.nextWord()V -/
theorem e_X6_nextWord_0 : decode cX6_nextWord 0 = .ok (.aload_n 0, 1) ∧ decode cX6_nextWord 1 = .ok (.iconst 2, 1) ∧ decode cX6_nextWord 2 = .ok (.putfield 19, 3) ∧ decode cX6_nextWord 5 = .ok (.aload_n 0, 1) ∧ decode cX6_nextWord 6 = .ok (.lconst 0, 1) ∧ decode cX6_nextWord 7 = .ok (.putfield 31, 3) ∧ decode cX6_nextWord 10 = .ok (.aload_n 0, 1) ∧ decode cX6_nextWord 11 = .ok (.getfield 25, 3) ∧ decode cX6_nextWord 14 = .ok (.aload_n 0, 1) ∧ decode cX6_nextWord 15 = .ok (.getfield 15, 3) := by decide +kernel
theorem e_X6_nextWord_1 : decode cX6_nextWord 18 = .ok (.if_icmp .ge 72, 3) ∧ decode cX6_nextWord 21 = .ok (.aload_n 0, 1) ∧ decode cX6_nextWord 22 = .ok (.getfield 9, 3) ∧ decode cX6_nextWord 25 = .ok (.aload_n 0, 1) ∧ decode cX6_nextWord 26 = .ok (.getfield 25, 3) ∧ decode cX6_nextWord 29 = .ok (.baload, 1) ∧ decode cX6_nextWord 30 = .ok (.bipush 97, 2) ∧ decode cX6_nextWord 32 = .ok (.if_icmp .lt 58, 3) ∧ decode cX6_nextWord 35 = .ok (.aload_n 0, 1) ∧ decode cX6_nextWord 36 = .ok (.getfield 9, 3) := by decide +kernel
theorem e_X6_nextWord_2 : decode cX6_nextWord 39 = .ok (.aload_n 0, 1) ∧ decode cX6_nextWord 40 = .ok (.getfield 25, 3) ∧ decode cX6_nextWord 43 = .ok (.baload, 1) ∧ decode cX6_nextWord 44 = .ok (.bipush 122, 2) ∧ decode cX6_nextWord 46 = .ok (.if_icmp .gt 44, 3) ∧ decode cX6_nextWord 49 = .ok (.aload_n 0, 1) ∧ decode cX6_nextWord 50 = .ok (.aload_n 0, 1) ∧ decode cX6_nextWord 51 = .ok (.getfield 31, 3) ∧ decode cX6_nextWord 54 = .ok (.ldc2_w 63, 3) ∧ decode cX6_nextWord 57 = .ok (.lmul, 1) := by decide +kernel
theorem e_X6_nextWord_3 : decode cX6_nextWord 58 = .ok (.aload_n 0, 1) ∧ decode cX6_nextWord 59 = .ok (.getfield 9, 3) ∧ decode cX6_nextWord 62 = .ok (.aload_n 0, 1) ∧ decode cX6_nextWord 63 = .ok (.getfield 25, 3) ∧ decode cX6_nextWord 66 = .ok (.baload, 1) ∧ decode cX6_nextWord 67 = .ok (.bipush 97, 2) ∧ decode cX6_nextWord 69 = .ok (.isub, 1) ∧ decode cX6_nextWord 70 = .ok (.iconst 1, 1) ∧ decode cX6_nextWord 71 = .ok (.iadd, 1) ∧ decode cX6_nextWord 72 = .ok (.i2l, 1) := by decide +kernel
theorem e_X6_nextWord_4 : decode cX6_nextWord 73 = .ok (.ladd, 1) ∧ decode cX6_nextWord 74 = .ok (.putfield 31, 3) ∧ decode cX6_nextWord 77 = .ok (.aload_n 0, 1) ∧ decode cX6_nextWord 78 = .ok (.dup, 1) ∧ decode cX6_nextWord 79 = .ok (.getfield 25, 3) ∧ decode cX6_nextWord 82 = .ok (.iconst 1, 1) ∧ decode cX6_nextWord 83 = .ok (.iadd, 1) ∧ decode cX6_nextWord 84 = .ok (.putfield 25, 3) ∧ decode cX6_nextWord 87 = .ok (.goto (-77), 3) ∧ decode cX6_nextWord 90 = .ok (.return_, 1) := by decide +kernel
abbrev E_X6_nextWord_10 (G : Kg) (σ : Kmem) (Q : Int → Kmem → Prop) : Prop := Ex G WX M_X6_nextWord 0 0 0 10 [(0, vA G 3)] [] σ Q
theorem S_X6_nextWord {G : Kg} {σ : Kmem} {Q : Int → Kmem → Prop}  (h : E_X6_nextWord_10 G (kup (kup σ 3 2 2) 3 6 0) Q) : Run G WX M_X6_nextWord 0 0 0 [vA G 3] σ Q := by
  refine Run.of (by decide +kernel) (by show (1 : Nat) ≤ 1; decide) ?_
  show Ex G WX M_X6_nextWord 0 0 0 0 [(0, vA G 3)] [] σ Q
  refine R_aload_n e_X6_nextWord_0.1 0 rfl ?_
  refine R_iconst e_X6_nextWord_0.2.1 ?_
  refine R_putI 6 2 2 WX_ok e_X6_nextWord_0.2.2.1 f_X6_19 kx_3 rfl rfl rfl ?_
  refine R_aload_n e_X6_nextWord_0.2.2.2.1 0 rfl ?_
  refine R_lconst 0 e_X6_nextWord_0.2.2.2.2.1 (by decide) ?_
  refine R_putL 6 6 6 WX_ok e_X6_nextWord_0.2.2.2.2.2.1 f_X6_31 kx_3 rfl rfl rfl ?_
  refine R_ls (ls2 := [(0, vA G 3)]) [0] rfl ?_
  exact h
theorem S_X6_nextWord_10 {G : Kg} {σ : Kmem} {Q : Int → Kmem → Prop}  (h : (rI (σ 3 4)) ∧ (rI (σ 3 1)) ∧ ((σ 3 1 ≤ σ 3 4 → Q 0 σ) ∧ (σ 3 4 < σ 3 1 → (0 ≤ σ 3 4 ∧ σ 3 4 < 900) ∧ (rI (σ 4 (σ 3 4))) ∧ ((σ 4 (σ 3 4) < 97 → Q 0 σ) ∧ (97 ≤ σ 4 (σ 3 4) → (0 ≤ σ 3 4 ∧ σ 3 4 < 900) ∧ ((122 < σ 4 (σ 3 4) → Q 0 σ) ∧ (σ 4 (σ 3 4) ≤ 122 → (0 ≤ σ 3 4 ∧ σ 3 4 < 900) ∧ (rI (((σ 4 (σ 3 4)) - 97) + 1)) ∧ E_X6_nextWord_10 G (kup (kup σ 3 6 (((σ 3 6) * 32) + (((σ 4 (σ 3 4)) - 97) + 1))) 3 4 (((kup σ 3 6 (((σ 3 6) * 32) + (((σ 4 (σ 3 4)) - 97) + 1))) 3 4) + 1)) Q))))))) : E_X6_nextWord_10 G σ Q := by
  refine R_aload_n e_X6_nextWord_0.2.2.2.2.2.2.1 0 rfl ?_
  refine R_getI 6 4 4 e_X6_nextWord_0.2.2.2.2.2.2.2.1 f_X6_25 kx_3 (fun _ _ => rfl) rfl ?_
  refine R_aload_n e_X6_nextWord_0.2.2.2.2.2.2.2.2.1 0 rfl ?_
  refine R_getI 6 1 1 e_X6_nextWord_0.2.2.2.2.2.2.2.2.2 f_X6_15 kx_3 (fun _ _ => rfl) rfl ?_
  obtain ⟨q1, h⟩ := h
  obtain ⟨q2, h⟩ := h
  refine R_icmp_ge 90 e_X6_nextWord_1.1 (by decide) q1 q2 (fun q => ?_) (fun q => ?_)
  · replace h := h.1 q
    exact R_return e_X6_nextWord_4.2.2.2.2.2.2.2.2.2 rfl h
  · replace h := h.2 q
    refine R_aload_n e_X6_nextWord_1.2.1 0 rfl ?_
    refine R_getA 6 0 4 e_X6_nextWord_1.2.2.1 f_X6_9 kx_3 (fun _ _ => rfl) rx_3_0 (by decide) ?_
    refine R_aload_n e_X6_nextWord_1.2.2.2.1 0 rfl ?_
    refine R_getI 6 4 4 e_X6_nextWord_1.2.2.2.2.1 f_X6_25 kx_3 (fun _ _ => rfl) rfl ?_
    obtain ⟨q3, h⟩ := h
    refine R_bald 900 e_X6_nextWord_1.2.2.2.2.2.1 kxa_4 q3 ?_
    refine R_bipush e_X6_nextWord_1.2.2.2.2.2.2.1 (by decide) ?_
    obtain ⟨q4, h⟩ := h
    refine R_icmp_lt 90 e_X6_nextWord_1.2.2.2.2.2.2.2.1 (by decide) q4 (by decide) (fun q => ?_) (fun q => ?_)
    · replace h := h.1 q
      exact R_return e_X6_nextWord_4.2.2.2.2.2.2.2.2.2 rfl h
    · replace h := h.2 q
      refine R_aload_n e_X6_nextWord_1.2.2.2.2.2.2.2.2.1 0 rfl ?_
      refine R_getA 6 0 4 e_X6_nextWord_1.2.2.2.2.2.2.2.2.2 f_X6_9 kx_3 (fun _ _ => rfl) rx_3_0 (by decide) ?_
      refine R_aload_n e_X6_nextWord_2.1 0 rfl ?_
      refine R_getI 6 4 4 e_X6_nextWord_2.2.1 f_X6_25 kx_3 (fun _ _ => rfl) rfl ?_
      obtain ⟨q5, h⟩ := h
      refine R_bald 900 e_X6_nextWord_2.2.2.1 kxa_4 q5 ?_
      refine R_bipush e_X6_nextWord_2.2.2.2.1 (by decide) ?_
      refine R_icmp_gt 90 e_X6_nextWord_2.2.2.2.2.1 (by decide) q4 (by decide) (fun q => ?_) (fun q => ?_)
      · replace h := h.1 q
        exact R_return e_X6_nextWord_4.2.2.2.2.2.2.2.2.2 rfl h
      · replace h := h.2 q
        refine R_aload_n e_X6_nextWord_2.2.2.2.2.2.1 0 rfl ?_
        refine R_aload_n e_X6_nextWord_2.2.2.2.2.2.2.1 0 rfl ?_
        refine R_getL 6 6 6 e_X6_nextWord_2.2.2.2.2.2.2.2.1 f_X6_31 kx_3 (fun _ _ => rfl) rfl ?_
        refine R_ldc2 (32) k_X6_63 e_X6_nextWord_2.2.2.2.2.2.2.2.2.1 ?_
        refine R_lmul e_X6_nextWord_2.2.2.2.2.2.2.2.2.2 ?_
        refine R_aload_n e_X6_nextWord_3.1 0 rfl ?_
        refine R_getA 6 0 4 e_X6_nextWord_3.2.1 f_X6_9 kx_3 (fun _ _ => rfl) rx_3_0 (by decide) ?_
        refine R_aload_n e_X6_nextWord_3.2.2.1 0 rfl ?_
        refine R_getI 6 4 4 e_X6_nextWord_3.2.2.2.1 f_X6_25 kx_3 (fun _ _ => rfl) rfl ?_
        obtain ⟨q6, h⟩ := h
        refine R_bald 900 e_X6_nextWord_3.2.2.2.2.1 kxa_4 q6 ?_
        refine R_bipush e_X6_nextWord_3.2.2.2.2.2.1 (by decide) ?_
        refine R_isub e_X6_nextWord_3.2.2.2.2.2.2.1 ?_
        refine R_iconst e_X6_nextWord_3.2.2.2.2.2.2.2.1 ?_
        refine R_iadd e_X6_nextWord_3.2.2.2.2.2.2.2.2.1 ?_
        obtain ⟨q7, h⟩ := h
        refine R_i2l e_X6_nextWord_3.2.2.2.2.2.2.2.2.2 q7 ?_
        refine R_ladd e_X6_nextWord_4.1 ?_
        refine R_putL 6 6 6 WX_ok e_X6_nextWord_4.2.1 f_X6_31 kx_3 rfl rfl rfl ?_
        refine R_aload_n e_X6_nextWord_4.2.2.1 0 rfl ?_
        refine R_dup e_X6_nextWord_4.2.2.2.1 rfl ?_
        refine R_getI 6 4 4 e_X6_nextWord_4.2.2.2.2.1 f_X6_25 kx_3 (fun _ _ => rfl) rfl ?_
        refine R_iconst e_X6_nextWord_4.2.2.2.2.2.1 ?_
        refine R_iadd e_X6_nextWord_4.2.2.2.2.2.2.1 ?_
        refine R_putI 6 4 4 WX_ok e_X6_nextWord_4.2.2.2.2.2.2.2.1 f_X6_25 kx_3 rfl rfl rfl ?_
        refine R_goto 10 e_X6_nextWord_4.2.2.2.2.2.2.2.2.1 (by decide) ?_
        refine R_ls (ls2 := [(0, vA G 3)]) [0] rfl ?_
        exact h
/-! KiteLand$Scanner.nextNumber()V -/
theorem e_X6_nextNumber_0 : decode cX6_nextNumber 0 = .ok (.aload_n 0, 1) ∧ decode cX6_nextNumber 1 = .ok (.iconst 0, 1) ∧ decode cX6_nextNumber 2 = .ok (.putfield 28, 3) ∧ decode cX6_nextNumber 5 = .ok (.aload_n 0, 1) ∧ decode cX6_nextNumber 6 = .ok (.getfield 25, 3) ∧ decode cX6_nextNumber 9 = .ok (.aload_n 0, 1) ∧ decode cX6_nextNumber 10 = .ok (.getfield 15, 3) ∧ decode cX6_nextNumber 13 = .ok (.if_icmp .ge 68, 3) ∧ decode cX6_nextNumber 16 = .ok (.aload_n 0, 1) ∧ decode cX6_nextNumber 17 = .ok (.getfield 9, 3) := by decide +kernel
theorem e_X6_nextNumber_1 : decode cX6_nextNumber 20 = .ok (.aload_n 0, 1) ∧ decode cX6_nextNumber 21 = .ok (.getfield 25, 3) ∧ decode cX6_nextNumber 24 = .ok (.baload, 1) ∧ decode cX6_nextNumber 25 = .ok (.bipush 48, 2) ∧ decode cX6_nextNumber 27 = .ok (.if_icmp .lt 54, 3) ∧ decode cX6_nextNumber 30 = .ok (.aload_n 0, 1) ∧ decode cX6_nextNumber 31 = .ok (.getfield 9, 3) ∧ decode cX6_nextNumber 34 = .ok (.aload_n 0, 1) ∧ decode cX6_nextNumber 35 = .ok (.getfield 25, 3) ∧ decode cX6_nextNumber 38 = .ok (.baload, 1) := by decide +kernel
theorem e_X6_nextNumber_2 : decode cX6_nextNumber 39 = .ok (.bipush 57, 2) ∧ decode cX6_nextNumber 41 = .ok (.if_icmp .gt 40, 3) ∧ decode cX6_nextNumber 44 = .ok (.aload_n 0, 1) ∧ decode cX6_nextNumber 45 = .ok (.aload_n 0, 1) ∧ decode cX6_nextNumber 46 = .ok (.getfield 28, 3) ∧ decode cX6_nextNumber 49 = .ok (.bipush 10, 2) ∧ decode cX6_nextNumber 51 = .ok (.imul, 1) ∧ decode cX6_nextNumber 52 = .ok (.aload_n 0, 1) ∧ decode cX6_nextNumber 53 = .ok (.getfield 9, 3) ∧ decode cX6_nextNumber 56 = .ok (.aload_n 0, 1) := by decide +kernel
theorem e_X6_nextNumber_3 : decode cX6_nextNumber 57 = .ok (.getfield 25, 3) ∧ decode cX6_nextNumber 60 = .ok (.baload, 1) ∧ decode cX6_nextNumber 61 = .ok (.bipush 48, 2) ∧ decode cX6_nextNumber 63 = .ok (.isub, 1) ∧ decode cX6_nextNumber 64 = .ok (.iadd, 1) ∧ decode cX6_nextNumber 65 = .ok (.putfield 28, 3) ∧ decode cX6_nextNumber 68 = .ok (.aload_n 0, 1) ∧ decode cX6_nextNumber 69 = .ok (.dup, 1) ∧ decode cX6_nextNumber 70 = .ok (.getfield 25, 3) ∧ decode cX6_nextNumber 73 = .ok (.iconst 1, 1) := by decide +kernel
theorem e_X6_nextNumber_4 : decode cX6_nextNumber 74 = .ok (.iadd, 1) ∧ decode cX6_nextNumber 75 = .ok (.putfield 25, 3) ∧ decode cX6_nextNumber 78 = .ok (.goto (-73), 3) ∧ decode cX6_nextNumber 81 = .ok (.aload_n 0, 1) ∧ decode cX6_nextNumber 82 = .ok (.aload_n 0, 1) ∧ decode cX6_nextNumber 83 = .ok (.getfield 25, 3) ∧ decode cX6_nextNumber 86 = .ok (.aload_n 0, 1) ∧ decode cX6_nextNumber 87 = .ok (.getfield 22, 3) ∧ decode cX6_nextNumber 90 = .ok (.isub, 1) ∧ decode cX6_nextNumber 91 = .ok (.iconst 4, 1) := by decide +kernel
theorem e_X6_nextNumber_5 : decode cX6_nextNumber 92 = .ok (.if_icmp .le 7, 3) ∧ decode cX6_nextNumber 95 = .ok (.iconst 1, 1) ∧ decode cX6_nextNumber 96 = .ok (.goto 4, 3) ∧ decode cX6_nextNumber 99 = .ok (.iconst 3, 1) ∧ decode cX6_nextNumber 100 = .ok (.putfield 19, 3) ∧ decode cX6_nextNumber 103 = .ok (.return_, 1) := by decide +kernel
abbrev E_X6_nextNumber_5 (G : Kg) (σ : Kmem) (Q : Int → Kmem → Prop) : Prop := Ex G WX M_X6_nextNumber 0 0 0 5 [(0, vA G 3)] [] σ Q
theorem S_X6_nextNumber {G : Kg} {σ : Kmem} {Q : Int → Kmem → Prop}  (h : E_X6_nextNumber_5 G (kup σ 3 5 0) Q) : Run G WX M_X6_nextNumber 0 0 0 [vA G 3] σ Q := by
  refine Run.of (by decide +kernel) (by show (1 : Nat) ≤ 1; decide) ?_
  show Ex G WX M_X6_nextNumber 0 0 0 0 [(0, vA G 3)] [] σ Q
  refine R_aload_n e_X6_nextNumber_0.1 0 rfl ?_
  refine R_iconst e_X6_nextNumber_0.2.1 ?_
  refine R_putI 6 5 5 WX_ok e_X6_nextNumber_0.2.2.1 f_X6_28 kx_3 rfl rfl rfl ?_
  refine R_ls (ls2 := [(0, vA G 3)]) [0] rfl ?_
  exact h
theorem S_X6_nextNumber_5 {G : Kg} {σ : Kmem} {Q : Int → Kmem → Prop}  (h : (rI (σ 3 4)) ∧ (rI (σ 3 1)) ∧ ((σ 3 1 ≤ σ 3 4 → (rI ((σ 3 4) - (σ 3 3))) ∧ (((σ 3 4) - (σ 3 3) ≤ 4 → Q 0 (kup σ 3 2 3)) ∧ (4 < (σ 3 4) - (σ 3 3) → Q 0 (kup σ 3 2 1)))) ∧ (σ 3 4 < σ 3 1 → (0 ≤ σ 3 4 ∧ σ 3 4 < 900) ∧ (rI (σ 4 (σ 3 4))) ∧ ((σ 4 (σ 3 4) < 48 → (rI ((σ 3 4) - (σ 3 3))) ∧ (((σ 3 4) - (σ 3 3) ≤ 4 → Q 0 (kup σ 3 2 3)) ∧ (4 < (σ 3 4) - (σ 3 3) → Q 0 (kup σ 3 2 1)))) ∧ (48 ≤ σ 4 (σ 3 4) → (0 ≤ σ 3 4 ∧ σ 3 4 < 900) ∧ ((57 < σ 4 (σ 3 4) → (rI ((σ 3 4) - (σ 3 3))) ∧ (((σ 3 4) - (σ 3 3) ≤ 4 → Q 0 (kup σ 3 2 3)) ∧ (4 < (σ 3 4) - (σ 3 3) → Q 0 (kup σ 3 2 1)))) ∧ (σ 4 (σ 3 4) ≤ 57 → (0 ≤ σ 3 4 ∧ σ 3 4 < 900) ∧ E_X6_nextNumber_5 G (kup (kup σ 3 5 (((σ 3 5) * 10) + ((σ 4 (σ 3 4)) - 48))) 3 4 (((kup σ 3 5 (((σ 3 5) * 10) + ((σ 4 (σ 3 4)) - 48))) 3 4) + 1)) Q))))))) : E_X6_nextNumber_5 G σ Q := by
  refine R_aload_n e_X6_nextNumber_0.2.2.2.1 0 rfl ?_
  refine R_getI 6 4 4 e_X6_nextNumber_0.2.2.2.2.1 f_X6_25 kx_3 (fun _ _ => rfl) rfl ?_
  refine R_aload_n e_X6_nextNumber_0.2.2.2.2.2.1 0 rfl ?_
  refine R_getI 6 1 1 e_X6_nextNumber_0.2.2.2.2.2.2.1 f_X6_15 kx_3 (fun _ _ => rfl) rfl ?_
  obtain ⟨q1, h⟩ := h
  obtain ⟨q2, h⟩ := h
  refine R_icmp_ge 81 e_X6_nextNumber_0.2.2.2.2.2.2.2.1 (by decide) q1 q2 (fun q => ?_) (fun q => ?_)
  · replace h := h.1 q
    refine R_aload_n e_X6_nextNumber_4.2.2.2.1 0 rfl ?_
    refine R_aload_n e_X6_nextNumber_4.2.2.2.2.1 0 rfl ?_
    refine R_getI 6 4 4 e_X6_nextNumber_4.2.2.2.2.2.1 f_X6_25 kx_3 (fun _ _ => rfl) rfl ?_
    refine R_aload_n e_X6_nextNumber_4.2.2.2.2.2.2.1 0 rfl ?_
    refine R_getI 6 3 3 e_X6_nextNumber_4.2.2.2.2.2.2.2.1 f_X6_22 kx_3 (fun _ _ => rfl) rfl ?_
    refine R_isub e_X6_nextNumber_4.2.2.2.2.2.2.2.2.1 ?_
    refine R_iconst e_X6_nextNumber_4.2.2.2.2.2.2.2.2.2 ?_
    obtain ⟨q3, h⟩ := h
    refine R_icmp_le 99 e_X6_nextNumber_5.1 (by decide) q3 (by decide) (fun q => ?_) (fun q => ?_)
    · replace h := h.1 q
      refine R_iconst e_X6_nextNumber_5.2.2.2.1 ?_
      refine R_putI 6 2 2 WX_ok e_X6_nextNumber_5.2.2.2.2.1 f_X6_19 kx_3 rfl rfl rfl ?_
      exact R_return e_X6_nextNumber_5.2.2.2.2.2 rfl h
    · replace h := h.2 q
      refine R_iconst e_X6_nextNumber_5.2.1 ?_
      refine R_goto 100 e_X6_nextNumber_5.2.2.1 (by decide) ?_
      refine R_putI 6 2 2 WX_ok e_X6_nextNumber_5.2.2.2.2.1 f_X6_19 kx_3 rfl rfl rfl ?_
      exact R_return e_X6_nextNumber_5.2.2.2.2.2 rfl h
  · replace h := h.2 q
    refine R_aload_n e_X6_nextNumber_0.2.2.2.2.2.2.2.2.1 0 rfl ?_
    refine R_getA 6 0 4 e_X6_nextNumber_0.2.2.2.2.2.2.2.2.2 f_X6_9 kx_3 (fun _ _ => rfl) rx_3_0 (by decide) ?_
    refine R_aload_n e_X6_nextNumber_1.1 0 rfl ?_
    refine R_getI 6 4 4 e_X6_nextNumber_1.2.1 f_X6_25 kx_3 (fun _ _ => rfl) rfl ?_
    obtain ⟨q4, h⟩ := h
    refine R_bald 900 e_X6_nextNumber_1.2.2.1 kxa_4 q4 ?_
    refine R_bipush e_X6_nextNumber_1.2.2.2.1 (by decide) ?_
    obtain ⟨q5, h⟩ := h
    refine R_icmp_lt 81 e_X6_nextNumber_1.2.2.2.2.1 (by decide) q5 (by decide) (fun q => ?_) (fun q => ?_)
    · replace h := h.1 q
      refine R_aload_n e_X6_nextNumber_4.2.2.2.1 0 rfl ?_
      refine R_aload_n e_X6_nextNumber_4.2.2.2.2.1 0 rfl ?_
      refine R_getI 6 4 4 e_X6_nextNumber_4.2.2.2.2.2.1 f_X6_25 kx_3 (fun _ _ => rfl) rfl ?_
      refine R_aload_n e_X6_nextNumber_4.2.2.2.2.2.2.1 0 rfl ?_
      refine R_getI 6 3 3 e_X6_nextNumber_4.2.2.2.2.2.2.2.1 f_X6_22 kx_3 (fun _ _ => rfl) rfl ?_
      refine R_isub e_X6_nextNumber_4.2.2.2.2.2.2.2.2.1 ?_
      refine R_iconst e_X6_nextNumber_4.2.2.2.2.2.2.2.2.2 ?_
      obtain ⟨q6, h⟩ := h
      refine R_icmp_le 99 e_X6_nextNumber_5.1 (by decide) q6 (by decide) (fun q => ?_) (fun q => ?_)
      · replace h := h.1 q
        refine R_iconst e_X6_nextNumber_5.2.2.2.1 ?_
        refine R_putI 6 2 2 WX_ok e_X6_nextNumber_5.2.2.2.2.1 f_X6_19 kx_3 rfl rfl rfl ?_
        exact R_return e_X6_nextNumber_5.2.2.2.2.2 rfl h
      · replace h := h.2 q
        refine R_iconst e_X6_nextNumber_5.2.1 ?_
        refine R_goto 100 e_X6_nextNumber_5.2.2.1 (by decide) ?_
        refine R_putI 6 2 2 WX_ok e_X6_nextNumber_5.2.2.2.2.1 f_X6_19 kx_3 rfl rfl rfl ?_
        exact R_return e_X6_nextNumber_5.2.2.2.2.2 rfl h
    · replace h := h.2 q
      refine R_aload_n e_X6_nextNumber_1.2.2.2.2.2.1 0 rfl ?_
      refine R_getA 6 0 4 e_X6_nextNumber_1.2.2.2.2.2.2.1 f_X6_9 kx_3 (fun _ _ => rfl) rx_3_0 (by decide) ?_
      refine R_aload_n e_X6_nextNumber_1.2.2.2.2.2.2.2.1 0 rfl ?_
      refine R_getI 6 4 4 e_X6_nextNumber_1.2.2.2.2.2.2.2.2.1 f_X6_25 kx_3 (fun _ _ => rfl) rfl ?_
      obtain ⟨q7, h⟩ := h
      refine R_bald 900 e_X6_nextNumber_1.2.2.2.2.2.2.2.2.2 kxa_4 q7 ?_
      refine R_bipush e_X6_nextNumber_2.1 (by decide) ?_
      refine R_icmp_gt 81 e_X6_nextNumber_2.2.1 (by decide) q5 (by decide) (fun q => ?_) (fun q => ?_)
      · replace h := h.1 q
        refine R_aload_n e_X6_nextNumber_4.2.2.2.1 0 rfl ?_
        refine R_aload_n e_X6_nextNumber_4.2.2.2.2.1 0 rfl ?_
        refine R_getI 6 4 4 e_X6_nextNumber_4.2.2.2.2.2.1 f_X6_25 kx_3 (fun _ _ => rfl) rfl ?_
        refine R_aload_n e_X6_nextNumber_4.2.2.2.2.2.2.1 0 rfl ?_
        refine R_getI 6 3 3 e_X6_nextNumber_4.2.2.2.2.2.2.2.1 f_X6_22 kx_3 (fun _ _ => rfl) rfl ?_
        refine R_isub e_X6_nextNumber_4.2.2.2.2.2.2.2.2.1 ?_
        refine R_iconst e_X6_nextNumber_4.2.2.2.2.2.2.2.2.2 ?_
        obtain ⟨q8, h⟩ := h
        refine R_icmp_le 99 e_X6_nextNumber_5.1 (by decide) q8 (by decide) (fun q => ?_) (fun q => ?_)
        · replace h := h.1 q
          refine R_iconst e_X6_nextNumber_5.2.2.2.1 ?_
          refine R_putI 6 2 2 WX_ok e_X6_nextNumber_5.2.2.2.2.1 f_X6_19 kx_3 rfl rfl rfl ?_
          exact R_return e_X6_nextNumber_5.2.2.2.2.2 rfl h
        · replace h := h.2 q
          refine R_iconst e_X6_nextNumber_5.2.1 ?_
          refine R_goto 100 e_X6_nextNumber_5.2.2.1 (by decide) ?_
          refine R_putI 6 2 2 WX_ok e_X6_nextNumber_5.2.2.2.2.1 f_X6_19 kx_3 rfl rfl rfl ?_
          exact R_return e_X6_nextNumber_5.2.2.2.2.2 rfl h
      · replace h := h.2 q
        refine R_aload_n e_X6_nextNumber_2.2.2.1 0 rfl ?_
        refine R_aload_n e_X6_nextNumber_2.2.2.2.1 0 rfl ?_
        refine R_getI 6 5 5 e_X6_nextNumber_2.2.2.2.2.1 f_X6_28 kx_3 (fun _ _ => rfl) rfl ?_
        refine R_bipush e_X6_nextNumber_2.2.2.2.2.2.1 (by decide) ?_
        refine R_imul e_X6_nextNumber_2.2.2.2.2.2.2.1 ?_
        refine R_aload_n e_X6_nextNumber_2.2.2.2.2.2.2.2.1 0 rfl ?_
        refine R_getA 6 0 4 e_X6_nextNumber_2.2.2.2.2.2.2.2.2.1 f_X6_9 kx_3 (fun _ _ => rfl) rx_3_0 (by decide) ?_
        refine R_aload_n e_X6_nextNumber_2.2.2.2.2.2.2.2.2.2 0 rfl ?_
        refine R_getI 6 4 4 e_X6_nextNumber_3.1 f_X6_25 kx_3 (fun _ _ => rfl) rfl ?_
        obtain ⟨q9, h⟩ := h
        refine R_bald 900 e_X6_nextNumber_3.2.1 kxa_4 q9 ?_
        refine R_bipush e_X6_nextNumber_3.2.2.1 (by decide) ?_
        refine R_isub e_X6_nextNumber_3.2.2.2.1 ?_
        refine R_iadd e_X6_nextNumber_3.2.2.2.2.1 ?_
        refine R_putI 6 5 5 WX_ok e_X6_nextNumber_3.2.2.2.2.2.1 f_X6_28 kx_3 rfl rfl rfl ?_
        refine R_aload_n e_X6_nextNumber_3.2.2.2.2.2.2.1 0 rfl ?_
        refine R_dup e_X6_nextNumber_3.2.2.2.2.2.2.2.1 rfl ?_
        refine R_getI 6 4 4 e_X6_nextNumber_3.2.2.2.2.2.2.2.2.1 f_X6_25 kx_3 (fun _ _ => rfl) rfl ?_
        refine R_iconst e_X6_nextNumber_3.2.2.2.2.2.2.2.2.2 ?_
        refine R_iadd e_X6_nextNumber_4.1 ?_
        refine R_putI 6 4 4 WX_ok e_X6_nextNumber_4.2.1 f_X6_25 kx_3 rfl rfl rfl ?_
        refine R_goto 5 e_X6_nextNumber_4.2.2.1 (by decide) ?_
        refine R_ls (ls2 := [(0, vA G 3)]) [0] rfl ?_
        exact h
/-! KiteLand$Scanner.isWord(Ljava/lang/String;)Z -/
theorem e_X6_isWord_0 : decode cX6_isWord 0 = .ok (.aload_n 0, 1) ∧ decode cX6_isWord 1 = .ok (.getfield 19, 3) ∧ decode cX6_isWord 4 = .ok (.iconst 2, 1) ∧ decode cX6_isWord 5 = .ok (.if_icmp .ne 19, 3) ∧ decode cX6_isWord 8 = .ok (.aload_n 1, 1) ∧ decode cX6_isWord 9 = .ok (.invokevirtual 65, 3) ∧ decode cX6_isWord 12 = .ok (.aload_n 0, 1) ∧ decode cX6_isWord 13 = .ok (.getfield 25, 3) ∧ decode cX6_isWord 16 = .ok (.aload_n 0, 1) ∧ decode cX6_isWord 17 = .ok (.getfield 22, 3) := by decide +kernel
theorem e_X6_isWord_1 : decode cX6_isWord 20 = .ok (.isub, 1) ∧ decode cX6_isWord 21 = .ok (.if_icmp .eq 5, 3) ∧ decode cX6_isWord 24 = .ok (.iconst 0, 1) ∧ decode cX6_isWord 25 = .ok (.ireturn, 1) ∧ decode cX6_isWord 26 = .ok (.iconst 0, 1) ∧ decode cX6_isWord 27 = .ok (.istore_n 2, 1) ∧ decode cX6_isWord 28 = .ok (.iload_n 2, 1) ∧ decode cX6_isWord 29 = .ok (.aload_n 1, 1) ∧ decode cX6_isWord 30 = .ok (.invokevirtual 65, 3) ∧ decode cX6_isWord 33 = .ok (.if_icmp .ge 30, 3) := by decide +kernel
theorem e_X6_isWord_2 : decode cX6_isWord 36 = .ok (.aload_n 1, 1) ∧ decode cX6_isWord 37 = .ok (.iload_n 2, 1) ∧ decode cX6_isWord 38 = .ok (.invokevirtual 70, 3) ∧ decode cX6_isWord 41 = .ok (.aload_n 0, 1) ∧ decode cX6_isWord 42 = .ok (.getfield 9, 3) ∧ decode cX6_isWord 45 = .ok (.aload_n 0, 1) ∧ decode cX6_isWord 46 = .ok (.getfield 22, 3) ∧ decode cX6_isWord 49 = .ok (.iload_n 2, 1) ∧ decode cX6_isWord 50 = .ok (.iadd, 1) ∧ decode cX6_isWord 51 = .ok (.baload, 1) := by decide +kernel
theorem e_X6_isWord_3 : decode cX6_isWord 52 = .ok (.if_icmp .eq 5, 3) ∧ decode cX6_isWord 55 = .ok (.iconst 0, 1) ∧ decode cX6_isWord 56 = .ok (.ireturn, 1) ∧ decode cX6_isWord 57 = .ok (.iinc 2 1, 3) ∧ decode cX6_isWord 60 = .ok (.goto (-32), 3) ∧ decode cX6_isWord 63 = .ok (.iconst 1, 1) ∧ decode cX6_isWord 64 = .ok (.ireturn, 1) := by decide +kernel
abbrev E_X6_isWord_28 (G : Kg) (i : Nat) (l2 : Int) (σ : Kmem) (Q : Int → Kmem → Prop) : Prop := Ex G WX M_X6_isWord 4 0 0 28 [(0, vA G 3), (1, vA G (-((10 + i : Nat) : Int))), (2, vI l2)] [] σ Q
theorem S_X6_isWord {G : Kg} {σ : Kmem} {Q : Int → Kmem → Prop} {i : Nat} {si : String × Nat × String × List Int32} (hi : kStrs[i]? = some si)  (h : (rI (σ 3 2)) ∧ ((σ 3 2 ≠ 2 → Q 0 σ) ∧ (σ 3 2 = 2 → (rI (kslen i)) ∧ (rI ((σ 3 4) - (σ 3 3))) ∧ ((kslen i = (σ 3 4) - (σ 3 3) → E_X6_isWord_28 G i 0 σ Q) ∧ (kslen i ≠ (σ 3 4) - (σ 3 3) → Q 0 σ))))) : Run G WX M_X6_isWord 4 0 0 [vA G 3, vA G (-((10 + i : Nat) : Int))] σ Q := by
  refine Run.of (by decide +kernel) (by show (2 : Nat) ≤ 3; decide) ?_
  show Ex G WX M_X6_isWord 4 0 0 0 [(0, vA G 3), (1, vA G (-((10 + i : Nat) : Int)))] [] σ Q
  refine R_aload_n e_X6_isWord_0.1 0 rfl ?_
  refine R_getI 6 2 2 e_X6_isWord_0.2.1 f_X6_19 kx_3 (fun _ _ => rfl) rfl ?_
  refine R_iconst e_X6_isWord_0.2.2.1 ?_
  obtain ⟨q1, h⟩ := h
  refine R_icmp_ne 24 e_X6_isWord_0.2.2.2.1 (by decide) q1 (by decide) (fun q => ?_) (fun q => ?_)
  · replace h := h.1 q
    refine R_iconst e_X6_isWord_1.2.2.1 ?_
    exact R_zreturn e_X6_isWord_1.2.2.2.1 rfl (Or.inl rfl) h
  · replace h := h.2 q
    refine R_aload_n e_X6_isWord_0.2.2.2.2.1 1 rfl ?_
    refine R_slen (i := i) (kStrs_at hi) l_X6_65 e_X6_isWord_0.2.2.2.2.2.1 (by decide) rfl (by show (0 : Nat) ≤ 8; decide) ?_
    refine R_aload_n e_X6_isWord_0.2.2.2.2.2.2.1 0 rfl ?_
    refine R_getI 6 4 4 e_X6_isWord_0.2.2.2.2.2.2.2.1 f_X6_25 kx_3 (fun _ _ => rfl) rfl ?_
    refine R_aload_n e_X6_isWord_0.2.2.2.2.2.2.2.2.1 0 rfl ?_
    refine R_getI 6 3 3 e_X6_isWord_0.2.2.2.2.2.2.2.2.2 f_X6_22 kx_3 (fun _ _ => rfl) rfl ?_
    refine R_isub e_X6_isWord_1.1 ?_
    obtain ⟨q2, h⟩ := h
    obtain ⟨q3, h⟩ := h
    refine R_icmp_eq 26 e_X6_isWord_1.2.1 (by decide) q2 q3 (fun q => ?_) (fun q => ?_)
    · replace h := h.1 q
      refine R_iconst e_X6_isWord_1.2.2.2.2.1 ?_
      refine R_istore_n (ls2 := [(2, vI 0), (0, vA G 3), (1, vA G (-((10 + i : Nat) : Int)))]) e_X6_isWord_1.2.2.2.2.2.1 (by decide) rfl ?_
      refine R_ls (ls2 := [(0, vA G 3), (1, vA G (-((10 + i : Nat) : Int))), (2, vI 0)]) [1, 2, 0] rfl ?_
      exact h
    · replace h := h.2 q
      refine R_iconst e_X6_isWord_1.2.2.1 ?_
      exact R_zreturn e_X6_isWord_1.2.2.2.1 rfl (Or.inl rfl) h
theorem S_X6_isWord_28 {G : Kg} {σ : Kmem} {Q : Int → Kmem → Prop} {i : Nat} {si : String × Nat × String × List Int32} (hi : kStrs[i]? = some si) {l2 : Int}  (h : (rI l2) ∧ (rI (kslen i)) ∧ ((kslen i ≤ l2 → Q 1 σ) ∧ (l2 < kslen i → (0 ≤ l2 ∧ l2 < kslen i) ∧ (0 ≤ (σ 3 3) + l2 ∧ (σ 3 3) + l2 < 900) ∧ (rI (ksat i l2)) ∧ (rI (σ 4 ((σ 3 3) + l2))) ∧ ((ksat i l2 = σ 4 ((σ 3 3) + l2) → E_X6_isWord_28 G i (l2 + 1) σ Q) ∧ (ksat i l2 ≠ σ 4 ((σ 3 3) + l2) → Q 0 σ))))) : E_X6_isWord_28 G i l2 σ Q := by
  refine R_iload_n e_X6_isWord_1.2.2.2.2.2.2.1 2 rfl ?_
  refine R_aload_n e_X6_isWord_1.2.2.2.2.2.2.2.1 1 rfl ?_
  refine R_slen (i := i) (kStrs_at hi) l_X6_65 e_X6_isWord_1.2.2.2.2.2.2.2.2.1 (by decide) rfl (by show (1 : Nat) ≤ 8; decide) ?_
  obtain ⟨q4, h⟩ := h
  obtain ⟨q5, h⟩ := h
  refine R_icmp_ge 63 e_X6_isWord_1.2.2.2.2.2.2.2.2.2 (by decide) q4 q5 (fun q => ?_) (fun q => ?_)
  · replace h := h.1 q
    refine R_iconst e_X6_isWord_3.2.2.2.2.2.1 ?_
    exact R_zreturn e_X6_isWord_3.2.2.2.2.2.2 rfl (Or.inr rfl) h
  · replace h := h.2 q
    refine R_aload_n e_X6_isWord_2.1 1 rfl ?_
    refine R_iload_n e_X6_isWord_2.2.1 2 rfl ?_
    obtain ⟨q6, h⟩ := h
    refine R_sat (i := i) (kStrs_at hi) l_X6_70 e_X6_isWord_2.2.2.1 (by decide) q6 rfl (by show (0 : Nat) ≤ 8; decide) ?_
    refine R_aload_n e_X6_isWord_2.2.2.2.1 0 rfl ?_
    refine R_getA 6 0 4 e_X6_isWord_2.2.2.2.2.1 f_X6_9 kx_3 (fun _ _ => rfl) rx_3_0 (by decide) ?_
    refine R_aload_n e_X6_isWord_2.2.2.2.2.2.1 0 rfl ?_
    refine R_getI 6 3 3 e_X6_isWord_2.2.2.2.2.2.2.1 f_X6_22 kx_3 (fun _ _ => rfl) rfl ?_
    refine R_iload_n e_X6_isWord_2.2.2.2.2.2.2.2.1 2 rfl ?_
    refine R_iadd e_X6_isWord_2.2.2.2.2.2.2.2.2.1 ?_
    obtain ⟨q7, h⟩ := h
    refine R_bald 900 e_X6_isWord_2.2.2.2.2.2.2.2.2.2 kxa_4 q7 ?_
    obtain ⟨q8, h⟩ := h
    obtain ⟨q9, h⟩ := h
    refine R_icmp_eq 57 e_X6_isWord_3.1 (by decide) q8 q9 (fun q => ?_) (fun q => ?_)
    · replace h := h.1 q
      refine R_iinc (ls2 := [(2, vI (l2 + 1)), (0, vA G 3), (1, vA G (-((10 + i : Nat) : Int)))]) e_X6_isWord_3.2.2.2.1 2 rfl (by decide) rfl ?_
      refine R_goto 28 e_X6_isWord_3.2.2.2.2.1 (by decide) ?_
      refine R_ls (ls2 := [(0, vA G 3), (1, vA G (-((10 + i : Nat) : Int))), (2, vI (l2 + 1))]) [1, 2, 0] rfl ?_
      exact h
    · replace h := h.2 q
      refine R_iconst e_X6_isWord_3.2.1 ?_
      exact R_zreturn e_X6_isWord_3.2.2.1 rfl (Or.inl rfl) h
/-! KiteLand$Scanner.isReserved()Z -/
theorem e_X6_isReserved_0 : decode cX6_isReserved 0 = .ok (.lconst 0, 1) ∧ decode cX6_isReserved 1 = .ok (.lstore_n 1, 1) ∧ decode cX6_isReserved 2 = .ok (.iconst 0, 1) ∧ decode cX6_isReserved 3 = .ok (.istore_n 3, 1) ∧ decode cX6_isReserved 4 = .ok (.iload_n 3, 1) ∧ decode cX6_isReserved 5 = .ok (.ldc 74, 2) ∧ decode cX6_isReserved 7 = .ok (.invokevirtual 65, 3) ∧ decode cX6_isReserved 10 = .ok (.if_icmp .ge 55, 3) ∧ decode cX6_isReserved 13 = .ok (.ldc 74, 2) ∧ decode cX6_isReserved 15 = .ok (.iload_n 3, 1) := by decide +kernel
theorem e_X6_isReserved_1 : decode cX6_isReserved 16 = .ok (.invokevirtual 70, 3) ∧ decode cX6_isReserved 19 = .ok (.bipush 32, 2) ∧ decode cX6_isReserved 21 = .ok (.if_icmp .eq 25, 3) ∧ decode cX6_isReserved 24 = .ok (.lload_n 1, 1) ∧ decode cX6_isReserved 25 = .ok (.ldc2_w 63, 3) ∧ decode cX6_isReserved 28 = .ok (.lmul, 1) ∧ decode cX6_isReserved 29 = .ok (.ldc 74, 2) ∧ decode cX6_isReserved 31 = .ok (.iload_n 3, 1) ∧ decode cX6_isReserved 32 = .ok (.invokevirtual 70, 3) ∧ decode cX6_isReserved 35 = .ok (.bipush 97, 2) := by decide +kernel
theorem e_X6_isReserved_2 : decode cX6_isReserved 37 = .ok (.isub, 1) ∧ decode cX6_isReserved 38 = .ok (.iconst 1, 1) ∧ decode cX6_isReserved 39 = .ok (.iadd, 1) ∧ decode cX6_isReserved 40 = .ok (.i2l, 1) ∧ decode cX6_isReserved 41 = .ok (.ladd, 1) ∧ decode cX6_isReserved 42 = .ok (.lstore_n 1, 1) ∧ decode cX6_isReserved 43 = .ok (.goto 16, 3) ∧ decode cX6_isReserved 46 = .ok (.lload_n 1, 1) ∧ decode cX6_isReserved 47 = .ok (.aload_n 0, 1) ∧ decode cX6_isReserved 48 = .ok (.getfield 31, 3) := by decide +kernel
theorem e_X6_isReserved_3 : decode cX6_isReserved 51 = .ok (.lcmp, 1) ∧ decode cX6_isReserved 52 = .ok (.ifCond .ne 5, 3) ∧ decode cX6_isReserved 55 = .ok (.iconst 1, 1) ∧ decode cX6_isReserved 56 = .ok (.ireturn, 1) ∧ decode cX6_isReserved 57 = .ok (.lconst 0, 1) ∧ decode cX6_isReserved 58 = .ok (.lstore_n 1, 1) ∧ decode cX6_isReserved 59 = .ok (.iinc 3 1, 3) ∧ decode cX6_isReserved 62 = .ok (.goto (-58), 3) ∧ decode cX6_isReserved 65 = .ok (.iconst 0, 1) ∧ decode cX6_isReserved 66 = .ok (.ireturn, 1) := by decide +kernel
abbrev E_X6_isReserved_4 (G : Kg) (l1 l3 : Int) (σ : Kmem) (Q : Int → Kmem → Prop) : Prop := Ex G WX M_X6_isReserved 4 0 0 4 [(0, vA G 3), (1, vL l1), (3, vI l3)] [] σ Q
theorem S_X6_isReserved {G : Kg} {σ : Kmem} {Q : Int → Kmem → Prop}  (h : E_X6_isReserved_4 G 0 0 σ Q) : Run G WX M_X6_isReserved 4 0 0 [vA G 3] σ Q := by
  refine Run.of (by decide +kernel) (by show (1 : Nat) ≤ 4; decide) ?_
  show Ex G WX M_X6_isReserved 4 0 0 0 [(0, vA G 3)] [] σ Q
  refine R_lconst 0 e_X6_isReserved_0.1 (by decide) ?_
  refine R_lstore_n (ls2 := [(1, vL 0), (0, vA G 3)]) e_X6_isReserved_0.2.1 (by decide) rfl ?_
  refine R_iconst e_X6_isReserved_0.2.2.1 ?_
  refine R_istore_n (ls2 := [(3, vI 0), (1, vL 0), (0, vA G 3)]) e_X6_isReserved_0.2.2.2.1 (by decide) rfl ?_
  refine R_ls (ls2 := [(0, vA G 3), (1, vL 0), (3, vI 0)]) [2, 1, 0] rfl ?_
  exact h
theorem S_X6_isReserved_4 {G : Kg} {σ : Kmem} {Q : Int → Kmem → Prop} {l1 l3 : Int}  (h : (rI l3) ∧ (rI (kslen 15)) ∧ ((kslen 15 ≤ l3 → Q 0 σ) ∧ (l3 < kslen 15 → (0 ≤ l3 ∧ l3 < kslen 15) ∧ (rI (ksat 15 l3)) ∧ ((ksat 15 l3 = 32 → (rL l1) ∧ (rL (σ 3 6)) ∧ ((l1 ≠ σ 3 6 → E_X6_isReserved_4 G 0 (l3 + 1) σ Q) ∧ (l1 = σ 3 6 → Q 1 σ))) ∧ (ksat 15 l3 ≠ 32 → (0 ≤ l3 ∧ l3 < kslen 15) ∧ (rI (((ksat 15 l3) - 97) + 1)) ∧ E_X6_isReserved_4 G ((l1 * 32) + (((ksat 15 l3) - 97) + 1)) (l3 + 1) σ Q))))) : E_X6_isReserved_4 G l1 l3 σ Q := by
  refine R_iload_n e_X6_isReserved_0.2.2.2.2.1 2 rfl ?_
  refine R_ldcS (i := 15) (-25) e_X6_isReserved_0.2.2.2.2.2.1 rfl rfl ?_
  refine R_slen (i := 15) (rfl : kStrs[15]? = some (kStrD 15)) l_X6_65 e_X6_isReserved_0.2.2.2.2.2.2.1 (by decide) rfl (by show (1 : Nat) ≤ 8; decide) ?_
  obtain ⟨q1, h⟩ := h
  obtain ⟨q2, h⟩ := h
  refine R_icmp_ge 65 e_X6_isReserved_0.2.2.2.2.2.2.2.1 (by decide) q1 q2 (fun q => ?_) (fun q => ?_)
  · replace h := h.1 q
    refine R_iconst e_X6_isReserved_3.2.2.2.2.2.2.2.2.1 ?_
    exact R_zreturn e_X6_isReserved_3.2.2.2.2.2.2.2.2.2 rfl (Or.inl rfl) h
  · replace h := h.2 q
    refine R_ldcS (i := 15) (-25) e_X6_isReserved_0.2.2.2.2.2.2.2.2.1 rfl rfl ?_
    refine R_iload_n e_X6_isReserved_0.2.2.2.2.2.2.2.2.2 2 rfl ?_
    obtain ⟨q3, h⟩ := h
    refine R_sat (i := 15) (rfl : kStrs[15]? = some (kStrD 15)) l_X6_70 e_X6_isReserved_1.1 (by decide) q3 rfl (by show (0 : Nat) ≤ 8; decide) ?_
    refine R_bipush e_X6_isReserved_1.2.1 (by decide) ?_
    obtain ⟨q4, h⟩ := h
    refine R_icmp_eq 46 e_X6_isReserved_1.2.2.1 (by decide) q4 (by decide) (fun q => ?_) (fun q => ?_)
    · replace h := h.1 q
      refine R_lload_n e_X6_isReserved_2.2.2.2.2.2.2.2.1 1 rfl ?_
      refine R_aload_n e_X6_isReserved_2.2.2.2.2.2.2.2.2.1 0 rfl ?_
      refine R_getL 6 6 6 e_X6_isReserved_2.2.2.2.2.2.2.2.2.2 f_X6_31 kx_3 (fun _ _ => rfl) rfl ?_
      obtain ⟨q5, h⟩ := h
      obtain ⟨q6, h⟩ := h
      refine R_lcmp e_X6_isReserved_3.1 q5 q6 ?_
      refine R_if_ne 57 e_X6_isReserved_3.2.1 (by decide) (kcmp_r _ _) (fun q => ?_) (fun q => ?_)
      · replace h := h.1 (kcmp_ne_t.mp q)
        refine R_lconst 0 e_X6_isReserved_3.2.2.2.2.1 (by decide) ?_
        refine R_lstore_n (ls2 := [(1, vL 0), (0, vA G 3), (3, vI l3)]) e_X6_isReserved_3.2.2.2.2.2.1 (by decide) rfl ?_
        refine R_iinc (ls2 := [(3, vI (l3 + 1)), (1, vL 0), (0, vA G 3)]) e_X6_isReserved_3.2.2.2.2.2.2.1 2 rfl (by decide) rfl ?_
        refine R_goto 4 e_X6_isReserved_3.2.2.2.2.2.2.2.1 (by decide) ?_
        refine R_ls (ls2 := [(0, vA G 3), (1, vL 0), (3, vI (l3 + 1))]) [2, 1, 0] rfl ?_
        exact h
      · replace h := h.2 (kcmp_ne_f.mp q)
        refine R_iconst e_X6_isReserved_3.2.2.1 ?_
        exact R_zreturn e_X6_isReserved_3.2.2.2.1 rfl (Or.inr rfl) h
    · replace h := h.2 q
      refine R_lload_n e_X6_isReserved_1.2.2.2.1 1 rfl ?_
      refine R_ldc2 (32) k_X6_63 e_X6_isReserved_1.2.2.2.2.1 ?_
      refine R_lmul e_X6_isReserved_1.2.2.2.2.2.1 ?_
      refine R_ldcS (i := 15) (-25) e_X6_isReserved_1.2.2.2.2.2.2.1 rfl rfl ?_
      refine R_iload_n e_X6_isReserved_1.2.2.2.2.2.2.2.1 2 rfl ?_
      obtain ⟨q7, h⟩ := h
      refine R_sat (i := 15) (rfl : kStrs[15]? = some (kStrD 15)) l_X6_70 e_X6_isReserved_1.2.2.2.2.2.2.2.2.1 (by decide) q7 rfl (by show (2 : Nat) ≤ 8; decide) ?_
      refine R_bipush e_X6_isReserved_1.2.2.2.2.2.2.2.2.2 (by decide) ?_
      refine R_isub e_X6_isReserved_2.1 ?_
      refine R_iconst e_X6_isReserved_2.2.1 ?_
      refine R_iadd e_X6_isReserved_2.2.2.1 ?_
      obtain ⟨q8, h⟩ := h
      refine R_i2l e_X6_isReserved_2.2.2.2.1 q8 ?_
      refine R_ladd e_X6_isReserved_2.2.2.2.2.1 ?_
      refine R_lstore_n (ls2 := [(1, vL ((l1 * 32) + (((ksat 15 l3) - 97) + 1))), (0, vA G 3), (3, vI l3)]) e_X6_isReserved_2.2.2.2.2.2.1 (by decide) rfl ?_
      refine R_goto 59 e_X6_isReserved_2.2.2.2.2.2.2.1 (by decide) ?_
      refine R_iinc (ls2 := [(3, vI (l3 + 1)), (1, vL ((l1 * 32) + (((ksat 15 l3) - 97) + 1))), (0, vA G 3)]) e_X6_isReserved_3.2.2.2.2.2.2.1 2 rfl (by decide) rfl ?_
      refine R_goto 4 e_X6_isReserved_3.2.2.2.2.2.2.2.1 (by decide) ?_
      refine R_ls (ls2 := [(0, vA G 3), (1, vL ((l1 * 32) + (((ksat 15 l3) - 97) + 1))), (3, vI (l3 + 1))]) [2, 1, 0] rfl ?_
      exact h
