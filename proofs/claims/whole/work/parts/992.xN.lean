/-! KiteLand$Seasons.kindOf(LKiteLand$Scanner;)I -/
theorem e_X7_kindOf_0 : decode cX7_kindOf 0 = .ok (.aload_n 1, 1) ∧ decode cX7_kindOf 1 = .ok (.ldc 91, 2) ∧ decode cX7_kindOf 3 = .ok (.invokevirtual 61, 3) ∧ decode cX7_kindOf 6 = .ok (.ifCond .eq 5, 3) ∧ decode cX7_kindOf 9 = .ok (.iconst 1, 1) ∧ decode cX7_kindOf 10 = .ok (.ireturn, 1) ∧ decode cX7_kindOf 11 = .ok (.aload_n 1, 1) ∧ decode cX7_kindOf 12 = .ok (.ldc 93, 2) ∧ decode cX7_kindOf 14 = .ok (.invokevirtual 61, 3) ∧ decode cX7_kindOf 17 = .ok (.ifCond .eq 5, 3) := by decide +kernel
theorem e_X7_kindOf_1 : decode cX7_kindOf 20 = .ok (.iconst 2, 1) ∧ decode cX7_kindOf 21 = .ok (.ireturn, 1) ∧ decode cX7_kindOf 22 = .ok (.aload_n 1, 1) ∧ decode cX7_kindOf 23 = .ok (.ldc 95, 2) ∧ decode cX7_kindOf 25 = .ok (.invokevirtual 61, 3) ∧ decode cX7_kindOf 28 = .ok (.ifCond .eq 5, 3) ∧ decode cX7_kindOf 31 = .ok (.iconst 3, 1) ∧ decode cX7_kindOf 32 = .ok (.ireturn, 1) ∧ decode cX7_kindOf 33 = .ok (.aload_n 1, 1) ∧ decode cX7_kindOf 34 = .ok (.ldc 97, 2) := by decide +kernel
theorem e_X7_kindOf_2 : decode cX7_kindOf 36 = .ok (.invokevirtual 61, 3) ∧ decode cX7_kindOf 39 = .ok (.ifCond .eq 5, 3) ∧ decode cX7_kindOf 42 = .ok (.iconst 4, 1) ∧ decode cX7_kindOf 43 = .ok (.ireturn, 1) ∧ decode cX7_kindOf 44 = .ok (.aload_n 1, 1) ∧ decode cX7_kindOf 45 = .ok (.ldc 99, 2) ∧ decode cX7_kindOf 47 = .ok (.invokevirtual 61, 3) ∧ decode cX7_kindOf 50 = .ok (.ifCond .eq 5, 3) ∧ decode cX7_kindOf 53 = .ok (.iconst 5, 1) ∧ decode cX7_kindOf 54 = .ok (.ireturn, 1) := by decide +kernel
theorem e_X7_kindOf_3 : decode cX7_kindOf 55 = .ok (.aload_n 1, 1) ∧ decode cX7_kindOf 56 = .ok (.ldc 101, 2) ∧ decode cX7_kindOf 58 = .ok (.invokevirtual 61, 3) ∧ decode cX7_kindOf 61 = .ok (.ifCond .eq 6, 3) ∧ decode cX7_kindOf 64 = .ok (.bipush 6, 2) ∧ decode cX7_kindOf 66 = .ok (.ireturn, 1) ∧ decode cX7_kindOf 67 = .ok (.aload_n 1, 1) ∧ decode cX7_kindOf 68 = .ok (.ldc 103, 2) ∧ decode cX7_kindOf 70 = .ok (.invokevirtual 61, 3) ∧ decode cX7_kindOf 73 = .ok (.ifCond .eq 6, 3) := by decide +kernel
theorem e_X7_kindOf_4 : decode cX7_kindOf 76 = .ok (.bipush 7, 2) ∧ decode cX7_kindOf 78 = .ok (.ireturn, 1) ∧ decode cX7_kindOf 79 = .ok (.aload_n 1, 1) ∧ decode cX7_kindOf 80 = .ok (.ldc 105, 2) ∧ decode cX7_kindOf 82 = .ok (.invokevirtual 61, 3) ∧ decode cX7_kindOf 85 = .ok (.ifCond .eq 8, 3) ∧ decode cX7_kindOf 88 = .ok (.bipush 8, 2) ∧ decode cX7_kindOf 90 = .ok (.goto 4, 3) ∧ decode cX7_kindOf 93 = .ok (.iconst (-1), 1) ∧ decode cX7_kindOf 94 = .ok (.ireturn, 1) := by decide +kernel
theorem S_X7_kindOf {G : Kg} {σ : Kmem} {Q : Int → Kmem → Prop} {s : Int} (hs : isS s) (h : (xT0 σ ∧ isStr ((-33))) ∧ ((¬ (xW σ ((-33))) → (xT0 σ ∧ isStr ((-34))) ∧ ((¬ (xW σ ((-34))) → (xT0 σ ∧ isStr ((-35))) ∧ ((¬ (xW σ ((-35))) → (xT0 σ ∧ isStr ((-36))) ∧ ((¬ (xW σ ((-36))) → (xT0 σ ∧ isStr ((-37))) ∧ ((¬ (xW σ ((-37))) → (xT0 σ ∧ isStr ((-26))) ∧ ((¬ (xW σ ((-26))) → (xT0 σ ∧ isStr ((-27))) ∧ ((¬ (xW σ ((-27))) → (xT0 σ ∧ isStr ((-28))) ∧ ((¬ (xW σ ((-28))) → Q (-1) σ) ∧ ((xW σ ((-28))) → Q 8 σ))) ∧ ((xW σ ((-27))) → Q 7 σ))) ∧ ((xW σ ((-26))) → Q 6 σ))) ∧ ((xW σ ((-37))) → Q 5 σ))) ∧ ((xW σ ((-36))) → Q 4 σ))) ∧ ((xW σ ((-35))) → Q 3 σ))) ∧ ((xW σ ((-34))) → Q 2 σ))) ∧ ((xW σ ((-33))) → Q 1 σ))) : Run G WX M_X7_kindOf 5 0 0 [vA G s, vA G 3] σ Q := by
  refine Run.of (by decide +kernel) (by show (2 : Nat) ≤ 2; decide) ?_
  show Ex G WX M_X7_kindOf 5 0 0 0 [(0, vA G s), (1, vA G 3)] [] σ Q
  refine R_aload_n e_X7_kindOf_0.1 1 rfl ?_
  refine R_ldcS (i := 23) (-33) e_X7_kindOf_0.2.1 rfl rfl ?_
  obtain ⟨q3, h⟩ := h
  refine R_callV (mc := 0) (ms := 0) (mc' := 0) (ms' := 0) (M' := M_X6_isWord) (d' := 4) (as := [vA G (-33)]) (st := []) 6 1 e_X7_kindOf_0.2.2.1 (kCVof m_X6_isWord l_X7_61) rfl (by decide) kx_3 (by decide) (by decide) rfl rfl (by show (0 : Nat) ≤ 8; decide) ?_
  refine Run.mono (P_X6_isWord q3) (fun rr ss e => ?_)
  obtain ⟨e1, e2⟩ := e
  refine R_eqs (st2 := [vI (kb (xW σ ((-33))))]) (σ2 := σ) (by rw [e1]; rfl) e2 ?_
  refine R_if_eq 11 e_X7_kindOf_0.2.2.2.1 (by decide) (kb_r _) (fun q => ?_) (fun q => ?_)
  · replace h := h.1 (kb_f q)
    refine R_aload_n e_X7_kindOf_0.2.2.2.2.2.2.1 1 rfl ?_
    refine R_ldcS (i := 24) (-34) e_X7_kindOf_0.2.2.2.2.2.2.2.1 rfl rfl ?_
    obtain ⟨q6, h⟩ := h
    refine R_callV (mc := 0) (ms := 0) (mc' := 0) (ms' := 0) (M' := M_X6_isWord) (d' := 4) (as := [vA G (-34)]) (st := []) 6 1 e_X7_kindOf_0.2.2.2.2.2.2.2.2.1 (kCVof m_X6_isWord l_X7_61) rfl (by decide) kx_3 (by decide) (by decide) rfl rfl (by show (0 : Nat) ≤ 8; decide) ?_
    refine Run.mono (P_X6_isWord q6) (fun rr ss e => ?_)
    obtain ⟨e1, e2⟩ := e
    refine R_eqs (st2 := [vI (kb (xW σ ((-34))))]) (σ2 := σ) (by rw [e1]; rfl) e2 ?_
    refine R_if_eq 22 e_X7_kindOf_0.2.2.2.2.2.2.2.2.2 (by decide) (kb_r _) (fun q => ?_) (fun q => ?_)
    · replace h := h.1 (kb_f q)
      refine R_aload_n e_X7_kindOf_1.2.2.1 1 rfl ?_
      refine R_ldcS (i := 25) (-35) e_X7_kindOf_1.2.2.2.1 rfl rfl ?_
      obtain ⟨q9, h⟩ := h
      refine R_callV (mc := 0) (ms := 0) (mc' := 0) (ms' := 0) (M' := M_X6_isWord) (d' := 4) (as := [vA G (-35)]) (st := []) 6 1 e_X7_kindOf_1.2.2.2.2.1 (kCVof m_X6_isWord l_X7_61) rfl (by decide) kx_3 (by decide) (by decide) rfl rfl (by show (0 : Nat) ≤ 8; decide) ?_
      refine Run.mono (P_X6_isWord q9) (fun rr ss e => ?_)
      obtain ⟨e1, e2⟩ := e
      refine R_eqs (st2 := [vI (kb (xW σ ((-35))))]) (σ2 := σ) (by rw [e1]; rfl) e2 ?_
      refine R_if_eq 33 e_X7_kindOf_1.2.2.2.2.2.1 (by decide) (kb_r _) (fun q => ?_) (fun q => ?_)
      · replace h := h.1 (kb_f q)
        refine R_aload_n e_X7_kindOf_1.2.2.2.2.2.2.2.2.1 1 rfl ?_
        refine R_ldcS (i := 26) (-36) e_X7_kindOf_1.2.2.2.2.2.2.2.2.2 rfl rfl ?_
        obtain ⟨q12, h⟩ := h
        refine R_callV (mc := 0) (ms := 0) (mc' := 0) (ms' := 0) (M' := M_X6_isWord) (d' := 4) (as := [vA G (-36)]) (st := []) 6 1 e_X7_kindOf_2.1 (kCVof m_X6_isWord l_X7_61) rfl (by decide) kx_3 (by decide) (by decide) rfl rfl (by show (0 : Nat) ≤ 8; decide) ?_
        refine Run.mono (P_X6_isWord q12) (fun rr ss e => ?_)
        obtain ⟨e1, e2⟩ := e
        refine R_eqs (st2 := [vI (kb (xW σ ((-36))))]) (σ2 := σ) (by rw [e1]; rfl) e2 ?_
        refine R_if_eq 44 e_X7_kindOf_2.2.1 (by decide) (kb_r _) (fun q => ?_) (fun q => ?_)
        · replace h := h.1 (kb_f q)
          refine R_aload_n e_X7_kindOf_2.2.2.2.2.1 1 rfl ?_
          refine R_ldcS (i := 27) (-37) e_X7_kindOf_2.2.2.2.2.2.1 rfl rfl ?_
          obtain ⟨q15, h⟩ := h
          refine R_callV (mc := 0) (ms := 0) (mc' := 0) (ms' := 0) (M' := M_X6_isWord) (d' := 4) (as := [vA G (-37)]) (st := []) 6 1 e_X7_kindOf_2.2.2.2.2.2.2.1 (kCVof m_X6_isWord l_X7_61) rfl (by decide) kx_3 (by decide) (by decide) rfl rfl (by show (0 : Nat) ≤ 8; decide) ?_
          refine Run.mono (P_X6_isWord q15) (fun rr ss e => ?_)
          obtain ⟨e1, e2⟩ := e
          refine R_eqs (st2 := [vI (kb (xW σ ((-37))))]) (σ2 := σ) (by rw [e1]; rfl) e2 ?_
          refine R_if_eq 55 e_X7_kindOf_2.2.2.2.2.2.2.2.1 (by decide) (kb_r _) (fun q => ?_) (fun q => ?_)
          · replace h := h.1 (kb_f q)
            refine R_aload_n e_X7_kindOf_3.1 1 rfl ?_
            refine R_ldcS (i := 16) (-26) e_X7_kindOf_3.2.1 rfl rfl ?_
            obtain ⟨q18, h⟩ := h
            refine R_callV (mc := 0) (ms := 0) (mc' := 0) (ms' := 0) (M' := M_X6_isWord) (d' := 4) (as := [vA G (-26)]) (st := []) 6 1 e_X7_kindOf_3.2.2.1 (kCVof m_X6_isWord l_X7_61) rfl (by decide) kx_3 (by decide) (by decide) rfl rfl (by show (0 : Nat) ≤ 8; decide) ?_
            refine Run.mono (P_X6_isWord q18) (fun rr ss e => ?_)
            obtain ⟨e1, e2⟩ := e
            refine R_eqs (st2 := [vI (kb (xW σ ((-26))))]) (σ2 := σ) (by rw [e1]; rfl) e2 ?_
            refine R_if_eq 67 e_X7_kindOf_3.2.2.2.1 (by decide) (kb_r _) (fun q => ?_) (fun q => ?_)
            · replace h := h.1 (kb_f q)
              refine R_aload_n e_X7_kindOf_3.2.2.2.2.2.2.1 1 rfl ?_
              refine R_ldcS (i := 17) (-27) e_X7_kindOf_3.2.2.2.2.2.2.2.1 rfl rfl ?_
              obtain ⟨q21, h⟩ := h
              refine R_callV (mc := 0) (ms := 0) (mc' := 0) (ms' := 0) (M' := M_X6_isWord) (d' := 4) (as := [vA G (-27)]) (st := []) 6 1 e_X7_kindOf_3.2.2.2.2.2.2.2.2.1 (kCVof m_X6_isWord l_X7_61) rfl (by decide) kx_3 (by decide) (by decide) rfl rfl (by show (0 : Nat) ≤ 8; decide) ?_
              refine Run.mono (P_X6_isWord q21) (fun rr ss e => ?_)
              obtain ⟨e1, e2⟩ := e
              refine R_eqs (st2 := [vI (kb (xW σ ((-27))))]) (σ2 := σ) (by rw [e1]; rfl) e2 ?_
              refine R_if_eq 79 e_X7_kindOf_3.2.2.2.2.2.2.2.2.2 (by decide) (kb_r _) (fun q => ?_) (fun q => ?_)
              · replace h := h.1 (kb_f q)
                refine R_aload_n e_X7_kindOf_4.2.2.1 1 rfl ?_
                refine R_ldcS (i := 18) (-28) e_X7_kindOf_4.2.2.2.1 rfl rfl ?_
                obtain ⟨q24, h⟩ := h
                refine R_callV (mc := 0) (ms := 0) (mc' := 0) (ms' := 0) (M' := M_X6_isWord) (d' := 4) (as := [vA G (-28)]) (st := []) 6 1 e_X7_kindOf_4.2.2.2.2.1 (kCVof m_X6_isWord l_X7_61) rfl (by decide) kx_3 (by decide) (by decide) rfl rfl (by show (0 : Nat) ≤ 8; decide) ?_
                refine Run.mono (P_X6_isWord q24) (fun rr ss e => ?_)
                obtain ⟨e1, e2⟩ := e
                refine R_eqs (st2 := [vI (kb (xW σ ((-28))))]) (σ2 := σ) (by rw [e1]; rfl) e2 ?_
                refine R_if_eq 93 e_X7_kindOf_4.2.2.2.2.2.1 (by decide) (kb_r _) (fun q => ?_) (fun q => ?_)
                · replace h := h.1 (kb_f q)
                  refine R_iconst e_X7_kindOf_4.2.2.2.2.2.2.2.2.1 ?_
                  exact R_ireturn e_X7_kindOf_4.2.2.2.2.2.2.2.2.2 rfl h
                · replace h := h.2 (kb_t q)
                  refine R_bipush e_X7_kindOf_4.2.2.2.2.2.2.1 (by decide) ?_
                  refine R_goto 94 e_X7_kindOf_4.2.2.2.2.2.2.2.1 (by decide) ?_
                  exact R_ireturn e_X7_kindOf_4.2.2.2.2.2.2.2.2.2 rfl h
              · replace h := h.2 (kb_t q)
                refine R_bipush e_X7_kindOf_4.1 (by decide) ?_
                exact R_ireturn e_X7_kindOf_4.2.1 rfl h
            · replace h := h.2 (kb_t q)
              refine R_bipush e_X7_kindOf_3.2.2.2.2.1 (by decide) ?_
              exact R_ireturn e_X7_kindOf_3.2.2.2.2.2.1 rfl h
          · replace h := h.2 (kb_t q)
            refine R_iconst e_X7_kindOf_2.2.2.2.2.2.2.2.2.1 ?_
            exact R_ireturn e_X7_kindOf_2.2.2.2.2.2.2.2.2.2 rfl h
        · replace h := h.2 (kb_t q)
          refine R_iconst e_X7_kindOf_2.2.2.1 ?_
          exact R_ireturn e_X7_kindOf_2.2.2.2.1 rfl h
      · replace h := h.2 (kb_t q)
        refine R_iconst e_X7_kindOf_1.2.2.2.2.2.2.1 ?_
        exact R_ireturn e_X7_kindOf_1.2.2.2.2.2.2.2.1 rfl h
    · replace h := h.2 (kb_t q)
      refine R_iconst e_X7_kindOf_1.1 ?_
      exact R_ireturn e_X7_kindOf_1.2.1 rfl h
  · replace h := h.2 (kb_t q)
    refine R_iconst e_X7_kindOf_0.2.2.2.2.1 ?_
    exact R_ireturn e_X7_kindOf_0.2.2.2.2.2.1 rfl h
/-! KiteLand$Seasons.readThing(LKiteLand$Scanner;I)Z -/
theorem e_X7_readThing_0 : decode cX7_readThing 0 = .ok (.iload_n 2, 1) ∧ decode cX7_readThing 1 = .ok (.iconst (-1), 1) ∧ decode cX7_readThing 2 = .ok (.if_icmp .ne 9, 3) ∧ decode cX7_readThing 5 = .ok (.aload_n 1, 1) ∧ decode cX7_readThing 6 = .ok (.iconst 3, 1) ∧ decode cX7_readThing 7 = .ok (.invokevirtual 80, 3) ∧ decode cX7_readThing 10 = .ok (.ireturn, 1) ∧ decode cX7_readThing 11 = .ok (.aload_n 0, 1) ∧ decode cX7_readThing 12 = .ok (.getfield 29, 3) ∧ decode cX7_readThing 15 = .ok (.aload_n 0, 1) := by decide +kernel
theorem e_X7_readThing_1 : decode cX7_readThing 16 = .ok (.getfield 19, 3) ∧ decode cX7_readThing 19 = .ok (.iload_n 2, 1) ∧ decode cX7_readThing 20 = .ok (.iastore, 1) ∧ decode cX7_readThing 21 = .ok (.aload_n 1, 1) ∧ decode cX7_readThing 22 = .ok (.invokevirtual 84, 3) ∧ decode cX7_readThing 25 = .ok (.iconst 1, 1) ∧ decode cX7_readThing 26 = .ok (.ireturn, 1) := by decide +kernel
theorem S_X7_readThing {G : Kg} {σ : Kmem} {Q : Int → Kmem → Prop} {s l2 : Int} (hs : isS s) (h : (rI l2) ∧ ((l2 ≠ -1 → (0 ≤ σ s 2 ∧ σ s 2 < 60) ∧ Run G WX M_X6_next 1 0 0 [vA G 3] (kup σ (s + 3) (σ s 2) l2) (fun r3 s4 => Q 1 s4)) ∧ (l2 = -1 → (rI (σ 3 2)) ∧ Q 0 (xF σ (3))))) : Run G WX M_X7_readThing 2 0 0 [vA G s, vA G 3, vI l2] σ Q := by
  refine Run.of (by decide +kernel) (by show (3 : Nat) ≤ 3; decide) ?_
  show Ex G WX M_X7_readThing 2 0 0 0 [(0, vA G s), (1, vA G 3), (2, vI l2)] [] σ Q
  refine R_iload_n e_X7_readThing_0.1 2 rfl ?_
  refine R_iconst e_X7_readThing_0.2.1 ?_
  obtain ⟨q1, h⟩ := h
  refine R_icmp_ne 11 e_X7_readThing_0.2.2.1 (by decide) q1 (by decide) (fun q => ?_) (fun q => ?_)
  · replace h := h.1 q
    refine R_aload_n e_X7_readThing_0.2.2.2.2.2.2.2.1 0 rfl ?_
    refine R_getA 7 5 (s + 3) e_X7_readThing_0.2.2.2.2.2.2.2.2.1 f_X7_29 (kS_self hs) (fun _ _ => rfl) (kS_r5 hs) (kS_n3 hs) ?_
    refine R_aload_n e_X7_readThing_0.2.2.2.2.2.2.2.2.2 0 rfl ?_
    refine R_getI 7 2 2 e_X7_readThing_1.1 f_X7_19 (kS_self hs) (fun _ _ => rfl) rfl ?_
    refine R_iload_n e_X7_readThing_1.2.1 2 rfl ?_
    obtain ⟨q2, h⟩ := h
    refine R_iast 60 WX_ok e_X7_readThing_1.2.2.1 (kS_things hs) q2 ?_
    refine R_aload_n e_X7_readThing_1.2.2.2.1 1 rfl ?_
    refine R_callV (mc := 0) (ms := 0) (mc' := 0) (ms' := 0) (M' := M_X6_next) (d' := 1) (as := []) (st := []) 6 0 e_X7_readThing_1.2.2.2.2.1 (kCVof m_X6_next l_X7_84) rfl (by decide) kx_3 (by decide) (by decide) rfl rfl (by show (0 : Nat) ≤ 8; decide) ?_
    refine Run.mono h (fun r3 s4 h => ?_)
    refine R_eqs (st2 := []) rfl rfl ?_
    refine R_iconst e_X7_readThing_1.2.2.2.2.2.1 ?_
    exact R_zreturn e_X7_readThing_1.2.2.2.2.2.2 rfl (Or.inr rfl) h
  · replace h := h.2 q
    refine R_aload_n e_X7_readThing_0.2.2.2.1 1 rfl ?_
    refine R_iconst e_X7_readThing_0.2.2.2.2.1 ?_
    obtain ⟨q7, h⟩ := h
    refine R_callV (mc := 0) (ms := 0) (mc' := 0) (ms' := 0) (M' := M_X6_fail) (d' := 0) (as := [vI 3]) (st := []) 6 1 e_X7_readThing_0.2.2.2.2.2.1 (kCVof m_X6_fail l_X7_80) rfl (by decide) kx_3 (by decide) (by decide) rfl rfl (by show (0 : Nat) ≤ 8; decide) ?_
    refine Run.mono (P_X6_fail q7) (fun rr ss e => ?_)
    obtain ⟨e1, e2⟩ := e
    refine R_eqs (st2 := [vI 0]) (σ2 := (xF σ (3))) (by rw [e1]; rfl) e2 ?_
    exact R_zreturn e_X7_readThing_0.2.2.2.2.2.2.1 rfl (Or.inl rfl) h
/-! KiteLand$Seasons.readKite(LKiteLand$Scanner;LKiteLand$County;)Z -/
theorem e_X7_readKite_0 : decode cX7_readKite 0 = .ok (.aload_n 1, 1) ∧ decode cX7_readKite 1 = .ok (.invokevirtual 119, 3) ∧ decode cX7_readKite 4 = .ok (.ifCond .eq 23, 3) ∧ decode cX7_readKite 7 = .ok (.aload_n 0, 1) ∧ decode cX7_readKite 8 = .ok (.aload_n 1, 1) ∧ decode cX7_readKite 9 = .ok (.aload_n 2, 1) ∧ decode cX7_readKite 10 = .ok (.aload_n 1, 1) ∧ decode cX7_readKite 11 = .ok (.getfield 122, 3) ∧ decode cX7_readKite 14 = .ok (.invokevirtual 153, 3) ∧ decode cX7_readKite 17 = .ok (.invokevirtual 132, 3) := by decide +kernel
theorem e_X7_readKite_1 : decode cX7_readKite 20 = .ok (.ifCond .eq 7, 3) ∧ decode cX7_readKite 23 = .ok (.iconst 1, 1) ∧ decode cX7_readKite 24 = .ok (.goto 4, 3) ∧ decode cX7_readKite 27 = .ok (.iconst 0, 1) ∧ decode cX7_readKite 28 = .ok (.ireturn, 1) := by decide +kernel
theorem S_X7_readKite {G : Kg} {σ : Kmem} {Q : Int → Kmem → Prop} {s c : Int} (hs : isS s) (hc : isC c) (h : Run G WX M_X6_isNameHere 5 0 0 [vA G 3] σ (fun r1 s2 => (rI r1) ∧ ((r1 = 0 → Q 0 s2) ∧ (r1 ≠ 0 → Run G WX M_X0_kiteNamed 0 0 0 [vA G c, vL (s2 3 6)] s2 (fun r4 s5 => Run G WX M_X7_readThing 2 0 0 [vA G s, vA G 3, vI r4] s5 (fun r6 s7 => (rI r6) ∧ ((r6 = 0 → Q 0 s7) ∧ (r6 ≠ 0 → Q 1 s7)))))))) : Run G WX M_X7_readKite 6 0 0 [vA G s, vA G 3, vA G c] σ Q := by
  refine Run.of (by decide +kernel) (by show (3 : Nat) ≤ 3; decide) ?_
  show Ex G WX M_X7_readKite 6 0 0 0 [(0, vA G s), (1, vA G 3), (2, vA G c)] [] σ Q
  refine R_aload_n e_X7_readKite_0.1 1 rfl ?_
  refine R_callV (mc := 0) (ms := 0) (mc' := 0) (ms' := 0) (M' := M_X6_isNameHere) (d' := 5) (as := []) (st := []) 6 0 e_X7_readKite_0.2.1 (kCVof m_X6_isNameHere l_X7_119) rfl (by decide) kx_3 (by decide) (by decide) rfl rfl (by show (0 : Nat) ≤ 8; decide) ?_
  refine Run.mono h (fun r1 s2 h => ?_)
  refine R_eqs (st2 := [vI r1]) rfl rfl ?_
  obtain ⟨q3, h⟩ := h
  refine R_if_eq 27 e_X7_readKite_0.2.2.1 (by decide) q3  (fun q => ?_) (fun q => ?_)
  · replace h := h.1 q
    refine R_iconst e_X7_readKite_1.2.2.2.1 ?_
    exact R_zreturn e_X7_readKite_1.2.2.2.2 rfl (Or.inl rfl) h
  · replace h := h.2 q
    refine R_aload_n e_X7_readKite_0.2.2.2.1 0 rfl ?_
    refine R_aload_n e_X7_readKite_0.2.2.2.2.1 1 rfl ?_
    refine R_aload_n e_X7_readKite_0.2.2.2.2.2.1 2 rfl ?_
    refine R_aload_n e_X7_readKite_0.2.2.2.2.2.2.1 1 rfl ?_
    refine R_getL 6 6 6 e_X7_readKite_0.2.2.2.2.2.2.2.1 f_X7_122 kx_3 (fun _ _ => rfl) rfl ?_
    refine R_callV (mc := 0) (ms := 0) (mc' := 0) (ms' := 0) (M' := M_X0_kiteNamed) (d' := 0) (as := [vL (s2 3 6)]) (st := [vA G 3, vA G s]) 0 1 e_X7_readKite_0.2.2.2.2.2.2.2.2.1 (kCVof m_X0_kiteNamed l_X7_153) rfl (by decide) (kC_self hc) (by decide) (by decide) rfl rfl (by show (2 : Nat) ≤ 8; decide) ?_
    refine Run.mono h (fun r4 s5 h => ?_)
    refine R_eqs (st2 := [vI r4, vA G 3, vA G s]) rfl rfl ?_
    refine R_callV (mc := 0) (ms := 0) (mc' := 0) (ms' := 0) (M' := M_X7_readThing) (d' := 2) (as := [vA G 3, vI r4]) (st := []) 7 2 e_X7_readKite_0.2.2.2.2.2.2.2.2.2 (kCVof m_X7_readThing l_X7_132) rfl (by decide) (kS_self hs) (by decide) (by decide) rfl rfl (by show (0 : Nat) ≤ 8; decide) ?_
    refine Run.mono h (fun r6 s7 h => ?_)
    refine R_eqs (st2 := [vI r6]) rfl rfl ?_
    obtain ⟨q8, h⟩ := h
    refine R_if_eq 27 e_X7_readKite_1.1 (by decide) q8  (fun q => ?_) (fun q => ?_)
    · replace h := h.1 q
      refine R_iconst e_X7_readKite_1.2.2.2.1 ?_
      exact R_zreturn e_X7_readKite_1.2.2.2.2 rfl (Or.inl rfl) h
    · replace h := h.2 q
      refine R_iconst e_X7_readKite_1.2.1 ?_
      refine R_goto 28 e_X7_readKite_1.2.2.1 (by decide) ?_
      exact R_zreturn e_X7_readKite_1.2.2.2.2 rfl (Or.inr rfl) h
/-! KiteLand$Seasons.readNumber(LKiteLand$Scanner;II)Z -/
theorem e_X7_readNumber_0 : decode cX7_readNumber 0 = .ok (.aload_n 1, 1) ∧ decode cX7_readNumber 1 = .ok (.iload_n 2, 1) ∧ decode cX7_readNumber 2 = .ok (.iload_n 3, 1) ∧ decode cX7_readNumber 3 = .ok (.invokevirtual 146, 3) ∧ decode cX7_readNumber 6 = .ok (.ifCond .ne 5, 3) ∧ decode cX7_readNumber 9 = .ok (.iconst 0, 1) ∧ decode cX7_readNumber 10 = .ok (.ireturn, 1) ∧ decode cX7_readNumber 11 = .ok (.aload_n 0, 1) ∧ decode cX7_readNumber 12 = .ok (.getfield 32, 3) ∧ decode cX7_readNumber 15 = .ok (.aload_n 0, 1) := by decide +kernel
theorem e_X7_readNumber_1 : decode cX7_readNumber 16 = .ok (.getfield 19, 3) ∧ decode cX7_readNumber 19 = .ok (.aload_n 1, 1) ∧ decode cX7_readNumber 20 = .ok (.getfield 150, 3) ∧ decode cX7_readNumber 23 = .ok (.iastore, 1) ∧ decode cX7_readNumber 24 = .ok (.iconst 1, 1) ∧ decode cX7_readNumber 25 = .ok (.ireturn, 1) := by decide +kernel
theorem S_X7_readNumber {G : Kg} {σ : Kmem} {Q : Int → Kmem → Prop} {s l2 l3 : Int} (hs : isS s) (h : Run G WX M_X6_takeNumber 2 0 0 [vA G 3, vI l2, vI l3] σ (fun r1 s2 => (rI r1) ∧ ((r1 ≠ 0 → (0 ≤ s2 s 2 ∧ s2 s 2 < 60) ∧ Q 1 (kup s2 (s + 4) (s2 s 2) (s2 3 7))) ∧ (r1 = 0 → Q 0 s2)))) : Run G WX M_X7_readNumber 3 0 0 [vA G s, vA G 3, vI l2, vI l3] σ Q := by
  refine Run.of (by decide +kernel) (by show (4 : Nat) ≤ 4; decide) ?_
  show Ex G WX M_X7_readNumber 3 0 0 0 [(0, vA G s), (1, vA G 3), (2, vI l2), (3, vI l3)] [] σ Q
  refine R_aload_n e_X7_readNumber_0.1 1 rfl ?_
  refine R_iload_n e_X7_readNumber_0.2.1 2 rfl ?_
  refine R_iload_n e_X7_readNumber_0.2.2.1 3 rfl ?_
  refine R_callV (mc := 0) (ms := 0) (mc' := 0) (ms' := 0) (M' := M_X6_takeNumber) (d' := 2) (as := [vI l2, vI l3]) (st := []) 6 2 e_X7_readNumber_0.2.2.2.1 (kCVof m_X6_takeNumber l_X7_146) rfl (by decide) kx_3 (by decide) (by decide) rfl rfl (by show (0 : Nat) ≤ 8; decide) ?_
  refine Run.mono h (fun r1 s2 h => ?_)
  refine R_eqs (st2 := [vI r1]) rfl rfl ?_
  obtain ⟨q3, h⟩ := h
  refine R_if_ne 11 e_X7_readNumber_0.2.2.2.2.1 (by decide) q3  (fun q => ?_) (fun q => ?_)
  · replace h := h.1 q
    refine R_aload_n e_X7_readNumber_0.2.2.2.2.2.2.2.1 0 rfl ?_
    refine R_getA 7 6 (s + 4) e_X7_readNumber_0.2.2.2.2.2.2.2.2.1 f_X7_32 (kS_self hs) (fun _ _ => rfl) (kS_r6 hs) (kS_n4 hs) ?_
    refine R_aload_n e_X7_readNumber_0.2.2.2.2.2.2.2.2.2 0 rfl ?_
    refine R_getI 7 2 2 e_X7_readNumber_1.1 f_X7_19 (kS_self hs) (fun _ _ => rfl) rfl ?_
    refine R_aload_n e_X7_readNumber_1.2.1 1 rfl ?_
    refine R_getI 6 7 7 e_X7_readNumber_1.2.2.1 f_X7_150 kx_3 (fun _ _ => rfl) rfl ?_
    obtain ⟨q4, h⟩ := h
    refine R_iast 60 WX_ok e_X7_readNumber_1.2.2.2.1 (kS_nums hs) q4 ?_
    refine R_iconst e_X7_readNumber_1.2.2.2.2.1 ?_
    exact R_zreturn e_X7_readNumber_1.2.2.2.2.2 rfl (Or.inr rfl) h
  · replace h := h.2 q
    refine R_iconst e_X7_readNumber_0.2.2.2.2.2.1 ?_
    exact R_zreturn e_X7_readNumber_0.2.2.2.2.2.2.1 rfl (Or.inl rfl) h
/-! KiteLand$Seasons.readTest(LKiteLand$Scanner;LKiteLand$County;)Z -/
theorem e_X7_readTest_0 : decode cX7_readTest 0 = .ok (.aload_n 1, 1) ∧ decode cX7_readTest 1 = .ok (.ldc 117, 2) ∧ decode cX7_readTest 3 = .ok (.invokevirtual 61, 3) ∧ decode cX7_readTest 6 = .ok (.ifCond .eq 46, 3) ∧ decode cX7_readTest 9 = .ok (.aload_n 1, 1) ∧ decode cX7_readTest 10 = .ok (.invokevirtual 84, 3) ∧ decode cX7_readTest 13 = .ok (.aload_n 0, 1) ∧ decode cX7_readTest 14 = .ok (.getfield 26, 3) ∧ decode cX7_readTest 17 = .ok (.aload_n 0, 1) ∧ decode cX7_readTest 18 = .ok (.getfield 19, 3) := by decide +kernel
theorem e_X7_readTest_1 : decode cX7_readTest 21 = .ok (.iconst 4, 1) ∧ decode cX7_readTest 22 = .ok (.iastore, 1) ∧ decode cX7_readTest 23 = .ok (.aload_n 1, 1) ∧ decode cX7_readTest 24 = .ok (.invokevirtual 119, 3) ∧ decode cX7_readTest 27 = .ok (.ifCond .eq 23, 3) ∧ decode cX7_readTest 30 = .ok (.aload_n 0, 1) ∧ decode cX7_readTest 31 = .ok (.aload_n 1, 1) ∧ decode cX7_readTest 32 = .ok (.aload_n 2, 1) ∧ decode cX7_readTest 33 = .ok (.aload_n 1, 1) ∧ decode cX7_readTest 34 = .ok (.getfield 122, 3) := by decide +kernel
theorem e_X7_readTest_2 : decode cX7_readTest 37 = .ok (.invokevirtual 126, 3) ∧ decode cX7_readTest 40 = .ok (.invokevirtual 132, 3) ∧ decode cX7_readTest 43 = .ok (.ifCond .eq 7, 3) ∧ decode cX7_readTest 46 = .ok (.iconst 1, 1) ∧ decode cX7_readTest 47 = .ok (.goto 4, 3) ∧ decode cX7_readTest 50 = .ok (.iconst 0, 1) ∧ decode cX7_readTest 51 = .ok (.ireturn, 1) ∧ decode cX7_readTest 52 = .ok (.aload_n 1, 1) ∧ decode cX7_readTest 53 = .ok (.ldc 136, 2) ∧ decode cX7_readTest 55 = .ok (.invokevirtual 61, 3) := by decide +kernel
theorem e_X7_readTest_3 : decode cX7_readTest 58 = .ok (.ifCond .eq 24, 3) ∧ decode cX7_readTest 61 = .ok (.aload_n 1, 1) ∧ decode cX7_readTest 62 = .ok (.invokevirtual 84, 3) ∧ decode cX7_readTest 65 = .ok (.aload_n 0, 1) ∧ decode cX7_readTest 66 = .ok (.getfield 26, 3) ∧ decode cX7_readTest 69 = .ok (.aload_n 0, 1) ∧ decode cX7_readTest 70 = .ok (.getfield 19, 3) ∧ decode cX7_readTest 73 = .ok (.iconst 5, 1) ∧ decode cX7_readTest 74 = .ok (.iastore, 1) ∧ decode cX7_readTest 75 = .ok (.aload_n 0, 1) := by decide +kernel
theorem e_X7_readTest_4 : decode cX7_readTest 76 = .ok (.aload_n 1, 1) ∧ decode cX7_readTest 77 = .ok (.aload_n 2, 1) ∧ decode cX7_readTest 78 = .ok (.invokevirtual 111, 3) ∧ decode cX7_readTest 81 = .ok (.ireturn, 1) ∧ decode cX7_readTest 82 = .ok (.aload_n 1, 1) ∧ decode cX7_readTest 83 = .ok (.ldc 138, 2) ∧ decode cX7_readTest 85 = .ok (.invokevirtual 140, 3) ∧ decode cX7_readTest 88 = .ok (.ifCond .eq 12, 3) ∧ decode cX7_readTest 91 = .ok (.aload_n 0, 1) ∧ decode cX7_readTest 92 = .ok (.aload_n 1, 1) := by decide +kernel
theorem e_X7_readTest_5 : decode cX7_readTest 93 = .ok (.aload_n 2, 1) ∧ decode cX7_readTest 94 = .ok (.invokevirtual 111, 3) ∧ decode cX7_readTest 97 = .ok (.ifCond .ne 5, 3) ∧ decode cX7_readTest 100 = .ok (.iconst 0, 1) ∧ decode cX7_readTest 101 = .ok (.ireturn, 1) ∧ decode cX7_readTest 102 = .ok (.aload_n 0, 1) ∧ decode cX7_readTest 103 = .ok (.getfield 26, 3) ∧ decode cX7_readTest 106 = .ok (.aload_n 0, 1) ∧ decode cX7_readTest 107 = .ok (.getfield 19, 3) ∧ decode cX7_readTest 110 = .ok (.aload_n 1, 1) := by decide +kernel
theorem e_X7_readTest_6 : decode cX7_readTest 111 = .ok (.bipush 60, 2) ∧ decode cX7_readTest 113 = .ok (.invokevirtual 143, 3) ∧ decode cX7_readTest 116 = .ok (.ifCond .eq 7, 3) ∧ decode cX7_readTest 119 = .ok (.iconst 1, 1) ∧ decode cX7_readTest 120 = .ok (.goto 17, 3) ∧ decode cX7_readTest 123 = .ok (.aload_n 1, 1) ∧ decode cX7_readTest 124 = .ok (.bipush 62, 2) ∧ decode cX7_readTest 126 = .ok (.invokevirtual 143, 3) ∧ decode cX7_readTest 129 = .ok (.ifCond .eq 7, 3) ∧ decode cX7_readTest 132 = .ok (.iconst 2, 1) := by decide +kernel
theorem e_X7_readTest_7 : decode cX7_readTest 133 = .ok (.goto 4, 3) ∧ decode cX7_readTest 136 = .ok (.iconst 3, 1) ∧ decode cX7_readTest 137 = .ok (.iastore, 1) ∧ decode cX7_readTest 138 = .ok (.aload_n 0, 1) ∧ decode cX7_readTest 139 = .ok (.getfield 26, 3) ∧ decode cX7_readTest 142 = .ok (.aload_n 0, 1) ∧ decode cX7_readTest 143 = .ok (.getfield 19, 3) ∧ decode cX7_readTest 146 = .ok (.iaload, 1) ∧ decode cX7_readTest 147 = .ok (.iconst 3, 1) ∧ decode cX7_readTest 148 = .ok (.if_icmp .ne 18, 3) := by decide +kernel
theorem e_X7_readTest_8 : decode cX7_readTest 151 = .ok (.aload_n 1, 1) ∧ decode cX7_readTest 152 = .ok (.bipush 61, 2) ∧ decode cX7_readTest 154 = .ok (.invokevirtual 143, 3) ∧ decode cX7_readTest 157 = .ok (.ifCond .ne 9, 3) ∧ decode cX7_readTest 160 = .ok (.aload_n 1, 1) ∧ decode cX7_readTest 161 = .ok (.iconst 2, 1) ∧ decode cX7_readTest 162 = .ok (.invokevirtual 80, 3) ∧ decode cX7_readTest 165 = .ok (.ireturn, 1) ∧ decode cX7_readTest 166 = .ok (.aload_n 1, 1) ∧ decode cX7_readTest 167 = .ok (.invokevirtual 84, 3) := by decide +kernel
theorem e_X7_readTest_9 : decode cX7_readTest 170 = .ok (.aload_n 0, 1) ∧ decode cX7_readTest 171 = .ok (.aload_n 1, 1) ∧ decode cX7_readTest 172 = .ok (.iconst 0, 1) ∧ decode cX7_readTest 173 = .ok (.sipush 9999, 3) ∧ decode cX7_readTest 176 = .ok (.invokevirtual 107, 3) ∧ decode cX7_readTest 179 = .ok (.ireturn, 1) := by decide +kernel
abbrev E_X7_readTest_137 (G : Kg) (s p0 p1 p2 : Int) (σ : Kmem) (Q : Int → Kmem → Prop) : Prop := Ex G WX M_X7_readTest 7 0 0 137 [(0, vA G s), (1, vA G 3)] [vI p0, vI p1, vA G p2] σ Q
theorem S_X7_readTest {G : Kg} {σ : Kmem} {Q : Int → Kmem → Prop} {s c : Int} (hs : isS s) (hc : isC c) (h : (xT0 σ ∧ isStr ((-29))) ∧ ((¬ (xW σ ((-29))) → (xT0 σ ∧ isStr ((-30))) ∧ ((¬ (xW σ ((-30))) → Run G WX M_X6_takeWord 5 0 0 [vA G 3, vA G (-31)] σ (fun r7 s8 => (rI r7) ∧ ((r7 = 0 → Q 0 s8) ∧ (r7 ≠ 0 → Run G WX M_X7_readKite 6 0 0 [vA G s, vA G 3, vA G c] s8 (fun r10 s11 => (rI r10) ∧ ((r10 ≠ 0 → (xT0 s11 ∧ rI (60)) ∧ ((¬ (xSg s11 (60)) → (xT0 s11 ∧ rI (62)) ∧ ((¬ (xSg s11 (62)) → E_X7_readTest_137 G s 3 (s11 s 2) (s + 2) s11 Q) ∧ ((xSg s11 (62)) → E_X7_readTest_137 G s 2 (s11 s 2) (s + 2) s11 Q))) ∧ ((xSg s11 (60)) → E_X7_readTest_137 G s 1 (s11 s 2) (s + 2) s11 Q))) ∧ (r10 = 0 → Q 0 s11))))))) ∧ ((xW σ ((-30))) → Run G WX M_X6_next 1 0 0 [vA G 3] σ (fun r19 s20 => (0 ≤ s20 s 2 ∧ s20 s 2 < 60) ∧ ∀ m22 : Kmem, m22 = (kup s20 (s + 2) (s20 s 2) 5) → Run G WX M_X7_readKite 6 0 0 [vA G s, vA G 3, vA G c] m22 (fun r24 s25 => (r24 = 0 ∨ r24 = 1) ∧ Q r24 s25))))) ∧ ((xW σ ((-29))) → Run G WX M_X6_next 1 0 0 [vA G 3] σ (fun r27 s28 => (0 ≤ s28 s 2 ∧ s28 s 2 < 60) ∧ ∀ m30 : Kmem, m30 = (kup s28 (s + 2) (s28 s 2) 4) → Run G WX M_X6_isNameHere 5 0 0 [vA G 3] m30 (fun r32 s33 => (rI r32) ∧ ((r32 = 0 → Q 0 s33) ∧ (r32 ≠ 0 → Run G WX M_X0_cropNamed 0 0 0 [vA G c, vL (s33 3 6)] s33 (fun r35 s36 => Run G WX M_X7_readThing 2 0 0 [vA G s, vA G 3, vI r35] s36 (fun r37 s38 => (rI r37) ∧ ((r37 = 0 → Q 0 s38) ∧ (r37 ≠ 0 → Q 1 s38))))))))))) : Run G WX M_X7_readTest 7 0 0 [vA G s, vA G 3, vA G c] σ Q := by
  refine Run.of (by decide +kernel) (by show (3 : Nat) ≤ 3; decide) ?_
  show Ex G WX M_X7_readTest 7 0 0 0 [(0, vA G s), (1, vA G 3), (2, vA G c)] [] σ Q
  refine R_aload_n e_X7_readTest_0.1 1 rfl ?_
  refine R_ldcS (i := 19) (-29) e_X7_readTest_0.2.1 rfl rfl ?_
  obtain ⟨q3, h⟩ := h
  refine R_callV (mc := 0) (ms := 0) (mc' := 0) (ms' := 0) (M' := M_X6_isWord) (d' := 4) (as := [vA G (-29)]) (st := []) 6 1 e_X7_readTest_0.2.2.1 (kCVof m_X6_isWord l_X7_61) rfl (by decide) kx_3 (by decide) (by decide) rfl rfl (by show (0 : Nat) ≤ 8; decide) ?_
  refine Run.mono (P_X6_isWord q3) (fun rr ss e => ?_)
  obtain ⟨e1, e2⟩ := e
  refine R_eqs (st2 := [vI (kb (xW σ ((-29))))]) (σ2 := σ) (by rw [e1]; rfl) e2 ?_
  refine R_if_eq 52 e_X7_readTest_0.2.2.2.1 (by decide) (kb_r _) (fun q => ?_) (fun q => ?_)
  · replace h := h.1 (kb_f q)
    refine R_aload_n e_X7_readTest_2.2.2.2.2.2.2.2.1 1 rfl ?_
    refine R_ldcS (i := 20) (-30) e_X7_readTest_2.2.2.2.2.2.2.2.2.1 rfl rfl ?_
    obtain ⟨q6, h⟩ := h
    refine R_callV (mc := 0) (ms := 0) (mc' := 0) (ms' := 0) (M' := M_X6_isWord) (d' := 4) (as := [vA G (-30)]) (st := []) 6 1 e_X7_readTest_2.2.2.2.2.2.2.2.2.2 (kCVof m_X6_isWord l_X7_61) rfl (by decide) kx_3 (by decide) (by decide) rfl rfl (by show (0 : Nat) ≤ 8; decide) ?_
    refine Run.mono (P_X6_isWord q6) (fun rr ss e => ?_)
    obtain ⟨e1, e2⟩ := e
    refine R_eqs (st2 := [vI (kb (xW σ ((-30))))]) (σ2 := σ) (by rw [e1]; rfl) e2 ?_
    refine R_if_eq 82 e_X7_readTest_3.1 (by decide) (kb_r _) (fun q => ?_) (fun q => ?_)
    · replace h := h.1 (kb_f q)
      refine R_aload_n e_X7_readTest_4.2.2.2.2.1 1 rfl ?_
      refine R_ldcS (i := 21) (-31) e_X7_readTest_4.2.2.2.2.2.1 rfl rfl ?_
      refine R_callV (mc := 0) (ms := 0) (mc' := 0) (ms' := 0) (M' := M_X6_takeWord) (d' := 5) (as := [vA G (-31)]) (st := []) 6 1 e_X7_readTest_4.2.2.2.2.2.2.1 (kCVof m_X6_takeWord l_X7_140) rfl (by decide) kx_3 (by decide) (by decide) rfl rfl (by show (0 : Nat) ≤ 8; decide) ?_
      refine Run.mono h (fun r7 s8 h => ?_)
      refine R_eqs (st2 := [vI r7]) rfl rfl ?_
      obtain ⟨q9, h⟩ := h
      refine R_if_eq 100 e_X7_readTest_4.2.2.2.2.2.2.2.1 (by decide) q9  (fun q => ?_) (fun q => ?_)
      · replace h := h.1 q
        refine R_iconst e_X7_readTest_5.2.2.2.1 ?_
        exact R_zreturn e_X7_readTest_5.2.2.2.2.1 rfl (Or.inl rfl) h
      · replace h := h.2 q
        refine R_aload_n e_X7_readTest_4.2.2.2.2.2.2.2.2.1 0 rfl ?_
        refine R_aload_n e_X7_readTest_4.2.2.2.2.2.2.2.2.2 1 rfl ?_
        refine R_aload_n e_X7_readTest_5.1 2 rfl ?_
        refine R_callV (mc := 0) (ms := 0) (mc' := 0) (ms' := 0) (M' := M_X7_readKite) (d' := 6) (as := [vA G 3, vA G c]) (st := []) 7 2 e_X7_readTest_5.2.1 (kCVof m_X7_readKite l_X7_111) rfl (by decide) (kS_self hs) (by decide) (by decide) rfl rfl (by show (0 : Nat) ≤ 8; decide) ?_
        refine Run.mono h (fun r10 s11 h => ?_)
        refine R_eqs (st2 := [vI r10]) rfl rfl ?_
        obtain ⟨q12, h⟩ := h
        refine R_if_ne 102 e_X7_readTest_5.2.2.1 (by decide) q12  (fun q => ?_) (fun q => ?_)
        · replace h := h.1 q
          refine R_aload_n e_X7_readTest_5.2.2.2.2.2.1 0 rfl ?_
          refine R_getA 7 4 (s + 2) e_X7_readTest_5.2.2.2.2.2.2.1 f_X7_26 (kS_self hs) (fun _ _ => rfl) (kS_r4 hs) (kS_n2 hs) ?_
          refine R_aload_n e_X7_readTest_5.2.2.2.2.2.2.2.1 0 rfl ?_
          refine R_getI 7 2 2 e_X7_readTest_5.2.2.2.2.2.2.2.2.1 f_X7_19 (kS_self hs) (fun _ _ => rfl) rfl ?_
          refine R_aload_n e_X7_readTest_5.2.2.2.2.2.2.2.2.2 1 rfl ?_
          refine R_bipush e_X7_readTest_6.1 (by decide) ?_
          obtain ⟨q15, h⟩ := h
          refine R_callV (mc := 0) (ms := 0) (mc' := 0) (ms' := 0) (M' := M_X6_isSignOf) (d' := 0) (as := [vI 60]) (st := [vI (s11 s 2), vA G (s + 2)]) 6 1 e_X7_readTest_6.2.1 (kCVof m_X6_isSignOf l_X7_143) rfl (by decide) kx_3 (by decide) (by decide) rfl rfl (by show (2 : Nat) ≤ 8; decide) ?_
          refine Run.mono (P_X6_isSignOf q15) (fun rr ss e => ?_)
          obtain ⟨e1, e2⟩ := e
          refine R_eqs (st2 := [vI (kb (xSg s11 (60))), vI (s11 s 2), vA G (s + 2)]) (σ2 := s11) (by rw [e1]; rfl) e2 ?_
          refine R_if_eq 123 e_X7_readTest_6.2.2.1 (by decide) (kb_r _) (fun q => ?_) (fun q => ?_)
          · replace h := h.1 (kb_f q)
            refine R_aload_n e_X7_readTest_6.2.2.2.2.2.1 1 rfl ?_
            refine R_bipush e_X7_readTest_6.2.2.2.2.2.2.1 (by decide) ?_
            obtain ⟨q18, h⟩ := h
            refine R_callV (mc := 0) (ms := 0) (mc' := 0) (ms' := 0) (M' := M_X6_isSignOf) (d' := 0) (as := [vI 62]) (st := [vI (s11 s 2), vA G (s + 2)]) 6 1 e_X7_readTest_6.2.2.2.2.2.2.2.1 (kCVof m_X6_isSignOf l_X7_143) rfl (by decide) kx_3 (by decide) (by decide) rfl rfl (by show (2 : Nat) ≤ 8; decide) ?_
            refine Run.mono (P_X6_isSignOf q18) (fun rr ss e => ?_)
            obtain ⟨e1, e2⟩ := e
            refine R_eqs (st2 := [vI (kb (xSg s11 (62))), vI (s11 s 2), vA G (s + 2)]) (σ2 := s11) (by rw [e1]; rfl) e2 ?_
            refine R_if_eq 136 e_X7_readTest_6.2.2.2.2.2.2.2.2.1 (by decide) (kb_r _) (fun q => ?_) (fun q => ?_)
            · replace h := h.1 (kb_f q)
              refine R_iconst e_X7_readTest_7.2.1 ?_
              refine R_ls (ls2 := [(0, vA G s), (1, vA G 3)]) [0, 1] rfl ?_
              exact h
            · replace h := h.2 (kb_t q)
              refine R_iconst e_X7_readTest_6.2.2.2.2.2.2.2.2.2 ?_
              refine R_goto 137 e_X7_readTest_7.1 (by decide) ?_
              refine R_ls (ls2 := [(0, vA G s), (1, vA G 3)]) [0, 1] rfl ?_
              exact h
          · replace h := h.2 (kb_t q)
            refine R_iconst e_X7_readTest_6.2.2.2.1 ?_
            refine R_goto 137 e_X7_readTest_6.2.2.2.2.1 (by decide) ?_
            refine R_ls (ls2 := [(0, vA G s), (1, vA G 3)]) [0, 1] rfl ?_
            exact h
        · replace h := h.2 q
          refine R_iconst e_X7_readTest_5.2.2.2.1 ?_
          exact R_zreturn e_X7_readTest_5.2.2.2.2.1 rfl (Or.inl rfl) h
    · replace h := h.2 (kb_t q)
      refine R_aload_n e_X7_readTest_3.2.1 1 rfl ?_
      refine R_callV (mc := 0) (ms := 0) (mc' := 0) (ms' := 0) (M' := M_X6_next) (d' := 1) (as := []) (st := []) 6 0 e_X7_readTest_3.2.2.1 (kCVof m_X6_next l_X7_84) rfl (by decide) kx_3 (by decide) (by decide) rfl rfl (by show (0 : Nat) ≤ 8; decide) ?_
      refine Run.mono h (fun r19 s20 h => ?_)
      refine R_eqs (st2 := []) rfl rfl ?_
      refine R_aload_n e_X7_readTest_3.2.2.2.1 0 rfl ?_
      refine R_getA 7 4 (s + 2) e_X7_readTest_3.2.2.2.2.1 f_X7_26 (kS_self hs) (fun _ _ => rfl) (kS_r4 hs) (kS_n2 hs) ?_
      refine R_aload_n e_X7_readTest_3.2.2.2.2.2.1 0 rfl ?_
      refine R_getI 7 2 2 e_X7_readTest_3.2.2.2.2.2.2.1 f_X7_19 (kS_self hs) (fun _ _ => rfl) rfl ?_
      refine R_iconst e_X7_readTest_3.2.2.2.2.2.2.2.1 ?_
      obtain ⟨q21, h⟩ := h
      refine R_iast 60 WX_ok e_X7_readTest_3.2.2.2.2.2.2.2.2.1 (kS_tests hs) q21 ?_
      obtain ⟨m22, e23⟩ : ∃ z : Kmem, z = (kup s20 (s + 2) (s20 s 2) 5) := ⟨_, rfl⟩
      rw [← e23]
      replace h := h m22 e23
      refine R_aload_n e_X7_readTest_3.2.2.2.2.2.2.2.2.2 0 rfl ?_
      refine R_aload_n e_X7_readTest_4.1 1 rfl ?_
      refine R_aload_n e_X7_readTest_4.2.1 2 rfl ?_
      refine R_callV (mc := 0) (ms := 0) (mc' := 0) (ms' := 0) (M' := M_X7_readKite) (d' := 6) (as := [vA G 3, vA G c]) (st := []) 7 2 e_X7_readTest_4.2.2.1 (kCVof m_X7_readKite l_X7_111) rfl (by decide) (kS_self hs) (by decide) (by decide) rfl rfl (by show (0 : Nat) ≤ 8; decide) ?_
      refine Run.mono h (fun r24 s25 h => ?_)
      refine R_eqs (st2 := [vI r24]) rfl rfl ?_
      obtain ⟨q26, h⟩ := h
      exact R_zreturn e_X7_readTest_4.2.2.2.1 rfl q26 h
  · replace h := h.2 (kb_t q)
    refine R_aload_n e_X7_readTest_0.2.2.2.2.1 1 rfl ?_
    refine R_callV (mc := 0) (ms := 0) (mc' := 0) (ms' := 0) (M' := M_X6_next) (d' := 1) (as := []) (st := []) 6 0 e_X7_readTest_0.2.2.2.2.2.1 (kCVof m_X6_next l_X7_84) rfl (by decide) kx_3 (by decide) (by decide) rfl rfl (by show (0 : Nat) ≤ 8; decide) ?_
    refine Run.mono h (fun r27 s28 h => ?_)
    refine R_eqs (st2 := []) rfl rfl ?_
    refine R_aload_n e_X7_readTest_0.2.2.2.2.2.2.1 0 rfl ?_
    refine R_getA 7 4 (s + 2) e_X7_readTest_0.2.2.2.2.2.2.2.1 f_X7_26 (kS_self hs) (fun _ _ => rfl) (kS_r4 hs) (kS_n2 hs) ?_
    refine R_aload_n e_X7_readTest_0.2.2.2.2.2.2.2.2.1 0 rfl ?_
    refine R_getI 7 2 2 e_X7_readTest_0.2.2.2.2.2.2.2.2.2 f_X7_19 (kS_self hs) (fun _ _ => rfl) rfl ?_
    refine R_iconst e_X7_readTest_1.1 ?_
    obtain ⟨q29, h⟩ := h
    refine R_iast 60 WX_ok e_X7_readTest_1.2.1 (kS_tests hs) q29 ?_
    obtain ⟨m30, e31⟩ : ∃ z : Kmem, z = (kup s28 (s + 2) (s28 s 2) 4) := ⟨_, rfl⟩
    rw [← e31]
    replace h := h m30 e31
    refine R_aload_n e_X7_readTest_1.2.2.1 1 rfl ?_
    refine R_callV (mc := 0) (ms := 0) (mc' := 0) (ms' := 0) (M' := M_X6_isNameHere) (d' := 5) (as := []) (st := []) 6 0 e_X7_readTest_1.2.2.2.1 (kCVof m_X6_isNameHere l_X7_119) rfl (by decide) kx_3 (by decide) (by decide) rfl rfl (by show (0 : Nat) ≤ 8; decide) ?_
    refine Run.mono h (fun r32 s33 h => ?_)
    refine R_eqs (st2 := [vI r32]) rfl rfl ?_
    obtain ⟨q34, h⟩ := h
    refine R_if_eq 50 e_X7_readTest_1.2.2.2.2.1 (by decide) q34  (fun q => ?_) (fun q => ?_)
    · replace h := h.1 q
      refine R_iconst e_X7_readTest_2.2.2.2.2.2.1 ?_
      exact R_zreturn e_X7_readTest_2.2.2.2.2.2.2.1 rfl (Or.inl rfl) h
    · replace h := h.2 q
      refine R_aload_n e_X7_readTest_1.2.2.2.2.2.1 0 rfl ?_
      refine R_aload_n e_X7_readTest_1.2.2.2.2.2.2.1 1 rfl ?_
      refine R_aload_n e_X7_readTest_1.2.2.2.2.2.2.2.1 2 rfl ?_
      refine R_aload_n e_X7_readTest_1.2.2.2.2.2.2.2.2.1 1 rfl ?_
      refine R_getL 6 6 6 e_X7_readTest_1.2.2.2.2.2.2.2.2.2 f_X7_122 kx_3 (fun _ _ => rfl) rfl ?_
      refine R_callV (mc := 0) (ms := 0) (mc' := 0) (ms' := 0) (M' := M_X0_cropNamed) (d' := 0) (as := [vL (s33 3 6)]) (st := [vA G 3, vA G s]) 0 1 e_X7_readTest_2.1 (kCVof m_X0_cropNamed l_X7_126) rfl (by decide) (kC_self hc) (by decide) (by decide) rfl rfl (by show (2 : Nat) ≤ 8; decide) ?_
      refine Run.mono h (fun r35 s36 h => ?_)
      refine R_eqs (st2 := [vI r35, vA G 3, vA G s]) rfl rfl ?_
      refine R_callV (mc := 0) (ms := 0) (mc' := 0) (ms' := 0) (M' := M_X7_readThing) (d' := 2) (as := [vA G 3, vI r35]) (st := []) 7 2 e_X7_readTest_2.2.1 (kCVof m_X7_readThing l_X7_132) rfl (by decide) (kS_self hs) (by decide) (by decide) rfl rfl (by show (0 : Nat) ≤ 8; decide) ?_
      refine Run.mono h (fun r37 s38 h => ?_)
      refine R_eqs (st2 := [vI r37]) rfl rfl ?_
      obtain ⟨q39, h⟩ := h
      refine R_if_eq 50 e_X7_readTest_2.2.2.1 (by decide) q39  (fun q => ?_) (fun q => ?_)
      · replace h := h.1 q
        refine R_iconst e_X7_readTest_2.2.2.2.2.2.1 ?_
        exact R_zreturn e_X7_readTest_2.2.2.2.2.2.2.1 rfl (Or.inl rfl) h
      · replace h := h.2 q
        refine R_iconst e_X7_readTest_2.2.2.2.1 ?_
        refine R_goto 51 e_X7_readTest_2.2.2.2.2.1 (by decide) ?_
        exact R_zreturn e_X7_readTest_2.2.2.2.2.2.2.1 rfl (Or.inr rfl) h
theorem S_X7_readTest_137 {G : Kg} {σ : Kmem} {Q : Int → Kmem → Prop} {s c p0 p1 p2 : Int} (hs : isS s) (hc : isC c) (hp2 : kArX p2 20 60) (h : (0 ≤ p1 ∧ p1 < 60) ∧ ∀ m41 : Kmem, m41 = (kup σ p2 p1 p0) → (0 ≤ m41 s 2 ∧ m41 s 2 < 60) ∧ (rI (m41 (s + 2) (m41 s 2))) ∧ ((m41 (s + 2) (m41 s 2) ≠ 3 → Run G WX M_X6_next 1 0 0 [vA G 3] m41 (fun r45 s46 => Run G WX M_X7_readNumber 3 0 0 [vA G s, vA G 3, vI 0, vI 9999] s46 (fun r47 s48 => (r47 = 0 ∨ r47 = 1) ∧ Q r47 s48))) ∧ (m41 (s + 2) (m41 s 2) = 3 → (xT0 m41 ∧ rI (61)) ∧ (((xSg m41 (61)) → Run G WX M_X6_next 1 0 0 [vA G 3] m41 (fun r53 s54 => Run G WX M_X7_readNumber 3 0 0 [vA G s, vA G 3, vI 0, vI 9999] s54 (fun r55 s56 => (r55 = 0 ∨ r55 = 1) ∧ Q r55 s56))) ∧ (¬ (xSg m41 (61)) → (rI (m41 3 2)) ∧ Q 0 (xF m41 (2))))))) : E_X7_readTest_137 G s p0 p1 p2 σ Q := by
  obtain ⟨q40, h⟩ := h
  refine R_iast 60 WX_ok e_X7_readTest_7.2.2.1 (kLXa hp2) q40 ?_
  obtain ⟨m41, e42⟩ : ∃ z : Kmem, z = (kup σ p2 p1 p0) := ⟨_, rfl⟩
  rw [← e42]
  replace h := h m41 e42
  refine R_aload_n e_X7_readTest_7.2.2.2.1 0 rfl ?_
  refine R_getA 7 4 (s + 2) e_X7_readTest_7.2.2.2.2.1 f_X7_26 (kS_self hs) (fun _ _ => rfl) (kS_r4 hs) (kS_n2 hs) ?_
  refine R_aload_n e_X7_readTest_7.2.2.2.2.2.1 0 rfl ?_
  refine R_getI 7 2 2 e_X7_readTest_7.2.2.2.2.2.2.1 f_X7_19 (kS_self hs) (fun _ _ => rfl) rfl ?_
  obtain ⟨q43, h⟩ := h
  refine R_iald 60 e_X7_readTest_7.2.2.2.2.2.2.2.1 (kS_tests hs) q43 ?_
  refine R_iconst e_X7_readTest_7.2.2.2.2.2.2.2.2.1 ?_
  obtain ⟨q44, h⟩ := h
  refine R_icmp_ne 166 e_X7_readTest_7.2.2.2.2.2.2.2.2.2 (by decide) q44 (by decide) (fun q => ?_) (fun q => ?_)
  · replace h := h.1 q
    refine R_aload_n e_X7_readTest_8.2.2.2.2.2.2.2.2.1 1 rfl ?_
    refine R_callV (mc := 0) (ms := 0) (mc' := 0) (ms' := 0) (M' := M_X6_next) (d' := 1) (as := []) (st := []) 6 0 e_X7_readTest_8.2.2.2.2.2.2.2.2.2 (kCVof m_X6_next l_X7_84) rfl (by decide) kx_3 (by decide) (by decide) rfl rfl (by show (0 : Nat) ≤ 8; decide) ?_
    refine Run.mono h (fun r45 s46 h => ?_)
    refine R_eqs (st2 := []) rfl rfl ?_
    refine R_aload_n e_X7_readTest_9.1 0 rfl ?_
    refine R_aload_n e_X7_readTest_9.2.1 1 rfl ?_
    refine R_iconst e_X7_readTest_9.2.2.1 ?_
    refine R_sipush e_X7_readTest_9.2.2.2.1 (by decide) ?_
    refine R_callV (mc := 0) (ms := 0) (mc' := 0) (ms' := 0) (M' := M_X7_readNumber) (d' := 3) (as := [vA G 3, vI 0, vI 9999]) (st := []) 7 3 e_X7_readTest_9.2.2.2.2.1 (kCVof m_X7_readNumber l_X7_107) rfl (by decide) (kS_self hs) (by decide) (by decide) rfl rfl (by show (0 : Nat) ≤ 8; decide) ?_
    refine Run.mono h (fun r47 s48 h => ?_)
    refine R_eqs (st2 := [vI r47]) rfl rfl ?_
    obtain ⟨q49, h⟩ := h
    exact R_zreturn e_X7_readTest_9.2.2.2.2.2 rfl q49 h
  · replace h := h.2 q
    refine R_aload_n e_X7_readTest_8.1 1 rfl ?_
    refine R_bipush e_X7_readTest_8.2.1 (by decide) ?_
    obtain ⟨q52, h⟩ := h
    refine R_callV (mc := 0) (ms := 0) (mc' := 0) (ms' := 0) (M' := M_X6_isSignOf) (d' := 0) (as := [vI 61]) (st := []) 6 1 e_X7_readTest_8.2.2.1 (kCVof m_X6_isSignOf l_X7_143) rfl (by decide) kx_3 (by decide) (by decide) rfl rfl (by show (0 : Nat) ≤ 8; decide) ?_
    refine Run.mono (P_X6_isSignOf q52) (fun rr ss e => ?_)
    obtain ⟨e1, e2⟩ := e
    refine R_eqs (st2 := [vI (kb (xSg m41 (61)))]) (σ2 := m41) (by rw [e1]; rfl) e2 ?_
    refine R_if_ne 166 e_X7_readTest_8.2.2.2.1 (by decide) (kb_r _) (fun q => ?_) (fun q => ?_)
    · replace h := h.1 (kb_t q)
      refine R_aload_n e_X7_readTest_8.2.2.2.2.2.2.2.2.1 1 rfl ?_
      refine R_callV (mc := 0) (ms := 0) (mc' := 0) (ms' := 0) (M' := M_X6_next) (d' := 1) (as := []) (st := []) 6 0 e_X7_readTest_8.2.2.2.2.2.2.2.2.2 (kCVof m_X6_next l_X7_84) rfl (by decide) kx_3 (by decide) (by decide) rfl rfl (by show (0 : Nat) ≤ 8; decide) ?_
      refine Run.mono h (fun r53 s54 h => ?_)
      refine R_eqs (st2 := []) rfl rfl ?_
      refine R_aload_n e_X7_readTest_9.1 0 rfl ?_
      refine R_aload_n e_X7_readTest_9.2.1 1 rfl ?_
      refine R_iconst e_X7_readTest_9.2.2.1 ?_
      refine R_sipush e_X7_readTest_9.2.2.2.1 (by decide) ?_
      refine R_callV (mc := 0) (ms := 0) (mc' := 0) (ms' := 0) (M' := M_X7_readNumber) (d' := 3) (as := [vA G 3, vI 0, vI 9999]) (st := []) 7 3 e_X7_readTest_9.2.2.2.2.1 (kCVof m_X7_readNumber l_X7_107) rfl (by decide) (kS_self hs) (by decide) (by decide) rfl rfl (by show (0 : Nat) ≤ 8; decide) ?_
      refine Run.mono h (fun r55 s56 h => ?_)
      refine R_eqs (st2 := [vI r55]) rfl rfl ?_
      obtain ⟨q57, h⟩ := h
      exact R_zreturn e_X7_readTest_9.2.2.2.2.2 rfl q57 h
    · replace h := h.2 (kb_f q)
      refine R_aload_n e_X7_readTest_8.2.2.2.2.1 1 rfl ?_
      refine R_iconst e_X7_readTest_8.2.2.2.2.2.1 ?_
      obtain ⟨q60, h⟩ := h
      refine R_callV (mc := 0) (ms := 0) (mc' := 0) (ms' := 0) (M' := M_X6_fail) (d' := 0) (as := [vI 2]) (st := []) 6 1 e_X7_readTest_8.2.2.2.2.2.2.1 (kCVof m_X6_fail l_X7_80) rfl (by decide) kx_3 (by decide) (by decide) rfl rfl (by show (0 : Nat) ≤ 8; decide) ?_
      refine Run.mono (P_X6_fail q60) (fun rr ss e => ?_)
      obtain ⟨e1, e2⟩ := e
      refine R_eqs (st2 := [vI 0]) (σ2 := (xF m41 (2))) (by rw [e1]; rfl) e2 ?_
      exact R_zreturn e_X7_readTest_8.2.2.2.2.2.2.2.1 rfl (Or.inl rfl) h
/-! KiteLand$Seasons.readRest(LKiteLand$Scanner;LKiteLand$County;)Z -/
theorem e_X7_readRest_0 : decode cX7_readRest 0 = .ok (.aload_n 0, 1) ∧ decode cX7_readRest 1 = .ok (.getfield 22, 3) ∧ decode cX7_readRest 4 = .ok (.aload_n 0, 1) ∧ decode cX7_readRest 5 = .ok (.getfield 19, 3) ∧ decode cX7_readRest 8 = .ok (.iaload, 1) ∧ decode cX7_readRest 9 = .ok (.tableswitch 113 1 7 #[43, 51, 76, 83, 90, 97, 104], 43) ∧ decode cX7_readRest 52 = .ok (.aload_n 0, 1) ∧ decode cX7_readRest 53 = .ok (.aload_n 1, 1) ∧ decode cX7_readRest 54 = .ok (.iconst 1, 1) ∧ decode cX7_readRest 55 = .ok (.iconst 3, 1) := by decide +kernel
theorem e_X7_readRest_1 : decode cX7_readRest 56 = .ok (.invokevirtual 107, 3) ∧ decode cX7_readRest 59 = .ok (.ireturn, 1) ∧ decode cX7_readRest 60 = .ok (.aload_n 0, 1) ∧ decode cX7_readRest 61 = .ok (.aload_n 1, 1) ∧ decode cX7_readRest 62 = .ok (.aload_n 2, 1) ∧ decode cX7_readRest 63 = .ok (.invokevirtual 111, 3) ∧ decode cX7_readRest 66 = .ok (.ifCond .eq 17, 3) ∧ decode cX7_readRest 69 = .ok (.aload_n 0, 1) ∧ decode cX7_readRest 70 = .ok (.aload_n 1, 1) ∧ decode cX7_readRest 71 = .ok (.iconst 1, 1) := by decide +kernel
theorem e_X7_readRest_2 : decode cX7_readRest 72 = .ok (.iconst 4, 1) ∧ decode cX7_readRest 73 = .ok (.invokevirtual 107, 3) ∧ decode cX7_readRest 76 = .ok (.ifCond .eq 7, 3) ∧ decode cX7_readRest 79 = .ok (.iconst 1, 1) ∧ decode cX7_readRest 80 = .ok (.goto 4, 3) ∧ decode cX7_readRest 83 = .ok (.iconst 0, 1) ∧ decode cX7_readRest 84 = .ok (.ireturn, 1) ∧ decode cX7_readRest 85 = .ok (.aload_n 0, 1) ∧ decode cX7_readRest 86 = .ok (.aload_n 1, 1) ∧ decode cX7_readRest 87 = .ok (.aload_n 2, 1) := by decide +kernel
theorem e_X7_readRest_3 : decode cX7_readRest 88 = .ok (.invokevirtual 111, 3) ∧ decode cX7_readRest 91 = .ok (.ireturn, 1) ∧ decode cX7_readRest 92 = .ok (.aload_n 0, 1) ∧ decode cX7_readRest 93 = .ok (.aload_n 1, 1) ∧ decode cX7_readRest 94 = .ok (.aload_n 2, 1) ∧ decode cX7_readRest 95 = .ok (.invokevirtual 111, 3) ∧ decode cX7_readRest 98 = .ok (.ireturn, 1) ∧ decode cX7_readRest 99 = .ok (.aload_n 0, 1) ∧ decode cX7_readRest 100 = .ok (.aload_n 1, 1) ∧ decode cX7_readRest 101 = .ok (.aload_n 2, 1) := by decide +kernel
theorem e_X7_readRest_4 : decode cX7_readRest 102 = .ok (.invokevirtual 111, 3) ∧ decode cX7_readRest 105 = .ok (.ireturn, 1) ∧ decode cX7_readRest 106 = .ok (.aload_n 0, 1) ∧ decode cX7_readRest 107 = .ok (.aload_n 1, 1) ∧ decode cX7_readRest 108 = .ok (.aload_n 2, 1) ∧ decode cX7_readRest 109 = .ok (.invokevirtual 114, 3) ∧ decode cX7_readRest 112 = .ok (.ireturn, 1) ∧ decode cX7_readRest 113 = .ok (.aload_n 0, 1) ∧ decode cX7_readRest 114 = .ok (.aload_n 1, 1) ∧ decode cX7_readRest 115 = .ok (.iconst 1, 1) := by decide +kernel
theorem e_X7_readRest_5 : decode cX7_readRest 116 = .ok (.bipush 99, 2) ∧ decode cX7_readRest 118 = .ok (.invokevirtual 107, 3) ∧ decode cX7_readRest 121 = .ok (.ireturn, 1) ∧ decode cX7_readRest 122 = .ok (.iconst 1, 1) ∧ decode cX7_readRest 123 = .ok (.ireturn, 1) := by decide +kernel
theorem S_X7_readRest {G : Kg} {σ : Kmem} {Q : Int → Kmem → Prop} {s c : Int} (hs : isS s) (hc : isC c) (h : (0 ≤ σ s 2 ∧ σ s 2 < 60) ∧ (rI (σ (s + 1) (σ s 2))) ∧ ((σ (s + 1) (σ s 2) = 1 → Run G WX M_X7_readNumber 3 0 0 [vA G s, vA G 3, vI 1, vI 3] σ (fun r3 s4 => (r3 = 0 ∨ r3 = 1) ∧ Q r3 s4)) ∧ (σ (s + 1) (σ s 2) = 2 → Run G WX M_X7_readKite 6 0 0 [vA G s, vA G 3, vA G c] σ (fun r6 s7 => (rI r6) ∧ ((r6 = 0 → Q 0 s7) ∧ (r6 ≠ 0 → Run G WX M_X7_readNumber 3 0 0 [vA G s, vA G 3, vI 1, vI 4] s7 (fun r9 s10 => (rI r9) ∧ ((r9 = 0 → Q 0 s10) ∧ (r9 ≠ 0 → Q 1 s10))))))) ∧ (σ (s + 1) (σ s 2) = 3 → Run G WX M_X7_readKite 6 0 0 [vA G s, vA G 3, vA G c] σ (fun r12 s13 => (r12 = 0 ∨ r12 = 1) ∧ Q r12 s13)) ∧ (σ (s + 1) (σ s 2) = 4 → Run G WX M_X7_readKite 6 0 0 [vA G s, vA G 3, vA G c] σ (fun r15 s16 => (r15 = 0 ∨ r15 = 1) ∧ Q r15 s16)) ∧ (σ (s + 1) (σ s 2) = 5 → Run G WX M_X7_readKite 6 0 0 [vA G s, vA G 3, vA G c] σ (fun r18 s19 => (r18 = 0 ∨ r18 = 1) ∧ Q r18 s19)) ∧ (σ (s + 1) (σ s 2) = 6 → Run G WX M_X7_readTest 7 0 0 [vA G s, vA G 3, vA G c] σ (fun r21 s22 => (r21 = 0 ∨ r21 = 1) ∧ Q r21 s22)) ∧ (σ (s + 1) (σ s 2) = 7 → Run G WX M_X7_readNumber 3 0 0 [vA G s, vA G 3, vI 1, vI 99] σ (fun r24 s25 => (r24 = 0 ∨ r24 = 1) ∧ Q r24 s25)) ∧ (σ (s + 1) (σ s 2) < 1 ∨ 7 < σ (s + 1) (σ s 2) → Q 1 σ))) : Run G WX M_X7_readRest 8 0 0 [vA G s, vA G 3, vA G c] σ Q := by
  refine Run.of (by decide +kernel) (by show (3 : Nat) ≤ 3; decide) ?_
  show Ex G WX M_X7_readRest 8 0 0 0 [(0, vA G s), (1, vA G 3), (2, vA G c)] [] σ Q
  refine R_aload_n e_X7_readRest_0.1 0 rfl ?_
  refine R_getA 7 3 (s + 1) e_X7_readRest_0.2.1 f_X7_22 (kS_self hs) (fun _ _ => rfl) (kS_r3 hs) (kS_n1 hs) ?_
  refine R_aload_n e_X7_readRest_0.2.2.1 0 rfl ?_
  refine R_getI 7 2 2 e_X7_readRest_0.2.2.2.1 f_X7_19 (kS_self hs) (fun _ _ => rfl) rfl ?_
  obtain ⟨q1, h⟩ := h
  refine R_iald 60 e_X7_readRest_0.2.2.2.2.1 (kS_kinds hs) q1 ?_
  obtain ⟨q2, h⟩ := h
  by_cases t1 : σ (s + 1) (σ s 2) = 1
  · refine R_tableIn 52 e_X7_readRest_0.2.2.2.2.2.1 q2 (by omega) (by omega) (off := 43) (by rw [t1]; rfl) (by decide) ?_
    replace h := h.1 t1
    refine R_aload_n e_X7_readRest_0.2.2.2.2.2.2.1 0 rfl ?_
    refine R_aload_n e_X7_readRest_0.2.2.2.2.2.2.2.1 1 rfl ?_
    refine R_iconst e_X7_readRest_0.2.2.2.2.2.2.2.2.1 ?_
    refine R_iconst e_X7_readRest_0.2.2.2.2.2.2.2.2.2 ?_
    refine R_callV (mc := 0) (ms := 0) (mc' := 0) (ms' := 0) (M' := M_X7_readNumber) (d' := 3) (as := [vA G 3, vI 1, vI 3]) (st := []) 7 3 e_X7_readRest_1.1 (kCVof m_X7_readNumber l_X7_107) rfl (by decide) (kS_self hs) (by decide) (by decide) rfl rfl (by show (0 : Nat) ≤ 8; decide) ?_
    refine Run.mono h (fun r3 s4 h => ?_)
    refine R_eqs (st2 := [vI r3]) rfl rfl ?_
    obtain ⟨q5, h⟩ := h
    exact R_zreturn e_X7_readRest_1.2.1 rfl q5 h
  by_cases t2 : σ (s + 1) (σ s 2) = 2
  · refine R_tableIn 60 e_X7_readRest_0.2.2.2.2.2.1 q2 (by omega) (by omega) (off := 51) (by rw [t2]; rfl) (by decide) ?_
    replace h := h.2.1 t2
    refine R_aload_n e_X7_readRest_1.2.2.1 0 rfl ?_
    refine R_aload_n e_X7_readRest_1.2.2.2.1 1 rfl ?_
    refine R_aload_n e_X7_readRest_1.2.2.2.2.1 2 rfl ?_
    refine R_callV (mc := 0) (ms := 0) (mc' := 0) (ms' := 0) (M' := M_X7_readKite) (d' := 6) (as := [vA G 3, vA G c]) (st := []) 7 2 e_X7_readRest_1.2.2.2.2.2.1 (kCVof m_X7_readKite l_X7_111) rfl (by decide) (kS_self hs) (by decide) (by decide) rfl rfl (by show (0 : Nat) ≤ 8; decide) ?_
    refine Run.mono h (fun r6 s7 h => ?_)
    refine R_eqs (st2 := [vI r6]) rfl rfl ?_
    obtain ⟨q8, h⟩ := h
    refine R_if_eq 83 e_X7_readRest_1.2.2.2.2.2.2.1 (by decide) q8  (fun q => ?_) (fun q => ?_)
    · replace h := h.1 q
      refine R_iconst e_X7_readRest_2.2.2.2.2.2.1 ?_
      exact R_zreturn e_X7_readRest_2.2.2.2.2.2.2.1 rfl (Or.inl rfl) h
    · replace h := h.2 q
      refine R_aload_n e_X7_readRest_1.2.2.2.2.2.2.2.1 0 rfl ?_
      refine R_aload_n e_X7_readRest_1.2.2.2.2.2.2.2.2.1 1 rfl ?_
      refine R_iconst e_X7_readRest_1.2.2.2.2.2.2.2.2.2 ?_
      refine R_iconst e_X7_readRest_2.1 ?_
      refine R_callV (mc := 0) (ms := 0) (mc' := 0) (ms' := 0) (M' := M_X7_readNumber) (d' := 3) (as := [vA G 3, vI 1, vI 4]) (st := []) 7 3 e_X7_readRest_2.2.1 (kCVof m_X7_readNumber l_X7_107) rfl (by decide) (kS_self hs) (by decide) (by decide) rfl rfl (by show (0 : Nat) ≤ 8; decide) ?_
      refine Run.mono h (fun r9 s10 h => ?_)
      refine R_eqs (st2 := [vI r9]) rfl rfl ?_
      obtain ⟨q11, h⟩ := h
      refine R_if_eq 83 e_X7_readRest_2.2.2.1 (by decide) q11  (fun q => ?_) (fun q => ?_)
      · replace h := h.1 q
        refine R_iconst e_X7_readRest_2.2.2.2.2.2.1 ?_
        exact R_zreturn e_X7_readRest_2.2.2.2.2.2.2.1 rfl (Or.inl rfl) h
      · replace h := h.2 q
        refine R_iconst e_X7_readRest_2.2.2.2.1 ?_
        refine R_goto 84 e_X7_readRest_2.2.2.2.2.1 (by decide) ?_
        exact R_zreturn e_X7_readRest_2.2.2.2.2.2.2.1 rfl (Or.inr rfl) h
  by_cases t3 : σ (s + 1) (σ s 2) = 3
  · refine R_tableIn 85 e_X7_readRest_0.2.2.2.2.2.1 q2 (by omega) (by omega) (off := 76) (by rw [t3]; rfl) (by decide) ?_
    replace h := h.2.2.1 t3
    refine R_aload_n e_X7_readRest_2.2.2.2.2.2.2.2.1 0 rfl ?_
    refine R_aload_n e_X7_readRest_2.2.2.2.2.2.2.2.2.1 1 rfl ?_
    refine R_aload_n e_X7_readRest_2.2.2.2.2.2.2.2.2.2 2 rfl ?_
    refine R_callV (mc := 0) (ms := 0) (mc' := 0) (ms' := 0) (M' := M_X7_readKite) (d' := 6) (as := [vA G 3, vA G c]) (st := []) 7 2 e_X7_readRest_3.1 (kCVof m_X7_readKite l_X7_111) rfl (by decide) (kS_self hs) (by decide) (by decide) rfl rfl (by show (0 : Nat) ≤ 8; decide) ?_
    refine Run.mono h (fun r12 s13 h => ?_)
    refine R_eqs (st2 := [vI r12]) rfl rfl ?_
    obtain ⟨q14, h⟩ := h
    exact R_zreturn e_X7_readRest_3.2.1 rfl q14 h
  by_cases t4 : σ (s + 1) (σ s 2) = 4
  · refine R_tableIn 92 e_X7_readRest_0.2.2.2.2.2.1 q2 (by omega) (by omega) (off := 83) (by rw [t4]; rfl) (by decide) ?_
    replace h := h.2.2.2.1 t4
    refine R_aload_n e_X7_readRest_3.2.2.1 0 rfl ?_
    refine R_aload_n e_X7_readRest_3.2.2.2.1 1 rfl ?_
    refine R_aload_n e_X7_readRest_3.2.2.2.2.1 2 rfl ?_
    refine R_callV (mc := 0) (ms := 0) (mc' := 0) (ms' := 0) (M' := M_X7_readKite) (d' := 6) (as := [vA G 3, vA G c]) (st := []) 7 2 e_X7_readRest_3.2.2.2.2.2.1 (kCVof m_X7_readKite l_X7_111) rfl (by decide) (kS_self hs) (by decide) (by decide) rfl rfl (by show (0 : Nat) ≤ 8; decide) ?_
    refine Run.mono h (fun r15 s16 h => ?_)
    refine R_eqs (st2 := [vI r15]) rfl rfl ?_
    obtain ⟨q17, h⟩ := h
    exact R_zreturn e_X7_readRest_3.2.2.2.2.2.2.1 rfl q17 h
  by_cases t5 : σ (s + 1) (σ s 2) = 5
  · refine R_tableIn 99 e_X7_readRest_0.2.2.2.2.2.1 q2 (by omega) (by omega) (off := 90) (by rw [t5]; rfl) (by decide) ?_
    replace h := h.2.2.2.2.1 t5
    refine R_aload_n e_X7_readRest_3.2.2.2.2.2.2.2.1 0 rfl ?_
    refine R_aload_n e_X7_readRest_3.2.2.2.2.2.2.2.2.1 1 rfl ?_
    refine R_aload_n e_X7_readRest_3.2.2.2.2.2.2.2.2.2 2 rfl ?_
    refine R_callV (mc := 0) (ms := 0) (mc' := 0) (ms' := 0) (M' := M_X7_readKite) (d' := 6) (as := [vA G 3, vA G c]) (st := []) 7 2 e_X7_readRest_4.1 (kCVof m_X7_readKite l_X7_111) rfl (by decide) (kS_self hs) (by decide) (by decide) rfl rfl (by show (0 : Nat) ≤ 8; decide) ?_
    refine Run.mono h (fun r18 s19 h => ?_)
    refine R_eqs (st2 := [vI r18]) rfl rfl ?_
    obtain ⟨q20, h⟩ := h
    exact R_zreturn e_X7_readRest_4.2.1 rfl q20 h
  by_cases t6 : σ (s + 1) (σ s 2) = 6
  · refine R_tableIn 106 e_X7_readRest_0.2.2.2.2.2.1 q2 (by omega) (by omega) (off := 97) (by rw [t6]; rfl) (by decide) ?_
    replace h := h.2.2.2.2.2.1 t6
    refine R_aload_n e_X7_readRest_4.2.2.1 0 rfl ?_
    refine R_aload_n e_X7_readRest_4.2.2.2.1 1 rfl ?_
    refine R_aload_n e_X7_readRest_4.2.2.2.2.1 2 rfl ?_
    refine R_callV (mc := 0) (ms := 0) (mc' := 0) (ms' := 0) (M' := M_X7_readTest) (d' := 7) (as := [vA G 3, vA G c]) (st := []) 7 2 e_X7_readRest_4.2.2.2.2.2.1 (kCVof m_X7_readTest l_X7_114) rfl (by decide) (kS_self hs) (by decide) (by decide) rfl rfl (by show (0 : Nat) ≤ 8; decide) ?_
    refine Run.mono h (fun r21 s22 h => ?_)
    refine R_eqs (st2 := [vI r21]) rfl rfl ?_
    obtain ⟨q23, h⟩ := h
    exact R_zreturn e_X7_readRest_4.2.2.2.2.2.2.1 rfl q23 h
  by_cases t7 : σ (s + 1) (σ s 2) = 7
  · refine R_tableIn 113 e_X7_readRest_0.2.2.2.2.2.1 q2 (by omega) (by omega) (off := 104) (by rw [t7]; rfl) (by decide) ?_
    replace h := h.2.2.2.2.2.2.1 t7
    refine R_aload_n e_X7_readRest_4.2.2.2.2.2.2.2.1 0 rfl ?_
    refine R_aload_n e_X7_readRest_4.2.2.2.2.2.2.2.2.1 1 rfl ?_
    refine R_iconst e_X7_readRest_4.2.2.2.2.2.2.2.2.2 ?_
    refine R_bipush e_X7_readRest_5.1 (by decide) ?_
    refine R_callV (mc := 0) (ms := 0) (mc' := 0) (ms' := 0) (M' := M_X7_readNumber) (d' := 3) (as := [vA G 3, vI 1, vI 99]) (st := []) 7 3 e_X7_readRest_5.2.1 (kCVof m_X7_readNumber l_X7_107) rfl (by decide) (kS_self hs) (by decide) (by decide) rfl rfl (by show (0 : Nat) ≤ 8; decide) ?_
    refine Run.mono h (fun r24 s25 h => ?_)
    refine R_eqs (st2 := [vI r24]) rfl rfl ?_
    obtain ⟨q26, h⟩ := h
    exact R_zreturn e_X7_readRest_5.2.2.1 rfl q26 h
  refine R_tableOut 122 e_X7_readRest_0.2.2.2.2.2.1 q2 (by omega) (by decide) ?_
  replace h := h.2.2.2.2.2.2.2 (by omega)
  refine R_iconst e_X7_readRest_5.2.2.2.1 ?_
  exact R_zreturn e_X7_readRest_5.2.2.2.2 rfl (Or.inr rfl) h
/-! KiteLand$Seasons.readStepWord(LKiteLand$Scanner;)Z -/
theorem e_X7_readStepWord_0 : decode cX7_readStepWord 0 = .ok (.aload_n 0, 1) ∧ decode cX7_readStepWord 1 = .ok (.aload_n 1, 1) ∧ decode cX7_readStepWord 2 = .ok (.invokevirtual 87, 3) ∧ decode cX7_readStepWord 5 = .ok (.istore_n 2, 1) ∧ decode cX7_readStepWord 6 = .ok (.iload_n 2, 1) ∧ decode cX7_readStepWord 7 = .ok (.iconst (-1), 1) ∧ decode cX7_readStepWord 8 = .ok (.if_icmp .ne 9, 3) ∧ decode cX7_readStepWord 11 = .ok (.aload_n 1, 1) ∧ decode cX7_readStepWord 12 = .ok (.iconst 2, 1) ∧ decode cX7_readStepWord 13 = .ok (.invokevirtual 80, 3) := by decide +kernel
theorem e_X7_readStepWord_1 : decode cX7_readStepWord 16 = .ok (.ireturn, 1) ∧ decode cX7_readStepWord 17 = .ok (.aload_n 0, 1) ∧ decode cX7_readStepWord 18 = .ok (.getfield 15, 3) ∧ decode cX7_readStepWord 21 = .ok (.bipush 30, 2) ∧ decode cX7_readStepWord 23 = .ok (.if_icmp .ge 12, 3) ∧ decode cX7_readStepWord 26 = .ok (.aload_n 0, 1) ∧ decode cX7_readStepWord 27 = .ok (.getfield 19, 3) ∧ decode cX7_readStepWord 30 = .ok (.bipush 60, 2) ∧ decode cX7_readStepWord 32 = .ok (.if_icmp .lt 10, 3) ∧ decode cX7_readStepWord 35 = .ok (.aload_n 1, 1) := by decide +kernel
theorem e_X7_readStepWord_2 : decode cX7_readStepWord 36 = .ok (.bipush 6, 2) ∧ decode cX7_readStepWord 38 = .ok (.invokevirtual 80, 3) ∧ decode cX7_readStepWord 41 = .ok (.ireturn, 1) ∧ decode cX7_readStepWord 42 = .ok (.iload_n 2, 1) ∧ decode cX7_readStepWord 43 = .ok (.bipush 6, 2) ∧ decode cX7_readStepWord 45 = .ok (.if_icmp .eq 9, 3) ∧ decode cX7_readStepWord 48 = .ok (.iload_n 2, 1) ∧ decode cX7_readStepWord 49 = .ok (.bipush 7, 2) ∧ decode cX7_readStepWord 51 = .ok (.if_icmp .ne 41, 3) ∧ decode cX7_readStepWord 54 = .ok (.aload_n 0, 1) := by decide +kernel
theorem e_X7_readStepWord_3 : decode cX7_readStepWord 55 = .ok (.getfield 41, 3) ∧ decode cX7_readStepWord 58 = .ok (.iconst 3, 1) ∧ decode cX7_readStepWord 59 = .ok (.if_icmp .lt 10, 3) ∧ decode cX7_readStepWord 62 = .ok (.aload_n 1, 1) ∧ decode cX7_readStepWord 63 = .ok (.bipush 7, 2) ∧ decode cX7_readStepWord 65 = .ok (.invokevirtual 80, 3) ∧ decode cX7_readStepWord 68 = .ok (.ireturn, 1) ∧ decode cX7_readStepWord 69 = .ok (.aload_n 0, 1) ∧ decode cX7_readStepWord 70 = .ok (.getfield 38, 3) ∧ decode cX7_readStepWord 73 = .ok (.aload_n 0, 1) := by decide +kernel
theorem e_X7_readStepWord_4 : decode cX7_readStepWord 74 = .ok (.getfield 41, 3) ∧ decode cX7_readStepWord 77 = .ok (.aload_n 0, 1) ∧ decode cX7_readStepWord 78 = .ok (.getfield 19, 3) ∧ decode cX7_readStepWord 81 = .ok (.iastore, 1) ∧ decode cX7_readStepWord 82 = .ok (.aload_n 0, 1) ∧ decode cX7_readStepWord 83 = .ok (.dup, 1) ∧ decode cX7_readStepWord 84 = .ok (.getfield 41, 3) ∧ decode cX7_readStepWord 87 = .ok (.iconst 1, 1) ∧ decode cX7_readStepWord 88 = .ok (.iadd, 1) ∧ decode cX7_readStepWord 89 = .ok (.putfield 41, 3) := by decide +kernel
theorem e_X7_readStepWord_5 : decode cX7_readStepWord 92 = .ok (.aload_n 0, 1) ∧ decode cX7_readStepWord 93 = .ok (.getfield 22, 3) ∧ decode cX7_readStepWord 96 = .ok (.aload_n 0, 1) ∧ decode cX7_readStepWord 97 = .ok (.getfield 19, 3) ∧ decode cX7_readStepWord 100 = .ok (.iload_n 2, 1) ∧ decode cX7_readStepWord 101 = .ok (.iastore, 1) ∧ decode cX7_readStepWord 102 = .ok (.aload_n 0, 1) ∧ decode cX7_readStepWord 103 = .ok (.dup, 1) ∧ decode cX7_readStepWord 104 = .ok (.getfield 15, 3) ∧ decode cX7_readStepWord 107 = .ok (.iconst 1, 1) := by decide +kernel
theorem e_X7_readStepWord_6 : decode cX7_readStepWord 108 = .ok (.iadd, 1) ∧ decode cX7_readStepWord 109 = .ok (.putfield 15, 3) ∧ decode cX7_readStepWord 112 = .ok (.aload_n 1, 1) ∧ decode cX7_readStepWord 113 = .ok (.invokevirtual 84, 3) ∧ decode cX7_readStepWord 116 = .ok (.iconst 1, 1) ∧ decode cX7_readStepWord 117 = .ok (.ireturn, 1) := by decide +kernel
abbrev E_X7_readStepWord_54 (G : Kg) (s l2 : Int) (σ : Kmem) (Q : Int → Kmem → Prop) : Prop := Ex G WX M_X7_readStepWord 6 0 0 54 [(0, vA G s), (1, vA G 3), (2, vI l2)] [] σ Q
theorem S_X7_readStepWord {G : Kg} {σ : Kmem} {Q : Int → Kmem → Prop} {s : Int} (hs : isS s) (h : Run G WX M_X7_kindOf 5 0 0 [vA G s, vA G 3] σ (fun r1 s2 => (rI r1) ∧ ((r1 ≠ -1 → (rI (s2 s 1)) ∧ ((30 ≤ s2 s 1 → (rI (s2 3 2)) ∧ Q 0 (xF s2 (6))) ∧ (s2 s 1 < 30 → (rI (s2 s 2)) ∧ ((s2 s 2 < 60 → ((r1 = 6 → E_X7_readStepWord_54 G s r1 s2 Q) ∧ (r1 ≠ 6 → ((r1 ≠ 7 → (0 ≤ s2 s 2 ∧ s2 s 2 < 60) ∧ ∀ m10 : Kmem, m10 = (kup s2 (s + 1) (s2 s 2) r1) → ∀ m12 : Kmem, m12 = (kup m10 s 1 ((m10 s 1) + 1)) → Run G WX M_X6_next 1 0 0 [vA G 3] m12 (fun r14 s15 => Q 1 s15)) ∧ (r1 = 7 → E_X7_readStepWord_54 G s r1 s2 Q))))) ∧ (60 ≤ s2 s 2 → (rI (s2 3 2)) ∧ Q 0 (xF s2 (6))))))) ∧ (r1 = -1 → (rI (s2 3 2)) ∧ Q 0 (xF s2 (2)))))) : Run G WX M_X7_readStepWord 6 0 0 [vA G s, vA G 3] σ Q := by
  refine Run.of (by decide +kernel) (by show (2 : Nat) ≤ 3; decide) ?_
  show Ex G WX M_X7_readStepWord 6 0 0 0 [(0, vA G s), (1, vA G 3)] [] σ Q
  refine R_aload_n e_X7_readStepWord_0.1 0 rfl ?_
  refine R_aload_n e_X7_readStepWord_0.2.1 1 rfl ?_
  refine R_callV (mc := 0) (ms := 0) (mc' := 0) (ms' := 0) (M' := M_X7_kindOf) (d' := 5) (as := [vA G 3]) (st := []) 7 1 e_X7_readStepWord_0.2.2.1 (kCVof m_X7_kindOf l_X7_87) rfl (by decide) (kS_self hs) (by decide) (by decide) rfl rfl (by show (0 : Nat) ≤ 8; decide) ?_
  refine Run.mono h (fun r1 s2 h => ?_)
  refine R_eqs (st2 := [vI r1]) rfl rfl ?_
  refine R_istore_n (ls2 := [(2, vI r1), (0, vA G s), (1, vA G 3)]) e_X7_readStepWord_0.2.2.2.1 (by decide) rfl ?_
  refine R_iload_n e_X7_readStepWord_0.2.2.2.2.1 0 rfl ?_
  refine R_iconst e_X7_readStepWord_0.2.2.2.2.2.1 ?_
  obtain ⟨q3, h⟩ := h
  refine R_icmp_ne 17 e_X7_readStepWord_0.2.2.2.2.2.2.1 (by decide) q3 (by decide) (fun q => ?_) (fun q => ?_)
  · replace h := h.1 q
    refine R_aload_n e_X7_readStepWord_1.2.1 1 rfl ?_
    refine R_getI 7 1 1 e_X7_readStepWord_1.2.2.1 f_X7_15 (kS_self hs) (fun _ _ => rfl) rfl ?_
    refine R_bipush e_X7_readStepWord_1.2.2.2.1 (by decide) ?_
    obtain ⟨q4, h⟩ := h
    refine R_icmp_ge 35 e_X7_readStepWord_1.2.2.2.2.1 (by decide) q4 (by decide) (fun q => ?_) (fun q => ?_)
    · replace h := h.1 q
      refine R_aload_n e_X7_readStepWord_1.2.2.2.2.2.2.2.2.2 2 rfl ?_
      refine R_bipush e_X7_readStepWord_2.1 (by decide) ?_
      obtain ⟨q7, h⟩ := h
      refine R_callV (mc := 0) (ms := 0) (mc' := 0) (ms' := 0) (M' := M_X6_fail) (d' := 0) (as := [vI 6]) (st := []) 6 1 e_X7_readStepWord_2.2.1 (kCVof m_X6_fail l_X7_80) rfl (by decide) kx_3 (by decide) (by decide) rfl rfl (by show (0 : Nat) ≤ 8; decide) ?_
      refine Run.mono (P_X6_fail q7) (fun rr ss e => ?_)
      obtain ⟨e1, e2⟩ := e
      refine R_eqs (st2 := [vI 0]) (σ2 := (xF s2 (6))) (by rw [e1]; rfl) e2 ?_
      exact R_zreturn e_X7_readStepWord_2.2.2.1 rfl (Or.inl rfl) h
    · replace h := h.2 q
      refine R_aload_n e_X7_readStepWord_1.2.2.2.2.2.1 1 rfl ?_
      refine R_getI 7 2 2 e_X7_readStepWord_1.2.2.2.2.2.2.1 f_X7_19 (kS_self hs) (fun _ _ => rfl) rfl ?_
      refine R_bipush e_X7_readStepWord_1.2.2.2.2.2.2.2.1 (by decide) ?_
      obtain ⟨q8, h⟩ := h
      refine R_icmp_lt 42 e_X7_readStepWord_1.2.2.2.2.2.2.2.2.1 (by decide) q8 (by decide) (fun q => ?_) (fun q => ?_)
      · replace h := h.1 q
        refine R_iload_n e_X7_readStepWord_2.2.2.2.1 0 rfl ?_
        refine R_bipush e_X7_readStepWord_2.2.2.2.2.1 (by decide) ?_
        refine R_icmp_eq 54 e_X7_readStepWord_2.2.2.2.2.2.1 (by decide) q3 (by decide) (fun q => ?_) (fun q => ?_)
        · replace h := h.1 q
          refine R_ls (ls2 := [(0, vA G s), (1, vA G 3), (2, vI r1)]) [1, 2, 0] rfl ?_
          exact h
        · replace h := h.2 q
          refine R_iload_n e_X7_readStepWord_2.2.2.2.2.2.2.1 0 rfl ?_
          refine R_bipush e_X7_readStepWord_2.2.2.2.2.2.2.2.1 (by decide) ?_
          refine R_icmp_ne 92 e_X7_readStepWord_2.2.2.2.2.2.2.2.2.1 (by decide) q3 (by decide) (fun q => ?_) (fun q => ?_)
          · replace h := h.1 q
            refine R_aload_n e_X7_readStepWord_5.1 1 rfl ?_
            refine R_getA 7 3 (s + 1) e_X7_readStepWord_5.2.1 f_X7_22 (kS_self hs) (fun _ _ => rfl) (kS_r3 hs) (kS_n1 hs) ?_
            refine R_aload_n e_X7_readStepWord_5.2.2.1 1 rfl ?_
            refine R_getI 7 2 2 e_X7_readStepWord_5.2.2.2.1 f_X7_19 (kS_self hs) (fun _ _ => rfl) rfl ?_
            refine R_iload_n e_X7_readStepWord_5.2.2.2.2.1 0 rfl ?_
            obtain ⟨q9, h⟩ := h
            refine R_iast 60 WX_ok e_X7_readStepWord_5.2.2.2.2.2.1 (kS_kinds hs) q9 ?_
            obtain ⟨m10, e11⟩ : ∃ z : Kmem, z = (kup s2 (s + 1) (s2 s 2) r1) := ⟨_, rfl⟩
            rw [← e11]
            replace h := h m10 e11
            refine R_aload_n e_X7_readStepWord_5.2.2.2.2.2.2.1 1 rfl ?_
            refine R_dup e_X7_readStepWord_5.2.2.2.2.2.2.2.1 rfl ?_
            refine R_getI 7 1 1 e_X7_readStepWord_5.2.2.2.2.2.2.2.2.1 f_X7_15 (kS_self hs) (fun _ _ => rfl) rfl ?_
            refine R_iconst e_X7_readStepWord_5.2.2.2.2.2.2.2.2.2 ?_
            refine R_iadd e_X7_readStepWord_6.1 ?_
            refine R_putI 7 1 1 WX_ok e_X7_readStepWord_6.2.1 f_X7_15 (kS_self hs) rfl rfl rfl ?_
            obtain ⟨m12, e13⟩ : ∃ z : Kmem, z = (kup m10 s 1 ((m10 s 1) + 1)) := ⟨_, rfl⟩
            rw [← e13]
            replace h := h m12 e13
            refine R_aload_n e_X7_readStepWord_6.2.2.1 2 rfl ?_
            refine R_callV (mc := 0) (ms := 0) (mc' := 0) (ms' := 0) (M' := M_X6_next) (d' := 1) (as := []) (st := []) 6 0 e_X7_readStepWord_6.2.2.2.1 (kCVof m_X6_next l_X7_84) rfl (by decide) kx_3 (by decide) (by decide) rfl rfl (by show (0 : Nat) ≤ 8; decide) ?_
            refine Run.mono h (fun r14 s15 h => ?_)
            refine R_eqs (st2 := []) rfl rfl ?_
            refine R_iconst e_X7_readStepWord_6.2.2.2.2.1 ?_
            exact R_zreturn e_X7_readStepWord_6.2.2.2.2.2 rfl (Or.inr rfl) h
          · replace h := h.2 q
            refine R_ls (ls2 := [(0, vA G s), (1, vA G 3), (2, vI r1)]) [1, 2, 0] rfl ?_
            exact h
      · replace h := h.2 q
        refine R_aload_n e_X7_readStepWord_1.2.2.2.2.2.2.2.2.2 2 rfl ?_
        refine R_bipush e_X7_readStepWord_2.1 (by decide) ?_
        obtain ⟨q18, h⟩ := h
        refine R_callV (mc := 0) (ms := 0) (mc' := 0) (ms' := 0) (M' := M_X6_fail) (d' := 0) (as := [vI 6]) (st := []) 6 1 e_X7_readStepWord_2.2.1 (kCVof m_X6_fail l_X7_80) rfl (by decide) kx_3 (by decide) (by decide) rfl rfl (by show (0 : Nat) ≤ 8; decide) ?_
        refine Run.mono (P_X6_fail q18) (fun rr ss e => ?_)
        obtain ⟨e1, e2⟩ := e
        refine R_eqs (st2 := [vI 0]) (σ2 := (xF s2 (6))) (by rw [e1]; rfl) e2 ?_
        exact R_zreturn e_X7_readStepWord_2.2.2.1 rfl (Or.inl rfl) h
  · replace h := h.2 q
    refine R_aload_n e_X7_readStepWord_0.2.2.2.2.2.2.2.1 2 rfl ?_
    refine R_iconst e_X7_readStepWord_0.2.2.2.2.2.2.2.2.1 ?_
    obtain ⟨q21, h⟩ := h
    refine R_callV (mc := 0) (ms := 0) (mc' := 0) (ms' := 0) (M' := M_X6_fail) (d' := 0) (as := [vI 2]) (st := []) 6 1 e_X7_readStepWord_0.2.2.2.2.2.2.2.2.2 (kCVof m_X6_fail l_X7_80) rfl (by decide) kx_3 (by decide) (by decide) rfl rfl (by show (0 : Nat) ≤ 8; decide) ?_
    refine Run.mono (P_X6_fail q21) (fun rr ss e => ?_)
    obtain ⟨e1, e2⟩ := e
    refine R_eqs (st2 := [vI 0]) (σ2 := (xF s2 (2))) (by rw [e1]; rfl) e2 ?_
    exact R_zreturn e_X7_readStepWord_1.1 rfl (Or.inl rfl) h
theorem S_X7_readStepWord_54 {G : Kg} {σ : Kmem} {Q : Int → Kmem → Prop} {s l2 : Int} (hs : isS s) (h : (rI (σ s 9)) ∧ ((σ s 9 < 3 → (0 ≤ σ s 9 ∧ σ s 9 < 3) ∧ ∀ m24 : Kmem, m24 = (kup σ (s + 6) (σ s 9) (σ s 2)) → ∀ m26 : Kmem, m26 = (kup m24 s 9 ((m24 s 9) + 1)) → (0 ≤ m26 s 2 ∧ m26 s 2 < 60) ∧ ∀ m29 : Kmem, m29 = (kup m26 (s + 1) (m26 s 2) l2) → ∀ m31 : Kmem, m31 = (kup m29 s 1 ((m29 s 1) + 1)) → Run G WX M_X6_next 1 0 0 [vA G 3] m31 (fun r33 s34 => Q 1 s34)) ∧ (3 ≤ σ s 9 → (rI (σ 3 2)) ∧ Q 0 (xF σ (7))))) : E_X7_readStepWord_54 G s l2 σ Q := by
  refine R_aload_n e_X7_readStepWord_2.2.2.2.2.2.2.2.2.2 0 rfl ?_
  refine R_getI 7 9 9 e_X7_readStepWord_3.1 f_X7_41 (kS_self hs) (fun _ _ => rfl) rfl ?_
  refine R_iconst e_X7_readStepWord_3.2.1 ?_
  obtain ⟨q22, h⟩ := h
  refine R_icmp_lt 69 e_X7_readStepWord_3.2.2.1 (by decide) q22 (by decide) (fun q => ?_) (fun q => ?_)
  · replace h := h.1 q
    refine R_aload_n e_X7_readStepWord_3.2.2.2.2.2.2.2.1 0 rfl ?_
    refine R_getA 7 8 (s + 6) e_X7_readStepWord_3.2.2.2.2.2.2.2.2.1 f_X7_38 (kS_self hs) (fun _ _ => rfl) (kS_r8 hs) (kS_n6 hs) ?_
    refine R_aload_n e_X7_readStepWord_3.2.2.2.2.2.2.2.2.2 0 rfl ?_
    refine R_getI 7 9 9 e_X7_readStepWord_4.1 f_X7_41 (kS_self hs) (fun _ _ => rfl) rfl ?_
    refine R_aload_n e_X7_readStepWord_4.2.1 0 rfl ?_
    refine R_getI 7 2 2 e_X7_readStepWord_4.2.2.1 f_X7_19 (kS_self hs) (fun _ _ => rfl) rfl ?_
    obtain ⟨q23, h⟩ := h
    refine R_iast 3 WX_ok e_X7_readStepWord_4.2.2.2.1 (kS_open hs) q23 ?_
    obtain ⟨m24, e25⟩ : ∃ z : Kmem, z = (kup σ (s + 6) (σ s 9) (σ s 2)) := ⟨_, rfl⟩
    rw [← e25]
    replace h := h m24 e25
    refine R_aload_n e_X7_readStepWord_4.2.2.2.2.1 0 rfl ?_
    refine R_dup e_X7_readStepWord_4.2.2.2.2.2.1 rfl ?_
    refine R_getI 7 9 9 e_X7_readStepWord_4.2.2.2.2.2.2.1 f_X7_41 (kS_self hs) (fun _ _ => rfl) rfl ?_
    refine R_iconst e_X7_readStepWord_4.2.2.2.2.2.2.2.1 ?_
    refine R_iadd e_X7_readStepWord_4.2.2.2.2.2.2.2.2.1 ?_
    refine R_putI 7 9 9 WX_ok e_X7_readStepWord_4.2.2.2.2.2.2.2.2.2 f_X7_41 (kS_self hs) rfl rfl rfl ?_
    obtain ⟨m26, e27⟩ : ∃ z : Kmem, z = (kup m24 s 9 ((m24 s 9) + 1)) := ⟨_, rfl⟩
    rw [← e27]
    replace h := h m26 e27
    refine R_aload_n e_X7_readStepWord_5.1 0 rfl ?_
    refine R_getA 7 3 (s + 1) e_X7_readStepWord_5.2.1 f_X7_22 (kS_self hs) (fun _ _ => rfl) (kS_r3 hs) (kS_n1 hs) ?_
    refine R_aload_n e_X7_readStepWord_5.2.2.1 0 rfl ?_
    refine R_getI 7 2 2 e_X7_readStepWord_5.2.2.2.1 f_X7_19 (kS_self hs) (fun _ _ => rfl) rfl ?_
    refine R_iload_n e_X7_readStepWord_5.2.2.2.2.1 2 rfl ?_
    obtain ⟨q28, h⟩ := h
    refine R_iast 60 WX_ok e_X7_readStepWord_5.2.2.2.2.2.1 (kS_kinds hs) q28 ?_
    obtain ⟨m29, e30⟩ : ∃ z : Kmem, z = (kup m26 (s + 1) (m26 s 2) l2) := ⟨_, rfl⟩
    rw [← e30]
    replace h := h m29 e30
    refine R_aload_n e_X7_readStepWord_5.2.2.2.2.2.2.1 0 rfl ?_
    refine R_dup e_X7_readStepWord_5.2.2.2.2.2.2.2.1 rfl ?_
    refine R_getI 7 1 1 e_X7_readStepWord_5.2.2.2.2.2.2.2.2.1 f_X7_15 (kS_self hs) (fun _ _ => rfl) rfl ?_
    refine R_iconst e_X7_readStepWord_5.2.2.2.2.2.2.2.2.2 ?_
    refine R_iadd e_X7_readStepWord_6.1 ?_
    refine R_putI 7 1 1 WX_ok e_X7_readStepWord_6.2.1 f_X7_15 (kS_self hs) rfl rfl rfl ?_
    obtain ⟨m31, e32⟩ : ∃ z : Kmem, z = (kup m29 s 1 ((m29 s 1) + 1)) := ⟨_, rfl⟩
    rw [← e32]
    replace h := h m31 e32
    refine R_aload_n e_X7_readStepWord_6.2.2.1 1 rfl ?_
    refine R_callV (mc := 0) (ms := 0) (mc' := 0) (ms' := 0) (M' := M_X6_next) (d' := 1) (as := []) (st := []) 6 0 e_X7_readStepWord_6.2.2.2.1 (kCVof m_X6_next l_X7_84) rfl (by decide) kx_3 (by decide) (by decide) rfl rfl (by show (0 : Nat) ≤ 8; decide) ?_
    refine Run.mono h (fun r33 s34 h => ?_)
    refine R_eqs (st2 := []) rfl rfl ?_
    refine R_iconst e_X7_readStepWord_6.2.2.2.2.1 ?_
    exact R_zreturn e_X7_readStepWord_6.2.2.2.2.2 rfl (Or.inr rfl) h
  · replace h := h.2 q
    refine R_aload_n e_X7_readStepWord_3.2.2.2.1 1 rfl ?_
    refine R_bipush e_X7_readStepWord_3.2.2.2.2.1 (by decide) ?_
    obtain ⟨q37, h⟩ := h
    refine R_callV (mc := 0) (ms := 0) (mc' := 0) (ms' := 0) (M' := M_X6_fail) (d' := 0) (as := [vI 7]) (st := []) 6 1 e_X7_readStepWord_3.2.2.2.2.2.1 (kCVof m_X6_fail l_X7_80) rfl (by decide) kx_3 (by decide) (by decide) rfl rfl (by show (0 : Nat) ≤ 8; decide) ?_
    refine Run.mono (P_X6_fail q37) (fun rr ss e => ?_)
    obtain ⟨e1, e2⟩ := e
    refine R_eqs (st2 := [vI 0]) (σ2 := (xF σ (7))) (by rw [e1]; rfl) e2 ?_
    exact R_zreturn e_X7_readStepWord_3.2.2.2.2.2.2.1 rfl (Or.inl rfl) h
/-! KiteLand$Seasons.readEnd(LKiteLand$Scanner;)Z -/
theorem e_X7_readEnd_0 : decode cX7_readEnd 0 = .ok (.aload_n 0, 1) ∧ decode cX7_readEnd 1 = .ok (.getfield 41, 3) ∧ decode cX7_readEnd 4 = .ok (.ifCond .eq 12, 3) ∧ decode cX7_readEnd 7 = .ok (.aload_n 0, 1) ∧ decode cX7_readEnd 8 = .ok (.getfield 19, 3) ∧ decode cX7_readEnd 11 = .ok (.bipush 60, 2) ∧ decode cX7_readEnd 13 = .ok (.if_icmp .lt 9, 3) ∧ decode cX7_readEnd 16 = .ok (.aload_n 1, 1) ∧ decode cX7_readEnd 17 = .ok (.iconst 2, 1) ∧ decode cX7_readEnd 18 = .ok (.invokevirtual 80, 3) := by decide +kernel
theorem e_X7_readEnd_1 : decode cX7_readEnd 21 = .ok (.ireturn, 1) ∧ decode cX7_readEnd 22 = .ok (.aload_n 1, 1) ∧ decode cX7_readEnd 23 = .ok (.invokevirtual 84, 3) ∧ decode cX7_readEnd 26 = .ok (.aload_n 0, 1) ∧ decode cX7_readEnd 27 = .ok (.dup, 1) ∧ decode cX7_readEnd 28 = .ok (.getfield 41, 3) ∧ decode cX7_readEnd 31 = .ok (.iconst 1, 1) ∧ decode cX7_readEnd 32 = .ok (.isub, 1) ∧ decode cX7_readEnd 33 = .ok (.putfield 41, 3) ∧ decode cX7_readEnd 36 = .ok (.aload_n 0, 1) := by decide +kernel
theorem e_X7_readEnd_2 : decode cX7_readEnd 37 = .ok (.getfield 22, 3) ∧ decode cX7_readEnd 40 = .ok (.aload_n 0, 1) ∧ decode cX7_readEnd 41 = .ok (.getfield 19, 3) ∧ decode cX7_readEnd 44 = .ok (.bipush 9, 2) ∧ decode cX7_readEnd 46 = .ok (.iastore, 1) ∧ decode cX7_readEnd 47 = .ok (.aload_n 0, 1) ∧ decode cX7_readEnd 48 = .ok (.getfield 35, 3) ∧ decode cX7_readEnd 51 = .ok (.aload_n 0, 1) ∧ decode cX7_readEnd 52 = .ok (.getfield 19, 3) ∧ decode cX7_readEnd 55 = .ok (.aload_n 0, 1) := by decide +kernel
theorem e_X7_readEnd_3 : decode cX7_readEnd 56 = .ok (.getfield 38, 3) ∧ decode cX7_readEnd 59 = .ok (.aload_n 0, 1) ∧ decode cX7_readEnd 60 = .ok (.getfield 41, 3) ∧ decode cX7_readEnd 63 = .ok (.iaload, 1) ∧ decode cX7_readEnd 64 = .ok (.iastore, 1) ∧ decode cX7_readEnd 65 = .ok (.aload_n 0, 1) ∧ decode cX7_readEnd 66 = .ok (.getfield 35, 3) ∧ decode cX7_readEnd 69 = .ok (.aload_n 0, 1) ∧ decode cX7_readEnd 70 = .ok (.getfield 38, 3) ∧ decode cX7_readEnd 73 = .ok (.aload_n 0, 1) := by decide +kernel
theorem e_X7_readEnd_4 : decode cX7_readEnd 74 = .ok (.getfield 41, 3) ∧ decode cX7_readEnd 77 = .ok (.iaload, 1) ∧ decode cX7_readEnd 78 = .ok (.aload_n 0, 1) ∧ decode cX7_readEnd 79 = .ok (.getfield 19, 3) ∧ decode cX7_readEnd 82 = .ok (.iastore, 1) ∧ decode cX7_readEnd 83 = .ok (.iconst 1, 1) ∧ decode cX7_readEnd 84 = .ok (.ireturn, 1) := by decide +kernel
theorem S_X7_readEnd {G : Kg} {σ : Kmem} {Q : Int → Kmem → Prop} {s : Int} (hs : isS s) (h : (rI (σ s 9)) ∧ ((σ s 9 = 0 → (rI (σ 3 2)) ∧ Q 0 (xF σ (2))) ∧ (σ s 9 ≠ 0 → (rI (σ s 2)) ∧ ((σ s 2 < 60 → Run G WX M_X6_next 1 0 0 [vA G 3] σ (fun r6 s7 => ∀ m8 : Kmem, m8 = (kup s7 s 9 ((s7 s 9) - 1)) → (0 ≤ m8 s 2 ∧ m8 s 2 < 60) ∧ ∀ m11 : Kmem, m11 = (kup m8 (s + 1) (m8 s 2) 9) → (0 ≤ m11 s 9 ∧ m11 s 9 < 3) ∧ (0 ≤ m11 s 2 ∧ m11 s 2 < 60) ∧ ∀ m15 : Kmem, m15 = (kup m11 (s + 5) (m11 s 2) (m11 (s + 6) (m11 s 9))) → (0 ≤ m15 s 9 ∧ m15 s 9 < 3) ∧ (0 ≤ m15 (s + 6) (m15 s 9) ∧ m15 (s + 6) (m15 s 9) < 60) ∧ ∀ m19 : Kmem, m19 = (kup m15 (s + 5) (m15 (s + 6) (m15 s 9)) (m15 s 2)) → Q 1 m19)) ∧ (60 ≤ σ s 2 → (rI (σ 3 2)) ∧ Q 0 (xF σ (2))))))) : Run G WX M_X7_readEnd 2 0 0 [vA G s, vA G 3] σ Q := by
  refine Run.of (by decide +kernel) (by show (2 : Nat) ≤ 2; decide) ?_
  show Ex G WX M_X7_readEnd 2 0 0 0 [(0, vA G s), (1, vA G 3)] [] σ Q
  refine R_aload_n e_X7_readEnd_0.1 0 rfl ?_
  refine R_getI 7 9 9 e_X7_readEnd_0.2.1 f_X7_41 (kS_self hs) (fun _ _ => rfl) rfl ?_
  obtain ⟨q1, h⟩ := h
  refine R_if_eq 16 e_X7_readEnd_0.2.2.1 (by decide) q1  (fun q => ?_) (fun q => ?_)
  · replace h := h.1 q
    refine R_aload_n e_X7_readEnd_0.2.2.2.2.2.2.2.1 1 rfl ?_
    refine R_iconst e_X7_readEnd_0.2.2.2.2.2.2.2.2.1 ?_
    obtain ⟨q4, h⟩ := h
    refine R_callV (mc := 0) (ms := 0) (mc' := 0) (ms' := 0) (M' := M_X6_fail) (d' := 0) (as := [vI 2]) (st := []) 6 1 e_X7_readEnd_0.2.2.2.2.2.2.2.2.2 (kCVof m_X6_fail l_X7_80) rfl (by decide) kx_3 (by decide) (by decide) rfl rfl (by show (0 : Nat) ≤ 8; decide) ?_
    refine Run.mono (P_X6_fail q4) (fun rr ss e => ?_)
    obtain ⟨e1, e2⟩ := e
    refine R_eqs (st2 := [vI 0]) (σ2 := (xF σ (2))) (by rw [e1]; rfl) e2 ?_
    exact R_zreturn e_X7_readEnd_1.1 rfl (Or.inl rfl) h
  · replace h := h.2 q
    refine R_aload_n e_X7_readEnd_0.2.2.2.1 0 rfl ?_
    refine R_getI 7 2 2 e_X7_readEnd_0.2.2.2.2.1 f_X7_19 (kS_self hs) (fun _ _ => rfl) rfl ?_
    refine R_bipush e_X7_readEnd_0.2.2.2.2.2.1 (by decide) ?_
    obtain ⟨q5, h⟩ := h
    refine R_icmp_lt 22 e_X7_readEnd_0.2.2.2.2.2.2.1 (by decide) q5 (by decide) (fun q => ?_) (fun q => ?_)
    · replace h := h.1 q
      refine R_aload_n e_X7_readEnd_1.2.1 1 rfl ?_
      refine R_callV (mc := 0) (ms := 0) (mc' := 0) (ms' := 0) (M' := M_X6_next) (d' := 1) (as := []) (st := []) 6 0 e_X7_readEnd_1.2.2.1 (kCVof m_X6_next l_X7_84) rfl (by decide) kx_3 (by decide) (by decide) rfl rfl (by show (0 : Nat) ≤ 8; decide) ?_
      refine Run.mono h (fun r6 s7 h => ?_)
      refine R_eqs (st2 := []) rfl rfl ?_
      refine R_aload_n e_X7_readEnd_1.2.2.2.1 0 rfl ?_
      refine R_dup e_X7_readEnd_1.2.2.2.2.1 rfl ?_
      refine R_getI 7 9 9 e_X7_readEnd_1.2.2.2.2.2.1 f_X7_41 (kS_self hs) (fun _ _ => rfl) rfl ?_
      refine R_iconst e_X7_readEnd_1.2.2.2.2.2.2.1 ?_
      refine R_isub e_X7_readEnd_1.2.2.2.2.2.2.2.1 ?_
      refine R_putI 7 9 9 WX_ok e_X7_readEnd_1.2.2.2.2.2.2.2.2.1 f_X7_41 (kS_self hs) rfl rfl rfl ?_
      obtain ⟨m8, e9⟩ : ∃ z : Kmem, z = (kup s7 s 9 ((s7 s 9) - 1)) := ⟨_, rfl⟩
      rw [← e9]
      replace h := h m8 e9
      refine R_aload_n e_X7_readEnd_1.2.2.2.2.2.2.2.2.2 0 rfl ?_
      refine R_getA 7 3 (s + 1) e_X7_readEnd_2.1 f_X7_22 (kS_self hs) (fun _ _ => rfl) (kS_r3 hs) (kS_n1 hs) ?_
      refine R_aload_n e_X7_readEnd_2.2.1 0 rfl ?_
      refine R_getI 7 2 2 e_X7_readEnd_2.2.2.1 f_X7_19 (kS_self hs) (fun _ _ => rfl) rfl ?_
      refine R_bipush e_X7_readEnd_2.2.2.2.1 (by decide) ?_
      obtain ⟨q10, h⟩ := h
      refine R_iast 60 WX_ok e_X7_readEnd_2.2.2.2.2.1 (kS_kinds hs) q10 ?_
      obtain ⟨m11, e12⟩ : ∃ z : Kmem, z = (kup m8 (s + 1) (m8 s 2) 9) := ⟨_, rfl⟩
      rw [← e12]
      replace h := h m11 e12
      refine R_aload_n e_X7_readEnd_2.2.2.2.2.2.1 0 rfl ?_
      refine R_getA 7 7 (s + 5) e_X7_readEnd_2.2.2.2.2.2.2.1 f_X7_35 (kS_self hs) (fun _ _ => rfl) (kS_r7 hs) (kS_n5 hs) ?_
      refine R_aload_n e_X7_readEnd_2.2.2.2.2.2.2.2.1 0 rfl ?_
      refine R_getI 7 2 2 e_X7_readEnd_2.2.2.2.2.2.2.2.2.1 f_X7_19 (kS_self hs) (fun _ _ => rfl) rfl ?_
      refine R_aload_n e_X7_readEnd_2.2.2.2.2.2.2.2.2.2 0 rfl ?_
      refine R_getA 7 8 (s + 6) e_X7_readEnd_3.1 f_X7_38 (kS_self hs) (fun _ _ => rfl) (kS_r8 hs) (kS_n6 hs) ?_
      refine R_aload_n e_X7_readEnd_3.2.1 0 rfl ?_
      refine R_getI 7 9 9 e_X7_readEnd_3.2.2.1 f_X7_41 (kS_self hs) (fun _ _ => rfl) rfl ?_
      obtain ⟨q13, h⟩ := h
      refine R_iald 3 e_X7_readEnd_3.2.2.2.1 (kS_open hs) q13 ?_
      obtain ⟨q14, h⟩ := h
      refine R_iast 60 WX_ok e_X7_readEnd_3.2.2.2.2.1 (kS_parts hs) q14 ?_
      obtain ⟨m15, e16⟩ : ∃ z : Kmem, z = (kup m11 (s + 5) (m11 s 2) (m11 (s + 6) (m11 s 9))) := ⟨_, rfl⟩
      rw [← e16]
      replace h := h m15 e16
      refine R_aload_n e_X7_readEnd_3.2.2.2.2.2.1 0 rfl ?_
      refine R_getA 7 7 (s + 5) e_X7_readEnd_3.2.2.2.2.2.2.1 f_X7_35 (kS_self hs) (fun _ _ => rfl) (kS_r7 hs) (kS_n5 hs) ?_
      refine R_aload_n e_X7_readEnd_3.2.2.2.2.2.2.2.1 0 rfl ?_
      refine R_getA 7 8 (s + 6) e_X7_readEnd_3.2.2.2.2.2.2.2.2.1 f_X7_38 (kS_self hs) (fun _ _ => rfl) (kS_r8 hs) (kS_n6 hs) ?_
      refine R_aload_n e_X7_readEnd_3.2.2.2.2.2.2.2.2.2 0 rfl ?_
      refine R_getI 7 9 9 e_X7_readEnd_4.1 f_X7_41 (kS_self hs) (fun _ _ => rfl) rfl ?_
      obtain ⟨q17, h⟩ := h
      refine R_iald 3 e_X7_readEnd_4.2.1 (kS_open hs) q17 ?_
      refine R_aload_n e_X7_readEnd_4.2.2.1 0 rfl ?_
      refine R_getI 7 2 2 e_X7_readEnd_4.2.2.2.1 f_X7_19 (kS_self hs) (fun _ _ => rfl) rfl ?_
      obtain ⟨q18, h⟩ := h
      refine R_iast 60 WX_ok e_X7_readEnd_4.2.2.2.2.1 (kS_parts hs) q18 ?_
      obtain ⟨m19, e20⟩ : ∃ z : Kmem, z = (kup m15 (s + 5) (m15 (s + 6) (m15 s 9)) (m15 s 2)) := ⟨_, rfl⟩
      rw [← e20]
      replace h := h m19 e20
      refine R_iconst e_X7_readEnd_4.2.2.2.2.2.1 ?_
      exact R_zreturn e_X7_readEnd_4.2.2.2.2.2.2 rfl (Or.inr rfl) h
    · replace h := h.2 q
      refine R_aload_n e_X7_readEnd_0.2.2.2.2.2.2.2.1 1 rfl ?_
      refine R_iconst e_X7_readEnd_0.2.2.2.2.2.2.2.2.1 ?_
      obtain ⟨q23, h⟩ := h
      refine R_callV (mc := 0) (ms := 0) (mc' := 0) (ms' := 0) (M' := M_X6_fail) (d' := 0) (as := [vI 2]) (st := []) 6 1 e_X7_readEnd_0.2.2.2.2.2.2.2.2.2 (kCVof m_X6_fail l_X7_80) rfl (by decide) kx_3 (by decide) (by decide) rfl rfl (by show (0 : Nat) ≤ 8; decide) ?_
      refine Run.mono (P_X6_fail q23) (fun rr ss e => ?_)
      obtain ⟨e1, e2⟩ := e
      refine R_eqs (st2 := [vI 0]) (σ2 := (xF σ (2))) (by rw [e1]; rfl) e2 ?_
      exact R_zreturn e_X7_readEnd_1.1 rfl (Or.inl rfl) h
/-! KiteLand$Seasons.readAll(LKiteLand$Scanner;LKiteLand$County;)Z -/
theorem e_X7_readAll_0 : decode cX7_readAll 0 = .ok (.aload_n 0, 1) ∧ decode cX7_readAll 1 = .ok (.invokevirtual 50, 3) ∧ decode cX7_readAll 4 = .ok (.iconst 0, 1) ∧ decode cX7_readAll 5 = .ok (.istore_n 3, 1) ∧ decode cX7_readAll 6 = .ok (.iload_n 3, 1) ∧ decode cX7_readAll 7 = .ok (.sipush 300, 3) ∧ decode cX7_readAll 10 = .ok (.if_icmp .ge 83, 3) ∧ decode cX7_readAll 13 = .ok (.aload_n 1, 1) ∧ decode cX7_readAll 14 = .ok (.invokevirtual 53, 3) ∧ decode cX7_readAll 17 = .ok (.ifCond .ne 76, 3) := by decide +kernel
theorem e_X7_readAll_1 : decode cX7_readAll 20 = .ok (.aload_n 1, 1) ∧ decode cX7_readAll 21 = .ok (.ldc 59, 2) ∧ decode cX7_readAll 23 = .ok (.invokevirtual 61, 3) ∧ decode cX7_readAll 26 = .ok (.ifCond .eq 11, 3) ∧ decode cX7_readAll 29 = .ok (.aload_n 0, 1) ∧ decode cX7_readAll 30 = .ok (.aload_n 1, 1) ∧ decode cX7_readAll 31 = .ok (.invokevirtual 65, 3) ∧ decode cX7_readAll 34 = .ok (.goto 25, 3) ∧ decode cX7_readAll 37 = .ok (.aload_n 0, 1) ∧ decode cX7_readAll 38 = .ok (.aload_n 1, 1) := by decide +kernel
theorem e_X7_readAll_2 : decode cX7_readAll 39 = .ok (.invokevirtual 69, 3) ∧ decode cX7_readAll 42 = .ok (.ifCond .eq 16, 3) ∧ decode cX7_readAll 45 = .ok (.aload_n 0, 1) ∧ decode cX7_readAll 46 = .ok (.aload_n 1, 1) ∧ decode cX7_readAll 47 = .ok (.aload_n 2, 1) ∧ decode cX7_readAll 48 = .ok (.invokevirtual 72, 3) ∧ decode cX7_readAll 51 = .ok (.ifCond .eq 7, 3) ∧ decode cX7_readAll 54 = .ok (.iconst 1, 1) ∧ decode cX7_readAll 55 = .ok (.goto 4, 3) ∧ decode cX7_readAll 58 = .ok (.iconst 0, 1) := by decide +kernel
theorem e_X7_readAll_3 : decode cX7_readAll 59 = .ok (.istore 4, 2) ∧ decode cX7_readAll 61 = .ok (.aload_n 0, 1) ∧ decode cX7_readAll 62 = .ok (.dup, 1) ∧ decode cX7_readAll 63 = .ok (.getfield 19, 3) ∧ decode cX7_readAll 66 = .ok (.iconst 1, 1) ∧ decode cX7_readAll 67 = .ok (.iadd, 1) ∧ decode cX7_readAll 68 = .ok (.putfield 19, 3) ∧ decode cX7_readAll 71 = .ok (.iload 4, 2) ∧ decode cX7_readAll 73 = .ok (.ifCond .eq 12, 3) ∧ decode cX7_readAll 76 = .ok (.aload_n 1, 1) := by decide +kernel
theorem e_X7_readAll_4 : decode cX7_readAll 77 = .ok (.bipush 59, 2) ∧ decode cX7_readAll 79 = .ok (.invokevirtual 76, 3) ∧ decode cX7_readAll 82 = .ok (.ifCond .ne 5, 3) ∧ decode cX7_readAll 85 = .ok (.iconst 0, 1) ∧ decode cX7_readAll 86 = .ok (.ireturn, 1) ∧ decode cX7_readAll 87 = .ok (.iinc 3 1, 3) ∧ decode cX7_readAll 90 = .ok (.goto (-84), 3) ∧ decode cX7_readAll 93 = .ok (.aload_n 0, 1) ∧ decode cX7_readAll 94 = .ok (.getfield 41, 3) ∧ decode cX7_readAll 97 = .ok (.ifCond .le 9, 3) := by decide +kernel
theorem e_X7_readAll_5 : decode cX7_readAll 100 = .ok (.aload_n 1, 1) ∧ decode cX7_readAll 101 = .ok (.iconst 2, 1) ∧ decode cX7_readAll 102 = .ok (.invokevirtual 80, 3) ∧ decode cX7_readAll 105 = .ok (.ireturn, 1) ∧ decode cX7_readAll 106 = .ok (.aload_n 0, 1) ∧ decode cX7_readAll 107 = .ok (.iconst 1, 1) ∧ decode cX7_readAll 108 = .ok (.putfield 9, 3) ∧ decode cX7_readAll 111 = .ok (.iconst 1, 1) ∧ decode cX7_readAll 112 = .ok (.ireturn, 1) := by decide +kernel
abbrev E_X7_readAll_6 (G : Kg) (s c l3 : Int) (σ : Kmem) (Q : Int → Kmem → Prop) : Prop := Ex G WX M_X7_readAll 9 0 0 6 [(0, vA G s), (1, vA G 3), (2, vA G c), (3, vI l3)] [] σ Q
theorem S_X7_readAll {G : Kg} {σ : Kmem} {Q : Int → Kmem → Prop} {s c : Int} (hs : isS s) (hc : isC c) (h : Run G WX M_X7_clear 0 0 0 [vA G s] σ (fun r1 s2 => E_X7_readAll_6 G s c 0 s2 Q)) : Run G WX M_X7_readAll 9 0 0 [vA G s, vA G 3, vA G c] σ Q := by
  refine Run.of (by decide +kernel) (by show (3 : Nat) ≤ 5; decide) ?_
  show Ex G WX M_X7_readAll 9 0 0 0 [(0, vA G s), (1, vA G 3), (2, vA G c)] [] σ Q
  refine R_aload_n e_X7_readAll_0.1 0 rfl ?_
  refine R_callV (mc := 0) (ms := 0) (mc' := 0) (ms' := 0) (M' := M_X7_clear) (d' := 0) (as := []) (st := []) 7 0 e_X7_readAll_0.2.1 (kCVof m_X7_clear l_X7_50) rfl (by decide) (kS_self hs) (by decide) (by decide) rfl rfl (by show (0 : Nat) ≤ 8; decide) ?_
  refine Run.mono h (fun r1 s2 h => ?_)
  refine R_eqs (st2 := []) rfl rfl ?_
  refine R_iconst e_X7_readAll_0.2.2.1 ?_
  refine R_istore_n (ls2 := [(3, vI 0), (0, vA G s), (1, vA G 3), (2, vA G c)]) e_X7_readAll_0.2.2.2.1 (by decide) rfl ?_
  refine R_ls (ls2 := [(0, vA G s), (1, vA G 3), (2, vA G c), (3, vI 0)]) [1, 2, 3, 0] rfl ?_
  exact h
theorem S_X7_readAll_6 {G : Kg} {σ : Kmem} {Q : Int → Kmem → Prop} {s c l3 : Int} (hs : isS s) (hc : isC c) (h : (rI l3) ∧ ((300 ≤ l3 → (rI (σ s 9)) ∧ ((σ s 9 ≤ 0 → Q 1 (kup σ s 0 1)) ∧ (0 < σ s 9 → (rI (σ 3 2)) ∧ Q 0 (xF σ (2))))) ∧ (l3 < 300 → (rI (σ 3 2)) ∧ (((σ 3 2 = 0) → (rI (σ s 9)) ∧ ((σ s 9 ≤ 0 → Q 1 (kup σ s 0 1)) ∧ (0 < σ s 9 → (rI (σ 3 2)) ∧ Q 0 (xF σ (2))))) ∧ (¬ (σ 3 2 = 0) → (xT0 σ ∧ isStr ((-32))) ∧ ((¬ (xW σ ((-32))) → Run G WX M_X7_readStepWord 6 0 0 [vA G s, vA G 3] σ (fun r18 s19 => (rI r18) ∧ ((r18 = 0 → Q 0 (kup s19 s 2 ((s19 s 2) + 1))) ∧ (r18 ≠ 0 → Run G WX M_X7_readRest 8 0 0 [vA G s, vA G 3, vA G c] s19 (fun r21 s22 => (rI r21) ∧ ((r21 = 0 → Q 0 (kup s22 s 2 ((s22 s 2) + 1))) ∧ (r21 ≠ 0 → Run G WX M_X6_takeSign 2 0 0 [vA G 3, vI 59] (kup s22 s 2 ((s22 s 2) + 1)) (fun r24 s25 => (rI r24) ∧ ((r24 ≠ 0 → E_X7_readAll_6 G s c (l3 + 1) s25 Q) ∧ (r24 = 0 → Q 0 s25)))))))))) ∧ ((xW σ ((-32))) → Run G WX M_X7_readEnd 2 0 0 [vA G s, vA G 3] σ (fun r27 s28 => (rI r27) ∧ ((r27 = 0 → Q 0 (kup s28 s 2 ((s28 s 2) + 1))) ∧ (r27 ≠ 0 → Run G WX M_X6_takeSign 2 0 0 [vA G 3, vI 59] (kup s28 s 2 ((s28 s 2) + 1)) (fun r30 s31 => (rI r30) ∧ ((r30 ≠ 0 → E_X7_readAll_6 G s c (l3 + 1) s31 Q) ∧ (r30 = 0 → Q 0 s31))))))))))))) : E_X7_readAll_6 G s c l3 σ Q := by
  refine R_iload_n e_X7_readAll_0.2.2.2.2.1 3 rfl ?_
  refine R_sipush e_X7_readAll_0.2.2.2.2.2.1 (by decide) ?_
  obtain ⟨q3, h⟩ := h
  refine R_icmp_ge 93 e_X7_readAll_0.2.2.2.2.2.2.1 (by decide) q3 (by decide) (fun q => ?_) (fun q => ?_)
  · replace h := h.1 q
    refine R_aload_n e_X7_readAll_4.2.2.2.2.2.2.2.1 0 rfl ?_
    refine R_getI 7 9 9 e_X7_readAll_4.2.2.2.2.2.2.2.2.1 f_X7_41 (kS_self hs) (fun _ _ => rfl) rfl ?_
    obtain ⟨q4, h⟩ := h
    refine R_if_le 106 e_X7_readAll_4.2.2.2.2.2.2.2.2.2 (by decide) q4  (fun q => ?_) (fun q => ?_)
    · replace h := h.1 q
      refine R_aload_n e_X7_readAll_5.2.2.2.2.1 0 rfl ?_
      refine R_iconst e_X7_readAll_5.2.2.2.2.2.1 ?_
      refine R_putZ 7 0 0 WX_ok e_X7_readAll_5.2.2.2.2.2.2.1 f_X7_9 (kS_self hs) rfl rfl rfl (Or.inr rfl) ?_
      refine R_iconst e_X7_readAll_5.2.2.2.2.2.2.2.1 ?_
      exact R_zreturn e_X7_readAll_5.2.2.2.2.2.2.2.2 rfl (Or.inr rfl) h
    · replace h := h.2 q
      refine R_aload_n e_X7_readAll_5.1 1 rfl ?_
      refine R_iconst e_X7_readAll_5.2.1 ?_
      obtain ⟨q7, h⟩ := h
      refine R_callV (mc := 0) (ms := 0) (mc' := 0) (ms' := 0) (M' := M_X6_fail) (d' := 0) (as := [vI 2]) (st := []) 6 1 e_X7_readAll_5.2.2.1 (kCVof m_X6_fail l_X7_80) rfl (by decide) kx_3 (by decide) (by decide) rfl rfl (by show (0 : Nat) ≤ 8; decide) ?_
      refine Run.mono (P_X6_fail q7) (fun rr ss e => ?_)
      obtain ⟨e1, e2⟩ := e
      refine R_eqs (st2 := [vI 0]) (σ2 := (xF σ (2))) (by rw [e1]; rfl) e2 ?_
      exact R_zreturn e_X7_readAll_5.2.2.2.1 rfl (Or.inl rfl) h
  · replace h := h.2 q
    refine R_aload_n e_X7_readAll_0.2.2.2.2.2.2.2.1 1 rfl ?_
    obtain ⟨q10, h⟩ := h
    refine R_callV (mc := 0) (ms := 0) (mc' := 0) (ms' := 0) (M' := M_X6_isAtEnd) (d' := 0) (as := []) (st := []) 6 0 e_X7_readAll_0.2.2.2.2.2.2.2.2.1 (kCVof m_X6_isAtEnd l_X7_53) rfl (by decide) kx_3 (by decide) (by decide) rfl rfl (by show (0 : Nat) ≤ 8; decide) ?_
    refine Run.mono (P_X6_isAtEnd q10) (fun rr ss e => ?_)
    obtain ⟨e1, e2⟩ := e
    refine R_eqs (st2 := [vI (kb (σ 3 2 = 0))]) (σ2 := σ) (by rw [e1]; rfl) e2 ?_
    refine R_if_ne 93 e_X7_readAll_0.2.2.2.2.2.2.2.2.2 (by decide) (kb_r _) (fun q => ?_) (fun q => ?_)
    · replace h := h.1 (kb_t q)
      refine R_aload_n e_X7_readAll_4.2.2.2.2.2.2.2.1 0 rfl ?_
      refine R_getI 7 9 9 e_X7_readAll_4.2.2.2.2.2.2.2.2.1 f_X7_41 (kS_self hs) (fun _ _ => rfl) rfl ?_
      obtain ⟨q11, h⟩ := h
      refine R_if_le 106 e_X7_readAll_4.2.2.2.2.2.2.2.2.2 (by decide) q11  (fun q => ?_) (fun q => ?_)
      · replace h := h.1 q
        refine R_aload_n e_X7_readAll_5.2.2.2.2.1 0 rfl ?_
        refine R_iconst e_X7_readAll_5.2.2.2.2.2.1 ?_
        refine R_putZ 7 0 0 WX_ok e_X7_readAll_5.2.2.2.2.2.2.1 f_X7_9 (kS_self hs) rfl rfl rfl (Or.inr rfl) ?_
        refine R_iconst e_X7_readAll_5.2.2.2.2.2.2.2.1 ?_
        exact R_zreturn e_X7_readAll_5.2.2.2.2.2.2.2.2 rfl (Or.inr rfl) h
      · replace h := h.2 q
        refine R_aload_n e_X7_readAll_5.1 1 rfl ?_
        refine R_iconst e_X7_readAll_5.2.1 ?_
        obtain ⟨q14, h⟩ := h
        refine R_callV (mc := 0) (ms := 0) (mc' := 0) (ms' := 0) (M' := M_X6_fail) (d' := 0) (as := [vI 2]) (st := []) 6 1 e_X7_readAll_5.2.2.1 (kCVof m_X6_fail l_X7_80) rfl (by decide) kx_3 (by decide) (by decide) rfl rfl (by show (0 : Nat) ≤ 8; decide) ?_
        refine Run.mono (P_X6_fail q14) (fun rr ss e => ?_)
        obtain ⟨e1, e2⟩ := e
        refine R_eqs (st2 := [vI 0]) (σ2 := (xF σ (2))) (by rw [e1]; rfl) e2 ?_
        exact R_zreturn e_X7_readAll_5.2.2.2.1 rfl (Or.inl rfl) h
    · replace h := h.2 (kb_f q)
      refine R_aload_n e_X7_readAll_1.1 1 rfl ?_
      refine R_ldcS (i := 22) (-32) e_X7_readAll_1.2.1 rfl rfl ?_
      obtain ⟨q17, h⟩ := h
      refine R_callV (mc := 0) (ms := 0) (mc' := 0) (ms' := 0) (M' := M_X6_isWord) (d' := 4) (as := [vA G (-32)]) (st := []) 6 1 e_X7_readAll_1.2.2.1 (kCVof m_X6_isWord l_X7_61) rfl (by decide) kx_3 (by decide) (by decide) rfl rfl (by show (0 : Nat) ≤ 8; decide) ?_
      refine Run.mono (P_X6_isWord q17) (fun rr ss e => ?_)
      obtain ⟨e1, e2⟩ := e
      refine R_eqs (st2 := [vI (kb (xW σ ((-32))))]) (σ2 := σ) (by rw [e1]; rfl) e2 ?_
      refine R_if_eq 37 e_X7_readAll_1.2.2.2.1 (by decide) (kb_r _) (fun q => ?_) (fun q => ?_)
      · replace h := h.1 (kb_f q)
        refine R_aload_n e_X7_readAll_1.2.2.2.2.2.2.2.2.1 0 rfl ?_
        refine R_aload_n e_X7_readAll_1.2.2.2.2.2.2.2.2.2 1 rfl ?_
        refine R_callV (mc := 0) (ms := 0) (mc' := 0) (ms' := 0) (M' := M_X7_readStepWord) (d' := 6) (as := [vA G 3]) (st := []) 7 1 e_X7_readAll_2.1 (kCVof m_X7_readStepWord l_X7_69) rfl (by decide) (kS_self hs) (by decide) (by decide) rfl rfl (by show (0 : Nat) ≤ 8; decide) ?_
        refine Run.mono h (fun r18 s19 h => ?_)
        refine R_eqs (st2 := [vI r18]) rfl rfl ?_
        obtain ⟨q20, h⟩ := h
        refine R_if_eq 58 e_X7_readAll_2.2.1 (by decide) q20  (fun q => ?_) (fun q => ?_)
        · replace h := h.1 q
          refine R_iconst e_X7_readAll_2.2.2.2.2.2.2.2.2.2 ?_
          refine R_istore (ls2 := [(4, vI 0), (0, vA G s), (1, vA G 3), (2, vA G c), (3, vI l3)]) e_X7_readAll_3.1 (by decide) rfl ?_
          refine R_aload_n e_X7_readAll_3.2.1 1 rfl ?_
          refine R_dup e_X7_readAll_3.2.2.1 rfl ?_
          refine R_getI 7 2 2 e_X7_readAll_3.2.2.2.1 f_X7_19 (kS_self hs) (fun _ _ => rfl) rfl ?_
          refine R_iconst e_X7_readAll_3.2.2.2.2.1 ?_
          refine R_iadd e_X7_readAll_3.2.2.2.2.2.1 ?_
          refine R_putI 7 2 2 WX_ok e_X7_readAll_3.2.2.2.2.2.2.1 f_X7_19 (kS_self hs) rfl rfl rfl ?_
          refine R_iload e_X7_readAll_3.2.2.2.2.2.2.2.1 0 rfl ?_
          refine R_if_eq 85 e_X7_readAll_3.2.2.2.2.2.2.2.2.1 (by decide) (by decide)  (fun q => ?_) (fun q => absurd q (by decide))
          refine R_iconst e_X7_readAll_4.2.2.2.1 ?_
          exact R_zreturn e_X7_readAll_4.2.2.2.2.1 rfl (Or.inl rfl) h
        · replace h := h.2 q
          refine R_aload_n e_X7_readAll_2.2.2.1 0 rfl ?_
          refine R_aload_n e_X7_readAll_2.2.2.2.1 1 rfl ?_
          refine R_aload_n e_X7_readAll_2.2.2.2.2.1 2 rfl ?_
          refine R_callV (mc := 0) (ms := 0) (mc' := 0) (ms' := 0) (M' := M_X7_readRest) (d' := 8) (as := [vA G 3, vA G c]) (st := []) 7 2 e_X7_readAll_2.2.2.2.2.2.1 (kCVof m_X7_readRest l_X7_72) rfl (by decide) (kS_self hs) (by decide) (by decide) rfl rfl (by show (0 : Nat) ≤ 8; decide) ?_
          refine Run.mono h (fun r21 s22 h => ?_)
          refine R_eqs (st2 := [vI r21]) rfl rfl ?_
          obtain ⟨q23, h⟩ := h
          refine R_if_eq 58 e_X7_readAll_2.2.2.2.2.2.2.1 (by decide) q23  (fun q => ?_) (fun q => ?_)
          · replace h := h.1 q
            refine R_iconst e_X7_readAll_2.2.2.2.2.2.2.2.2.2 ?_
            refine R_istore (ls2 := [(4, vI 0), (0, vA G s), (1, vA G 3), (2, vA G c), (3, vI l3)]) e_X7_readAll_3.1 (by decide) rfl ?_
            refine R_aload_n e_X7_readAll_3.2.1 1 rfl ?_
            refine R_dup e_X7_readAll_3.2.2.1 rfl ?_
            refine R_getI 7 2 2 e_X7_readAll_3.2.2.2.1 f_X7_19 (kS_self hs) (fun _ _ => rfl) rfl ?_
            refine R_iconst e_X7_readAll_3.2.2.2.2.1 ?_
            refine R_iadd e_X7_readAll_3.2.2.2.2.2.1 ?_
            refine R_putI 7 2 2 WX_ok e_X7_readAll_3.2.2.2.2.2.2.1 f_X7_19 (kS_self hs) rfl rfl rfl ?_
            refine R_iload e_X7_readAll_3.2.2.2.2.2.2.2.1 0 rfl ?_
            refine R_if_eq 85 e_X7_readAll_3.2.2.2.2.2.2.2.2.1 (by decide) (by decide)  (fun q => ?_) (fun q => absurd q (by decide))
            refine R_iconst e_X7_readAll_4.2.2.2.1 ?_
            exact R_zreturn e_X7_readAll_4.2.2.2.2.1 rfl (Or.inl rfl) h
          · replace h := h.2 q
            refine R_iconst e_X7_readAll_2.2.2.2.2.2.2.2.1 ?_
            refine R_goto 59 e_X7_readAll_2.2.2.2.2.2.2.2.2.1 (by decide) ?_
            refine R_istore (ls2 := [(4, vI 1), (0, vA G s), (1, vA G 3), (2, vA G c), (3, vI l3)]) e_X7_readAll_3.1 (by decide) rfl ?_
            refine R_aload_n e_X7_readAll_3.2.1 1 rfl ?_
            refine R_dup e_X7_readAll_3.2.2.1 rfl ?_
            refine R_getI 7 2 2 e_X7_readAll_3.2.2.2.1 f_X7_19 (kS_self hs) (fun _ _ => rfl) rfl ?_
            refine R_iconst e_X7_readAll_3.2.2.2.2.1 ?_
            refine R_iadd e_X7_readAll_3.2.2.2.2.2.1 ?_
            refine R_putI 7 2 2 WX_ok e_X7_readAll_3.2.2.2.2.2.2.1 f_X7_19 (kS_self hs) rfl rfl rfl ?_
            refine R_iload e_X7_readAll_3.2.2.2.2.2.2.2.1 0 rfl ?_
            refine R_if_eq 85 e_X7_readAll_3.2.2.2.2.2.2.2.2.1 (by decide) (by decide)  (fun q => absurd q (by decide)) (fun q => ?_)
            refine R_aload_n e_X7_readAll_3.2.2.2.2.2.2.2.2.2 2 rfl ?_
            refine R_bipush e_X7_readAll_4.1 (by decide) ?_
            refine R_callV (mc := 0) (ms := 0) (mc' := 0) (ms' := 0) (M' := M_X6_takeSign) (d' := 2) (as := [vI 59]) (st := []) 6 1 e_X7_readAll_4.2.1 (kCVof m_X6_takeSign l_X7_76) rfl (by decide) kx_3 (by decide) (by decide) rfl rfl (by show (0 : Nat) ≤ 8; decide) ?_
            refine Run.mono h (fun r24 s25 h => ?_)
            refine R_eqs (st2 := [vI r24]) rfl rfl ?_
            obtain ⟨q26, h⟩ := h
            refine R_if_ne 87 e_X7_readAll_4.2.2.1 (by decide) q26  (fun q => ?_) (fun q => ?_)
            · replace h := h.1 q
              refine R_iinc (ls2 := [(3, vI (l3 + 1)), (4, vI 1), (0, vA G s), (1, vA G 3), (2, vA G c)]) e_X7_readAll_4.2.2.2.2.2.1 4 rfl (by decide) rfl ?_
              refine R_goto 6 e_X7_readAll_4.2.2.2.2.2.2.1 (by decide) ?_
              refine R_ls (ls2 := [(0, vA G s), (1, vA G 3), (2, vA G c), (3, vI (l3 + 1))]) [2, 3, 4, 0] rfl ?_
              exact h
            · replace h := h.2 q
              refine R_iconst e_X7_readAll_4.2.2.2.1 ?_
              exact R_zreturn e_X7_readAll_4.2.2.2.2.1 rfl (Or.inl rfl) h
      · replace h := h.2 (kb_t q)
        refine R_aload_n e_X7_readAll_1.2.2.2.2.1 0 rfl ?_
        refine R_aload_n e_X7_readAll_1.2.2.2.2.2.1 1 rfl ?_
        refine R_callV (mc := 0) (ms := 0) (mc' := 0) (ms' := 0) (M' := M_X7_readEnd) (d' := 2) (as := [vA G 3]) (st := []) 7 1 e_X7_readAll_1.2.2.2.2.2.2.1 (kCVof m_X7_readEnd l_X7_65) rfl (by decide) (kS_self hs) (by decide) (by decide) rfl rfl (by show (0 : Nat) ≤ 8; decide) ?_
        refine Run.mono h (fun r27 s28 h => ?_)
        refine R_eqs (st2 := [vI r27]) rfl rfl ?_
        refine R_goto 59 e_X7_readAll_1.2.2.2.2.2.2.2.1 (by decide) ?_
        refine R_istore (ls2 := [(4, vI r27), (0, vA G s), (1, vA G 3), (2, vA G c), (3, vI l3)]) e_X7_readAll_3.1 (by decide) rfl ?_
        refine R_aload_n e_X7_readAll_3.2.1 1 rfl ?_
        refine R_dup e_X7_readAll_3.2.2.1 rfl ?_
        refine R_getI 7 2 2 e_X7_readAll_3.2.2.2.1 f_X7_19 (kS_self hs) (fun _ _ => rfl) rfl ?_
        refine R_iconst e_X7_readAll_3.2.2.2.2.1 ?_
        refine R_iadd e_X7_readAll_3.2.2.2.2.2.1 ?_
        refine R_putI 7 2 2 WX_ok e_X7_readAll_3.2.2.2.2.2.2.1 f_X7_19 (kS_self hs) rfl rfl rfl ?_
        refine R_iload e_X7_readAll_3.2.2.2.2.2.2.2.1 0 rfl ?_
        obtain ⟨q29, h⟩ := h
        refine R_if_eq 85 e_X7_readAll_3.2.2.2.2.2.2.2.2.1 (by decide) q29  (fun q => ?_) (fun q => ?_)
        · replace h := h.1 q
          refine R_iconst e_X7_readAll_4.2.2.2.1 ?_
          exact R_zreturn e_X7_readAll_4.2.2.2.2.1 rfl (Or.inl rfl) h
        · replace h := h.2 q
          refine R_aload_n e_X7_readAll_3.2.2.2.2.2.2.2.2.2 2 rfl ?_
          refine R_bipush e_X7_readAll_4.1 (by decide) ?_
          refine R_callV (mc := 0) (ms := 0) (mc' := 0) (ms' := 0) (M' := M_X6_takeSign) (d' := 2) (as := [vI 59]) (st := []) 6 1 e_X7_readAll_4.2.1 (kCVof m_X6_takeSign l_X7_76) rfl (by decide) kx_3 (by decide) (by decide) rfl rfl (by show (0 : Nat) ≤ 8; decide) ?_
          refine Run.mono h (fun r30 s31 h => ?_)
          refine R_eqs (st2 := [vI r30]) rfl rfl ?_
          obtain ⟨q32, h⟩ := h
          refine R_if_ne 87 e_X7_readAll_4.2.2.1 (by decide) q32  (fun q => ?_) (fun q => ?_)
          · replace h := h.1 q
            refine R_iinc (ls2 := [(3, vI (l3 + 1)), (4, vI r27), (0, vA G s), (1, vA G 3), (2, vA G c)]) e_X7_readAll_4.2.2.2.2.2.1 4 rfl (by decide) rfl ?_
            refine R_goto 6 e_X7_readAll_4.2.2.2.2.2.2.1 (by decide) ?_
            refine R_ls (ls2 := [(0, vA G s), (1, vA G 3), (2, vA G c), (3, vI (l3 + 1))]) [2, 3, 4, 0] rfl ?_
            exact h
          · replace h := h.2 q
            refine R_iconst e_X7_readAll_4.2.2.2.1 ?_
            exact R_zreturn e_X7_readAll_4.2.2.2.2.1 rfl (Or.inl rfl) h
