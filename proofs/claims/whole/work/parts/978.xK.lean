/-! KiteLand$County.clear()V -/
theorem e_X0_clear_0 : decode cX0_clear 0 = .ok (.aload_n 0, 1) ∧ decode cX0_clear 1 = .ok (.iconst 0, 1) ∧ decode cX0_clear 2 = .ok (.putfield 9, 3) ∧ decode cX0_clear 5 = .ok (.aload_n 0, 1) ∧ decode cX0_clear 6 = .ok (.iconst 0, 1) ∧ decode cX0_clear 7 = .ok (.putfield 15, 3) ∧ decode cX0_clear 10 = .ok (.aload_n 0, 1) ∧ decode cX0_clear 11 = .ok (.bipush 6, 2) ∧ decode cX0_clear 13 = .ok (.putfield 18, 3) ∧ decode cX0_clear 16 = .ok (.aload_n 0, 1) := by decide +kernel
theorem e_X0_clear_1 : decode cX0_clear 17 = .ok (.iconst 0, 1) ∧ decode cX0_clear 18 = .ok (.putfield 21, 3) ∧ decode cX0_clear 21 = .ok (.aload_n 0, 1) ∧ decode cX0_clear 22 = .ok (.iconst 0, 1) ∧ decode cX0_clear 23 = .ok (.putfield 24, 3) ∧ decode cX0_clear 26 = .ok (.aload_n 0, 1) ∧ decode cX0_clear 27 = .ok (.iconst 0, 1) ∧ decode cX0_clear 28 = .ok (.putfield 27, 3) ∧ decode cX0_clear 31 = .ok (.aload_n 0, 1) ∧ decode cX0_clear 32 = .ok (.iconst 0, 1) := by decide +kernel
theorem e_X0_clear_2 : decode cX0_clear 33 = .ok (.putfield 30, 3) ∧ decode cX0_clear 36 = .ok (.aload_n 0, 1) ∧ decode cX0_clear 37 = .ok (.iconst 0, 1) ∧ decode cX0_clear 38 = .ok (.putfield 33, 3) ∧ decode cX0_clear 41 = .ok (.iconst 0, 1) ∧ decode cX0_clear 42 = .ok (.istore_n 1, 1) ∧ decode cX0_clear 43 = .ok (.iload_n 1, 1) ∧ decode cX0_clear 44 = .ok (.bipush 12, 2) ∧ decode cX0_clear 46 = .ok (.if_icmp .ge 23, 3) ∧ decode cX0_clear 49 = .ok (.aload_n 0, 1) := by decide +kernel
theorem e_X0_clear_3 : decode cX0_clear 50 = .ok (.getfield 36, 3) ∧ decode cX0_clear 53 = .ok (.iload_n 1, 1) ∧ decode cX0_clear 54 = .ok (.iconst 2, 1) ∧ decode cX0_clear 55 = .ok (.iastore, 1) ∧ decode cX0_clear 56 = .ok (.aload_n 0, 1) ∧ decode cX0_clear 57 = .ok (.getfield 40, 3) ∧ decode cX0_clear 60 = .ok (.iload_n 1, 1) ∧ decode cX0_clear 61 = .ok (.iconst 2, 1) ∧ decode cX0_clear 62 = .ok (.iastore, 1) ∧ decode cX0_clear 63 = .ok (.iinc 1 1, 3) := by decide +kernel
theorem e_X0_clear_4 : decode cX0_clear 66 = .ok (.goto (-23), 3) ∧ decode cX0_clear 69 = .ok (.return_, 1) := by decide +kernel
abbrev E_X0_clear_43 (G : Kg) (c l1 : Int) (σ : Kmem) (Q : Int → Kmem → Prop) : Prop := Ex G WX M_X0_clear 0 0 0 43 [(0, vA G c), (1, vI l1)] [] σ Q
theorem S_X0_clear {G : Kg} {σ : Kmem} {Q : Int → Kmem → Prop} {c : Int} (hc : isC c) (h : E_X0_clear_43 G c 0 (kup (kup (kup (kup (kup (kup (kup (kup σ c 0 0) c 1 0) c 2 6) c 3 0) c 4 0) c 5 0) c 6 0) c 7 0) Q) : Run G WX M_X0_clear 0 0 0 [vA G c] σ Q := by
  refine Run.of (by decide +kernel) (by show (1 : Nat) ≤ 2; decide) ?_
  show Ex G WX M_X0_clear 0 0 0 0 [(0, vA G c)] [] σ Q
  refine R_aload_n e_X0_clear_0.1 0 rfl ?_
  refine R_iconst e_X0_clear_0.2.1 ?_
  refine R_putI 0 0 0 WX_ok e_X0_clear_0.2.2.1 f_X0_9 (kC_self hc) rfl rfl rfl ?_
  refine R_aload_n e_X0_clear_0.2.2.2.1 0 rfl ?_
  refine R_iconst e_X0_clear_0.2.2.2.2.1 ?_
  refine R_putI 0 1 1 WX_ok e_X0_clear_0.2.2.2.2.2.1 f_X0_15 (kC_self hc) rfl rfl rfl ?_
  refine R_aload_n e_X0_clear_0.2.2.2.2.2.2.1 0 rfl ?_
  refine R_bipush e_X0_clear_0.2.2.2.2.2.2.2.1 (by decide) ?_
  refine R_putI 0 2 2 WX_ok e_X0_clear_0.2.2.2.2.2.2.2.2.1 f_X0_18 (kC_self hc) rfl rfl rfl ?_
  refine R_aload_n e_X0_clear_0.2.2.2.2.2.2.2.2.2 0 rfl ?_
  refine R_iconst e_X0_clear_1.1 ?_
  refine R_putI 0 3 3 WX_ok e_X0_clear_1.2.1 f_X0_21 (kC_self hc) rfl rfl rfl ?_
  refine R_aload_n e_X0_clear_1.2.2.1 0 rfl ?_
  refine R_iconst e_X0_clear_1.2.2.2.1 ?_
  refine R_putI 0 4 4 WX_ok e_X0_clear_1.2.2.2.2.1 f_X0_24 (kC_self hc) rfl rfl rfl ?_
  refine R_aload_n e_X0_clear_1.2.2.2.2.2.1 0 rfl ?_
  refine R_iconst e_X0_clear_1.2.2.2.2.2.2.1 ?_
  refine R_putI 0 5 5 WX_ok e_X0_clear_1.2.2.2.2.2.2.2.1 f_X0_27 (kC_self hc) rfl rfl rfl ?_
  refine R_aload_n e_X0_clear_1.2.2.2.2.2.2.2.2.1 0 rfl ?_
  refine R_iconst e_X0_clear_1.2.2.2.2.2.2.2.2.2 ?_
  refine R_putI 0 6 6 WX_ok e_X0_clear_2.1 f_X0_30 (kC_self hc) rfl rfl rfl ?_
  refine R_aload_n e_X0_clear_2.2.1 0 rfl ?_
  refine R_iconst e_X0_clear_2.2.2.1 ?_
  refine R_putI 0 7 7 WX_ok e_X0_clear_2.2.2.2.1 f_X0_33 (kC_self hc) rfl rfl rfl ?_
  refine R_iconst e_X0_clear_2.2.2.2.2.1 ?_
  refine R_istore_n (ls2 := [(1, vI 0), (0, vA G c)]) e_X0_clear_2.2.2.2.2.2.1 (by decide) rfl ?_
  refine R_ls (ls2 := [(0, vA G c), (1, vI 0)]) [1, 0] rfl ?_
  exact h
theorem S_X0_clear_43 {G : Kg} {σ : Kmem} {Q : Int → Kmem → Prop} {c l1 : Int} (hc : isC c) (h : (rI l1) ∧ ((12 ≤ l1 → Q 0 σ) ∧ (l1 < 12 → (0 ≤ l1 ∧ l1 < 12) ∧ (0 ≤ l1 ∧ l1 < 12) ∧ E_X0_clear_43 G c (l1 + 1) (kup (kup σ (c + 1) l1 2) (c + 2) l1 2) Q))) : E_X0_clear_43 G c l1 σ Q := by
  refine R_iload_n e_X0_clear_2.2.2.2.2.2.2.1 1 rfl ?_
  refine R_bipush e_X0_clear_2.2.2.2.2.2.2.2.1 (by decide) ?_
  obtain ⟨q1, h⟩ := h
  refine R_icmp_ge 69 e_X0_clear_2.2.2.2.2.2.2.2.2.1 (by decide) q1 (by decide) (fun q => ?_) (fun q => ?_)
  · replace h := h.1 q
    exact R_return e_X0_clear_4.2 rfl h
  · replace h := h.2 q
    refine R_aload_n e_X0_clear_2.2.2.2.2.2.2.2.2.2 0 rfl ?_
    refine R_getA 0 8 (c + 1) e_X0_clear_3.1 f_X0_36 (kC_self hc) (fun _ _ => rfl) (kC_r8 hc) (kC_n1 hc) ?_
    refine R_iload_n e_X0_clear_3.2.1 1 rfl ?_
    refine R_iconst e_X0_clear_3.2.2.1 ?_
    obtain ⟨q2, h⟩ := h
    refine R_iast 12 WX_ok e_X0_clear_3.2.2.2.1 (kC_dirs hc) q2 ?_
    refine R_aload_n e_X0_clear_3.2.2.2.2.1 0 rfl ?_
    refine R_getA 0 9 (c + 2) e_X0_clear_3.2.2.2.2.2.1 f_X0_40 (kC_self hc) (fun _ _ => rfl) (kC_r9 hc) (kC_n2 hc) ?_
    refine R_iload_n e_X0_clear_3.2.2.2.2.2.2.1 1 rfl ?_
    refine R_iconst e_X0_clear_3.2.2.2.2.2.2.2.1 ?_
    obtain ⟨q3, h⟩ := h
    refine R_iast 12 WX_ok e_X0_clear_3.2.2.2.2.2.2.2.2.1 (kC_forces hc) q3 ?_
    refine R_iinc (ls2 := [(1, vI (l1 + 1)), (0, vA G c)]) e_X0_clear_3.2.2.2.2.2.2.2.2.2 1 rfl (by decide) rfl ?_
    refine R_goto 43 e_X0_clear_4.1 (by decide) ?_
    refine R_ls (ls2 := [(0, vA G c), (1, vI (l1 + 1))]) [1, 0] rfl ?_
    exact h
/-! KiteLand$County.kiteNamed(J)I -/
theorem e_X0_kiteNamed_0 : decode cX0_kiteNamed 0 = .ok (.iconst 0, 1) ∧ decode cX0_kiteNamed 1 = .ok (.istore_n 3, 1) ∧ decode cX0_kiteNamed 2 = .ok (.iload_n 3, 1) ∧ decode cX0_kiteNamed 3 = .ok (.aload_n 0, 1) ∧ decode cX0_kiteNamed 4 = .ok (.getfield 27, 3) ∧ decode cX0_kiteNamed 7 = .ok (.if_icmp .ge 25, 3) ∧ decode cX0_kiteNamed 10 = .ok (.aload_n 0, 1) ∧ decode cX0_kiteNamed 11 = .ok (.getfield 45, 3) ∧ decode cX0_kiteNamed 14 = .ok (.iload_n 3, 1) ∧ decode cX0_kiteNamed 15 = .ok (.aaload, 1) := by decide +kernel
theorem e_X0_kiteNamed_1 : decode cX0_kiteNamed 16 = .ok (.getfield 104, 3) ∧ decode cX0_kiteNamed 19 = .ok (.lload_n 1, 1) ∧ decode cX0_kiteNamed 20 = .ok (.lcmp, 1) ∧ decode cX0_kiteNamed 21 = .ok (.ifCond .ne 5, 3) ∧ decode cX0_kiteNamed 24 = .ok (.iload_n 3, 1) ∧ decode cX0_kiteNamed 25 = .ok (.ireturn, 1) ∧ decode cX0_kiteNamed 26 = .ok (.iinc 3 1, 3) ∧ decode cX0_kiteNamed 29 = .ok (.goto (-27), 3) ∧ decode cX0_kiteNamed 32 = .ok (.iconst (-1), 1) ∧ decode cX0_kiteNamed 33 = .ok (.ireturn, 1) := by decide +kernel
abbrev E_X0_kiteNamed_2 (G : Kg) (c l1 l3 : Int) (σ : Kmem) (Q : Int → Kmem → Prop) : Prop := Ex G WX M_X0_kiteNamed 0 0 0 2 [(0, vA G c), (1, vL l1), (3, vI l3)] [] σ Q
theorem S_X0_kiteNamed {G : Kg} {σ : Kmem} {Q : Int → Kmem → Prop} {c l1 : Int} (hc : isC c) (h : E_X0_kiteNamed_2 G c l1 0 σ Q) : Run G WX M_X0_kiteNamed 0 0 0 [vA G c, vL l1] σ Q := by
  refine Run.of (by decide +kernel) (by show (3 : Nat) ≤ 4; decide) ?_
  show Ex G WX M_X0_kiteNamed 0 0 0 0 [(0, vA G c), (1, vL l1)] [] σ Q
  refine R_iconst e_X0_kiteNamed_0.1 ?_
  refine R_istore_n (ls2 := [(3, vI 0), (0, vA G c), (1, vL l1)]) e_X0_kiteNamed_0.2.1 (by decide) rfl ?_
  refine R_ls (ls2 := [(0, vA G c), (1, vL l1), (3, vI 0)]) [1, 2, 0] rfl ?_
  exact h
theorem S_X0_kiteNamed_2 {G : Kg} {σ : Kmem} {Q : Int → Kmem → Prop} {c l1 l3 : Int} (hc : isC c) (h : (rI l3) ∧ (rI (σ c 5)) ∧ ((σ c 5 ≤ l3 → Q (-1) σ) ∧ (l3 < σ c 5 → (0 ≤ l3 ∧ l3 < 6) ∧ (rL (σ (c + 6 + l3) 0)) ∧ (rL l1) ∧ ((σ (c + 6 + l3) 0 ≠ l1 → E_X0_kiteNamed_2 G c l1 (l3 + 1) σ Q) ∧ (σ (c + 6 + l3) 0 = l1 → Q l3 σ))))) : E_X0_kiteNamed_2 G c l1 l3 σ Q := by
  refine R_iload_n e_X0_kiteNamed_0.2.2.1 2 rfl ?_
  refine R_aload_n e_X0_kiteNamed_0.2.2.2.1 0 rfl ?_
  refine R_getI 0 5 5 e_X0_kiteNamed_0.2.2.2.2.1 f_X0_27 (kC_self hc) (fun _ _ => rfl) rfl ?_
  obtain ⟨q1, h⟩ := h
  obtain ⟨q2, h⟩ := h
  refine R_icmp_ge 32 e_X0_kiteNamed_0.2.2.2.2.2.1 (by decide) q1 q2 (fun q => ?_) (fun q => ?_)
  · replace h := h.1 q
    refine R_iconst e_X0_kiteNamed_1.2.2.2.2.2.2.2.2.1 ?_
    exact R_ireturn e_X0_kiteNamed_1.2.2.2.2.2.2.2.2.2 rfl h
  · replace h := h.2 q
    refine R_aload_n e_X0_kiteNamed_0.2.2.2.2.2.2.1 0 rfl ?_
    refine R_getA 0 10 (c + 3) e_X0_kiteNamed_0.2.2.2.2.2.2.2.1 f_X0_45 (kC_self hc) (fun _ _ => rfl) (kC_r10 hc) (kC_n3 hc) ?_
    refine R_iload_n e_X0_kiteNamed_0.2.2.2.2.2.2.2.2.1 2 rfl ?_
    obtain ⟨q3, h⟩ := h
    refine R_aald 27 6 (c + 6 + l3) e_X0_kiteNamed_0.2.2.2.2.2.2.2.2.2 (by decide) (kC_kites hc) q3 (kC_kiteAt hc q3) (kC_kiteN hc q3) ?_
    refine R_getL 3 0 0 e_X0_kiteNamed_1.1 f_X0_104 (kC_kite hc q3) (fun _ _ => rfl) rfl ?_
    refine R_lload_n e_X0_kiteNamed_1.2.1 1 rfl ?_
    obtain ⟨q4, h⟩ := h
    obtain ⟨q5, h⟩ := h
    refine R_lcmp e_X0_kiteNamed_1.2.2.1 q4 q5 ?_
    refine R_if_ne 26 e_X0_kiteNamed_1.2.2.2.1 (by decide) (kcmp_r _ _) (fun q => ?_) (fun q => ?_)
    · replace h := h.1 (kcmp_ne_t.mp q)
      refine R_iinc (ls2 := [(3, vI (l3 + 1)), (0, vA G c), (1, vL l1)]) e_X0_kiteNamed_1.2.2.2.2.2.2.1 2 rfl (by decide) rfl ?_
      refine R_goto 2 e_X0_kiteNamed_1.2.2.2.2.2.2.2.1 (by decide) ?_
      refine R_ls (ls2 := [(0, vA G c), (1, vL l1), (3, vI (l3 + 1))]) [1, 2, 0] rfl ?_
      exact h
    · replace h := h.2 (kcmp_ne_f.mp q)
      refine R_iload_n e_X0_kiteNamed_1.2.2.2.2.1 2 rfl ?_
      exact R_ireturn e_X0_kiteNamed_1.2.2.2.2.2.1 rfl h
/-! KiteLand$County.cropNamed(J)I -/
theorem e_X0_cropNamed_0 : decode cX0_cropNamed 0 = .ok (.iconst 0, 1) ∧ decode cX0_cropNamed 1 = .ok (.istore_n 3, 1) ∧ decode cX0_cropNamed 2 = .ok (.iload_n 3, 1) ∧ decode cX0_cropNamed 3 = .ok (.aload_n 0, 1) ∧ decode cX0_cropNamed 4 = .ok (.getfield 30, 3) ∧ decode cX0_cropNamed 7 = .ok (.if_icmp .ge 25, 3) ∧ decode cX0_cropNamed 10 = .ok (.aload_n 0, 1) ∧ decode cX0_cropNamed 11 = .ok (.getfield 51, 3) ∧ decode cX0_cropNamed 14 = .ok (.iload_n 3, 1) ∧ decode cX0_cropNamed 15 = .ok (.aaload, 1) := by decide +kernel
theorem e_X0_cropNamed_1 : decode cX0_cropNamed 16 = .ok (.getfield 105, 3) ∧ decode cX0_cropNamed 19 = .ok (.lload_n 1, 1) ∧ decode cX0_cropNamed 20 = .ok (.lcmp, 1) ∧ decode cX0_cropNamed 21 = .ok (.ifCond .ne 5, 3) ∧ decode cX0_cropNamed 24 = .ok (.iload_n 3, 1) ∧ decode cX0_cropNamed 25 = .ok (.ireturn, 1) ∧ decode cX0_cropNamed 26 = .ok (.iinc 3 1, 3) ∧ decode cX0_cropNamed 29 = .ok (.goto (-27), 3) ∧ decode cX0_cropNamed 32 = .ok (.iconst (-1), 1) ∧ decode cX0_cropNamed 33 = .ok (.ireturn, 1) := by decide +kernel
abbrev E_X0_cropNamed_2 (G : Kg) (c l1 l3 : Int) (σ : Kmem) (Q : Int → Kmem → Prop) : Prop := Ex G WX M_X0_cropNamed 0 0 0 2 [(0, vA G c), (1, vL l1), (3, vI l3)] [] σ Q
theorem S_X0_cropNamed {G : Kg} {σ : Kmem} {Q : Int → Kmem → Prop} {c l1 : Int} (hc : isC c) (h : E_X0_cropNamed_2 G c l1 0 σ Q) : Run G WX M_X0_cropNamed 0 0 0 [vA G c, vL l1] σ Q := by
  refine Run.of (by decide +kernel) (by show (3 : Nat) ≤ 4; decide) ?_
  show Ex G WX M_X0_cropNamed 0 0 0 0 [(0, vA G c), (1, vL l1)] [] σ Q
  refine R_iconst e_X0_cropNamed_0.1 ?_
  refine R_istore_n (ls2 := [(3, vI 0), (0, vA G c), (1, vL l1)]) e_X0_cropNamed_0.2.1 (by decide) rfl ?_
  refine R_ls (ls2 := [(0, vA G c), (1, vL l1), (3, vI 0)]) [1, 2, 0] rfl ?_
  exact h
theorem S_X0_cropNamed_2 {G : Kg} {σ : Kmem} {Q : Int → Kmem → Prop} {c l1 l3 : Int} (hc : isC c) (h : (rI l3) ∧ (rI (σ c 6)) ∧ ((σ c 6 ≤ l3 → Q (-1) σ) ∧ (l3 < σ c 6 → (0 ≤ l3 ∧ l3 < 8) ∧ (rL (σ (c + 12 + l3) 0)) ∧ (rL l1) ∧ ((σ (c + 12 + l3) 0 ≠ l1 → E_X0_cropNamed_2 G c l1 (l3 + 1) σ Q) ∧ (σ (c + 12 + l3) 0 = l1 → Q l3 σ))))) : E_X0_cropNamed_2 G c l1 l3 σ Q := by
  refine R_iload_n e_X0_cropNamed_0.2.2.1 2 rfl ?_
  refine R_aload_n e_X0_cropNamed_0.2.2.2.1 0 rfl ?_
  refine R_getI 0 6 6 e_X0_cropNamed_0.2.2.2.2.1 f_X0_30 (kC_self hc) (fun _ _ => rfl) rfl ?_
  obtain ⟨q1, h⟩ := h
  obtain ⟨q2, h⟩ := h
  refine R_icmp_ge 32 e_X0_cropNamed_0.2.2.2.2.2.1 (by decide) q1 q2 (fun q => ?_) (fun q => ?_)
  · replace h := h.1 q
    refine R_iconst e_X0_cropNamed_1.2.2.2.2.2.2.2.2.1 ?_
    exact R_ireturn e_X0_cropNamed_1.2.2.2.2.2.2.2.2.2 rfl h
  · replace h := h.2 q
    refine R_aload_n e_X0_cropNamed_0.2.2.2.2.2.2.1 0 rfl ?_
    refine R_getA 0 11 (c + 4) e_X0_cropNamed_0.2.2.2.2.2.2.2.1 f_X0_51 (kC_self hc) (fun _ _ => rfl) (kC_r11 hc) (kC_n4 hc) ?_
    refine R_iload_n e_X0_cropNamed_0.2.2.2.2.2.2.2.2.1 2 rfl ?_
    obtain ⟨q3, h⟩ := h
    refine R_aald 28 8 (c + 12 + l3) e_X0_cropNamed_0.2.2.2.2.2.2.2.2.2 (by decide) (kC_crops hc) q3 (kC_cropAt hc q3) (kC_cropN hc q3) ?_
    refine R_getL 2 0 0 e_X0_cropNamed_1.1 f_X0_105 (kC_crop hc q3) (fun _ _ => rfl) rfl ?_
    refine R_lload_n e_X0_cropNamed_1.2.1 1 rfl ?_
    obtain ⟨q4, h⟩ := h
    obtain ⟨q5, h⟩ := h
    refine R_lcmp e_X0_cropNamed_1.2.2.1 q4 q5 ?_
    refine R_if_ne 26 e_X0_cropNamed_1.2.2.2.1 (by decide) (kcmp_r _ _) (fun q => ?_) (fun q => ?_)
    · replace h := h.1 (kcmp_ne_t.mp q)
      refine R_iinc (ls2 := [(3, vI (l3 + 1)), (0, vA G c), (1, vL l1)]) e_X0_cropNamed_1.2.2.2.2.2.2.1 2 rfl (by decide) rfl ?_
      refine R_goto 2 e_X0_cropNamed_1.2.2.2.2.2.2.2.1 (by decide) ?_
      refine R_ls (ls2 := [(0, vA G c), (1, vL l1), (3, vI (l3 + 1))]) [1, 2, 0] rfl ?_
      exact h
    · replace h := h.2 (kcmp_ne_f.mp q)
      refine R_iload_n e_X0_cropNamed_1.2.2.2.2.1 2 rfl ?_
      exact R_ireturn e_X0_cropNamed_1.2.2.2.2.2.1 rfl h
/-! KiteLand$County.hasName(J)Z -/
theorem e_X0_hasName_0 : decode cX0_hasName 0 = .ok (.iconst 0, 1) ∧ decode cX0_hasName 1 = .ok (.istore_n 3, 1) ∧ decode cX0_hasName 2 = .ok (.iload_n 3, 1) ∧ decode cX0_hasName 3 = .ok (.aload_n 0, 1) ∧ decode cX0_hasName 4 = .ok (.getfield 33, 3) ∧ decode cX0_hasName 7 = .ok (.if_icmp .ge 25, 3) ∧ decode cX0_hasName 10 = .ok (.aload_n 0, 1) ∧ decode cX0_hasName 11 = .ok (.getfield 57, 3) ∧ decode cX0_hasName 14 = .ok (.iload_n 3, 1) ∧ decode cX0_hasName 15 = .ok (.aaload, 1) := by decide +kernel
theorem e_X0_hasName_1 : decode cX0_hasName 16 = .ok (.getfield 93, 3) ∧ decode cX0_hasName 19 = .ok (.lload_n 1, 1) ∧ decode cX0_hasName 20 = .ok (.lcmp, 1) ∧ decode cX0_hasName 21 = .ok (.ifCond .ne 5, 3) ∧ decode cX0_hasName 24 = .ok (.iconst 1, 1) ∧ decode cX0_hasName 25 = .ok (.ireturn, 1) ∧ decode cX0_hasName 26 = .ok (.iinc 3 1, 3) ∧ decode cX0_hasName 29 = .ok (.goto (-27), 3) ∧ decode cX0_hasName 32 = .ok (.aload_n 0, 1) ∧ decode cX0_hasName 33 = .ok (.lload_n 1, 1) := by decide +kernel
theorem e_X0_hasName_2 : decode cX0_hasName 34 = .ok (.invokevirtual 97, 3) ∧ decode cX0_hasName 37 = .ok (.iconst (-1), 1) ∧ decode cX0_hasName 38 = .ok (.if_icmp .ne 12, 3) ∧ decode cX0_hasName 41 = .ok (.aload_n 0, 1) ∧ decode cX0_hasName 42 = .ok (.lload_n 1, 1) ∧ decode cX0_hasName 43 = .ok (.invokevirtual 101, 3) ∧ decode cX0_hasName 46 = .ok (.iconst (-1), 1) ∧ decode cX0_hasName 47 = .ok (.if_icmp .eq 7, 3) ∧ decode cX0_hasName 50 = .ok (.iconst 1, 1) ∧ decode cX0_hasName 51 = .ok (.goto 4, 3) := by decide +kernel
theorem e_X0_hasName_3 : decode cX0_hasName 54 = .ok (.iconst 0, 1) ∧ decode cX0_hasName 55 = .ok (.ireturn, 1) := by decide +kernel
abbrev E_X0_hasName_2 (G : Kg) (c l1 l3 : Int) (σ : Kmem) (Q : Int → Kmem → Prop) : Prop := Ex G WX M_X0_hasName 1 0 0 2 [(0, vA G c), (1, vL l1), (3, vI l3)] [] σ Q
theorem S_X0_hasName {G : Kg} {σ : Kmem} {Q : Int → Kmem → Prop} {c l1 : Int} (hc : isC c) (h : E_X0_hasName_2 G c l1 0 σ Q) : Run G WX M_X0_hasName 1 0 0 [vA G c, vL l1] σ Q := by
  refine Run.of (by decide +kernel) (by show (3 : Nat) ≤ 4; decide) ?_
  show Ex G WX M_X0_hasName 1 0 0 0 [(0, vA G c), (1, vL l1)] [] σ Q
  refine R_iconst e_X0_hasName_0.1 ?_
  refine R_istore_n (ls2 := [(3, vI 0), (0, vA G c), (1, vL l1)]) e_X0_hasName_0.2.1 (by decide) rfl ?_
  refine R_ls (ls2 := [(0, vA G c), (1, vL l1), (3, vI 0)]) [1, 2, 0] rfl ?_
  exact h
theorem S_X0_hasName_2 {G : Kg} {σ : Kmem} {Q : Int → Kmem → Prop} {c l1 l3 : Int} (hc : isC c) (h : (rI l3) ∧ (rI (σ c 7)) ∧ ((σ c 7 ≤ l3 → Run G WX M_X0_kiteNamed 0 0 0 [vA G c, vL l1] σ (fun r3 s4 => (rI r3) ∧ ((r3 ≠ -1 → Q 1 s4) ∧ (r3 = -1 → Run G WX M_X0_cropNamed 0 0 0 [vA G c, vL l1] s4 (fun r6 s7 => (rI r6) ∧ ((r6 = -1 → Q 0 s7) ∧ (r6 ≠ -1 → Q 1 s7))))))) ∧ (l3 < σ c 7 → (0 ≤ l3 ∧ l3 < 6) ∧ (rL (σ (c + 20 + l3) 0)) ∧ (rL l1) ∧ ((σ (c + 20 + l3) 0 ≠ l1 → E_X0_hasName_2 G c l1 (l3 + 1) σ Q) ∧ (σ (c + 20 + l3) 0 = l1 → Q 1 σ))))) : E_X0_hasName_2 G c l1 l3 σ Q := by
  refine R_iload_n e_X0_hasName_0.2.2.1 2 rfl ?_
  refine R_aload_n e_X0_hasName_0.2.2.2.1 0 rfl ?_
  refine R_getI 0 7 7 e_X0_hasName_0.2.2.2.2.1 f_X0_33 (kC_self hc) (fun _ _ => rfl) rfl ?_
  obtain ⟨q1, h⟩ := h
  obtain ⟨q2, h⟩ := h
  refine R_icmp_ge 32 e_X0_hasName_0.2.2.2.2.2.1 (by decide) q1 q2 (fun q => ?_) (fun q => ?_)
  · replace h := h.1 q
    refine R_aload_n e_X0_hasName_1.2.2.2.2.2.2.2.2.1 0 rfl ?_
    refine R_lload_n e_X0_hasName_1.2.2.2.2.2.2.2.2.2 1 rfl ?_
    refine R_callV (mc := 0) (ms := 0) (mc' := 0) (ms' := 0) (M' := M_X0_kiteNamed) (d' := 0) (as := [vL l1]) (st := []) 0 1 e_X0_hasName_2.1 (kCVof m_X0_kiteNamed l_X0_97) rfl (by decide) (kC_self hc) (by decide) (by decide) rfl rfl (by show (0 : Nat) ≤ 8; decide) ?_
    refine Run.mono h (fun r3 s4 h => ?_)
    refine R_eqs (st2 := [vI r3]) rfl rfl ?_
    refine R_iconst e_X0_hasName_2.2.1 ?_
    obtain ⟨q5, h⟩ := h
    refine R_icmp_ne 50 e_X0_hasName_2.2.2.1 (by decide) q5 (by decide) (fun q => ?_) (fun q => ?_)
    · replace h := h.1 q
      refine R_iconst e_X0_hasName_2.2.2.2.2.2.2.2.2.1 ?_
      refine R_goto 55 e_X0_hasName_2.2.2.2.2.2.2.2.2.2 (by decide) ?_
      exact R_zreturn e_X0_hasName_3.2 rfl (Or.inr rfl) h
    · replace h := h.2 q
      refine R_aload_n e_X0_hasName_2.2.2.2.1 0 rfl ?_
      refine R_lload_n e_X0_hasName_2.2.2.2.2.1 1 rfl ?_
      refine R_callV (mc := 0) (ms := 0) (mc' := 0) (ms' := 0) (M' := M_X0_cropNamed) (d' := 0) (as := [vL l1]) (st := []) 0 1 e_X0_hasName_2.2.2.2.2.2.1 (kCVof m_X0_cropNamed l_X0_101) rfl (by decide) (kC_self hc) (by decide) (by decide) rfl rfl (by show (0 : Nat) ≤ 8; decide) ?_
      refine Run.mono h (fun r6 s7 h => ?_)
      refine R_eqs (st2 := [vI r6]) rfl rfl ?_
      refine R_iconst e_X0_hasName_2.2.2.2.2.2.2.1 ?_
      obtain ⟨q8, h⟩ := h
      refine R_icmp_eq 54 e_X0_hasName_2.2.2.2.2.2.2.2.1 (by decide) q8 (by decide) (fun q => ?_) (fun q => ?_)
      · replace h := h.1 q
        refine R_iconst e_X0_hasName_3.1 ?_
        exact R_zreturn e_X0_hasName_3.2 rfl (Or.inl rfl) h
      · replace h := h.2 q
        refine R_iconst e_X0_hasName_2.2.2.2.2.2.2.2.2.1 ?_
        refine R_goto 55 e_X0_hasName_2.2.2.2.2.2.2.2.2.2 (by decide) ?_
        exact R_zreturn e_X0_hasName_3.2 rfl (Or.inr rfl) h
  · replace h := h.2 q
    refine R_aload_n e_X0_hasName_0.2.2.2.2.2.2.1 0 rfl ?_
    refine R_getA 0 12 (c + 5) e_X0_hasName_0.2.2.2.2.2.2.2.1 f_X0_57 (kC_self hc) (fun _ _ => rfl) (kC_r12 hc) (kC_n5 hc) ?_
    refine R_iload_n e_X0_hasName_0.2.2.2.2.2.2.2.2.1 2 rfl ?_
    obtain ⟨q9, h⟩ := h
    refine R_aald 29 6 (c + 20 + l3) e_X0_hasName_0.2.2.2.2.2.2.2.2.2 (by decide) (kC_tens hc) q9 (kC_tenAt hc q9) (kC_tenN hc q9) ?_
    refine R_getL 9 0 0 e_X0_hasName_1.1 f_X0_93 (kC_ten hc q9) (fun _ _ => rfl) rfl ?_
    refine R_lload_n e_X0_hasName_1.2.1 1 rfl ?_
    obtain ⟨q10, h⟩ := h
    obtain ⟨q11, h⟩ := h
    refine R_lcmp e_X0_hasName_1.2.2.1 q10 q11 ?_
    refine R_if_ne 26 e_X0_hasName_1.2.2.2.1 (by decide) (kcmp_r _ _) (fun q => ?_) (fun q => ?_)
    · replace h := h.1 (kcmp_ne_t.mp q)
      refine R_iinc (ls2 := [(3, vI (l3 + 1)), (0, vA G c), (1, vL l1)]) e_X0_hasName_1.2.2.2.2.2.2.1 2 rfl (by decide) rfl ?_
      refine R_goto 2 e_X0_hasName_1.2.2.2.2.2.2.2.1 (by decide) ?_
      refine R_ls (ls2 := [(0, vA G c), (1, vL l1), (3, vI (l3 + 1))]) [1, 2, 0] rfl ?_
      exact h
    · replace h := h.2 (kcmp_ne_f.mp q)
      refine R_iconst e_X0_hasName_1.2.2.2.2.1 ?_
      exact R_zreturn e_X0_hasName_1.2.2.2.2.2.1 rfl (Or.inr rfl) h
