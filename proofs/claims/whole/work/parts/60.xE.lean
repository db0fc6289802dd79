/-! java/lang/Integer.bitCount(I)I -/
theorem e_J6_bitCount_0f7a4_0 : decode cJ6_bitCount_0f7a4 0 = .ok (.iload_n 0, 1) ∧ decode cJ6_bitCount_0f7a4 1 = .ok (.iload_n 0, 1) ∧ decode cJ6_bitCount_0f7a4 2 = .ok (.iconst 1, 1) ∧ decode cJ6_bitCount_0f7a4 3 = .ok (.iushr, 1) ∧ decode cJ6_bitCount_0f7a4 4 = .ok (.ldc_w 265, 3) ∧ decode cJ6_bitCount_0f7a4 7 = .ok (.iand, 1) ∧ decode cJ6_bitCount_0f7a4 8 = .ok (.isub, 1) ∧ decode cJ6_bitCount_0f7a4 9 = .ok (.istore_n 0, 1) ∧ decode cJ6_bitCount_0f7a4 10 = .ok (.iload_n 0, 1) ∧ decode cJ6_bitCount_0f7a4 11 = .ok (.ldc_w 266, 3) := by decide +kernel
theorem e_J6_bitCount_0f7a4_1 : decode cJ6_bitCount_0f7a4 14 = .ok (.iand, 1) ∧ decode cJ6_bitCount_0f7a4 15 = .ok (.iload_n 0, 1) ∧ decode cJ6_bitCount_0f7a4 16 = .ok (.iconst 2, 1) ∧ decode cJ6_bitCount_0f7a4 17 = .ok (.iushr, 1) ∧ decode cJ6_bitCount_0f7a4 18 = .ok (.ldc_w 266, 3) ∧ decode cJ6_bitCount_0f7a4 21 = .ok (.iand, 1) ∧ decode cJ6_bitCount_0f7a4 22 = .ok (.iadd, 1) ∧ decode cJ6_bitCount_0f7a4 23 = .ok (.istore_n 0, 1) ∧ decode cJ6_bitCount_0f7a4 24 = .ok (.iload_n 0, 1) ∧ decode cJ6_bitCount_0f7a4 25 = .ok (.iload_n 0, 1) := by decide +kernel
theorem e_J6_bitCount_0f7a4_2 : decode cJ6_bitCount_0f7a4 26 = .ok (.iconst 4, 1) ∧ decode cJ6_bitCount_0f7a4 27 = .ok (.iushr, 1) ∧ decode cJ6_bitCount_0f7a4 28 = .ok (.iadd, 1) ∧ decode cJ6_bitCount_0f7a4 29 = .ok (.ldc_w 267, 3) ∧ decode cJ6_bitCount_0f7a4 32 = .ok (.iand, 1) ∧ decode cJ6_bitCount_0f7a4 33 = .ok (.istore_n 0, 1) ∧ decode cJ6_bitCount_0f7a4 34 = .ok (.iload_n 0, 1) ∧ decode cJ6_bitCount_0f7a4 35 = .ok (.iload_n 0, 1) ∧ decode cJ6_bitCount_0f7a4 36 = .ok (.bipush 8, 2) ∧ decode cJ6_bitCount_0f7a4 38 = .ok (.iushr, 1) := by decide +kernel
theorem e_J6_bitCount_0f7a4_3 : decode cJ6_bitCount_0f7a4 39 = .ok (.iadd, 1) ∧ decode cJ6_bitCount_0f7a4 40 = .ok (.istore_n 0, 1) ∧ decode cJ6_bitCount_0f7a4 41 = .ok (.iload_n 0, 1) ∧ decode cJ6_bitCount_0f7a4 42 = .ok (.iload_n 0, 1) ∧ decode cJ6_bitCount_0f7a4 43 = .ok (.bipush 16, 2) ∧ decode cJ6_bitCount_0f7a4 45 = .ok (.iushr, 1) ∧ decode cJ6_bitCount_0f7a4 46 = .ok (.iadd, 1) ∧ decode cJ6_bitCount_0f7a4 47 = .ok (.istore_n 0, 1) ∧ decode cJ6_bitCount_0f7a4 48 = .ok (.iload_n 0, 1) ∧ decode cJ6_bitCount_0f7a4 49 = .ok (.bipush 63, 2) := by decide +kernel
theorem e_J6_bitCount_0f7a4_4 : decode cJ6_bitCount_0f7a4 51 = .ok (.iand, 1) ∧ decode cJ6_bitCount_0f7a4 52 = .ok (.ireturn, 1) := by decide +kernel
theorem S_J6_bitCount_0f7a4 {G : Kg} {σ : Kmem} {Q : Int → Kmem → Prop} {l0 : Int}  (h : Q (kand (((kand (((kand (l0 - (kand (kush l0 1) 1431655765)) 858993459) + (kand (kush (l0 - (kand (kush l0 1) 1431655765)) 2) 858993459)) + (kush ((kand (l0 - (kand (kush l0 1) 1431655765)) 858993459) + (kand (kush (l0 - (kand (kush l0 1) 1431655765)) 2) 858993459)) 4)) 252645135) + (kush (kand (((kand (l0 - (kand (kush l0 1) 1431655765)) 858993459) + (kand (kush (l0 - (kand (kush l0 1) 1431655765)) 2) 858993459)) + (kush ((kand (l0 - (kand (kush l0 1) 1431655765)) 858993459) + (kand (kush (l0 - (kand (kush l0 1) 1431655765)) 2) 858993459)) 4)) 252645135) 8)) + (kush ((kand (((kand (l0 - (kand (kush l0 1) 1431655765)) 858993459) + (kand (kush (l0 - (kand (kush l0 1) 1431655765)) 2) 858993459)) + (kush ((kand (l0 - (kand (kush l0 1) 1431655765)) 858993459) + (kand (kush (l0 - (kand (kush l0 1) 1431655765)) 2) 858993459)) 4)) 252645135) + (kush (kand (((kand (l0 - (kand (kush l0 1) 1431655765)) 858993459) + (kand (kush (l0 - (kand (kush l0 1) 1431655765)) 2) 858993459)) + (kush ((kand (l0 - (kand (kush l0 1) 1431655765)) 858993459) + (kand (kush (l0 - (kand (kush l0 1) 1431655765)) 2) 858993459)) 4)) 252645135) 8)) 16)) 63) σ) : Run G WX M_J6_bitCount_0f7a4 0 0 0 [vI l0] σ Q := by
  refine Run.of (by decide +kernel) (by show (1 : Nat) ≤ 1; decide) ?_
  show Ex G WX M_J6_bitCount_0f7a4 0 0 0 0 [(0, vI l0)] [] σ Q
  refine R_iload_n e_J6_bitCount_0f7a4_0.1 0 rfl ?_
  refine R_iload_n e_J6_bitCount_0f7a4_0.2.1 0 rfl ?_
  refine R_iconst e_J6_bitCount_0f7a4_0.2.2.1 ?_
  refine R_iushr e_J6_bitCount_0f7a4_0.2.2.2.1 ?_
  refine R_ldc_w (1431655765) k_J6_265 e_J6_bitCount_0f7a4_0.2.2.2.2.1 ?_
  refine R_iand e_J6_bitCount_0f7a4_0.2.2.2.2.2.1 ?_
  refine R_isub e_J6_bitCount_0f7a4_0.2.2.2.2.2.2.1 ?_
  refine R_istore_n (ls2 := [(0, vI (l0 - (kand (kush l0 1) 1431655765)))]) e_J6_bitCount_0f7a4_0.2.2.2.2.2.2.2.1 (by decide) rfl ?_
  refine R_iload_n e_J6_bitCount_0f7a4_0.2.2.2.2.2.2.2.2.1 0 rfl ?_
  refine R_ldc_w (858993459) k_J6_266 e_J6_bitCount_0f7a4_0.2.2.2.2.2.2.2.2.2 ?_
  refine R_iand e_J6_bitCount_0f7a4_1.1 ?_
  refine R_iload_n e_J6_bitCount_0f7a4_1.2.1 0 rfl ?_
  refine R_iconst e_J6_bitCount_0f7a4_1.2.2.1 ?_
  refine R_iushr e_J6_bitCount_0f7a4_1.2.2.2.1 ?_
  refine R_ldc_w (858993459) k_J6_266 e_J6_bitCount_0f7a4_1.2.2.2.2.1 ?_
  refine R_iand e_J6_bitCount_0f7a4_1.2.2.2.2.2.1 ?_
  refine R_iadd e_J6_bitCount_0f7a4_1.2.2.2.2.2.2.1 ?_
  refine R_istore_n (ls2 := [(0, vI ((kand (l0 - (kand (kush l0 1) 1431655765)) 858993459) + (kand (kush (l0 - (kand (kush l0 1) 1431655765)) 2) 858993459)))]) e_J6_bitCount_0f7a4_1.2.2.2.2.2.2.2.1 (by decide) rfl ?_
  refine R_iload_n e_J6_bitCount_0f7a4_1.2.2.2.2.2.2.2.2.1 0 rfl ?_
  refine R_iload_n e_J6_bitCount_0f7a4_1.2.2.2.2.2.2.2.2.2 0 rfl ?_
  refine R_iconst e_J6_bitCount_0f7a4_2.1 ?_
  refine R_iushr e_J6_bitCount_0f7a4_2.2.1 ?_
  refine R_iadd e_J6_bitCount_0f7a4_2.2.2.1 ?_
  refine R_ldc_w (252645135) k_J6_267 e_J6_bitCount_0f7a4_2.2.2.2.1 ?_
  refine R_iand e_J6_bitCount_0f7a4_2.2.2.2.2.1 ?_
  refine R_istore_n (ls2 := [(0, vI (kand (((kand (l0 - (kand (kush l0 1) 1431655765)) 858993459) + (kand (kush (l0 - (kand (kush l0 1) 1431655765)) 2) 858993459)) + (kush ((kand (l0 - (kand (kush l0 1) 1431655765)) 858993459) + (kand (kush (l0 - (kand (kush l0 1) 1431655765)) 2) 858993459)) 4)) 252645135))]) e_J6_bitCount_0f7a4_2.2.2.2.2.2.1 (by decide) rfl ?_
  refine R_iload_n e_J6_bitCount_0f7a4_2.2.2.2.2.2.2.1 0 rfl ?_
  refine R_iload_n e_J6_bitCount_0f7a4_2.2.2.2.2.2.2.2.1 0 rfl ?_
  refine R_bipush e_J6_bitCount_0f7a4_2.2.2.2.2.2.2.2.2.1 (by decide) ?_
  refine R_iushr e_J6_bitCount_0f7a4_2.2.2.2.2.2.2.2.2.2 ?_
  refine R_iadd e_J6_bitCount_0f7a4_3.1 ?_
  refine R_istore_n (ls2 := [(0, vI ((kand (((kand (l0 - (kand (kush l0 1) 1431655765)) 858993459) + (kand (kush (l0 - (kand (kush l0 1) 1431655765)) 2) 858993459)) + (kush ((kand (l0 - (kand (kush l0 1) 1431655765)) 858993459) + (kand (kush (l0 - (kand (kush l0 1) 1431655765)) 2) 858993459)) 4)) 252645135) + (kush (kand (((kand (l0 - (kand (kush l0 1) 1431655765)) 858993459) + (kand (kush (l0 - (kand (kush l0 1) 1431655765)) 2) 858993459)) + (kush ((kand (l0 - (kand (kush l0 1) 1431655765)) 858993459) + (kand (kush (l0 - (kand (kush l0 1) 1431655765)) 2) 858993459)) 4)) 252645135) 8)))]) e_J6_bitCount_0f7a4_3.2.1 (by decide) rfl ?_
  refine R_iload_n e_J6_bitCount_0f7a4_3.2.2.1 0 rfl ?_
  refine R_iload_n e_J6_bitCount_0f7a4_3.2.2.2.1 0 rfl ?_
  refine R_bipush e_J6_bitCount_0f7a4_3.2.2.2.2.1 (by decide) ?_
  refine R_iushr e_J6_bitCount_0f7a4_3.2.2.2.2.2.1 ?_
  refine R_iadd e_J6_bitCount_0f7a4_3.2.2.2.2.2.2.1 ?_
  refine R_istore_n (ls2 := [(0, vI (((kand (((kand (l0 - (kand (kush l0 1) 1431655765)) 858993459) + (kand (kush (l0 - (kand (kush l0 1) 1431655765)) 2) 858993459)) + (kush ((kand (l0 - (kand (kush l0 1) 1431655765)) 858993459) + (kand (kush (l0 - (kand (kush l0 1) 1431655765)) 2) 858993459)) 4)) 252645135) + (kush (kand (((kand (l0 - (kand (kush l0 1) 1431655765)) 858993459) + (kand (kush (l0 - (kand (kush l0 1) 1431655765)) 2) 858993459)) + (kush ((kand (l0 - (kand (kush l0 1) 1431655765)) 858993459) + (kand (kush (l0 - (kand (kush l0 1) 1431655765)) 2) 858993459)) 4)) 252645135) 8)) + (kush ((kand (((kand (l0 - (kand (kush l0 1) 1431655765)) 858993459) + (kand (kush (l0 - (kand (kush l0 1) 1431655765)) 2) 858993459)) + (kush ((kand (l0 - (kand (kush l0 1) 1431655765)) 858993459) + (kand (kush (l0 - (kand (kush l0 1) 1431655765)) 2) 858993459)) 4)) 252645135) + (kush (kand (((kand (l0 - (kand (kush l0 1) 1431655765)) 858993459) + (kand (kush (l0 - (kand (kush l0 1) 1431655765)) 2) 858993459)) + (kush ((kand (l0 - (kand (kush l0 1) 1431655765)) 858993459) + (kand (kush (l0 - (kand (kush l0 1) 1431655765)) 2) 858993459)) 4)) 252645135) 8)) 16)))]) e_J6_bitCount_0f7a4_3.2.2.2.2.2.2.2.1 (by decide) rfl ?_
  refine R_iload_n e_J6_bitCount_0f7a4_3.2.2.2.2.2.2.2.2.1 0 rfl ?_
  refine R_bipush e_J6_bitCount_0f7a4_3.2.2.2.2.2.2.2.2.2 (by decide) ?_
  refine R_iand e_J6_bitCount_0f7a4_4.1 ?_
  exact R_ireturn e_J6_bitCount_0f7a4_4.2 rfl h
/-! KiteLand$Sky.ownedFields()I -/
theorem e_X8_ownedFields_0 : decode cX8_ownedFields 0 = .ok (.iconst 0, 1) ∧ decode cX8_ownedFields 1 = .ok (.istore_n 1, 1) ∧ decode cX8_ownedFields 2 = .ok (.iconst 0, 1) ∧ decode cX8_ownedFields 3 = .ok (.istore_n 2, 1) ∧ decode cX8_ownedFields 4 = .ok (.iload_n 2, 1) ∧ decode cX8_ownedFields 5 = .ok (.bipush 63, 2) ∧ decode cX8_ownedFields 7 = .ok (.if_icmp .ge 22, 3) ∧ decode cX8_ownedFields 10 = .ok (.aload_n 0, 1) ∧ decode cX8_ownedFields 11 = .ok (.getfield 28, 3) ∧ decode cX8_ownedFields 14 = .ok (.iload_n 2, 1) := by decide +kernel
theorem e_X8_ownedFields_1 : decode cX8_ownedFields 15 = .ok (.iaload, 1) ∧ decode cX8_ownedFields 16 = .ok (.iconst (-1), 1) ∧ decode cX8_ownedFields 17 = .ok (.if_icmp .eq 6, 3) ∧ decode cX8_ownedFields 20 = .ok (.iinc 1 1, 3) ∧ decode cX8_ownedFields 23 = .ok (.iinc 2 1, 3) ∧ decode cX8_ownedFields 26 = .ok (.goto (-22), 3) ∧ decode cX8_ownedFields 29 = .ok (.iload_n 1, 1) ∧ decode cX8_ownedFields 30 = .ok (.ireturn, 1) := by decide +kernel
abbrev E_X8_ownedFields_4 (G : Kg) (l1 l2 : Int) (σ : Kmem) (Q : Int → Kmem → Prop) : Prop := Ex G WX M_X8_ownedFields 0 0 0 4 [(0, vA G 58), (1, vI l1), (2, vI l2)] [] σ Q
theorem S_X8_ownedFields {G : Kg} {σ : Kmem} {Q : Int → Kmem → Prop}  (h : E_X8_ownedFields_4 G 0 0 σ Q) : Run G WX M_X8_ownedFields 0 0 0 [vA G 58] σ Q := by
  refine Run.of (by decide +kernel) (by show (1 : Nat) ≤ 3; decide) ?_
  show Ex G WX M_X8_ownedFields 0 0 0 0 [(0, vA G 58)] [] σ Q
  refine R_iconst e_X8_ownedFields_0.1 ?_
  refine R_istore_n (ls2 := [(1, vI 0), (0, vA G 58)]) e_X8_ownedFields_0.2.1 (by decide) rfl ?_
  refine R_iconst e_X8_ownedFields_0.2.2.1 ?_
  refine R_istore_n (ls2 := [(2, vI 0), (1, vI 0), (0, vA G 58)]) e_X8_ownedFields_0.2.2.2.1 (by decide) rfl ?_
  refine R_ls (ls2 := [(0, vA G 58), (1, vI 0), (2, vI 0)]) [2, 1, 0] rfl ?_
  exact h
theorem S_X8_ownedFields_4 {G : Kg} {σ : Kmem} {Q : Int → Kmem → Prop} {l1 l2 : Int}  (h : (rI l2) ∧ ((63 ≤ l2 → Q l1 σ) ∧ (l2 < 63 → (0 ≤ l2 ∧ l2 < 63) ∧ (rI (σ 63 l2)) ∧ ((σ 63 l2 = -1 → E_X8_ownedFields_4 G l1 (l2 + 1) σ Q) ∧ (σ 63 l2 ≠ -1 → E_X8_ownedFields_4 G (l1 + 1) (l2 + 1) σ Q))))) : E_X8_ownedFields_4 G l1 l2 σ Q := by
  refine R_iload_n e_X8_ownedFields_0.2.2.2.2.1 2 rfl ?_
  refine R_bipush e_X8_ownedFields_0.2.2.2.2.2.1 (by decide) ?_
  obtain ⟨q1, h⟩ := h
  refine R_icmp_ge 29 e_X8_ownedFields_0.2.2.2.2.2.2.1 (by decide) q1 (by decide) (fun q => ?_) (fun q => ?_)
  · replace h := h.1 q
    refine R_iload_n e_X8_ownedFields_1.2.2.2.2.2.2.1 1 rfl ?_
    exact R_ireturn e_X8_ownedFields_1.2.2.2.2.2.2.2 rfl h
  · replace h := h.2 q
    refine R_aload_n e_X8_ownedFields_0.2.2.2.2.2.2.2.1 0 rfl ?_
    refine R_getA 8 6 63 e_X8_ownedFields_0.2.2.2.2.2.2.2.2.1 f_X8_28 kx_58 (fun _ _ => rfl) rx_58_6 (by decide) ?_
    refine R_iload_n e_X8_ownedFields_0.2.2.2.2.2.2.2.2.2 2 rfl ?_
    obtain ⟨q2, h⟩ := h
    refine R_iald 63 e_X8_ownedFields_1.1 kxa_63 q2 ?_
    refine R_iconst e_X8_ownedFields_1.2.1 ?_
    obtain ⟨q3, h⟩ := h
    refine R_icmp_eq 23 e_X8_ownedFields_1.2.2.1 (by decide) q3 (by decide) (fun q => ?_) (fun q => ?_)
    · replace h := h.1 q
      refine R_iinc (ls2 := [(2, vI (l2 + 1)), (0, vA G 58), (1, vI l1)]) e_X8_ownedFields_1.2.2.2.2.1 2 rfl (by decide) rfl ?_
      refine R_goto 4 e_X8_ownedFields_1.2.2.2.2.2.1 (by decide) ?_
      refine R_ls (ls2 := [(0, vA G 58), (1, vI l1), (2, vI (l2 + 1))]) [1, 2, 0] rfl ?_
      exact h
    · replace h := h.2 q
      refine R_iinc (ls2 := [(1, vI (l1 + 1)), (0, vA G 58), (2, vI l2)]) e_X8_ownedFields_1.2.2.2.1 1 rfl (by decide) rfl ?_
      refine R_iinc (ls2 := [(2, vI (l2 + 1)), (1, vI (l1 + 1)), (0, vA G 58)]) e_X8_ownedFields_1.2.2.2.2.1 2 rfl (by decide) rfl ?_
      refine R_goto 4 e_X8_ownedFields_1.2.2.2.2.2.1 (by decide) ?_
      refine R_ls (ls2 := [(0, vA G 58), (1, vI (l1 + 1)), (2, vI (l2 + 1))]) [2, 1, 0] rfl ?_
      exact h
/-! KiteLand$Sky.fieldsOf(I)I -/
theorem e_X8_fieldsOf_0 : decode cX8_fieldsOf 0 = .ok (.iconst 0, 1) ∧ decode cX8_fieldsOf 1 = .ok (.istore_n 2, 1) ∧ decode cX8_fieldsOf 2 = .ok (.iconst 0, 1) ∧ decode cX8_fieldsOf 3 = .ok (.istore_n 3, 1) ∧ decode cX8_fieldsOf 4 = .ok (.iload_n 3, 1) ∧ decode cX8_fieldsOf 5 = .ok (.bipush 63, 2) ∧ decode cX8_fieldsOf 7 = .ok (.if_icmp .ge 22, 3) ∧ decode cX8_fieldsOf 10 = .ok (.aload_n 0, 1) ∧ decode cX8_fieldsOf 11 = .ok (.getfield 28, 3) ∧ decode cX8_fieldsOf 14 = .ok (.iload_n 3, 1) := by decide +kernel
theorem e_X8_fieldsOf_1 : decode cX8_fieldsOf 15 = .ok (.iaload, 1) ∧ decode cX8_fieldsOf 16 = .ok (.iload_n 1, 1) ∧ decode cX8_fieldsOf 17 = .ok (.if_icmp .ne 6, 3) ∧ decode cX8_fieldsOf 20 = .ok (.iinc 2 1, 3) ∧ decode cX8_fieldsOf 23 = .ok (.iinc 3 1, 3) ∧ decode cX8_fieldsOf 26 = .ok (.goto (-22), 3) ∧ decode cX8_fieldsOf 29 = .ok (.iload_n 2, 1) ∧ decode cX8_fieldsOf 30 = .ok (.ireturn, 1) := by decide +kernel
abbrev E_X8_fieldsOf_4 (G : Kg) (l1 l2 l3 : Int) (σ : Kmem) (Q : Int → Kmem → Prop) : Prop := Ex G WX M_X8_fieldsOf 0 0 0 4 [(0, vA G 58), (1, vI l1), (2, vI l2), (3, vI l3)] [] σ Q
theorem S_X8_fieldsOf {G : Kg} {σ : Kmem} {Q : Int → Kmem → Prop} {l1 : Int}  (h : E_X8_fieldsOf_4 G l1 0 0 σ Q) : Run G WX M_X8_fieldsOf 0 0 0 [vA G 58, vI l1] σ Q := by
  refine Run.of (by decide +kernel) (by show (2 : Nat) ≤ 4; decide) ?_
  show Ex G WX M_X8_fieldsOf 0 0 0 0 [(0, vA G 58), (1, vI l1)] [] σ Q
  refine R_iconst e_X8_fieldsOf_0.1 ?_
  refine R_istore_n (ls2 := [(2, vI 0), (0, vA G 58), (1, vI l1)]) e_X8_fieldsOf_0.2.1 (by decide) rfl ?_
  refine R_iconst e_X8_fieldsOf_0.2.2.1 ?_
  refine R_istore_n (ls2 := [(3, vI 0), (2, vI 0), (0, vA G 58), (1, vI l1)]) e_X8_fieldsOf_0.2.2.2.1 (by decide) rfl ?_
  refine R_ls (ls2 := [(0, vA G 58), (1, vI l1), (2, vI 0), (3, vI 0)]) [2, 3, 1, 0] rfl ?_
  exact h
theorem S_X8_fieldsOf_4 {G : Kg} {σ : Kmem} {Q : Int → Kmem → Prop} {l1 l2 l3 : Int}  (h : (rI l3) ∧ ((63 ≤ l3 → Q l2 σ) ∧ (l3 < 63 → (0 ≤ l3 ∧ l3 < 63) ∧ (rI (σ 63 l3)) ∧ (rI l1) ∧ ((σ 63 l3 ≠ l1 → E_X8_fieldsOf_4 G l1 l2 (l3 + 1) σ Q) ∧ (σ 63 l3 = l1 → E_X8_fieldsOf_4 G l1 (l2 + 1) (l3 + 1) σ Q))))) : E_X8_fieldsOf_4 G l1 l2 l3 σ Q := by
  refine R_iload_n e_X8_fieldsOf_0.2.2.2.2.1 3 rfl ?_
  refine R_bipush e_X8_fieldsOf_0.2.2.2.2.2.1 (by decide) ?_
  obtain ⟨q1, h⟩ := h
  refine R_icmp_ge 29 e_X8_fieldsOf_0.2.2.2.2.2.2.1 (by decide) q1 (by decide) (fun q => ?_) (fun q => ?_)
  · replace h := h.1 q
    refine R_iload_n e_X8_fieldsOf_1.2.2.2.2.2.2.1 2 rfl ?_
    exact R_ireturn e_X8_fieldsOf_1.2.2.2.2.2.2.2 rfl h
  · replace h := h.2 q
    refine R_aload_n e_X8_fieldsOf_0.2.2.2.2.2.2.2.1 0 rfl ?_
    refine R_getA 8 6 63 e_X8_fieldsOf_0.2.2.2.2.2.2.2.2.1 f_X8_28 kx_58 (fun _ _ => rfl) rx_58_6 (by decide) ?_
    refine R_iload_n e_X8_fieldsOf_0.2.2.2.2.2.2.2.2.2 3 rfl ?_
    obtain ⟨q2, h⟩ := h
    refine R_iald 63 e_X8_fieldsOf_1.1 kxa_63 q2 ?_
    refine R_iload_n e_X8_fieldsOf_1.2.1 1 rfl ?_
    obtain ⟨q3, h⟩ := h
    obtain ⟨q4, h⟩ := h
    refine R_icmp_ne 23 e_X8_fieldsOf_1.2.2.1 (by decide) q3 q4 (fun q => ?_) (fun q => ?_)
    · replace h := h.1 q
      refine R_iinc (ls2 := [(3, vI (l3 + 1)), (0, vA G 58), (1, vI l1), (2, vI l2)]) e_X8_fieldsOf_1.2.2.2.2.1 3 rfl (by decide) rfl ?_
      refine R_goto 4 e_X8_fieldsOf_1.2.2.2.2.2.1 (by decide) ?_
      refine R_ls (ls2 := [(0, vA G 58), (1, vI l1), (2, vI l2), (3, vI (l3 + 1))]) [1, 2, 3, 0] rfl ?_
      exact h
    · replace h := h.2 q
      refine R_iinc (ls2 := [(2, vI (l2 + 1)), (0, vA G 58), (1, vI l1), (3, vI l3)]) e_X8_fieldsOf_1.2.2.2.1 2 rfl (by decide) rfl ?_
      refine R_iinc (ls2 := [(3, vI (l3 + 1)), (2, vI (l2 + 1)), (0, vA G 58), (1, vI l1)]) e_X8_fieldsOf_1.2.2.2.2.1 3 rfl (by decide) rfl ?_
      refine R_goto 4 e_X8_fieldsOf_1.2.2.2.2.2.1 (by decide) ?_
      refine R_ls (ls2 := [(0, vA G 58), (1, vI l1), (2, vI (l2 + 1)), (3, vI (l3 + 1))]) [2, 3, 1, 0] rfl ?_
      exact h
/-! KiteLand$Sky.disputedFields()I -/
theorem e_X8_disputedFields_0 : decode cX8_disputedFields 0 = .ok (.iconst 0, 1) ∧ decode cX8_disputedFields 1 = .ok (.istore_n 1, 1) ∧ decode cX8_disputedFields 2 = .ok (.iconst 0, 1) ∧ decode cX8_disputedFields 3 = .ok (.istore_n 2, 1) ∧ decode cX8_disputedFields 4 = .ok (.iload_n 2, 1) ∧ decode cX8_disputedFields 5 = .ok (.bipush 63, 2) ∧ decode cX8_disputedFields 7 = .ok (.if_icmp .ge 25, 3) ∧ decode cX8_disputedFields 10 = .ok (.aload_n 0, 1) ∧ decode cX8_disputedFields 11 = .ok (.getfield 25, 3) ∧ decode cX8_disputedFields 14 = .ok (.iload_n 2, 1) := by decide +kernel
theorem e_X8_disputedFields_1 : decode cX8_disputedFields 15 = .ok (.iaload, 1) ∧ decode cX8_disputedFields 16 = .ok (.invokestatic 122, 3) ∧ decode cX8_disputedFields 19 = .ok (.iconst 1, 1) ∧ decode cX8_disputedFields 20 = .ok (.if_icmp .le 6, 3) ∧ decode cX8_disputedFields 23 = .ok (.iinc 1 1, 3) ∧ decode cX8_disputedFields 26 = .ok (.iinc 2 1, 3) ∧ decode cX8_disputedFields 29 = .ok (.goto (-25), 3) ∧ decode cX8_disputedFields 32 = .ok (.iload_n 1, 1) ∧ decode cX8_disputedFields 33 = .ok (.ireturn, 1) := by decide +kernel
abbrev E_X8_disputedFields_4 (G : Kg) (l1 l2 : Int) (σ : Kmem) (Q : Int → Kmem → Prop) : Prop := Ex G WX M_X8_disputedFields 1 0 0 4 [(0, vA G 58), (1, vI l1), (2, vI l2)] [] σ Q
theorem S_X8_disputedFields {G : Kg} {σ : Kmem} {Q : Int → Kmem → Prop}  (h : E_X8_disputedFields_4 G 0 0 σ Q) : Run G WX M_X8_disputedFields 1 0 0 [vA G 58] σ Q := by
  refine Run.of (by decide +kernel) (by show (1 : Nat) ≤ 3; decide) ?_
  show Ex G WX M_X8_disputedFields 1 0 0 0 [(0, vA G 58)] [] σ Q
  refine R_iconst e_X8_disputedFields_0.1 ?_
  refine R_istore_n (ls2 := [(1, vI 0), (0, vA G 58)]) e_X8_disputedFields_0.2.1 (by decide) rfl ?_
  refine R_iconst e_X8_disputedFields_0.2.2.1 ?_
  refine R_istore_n (ls2 := [(2, vI 0), (1, vI 0), (0, vA G 58)]) e_X8_disputedFields_0.2.2.2.1 (by decide) rfl ?_
  refine R_ls (ls2 := [(0, vA G 58), (1, vI 0), (2, vI 0)]) [2, 1, 0] rfl ?_
  exact h
theorem S_X8_disputedFields_4 {G : Kg} {σ : Kmem} {Q : Int → Kmem → Prop} {l1 l2 : Int}  (h : (rI l2) ∧ ((63 ≤ l2 → Q l1 σ) ∧ (l2 < 63 → (0 ≤ l2 ∧ l2 < 63) ∧ Run G WX M_J6_bitCount_0f7a4 0 0 0 [vI (σ 62 l2)] σ (fun r3 s4 => (rI r3) ∧ ((r3 ≤ 1 → E_X8_disputedFields_4 G l1 (l2 + 1) s4 Q) ∧ (1 < r3 → E_X8_disputedFields_4 G (l1 + 1) (l2 + 1) s4 Q)))))) : E_X8_disputedFields_4 G l1 l2 σ Q := by
  refine R_iload_n e_X8_disputedFields_0.2.2.2.2.1 2 rfl ?_
  refine R_bipush e_X8_disputedFields_0.2.2.2.2.2.1 (by decide) ?_
  obtain ⟨q1, h⟩ := h
  refine R_icmp_ge 32 e_X8_disputedFields_0.2.2.2.2.2.2.1 (by decide) q1 (by decide) (fun q => ?_) (fun q => ?_)
  · replace h := h.1 q
    refine R_iload_n e_X8_disputedFields_1.2.2.2.2.2.2.2.1 1 rfl ?_
    exact R_ireturn e_X8_disputedFields_1.2.2.2.2.2.2.2.2 rfl h
  · replace h := h.2 q
    refine R_aload_n e_X8_disputedFields_0.2.2.2.2.2.2.2.1 0 rfl ?_
    refine R_getA 8 5 62 e_X8_disputedFields_0.2.2.2.2.2.2.2.2.1 f_X8_25 kx_58 (fun _ _ => rfl) rx_58_5 (by decide) ?_
    refine R_iload_n e_X8_disputedFields_0.2.2.2.2.2.2.2.2.2 2 rfl ?_
    obtain ⟨q2, h⟩ := h
    refine R_iald 63 e_X8_disputedFields_1.1 kxa_62 q2 ?_
    refine R_callS (mc := 0) (ms := 0) (mc' := 0) (ms' := 0) (M' := M_J6_bitCount_0f7a4) (d' := 0) (as := [vI (σ 62 l2)]) (st := []) 1 e_X8_disputedFields_1.2.1 (kCSof m_J6_bitCount_0f7a4 l_X8_122) (by decide) (by decide) rfl rfl (by show (0 : Nat) ≤ 8; decide) ?_
    refine Run.mono h (fun r3 s4 h => ?_)
    refine R_eqs (st2 := [vI r3]) rfl rfl ?_
    refine R_iconst e_X8_disputedFields_1.2.2.1 ?_
    obtain ⟨q5, h⟩ := h
    refine R_icmp_le 26 e_X8_disputedFields_1.2.2.2.1 (by decide) q5 (by decide) (fun q => ?_) (fun q => ?_)
    · replace h := h.1 q
      refine R_iinc (ls2 := [(2, vI (l2 + 1)), (0, vA G 58), (1, vI l1)]) e_X8_disputedFields_1.2.2.2.2.2.1 2 rfl (by decide) rfl ?_
      refine R_goto 4 e_X8_disputedFields_1.2.2.2.2.2.2.1 (by decide) ?_
      refine R_ls (ls2 := [(0, vA G 58), (1, vI l1), (2, vI (l2 + 1))]) [1, 2, 0] rfl ?_
      exact h
    · replace h := h.2 q
      refine R_iinc (ls2 := [(1, vI (l1 + 1)), (0, vA G 58), (2, vI l2)]) e_X8_disputedFields_1.2.2.2.2.1 1 rfl (by decide) rfl ?_
      refine R_iinc (ls2 := [(2, vI (l2 + 1)), (1, vI (l1 + 1)), (0, vA G 58)]) e_X8_disputedFields_1.2.2.2.2.2.1 2 rfl (by decide) rfl ?_
      refine R_goto 4 e_X8_disputedFields_1.2.2.2.2.2.2.1 (by decide) ?_
      refine R_ls (ls2 := [(0, vA G 58), (1, vI (l1 + 1)), (2, vI (l2 + 1))]) [2, 1, 0] rfl ?_
      exact h
/-! KiteLand$Sky.shadedAloneBy(I)I -/
theorem e_X8_shadedAloneBy_0 : decode cX8_shadedAloneBy 0 = .ok (.iconst 0, 1) ∧ decode cX8_shadedAloneBy 1 = .ok (.istore_n 2, 1) ∧ decode cX8_shadedAloneBy 2 = .ok (.iconst 0, 1) ∧ decode cX8_shadedAloneBy 3 = .ok (.istore_n 3, 1) ∧ decode cX8_shadedAloneBy 4 = .ok (.iload_n 3, 1) ∧ decode cX8_shadedAloneBy 5 = .ok (.bipush 63, 2) ∧ decode cX8_shadedAloneBy 7 = .ok (.if_icmp .ge 24, 3) ∧ decode cX8_shadedAloneBy 10 = .ok (.aload_n 0, 1) ∧ decode cX8_shadedAloneBy 11 = .ok (.getfield 25, 3) ∧ decode cX8_shadedAloneBy 14 = .ok (.iload_n 3, 1) := by decide +kernel
theorem e_X8_shadedAloneBy_1 : decode cX8_shadedAloneBy 15 = .ok (.iaload, 1) ∧ decode cX8_shadedAloneBy 16 = .ok (.iconst 1, 1) ∧ decode cX8_shadedAloneBy 17 = .ok (.iload_n 1, 1) ∧ decode cX8_shadedAloneBy 18 = .ok (.ishl, 1) ∧ decode cX8_shadedAloneBy 19 = .ok (.if_icmp .ne 6, 3) ∧ decode cX8_shadedAloneBy 22 = .ok (.iinc 2 1, 3) ∧ decode cX8_shadedAloneBy 25 = .ok (.iinc 3 1, 3) ∧ decode cX8_shadedAloneBy 28 = .ok (.goto (-24), 3) ∧ decode cX8_shadedAloneBy 31 = .ok (.iload_n 2, 1) ∧ decode cX8_shadedAloneBy 32 = .ok (.ireturn, 1) := by decide +kernel
abbrev E_X8_shadedAloneBy_4 (G : Kg) (l1 l2 l3 : Int) (σ : Kmem) (Q : Int → Kmem → Prop) : Prop := Ex G WX M_X8_shadedAloneBy 0 0 0 4 [(0, vA G 58), (1, vI l1), (2, vI l2), (3, vI l3)] [] σ Q
theorem S_X8_shadedAloneBy {G : Kg} {σ : Kmem} {Q : Int → Kmem → Prop} {l1 : Int}  (h : E_X8_shadedAloneBy_4 G l1 0 0 σ Q) : Run G WX M_X8_shadedAloneBy 0 0 0 [vA G 58, vI l1] σ Q := by
  refine Run.of (by decide +kernel) (by show (2 : Nat) ≤ 4; decide) ?_
  show Ex G WX M_X8_shadedAloneBy 0 0 0 0 [(0, vA G 58), (1, vI l1)] [] σ Q
  refine R_iconst e_X8_shadedAloneBy_0.1 ?_
  refine R_istore_n (ls2 := [(2, vI 0), (0, vA G 58), (1, vI l1)]) e_X8_shadedAloneBy_0.2.1 (by decide) rfl ?_
  refine R_iconst e_X8_shadedAloneBy_0.2.2.1 ?_
  refine R_istore_n (ls2 := [(3, vI 0), (2, vI 0), (0, vA G 58), (1, vI l1)]) e_X8_shadedAloneBy_0.2.2.2.1 (by decide) rfl ?_
  refine R_ls (ls2 := [(0, vA G 58), (1, vI l1), (2, vI 0), (3, vI 0)]) [2, 3, 1, 0] rfl ?_
  exact h
theorem S_X8_shadedAloneBy_4 {G : Kg} {σ : Kmem} {Q : Int → Kmem → Prop} {l1 l2 l3 : Int}  (h : (rI l3) ∧ ((63 ≤ l3 → Q l2 σ) ∧ (l3 < 63 → (0 ≤ l3 ∧ l3 < 63) ∧ (rI (σ 62 l3)) ∧ (rI (kshl 1 l1)) ∧ ((σ 62 l3 ≠ kshl 1 l1 → E_X8_shadedAloneBy_4 G l1 l2 (l3 + 1) σ Q) ∧ (σ 62 l3 = kshl 1 l1 → E_X8_shadedAloneBy_4 G l1 (l2 + 1) (l3 + 1) σ Q))))) : E_X8_shadedAloneBy_4 G l1 l2 l3 σ Q := by
  refine R_iload_n e_X8_shadedAloneBy_0.2.2.2.2.1 3 rfl ?_
  refine R_bipush e_X8_shadedAloneBy_0.2.2.2.2.2.1 (by decide) ?_
  obtain ⟨q1, h⟩ := h
  refine R_icmp_ge 31 e_X8_shadedAloneBy_0.2.2.2.2.2.2.1 (by decide) q1 (by decide) (fun q => ?_) (fun q => ?_)
  · replace h := h.1 q
    refine R_iload_n e_X8_shadedAloneBy_1.2.2.2.2.2.2.2.2.1 2 rfl ?_
    exact R_ireturn e_X8_shadedAloneBy_1.2.2.2.2.2.2.2.2.2 rfl h
  · replace h := h.2 q
    refine R_aload_n e_X8_shadedAloneBy_0.2.2.2.2.2.2.2.1 0 rfl ?_
    refine R_getA 8 5 62 e_X8_shadedAloneBy_0.2.2.2.2.2.2.2.2.1 f_X8_25 kx_58 (fun _ _ => rfl) rx_58_5 (by decide) ?_
    refine R_iload_n e_X8_shadedAloneBy_0.2.2.2.2.2.2.2.2.2 3 rfl ?_
    obtain ⟨q2, h⟩ := h
    refine R_iald 63 e_X8_shadedAloneBy_1.1 kxa_62 q2 ?_
    refine R_iconst e_X8_shadedAloneBy_1.2.1 ?_
    refine R_iload_n e_X8_shadedAloneBy_1.2.2.1 1 rfl ?_
    refine R_ishl e_X8_shadedAloneBy_1.2.2.2.1 ?_
    obtain ⟨q3, h⟩ := h
    obtain ⟨q4, h⟩ := h
    refine R_icmp_ne 25 e_X8_shadedAloneBy_1.2.2.2.2.1 (by decide) q3 q4 (fun q => ?_) (fun q => ?_)
    · replace h := h.1 q
      refine R_iinc (ls2 := [(3, vI (l3 + 1)), (0, vA G 58), (1, vI l1), (2, vI l2)]) e_X8_shadedAloneBy_1.2.2.2.2.2.2.1 3 rfl (by decide) rfl ?_
      refine R_goto 4 e_X8_shadedAloneBy_1.2.2.2.2.2.2.2.1 (by decide) ?_
      refine R_ls (ls2 := [(0, vA G 58), (1, vI l1), (2, vI l2), (3, vI (l3 + 1))]) [1, 2, 3, 0] rfl ?_
      exact h
    · replace h := h.2 q
      refine R_iinc (ls2 := [(2, vI (l2 + 1)), (0, vA G 58), (1, vI l1), (3, vI l3)]) e_X8_shadedAloneBy_1.2.2.2.2.2.1 2 rfl (by decide) rfl ?_
      refine R_iinc (ls2 := [(3, vI (l3 + 1)), (2, vI (l2 + 1)), (0, vA G 58), (1, vI l1)]) e_X8_shadedAloneBy_1.2.2.2.2.2.2.1 3 rfl (by decide) rfl ?_
      refine R_goto 4 e_X8_shadedAloneBy_1.2.2.2.2.2.2.2.1 (by decide) ?_
      refine R_ls (ls2 := [(0, vA G 58), (1, vI l1), (2, vI (l2 + 1)), (3, vI (l3 + 1))]) [2, 3, 1, 0] rfl ?_
      exact h
/-! KiteLand$Kite.copy(LKiteLand$Kite;)V -/
theorem e_X3_copy_0 : decode cX3_copy 0 = .ok (.aload_n 0, 1) ∧ decode cX3_copy 1 = .ok (.aload_n 1, 1) ∧ decode cX3_copy 2 = .ok (.getfield 9, 3) ∧ decode cX3_copy 5 = .ok (.putfield 9, 3) ∧ decode cX3_copy 8 = .ok (.aload_n 0, 1) ∧ decode cX3_copy 9 = .ok (.aload_n 1, 1) ∧ decode cX3_copy 10 = .ok (.getfield 15, 3) ∧ decode cX3_copy 13 = .ok (.putfield 15, 3) ∧ decode cX3_copy 16 = .ok (.aload_n 0, 1) ∧ decode cX3_copy 17 = .ok (.aload_n 1, 1) := by decide +kernel
theorem e_X3_copy_1 : decode cX3_copy 18 = .ok (.getfield 19, 3) ∧ decode cX3_copy 21 = .ok (.putfield 19, 3) ∧ decode cX3_copy 24 = .ok (.aload_n 0, 1) ∧ decode cX3_copy 25 = .ok (.aload_n 1, 1) ∧ decode cX3_copy 26 = .ok (.getfield 22, 3) ∧ decode cX3_copy 29 = .ok (.putfield 22, 3) ∧ decode cX3_copy 32 = .ok (.aload_n 0, 1) ∧ decode cX3_copy 33 = .ok (.aload_n 1, 1) ∧ decode cX3_copy 34 = .ok (.getfield 25, 3) ∧ decode cX3_copy 37 = .ok (.putfield 25, 3) := by decide +kernel
theorem e_X3_copy_2 : decode cX3_copy 40 = .ok (.aload_n 0, 1) ∧ decode cX3_copy 41 = .ok (.aload_n 1, 1) ∧ decode cX3_copy 42 = .ok (.getfield 28, 3) ∧ decode cX3_copy 45 = .ok (.putfield 28, 3) ∧ decode cX3_copy 48 = .ok (.aload_n 0, 1) ∧ decode cX3_copy 49 = .ok (.aload_n 1, 1) ∧ decode cX3_copy 50 = .ok (.getfield 31, 3) ∧ decode cX3_copy 53 = .ok (.putfield 31, 3) ∧ decode cX3_copy 56 = .ok (.aload_n 0, 1) ∧ decode cX3_copy 57 = .ok (.aload_n 1, 1) := by decide +kernel
theorem e_X3_copy_3 : decode cX3_copy 58 = .ok (.getfield 34, 3) ∧ decode cX3_copy 61 = .ok (.putfield 34, 3) ∧ decode cX3_copy 64 = .ok (.aload_n 0, 1) ∧ decode cX3_copy 65 = .ok (.aload_n 1, 1) ∧ decode cX3_copy 66 = .ok (.getfield 37, 3) ∧ decode cX3_copy 69 = .ok (.putfield 37, 3) ∧ decode cX3_copy 72 = .ok (.aload_n 0, 1) ∧ decode cX3_copy 73 = .ok (.aload_n 1, 1) ∧ decode cX3_copy 74 = .ok (.getfield 40, 3) ∧ decode cX3_copy 77 = .ok (.putfield 40, 3) := by decide +kernel
theorem e_X3_copy_4 : decode cX3_copy 80 = .ok (.return_, 1) := by decide +kernel
theorem S_X3_copy {G : Kg} {σ : Kmem} {Q : Int → Kmem → Prop} {a a2 : Int} (ha : kIsX a 3) (ha2 : kIsX a2 3) (h : ∀ s1 : Kmem, s1 = (kup σ a 0 (σ a2 0)) → ∀ s3 : Kmem, s3 = (kup s1 a 1 (s1 a2 1)) → ∀ s5 : Kmem, s5 = (kup s3 a 2 (s3 a2 2)) → ∀ s7 : Kmem, s7 = (kup s5 a 3 (s5 a2 3)) → ∀ s9 : Kmem, s9 = (kup s7 a 4 (s7 a2 4)) → ∀ s11 : Kmem, s11 = (kup s9 a 5 (s9 a2 5)) → ∀ s13 : Kmem, s13 = (kup s11 a 6 (s11 a2 6)) → ∀ s15 : Kmem, s15 = (kup s13 a 7 (s13 a2 7)) → ∀ s17 : Kmem, s17 = (kup s15 a 8 (s15 a2 8)) → (s17 a2 9 = 0 ∨ s17 a2 9 = 1) ∧ ∀ s20 : Kmem, s20 = (kup s17 a 9 (s17 a2 9)) → Q 0 s20) : Run G WX M_X3_copy 0 0 0 [vA G a, vA G a2] σ Q := by
  refine Run.of (by decide +kernel) (by show (2 : Nat) ≤ 2; decide) ?_
  show Ex G WX M_X3_copy 0 0 0 0 [(0, vA G a), (1, vA G a2)] [] σ Q
  refine R_aload_n e_X3_copy_0.1 0 rfl ?_
  refine R_aload_n e_X3_copy_0.2.1 1 rfl ?_
  refine R_getL 3 0 0 e_X3_copy_0.2.2.1 f_X3_9 (kLX ha2) (fun _ _ => rfl) rfl ?_
  refine R_putL 3 0 0 WX_ok e_X3_copy_0.2.2.2.1 f_X3_9 (kLX ha) rfl rfl rfl ?_
  obtain ⟨s1, e2⟩ : ∃ z : Kmem, z = (kup σ a 0 (σ a2 0)) := ⟨_, rfl⟩
  rw [← e2]
  replace h := h s1 e2
  refine R_aload_n e_X3_copy_0.2.2.2.2.1 0 rfl ?_
  refine R_aload_n e_X3_copy_0.2.2.2.2.2.1 1 rfl ?_
  refine R_getI 3 1 1 e_X3_copy_0.2.2.2.2.2.2.1 f_X3_15 (kLX ha2) (fun _ _ => rfl) rfl ?_
  refine R_putI 3 1 1 WX_ok e_X3_copy_0.2.2.2.2.2.2.2.1 f_X3_15 (kLX ha) rfl rfl rfl ?_
  obtain ⟨s3, e4⟩ : ∃ z : Kmem, z = (kup s1 a 1 (s1 a2 1)) := ⟨_, rfl⟩
  rw [← e4]
  replace h := h s3 e4
  refine R_aload_n e_X3_copy_0.2.2.2.2.2.2.2.2.1 0 rfl ?_
  refine R_aload_n e_X3_copy_0.2.2.2.2.2.2.2.2.2 1 rfl ?_
  refine R_getI 3 2 2 e_X3_copy_1.1 f_X3_19 (kLX ha2) (fun _ _ => rfl) rfl ?_
  refine R_putI 3 2 2 WX_ok e_X3_copy_1.2.1 f_X3_19 (kLX ha) rfl rfl rfl ?_
  obtain ⟨s5, e6⟩ : ∃ z : Kmem, z = (kup s3 a 2 (s3 a2 2)) := ⟨_, rfl⟩
  rw [← e6]
  replace h := h s5 e6
  refine R_aload_n e_X3_copy_1.2.2.1 0 rfl ?_
  refine R_aload_n e_X3_copy_1.2.2.2.1 1 rfl ?_
  refine R_getI 3 3 3 e_X3_copy_1.2.2.2.2.1 f_X3_22 (kLX ha2) (fun _ _ => rfl) rfl ?_
  refine R_putI 3 3 3 WX_ok e_X3_copy_1.2.2.2.2.2.1 f_X3_22 (kLX ha) rfl rfl rfl ?_
  obtain ⟨s7, e8⟩ : ∃ z : Kmem, z = (kup s5 a 3 (s5 a2 3)) := ⟨_, rfl⟩
  rw [← e8]
  replace h := h s7 e8
  refine R_aload_n e_X3_copy_1.2.2.2.2.2.2.1 0 rfl ?_
  refine R_aload_n e_X3_copy_1.2.2.2.2.2.2.2.1 1 rfl ?_
  refine R_getI 3 4 4 e_X3_copy_1.2.2.2.2.2.2.2.2.1 f_X3_25 (kLX ha2) (fun _ _ => rfl) rfl ?_
  refine R_putI 3 4 4 WX_ok e_X3_copy_1.2.2.2.2.2.2.2.2.2 f_X3_25 (kLX ha) rfl rfl rfl ?_
  obtain ⟨s9, e10⟩ : ∃ z : Kmem, z = (kup s7 a 4 (s7 a2 4)) := ⟨_, rfl⟩
  rw [← e10]
  replace h := h s9 e10
  refine R_aload_n e_X3_copy_2.1 0 rfl ?_
  refine R_aload_n e_X3_copy_2.2.1 1 rfl ?_
  refine R_getI 3 5 5 e_X3_copy_2.2.2.1 f_X3_28 (kLX ha2) (fun _ _ => rfl) rfl ?_
  refine R_putI 3 5 5 WX_ok e_X3_copy_2.2.2.2.1 f_X3_28 (kLX ha) rfl rfl rfl ?_
  obtain ⟨s11, e12⟩ : ∃ z : Kmem, z = (kup s9 a 5 (s9 a2 5)) := ⟨_, rfl⟩
  rw [← e12]
  replace h := h s11 e12
  refine R_aload_n e_X3_copy_2.2.2.2.2.1 0 rfl ?_
  refine R_aload_n e_X3_copy_2.2.2.2.2.2.1 1 rfl ?_
  refine R_getI 3 6 6 e_X3_copy_2.2.2.2.2.2.2.1 f_X3_31 (kLX ha2) (fun _ _ => rfl) rfl ?_
  refine R_putI 3 6 6 WX_ok e_X3_copy_2.2.2.2.2.2.2.2.1 f_X3_31 (kLX ha) rfl rfl rfl ?_
  obtain ⟨s13, e14⟩ : ∃ z : Kmem, z = (kup s11 a 6 (s11 a2 6)) := ⟨_, rfl⟩
  rw [← e14]
  replace h := h s13 e14
  refine R_aload_n e_X3_copy_2.2.2.2.2.2.2.2.2.1 0 rfl ?_
  refine R_aload_n e_X3_copy_2.2.2.2.2.2.2.2.2.2 1 rfl ?_
  refine R_getI 3 7 7 e_X3_copy_3.1 f_X3_34 (kLX ha2) (fun _ _ => rfl) rfl ?_
  refine R_putI 3 7 7 WX_ok e_X3_copy_3.2.1 f_X3_34 (kLX ha) rfl rfl rfl ?_
  obtain ⟨s15, e16⟩ : ∃ z : Kmem, z = (kup s13 a 7 (s13 a2 7)) := ⟨_, rfl⟩
  rw [← e16]
  replace h := h s15 e16
  refine R_aload_n e_X3_copy_3.2.2.1 0 rfl ?_
  refine R_aload_n e_X3_copy_3.2.2.2.1 1 rfl ?_
  refine R_getI 3 8 8 e_X3_copy_3.2.2.2.2.1 f_X3_37 (kLX ha2) (fun _ _ => rfl) rfl ?_
  refine R_putI 3 8 8 WX_ok e_X3_copy_3.2.2.2.2.2.1 f_X3_37 (kLX ha) rfl rfl rfl ?_
  obtain ⟨s17, e18⟩ : ∃ z : Kmem, z = (kup s15 a 8 (s15 a2 8)) := ⟨_, rfl⟩
  rw [← e18]
  replace h := h s17 e18
  refine R_aload_n e_X3_copy_3.2.2.2.2.2.2.1 0 rfl ?_
  refine R_aload_n e_X3_copy_3.2.2.2.2.2.2.2.1 1 rfl ?_
  refine R_getI 3 9 9 e_X3_copy_3.2.2.2.2.2.2.2.2.1 f_X3_40 (kLX ha2) (fun _ _ => rfl) rfl ?_
  obtain ⟨q19, h⟩ := h
  refine R_putZ 3 9 9 WX_ok e_X3_copy_3.2.2.2.2.2.2.2.2.2 f_X3_40 (kLX ha) rfl rfl rfl q19 ?_
  obtain ⟨s20, e21⟩ : ∃ z : Kmem, z = (kup s17 a 9 (s17 a2 9)) := ⟨_, rfl⟩
  rw [← e21]
  replace h := h s20 e21
  exact R_return e_X3_copy_4 rfl h
/-! KiteLand$Crop.copy(LKiteLand$Crop;)V -/
theorem e_X2_copy_0 : decode cX2_copy 0 = .ok (.aload_n 0, 1) ∧ decode cX2_copy 1 = .ok (.aload_n 1, 1) ∧ decode cX2_copy 2 = .ok (.getfield 9, 3) ∧ decode cX2_copy 5 = .ok (.putfield 9, 3) ∧ decode cX2_copy 8 = .ok (.aload_n 0, 1) ∧ decode cX2_copy 9 = .ok (.aload_n 1, 1) ∧ decode cX2_copy 10 = .ok (.getfield 15, 3) ∧ decode cX2_copy 13 = .ok (.putfield 15, 3) ∧ decode cX2_copy 16 = .ok (.aload_n 0, 1) ∧ decode cX2_copy 17 = .ok (.aload_n 1, 1) := by decide +kernel
theorem e_X2_copy_1 : decode cX2_copy 18 = .ok (.getfield 19, 3) ∧ decode cX2_copy 21 = .ok (.putfield 19, 3) ∧ decode cX2_copy 24 = .ok (.aload_n 0, 1) ∧ decode cX2_copy 25 = .ok (.aload_n 1, 1) ∧ decode cX2_copy 26 = .ok (.getfield 22, 3) ∧ decode cX2_copy 29 = .ok (.putfield 22, 3) ∧ decode cX2_copy 32 = .ok (.aload_n 0, 1) ∧ decode cX2_copy 33 = .ok (.aload_n 1, 1) ∧ decode cX2_copy 34 = .ok (.getfield 25, 3) ∧ decode cX2_copy 37 = .ok (.putfield 25, 3) := by decide +kernel
theorem e_X2_copy_2 : decode cX2_copy 40 = .ok (.return_, 1) := by decide +kernel
theorem S_X2_copy {G : Kg} {σ : Kmem} {Q : Int → Kmem → Prop} {a a2 : Int} (ha : kIsX a 2) (ha2 : kIsX a2 2) (h : ∀ s1 : Kmem, s1 = (kup σ a 0 (σ a2 0)) → ∀ s3 : Kmem, s3 = (kup s1 a 1 (s1 a2 1)) → ∀ s5 : Kmem, s5 = (kup s3 a 2 (s3 a2 2)) → ∀ s7 : Kmem, s7 = (kup s5 a 3 (s5 a2 3)) → ∀ s9 : Kmem, s9 = (kup s7 a 4 (s7 a2 4)) → Q 0 s9) : Run G WX M_X2_copy 0 0 0 [vA G a, vA G a2] σ Q := by
  refine Run.of (by decide +kernel) (by show (2 : Nat) ≤ 2; decide) ?_
  show Ex G WX M_X2_copy 0 0 0 0 [(0, vA G a), (1, vA G a2)] [] σ Q
  refine R_aload_n e_X2_copy_0.1 0 rfl ?_
  refine R_aload_n e_X2_copy_0.2.1 1 rfl ?_
  refine R_getL 2 0 0 e_X2_copy_0.2.2.1 f_X2_9 (kLX ha2) (fun _ _ => rfl) rfl ?_
  refine R_putL 2 0 0 WX_ok e_X2_copy_0.2.2.2.1 f_X2_9 (kLX ha) rfl rfl rfl ?_
  obtain ⟨s1, e2⟩ : ∃ z : Kmem, z = (kup σ a 0 (σ a2 0)) := ⟨_, rfl⟩
  rw [← e2]
  replace h := h s1 e2
  refine R_aload_n e_X2_copy_0.2.2.2.2.1 0 rfl ?_
  refine R_aload_n e_X2_copy_0.2.2.2.2.2.1 1 rfl ?_
  refine R_getI 2 1 1 e_X2_copy_0.2.2.2.2.2.2.1 f_X2_15 (kLX ha2) (fun _ _ => rfl) rfl ?_
  refine R_putI 2 1 1 WX_ok e_X2_copy_0.2.2.2.2.2.2.2.1 f_X2_15 (kLX ha) rfl rfl rfl ?_
  obtain ⟨s3, e4⟩ : ∃ z : Kmem, z = (kup s1 a 1 (s1 a2 1)) := ⟨_, rfl⟩
  rw [← e4]
  replace h := h s3 e4
  refine R_aload_n e_X2_copy_0.2.2.2.2.2.2.2.2.1 0 rfl ?_
  refine R_aload_n e_X2_copy_0.2.2.2.2.2.2.2.2.2 1 rfl ?_
  refine R_getI 2 2 2 e_X2_copy_1.1 f_X2_19 (kLX ha2) (fun _ _ => rfl) rfl ?_
  refine R_putI 2 2 2 WX_ok e_X2_copy_1.2.1 f_X2_19 (kLX ha) rfl rfl rfl ?_
  obtain ⟨s5, e6⟩ : ∃ z : Kmem, z = (kup s3 a 2 (s3 a2 2)) := ⟨_, rfl⟩
  rw [← e6]
  replace h := h s5 e6
  refine R_aload_n e_X2_copy_1.2.2.1 0 rfl ?_
  refine R_aload_n e_X2_copy_1.2.2.2.1 1 rfl ?_
  refine R_getI 2 3 3 e_X2_copy_1.2.2.2.2.1 f_X2_22 (kLX ha2) (fun _ _ => rfl) rfl ?_
  refine R_putI 2 3 3 WX_ok e_X2_copy_1.2.2.2.2.2.1 f_X2_22 (kLX ha) rfl rfl rfl ?_
  obtain ⟨s7, e8⟩ : ∃ z : Kmem, z = (kup s5 a 3 (s5 a2 3)) := ⟨_, rfl⟩
  rw [← e8]
  replace h := h s7 e8
  refine R_aload_n e_X2_copy_1.2.2.2.2.2.2.1 0 rfl ?_
  refine R_aload_n e_X2_copy_1.2.2.2.2.2.2.2.1 1 rfl ?_
  refine R_getI 2 4 4 e_X2_copy_1.2.2.2.2.2.2.2.2.1 f_X2_25 (kLX ha2) (fun _ _ => rfl) rfl ?_
  refine R_putI 2 4 4 WX_ok e_X2_copy_1.2.2.2.2.2.2.2.2.2 f_X2_25 (kLX ha) rfl rfl rfl ?_
  obtain ⟨s9, e10⟩ : ∃ z : Kmem, z = (kup s7 a 4 (s7 a2 4)) := ⟨_, rfl⟩
  rw [← e10]
  replace h := h s9 e10
  exact R_return e_X2_copy_2 rfl h
/-! KiteLand$Tenant.copy(LKiteLand$Tenant;)V -/
theorem e_X9_copy_0 : decode cX9_copy 0 = .ok (.aload_n 0, 1) ∧ decode cX9_copy 1 = .ok (.aload_n 1, 1) ∧ decode cX9_copy 2 = .ok (.getfield 7, 3) ∧ decode cX9_copy 5 = .ok (.putfield 7, 3) ∧ decode cX9_copy 8 = .ok (.aload_n 0, 1) ∧ decode cX9_copy 9 = .ok (.aload_n 1, 1) ∧ decode cX9_copy 10 = .ok (.getfield 13, 3) ∧ decode cX9_copy 13 = .ok (.putfield 13, 3) ∧ decode cX9_copy 16 = .ok (.aload_n 0, 1) ∧ decode cX9_copy 17 = .ok (.aload_n 1, 1) := by decide +kernel
theorem e_X9_copy_1 : decode cX9_copy 18 = .ok (.getfield 17, 3) ∧ decode cX9_copy 21 = .ok (.putfield 17, 3) ∧ decode cX9_copy 24 = .ok (.aload_n 0, 1) ∧ decode cX9_copy 25 = .ok (.aload_n 1, 1) ∧ decode cX9_copy 26 = .ok (.getfield 20, 3) ∧ decode cX9_copy 29 = .ok (.putfield 20, 3) ∧ decode cX9_copy 32 = .ok (.aload_n 0, 1) ∧ decode cX9_copy 33 = .ok (.aload_n 1, 1) ∧ decode cX9_copy 34 = .ok (.getfield 23, 3) ∧ decode cX9_copy 37 = .ok (.putfield 23, 3) := by decide +kernel
theorem e_X9_copy_2 : decode cX9_copy 40 = .ok (.aload_n 0, 1) ∧ decode cX9_copy 41 = .ok (.aload_n 1, 1) ∧ decode cX9_copy 42 = .ok (.getfield 26, 3) ∧ decode cX9_copy 45 = .ok (.putfield 26, 3) ∧ decode cX9_copy 48 = .ok (.return_, 1) := by decide +kernel
theorem S_X9_copy {G : Kg} {σ : Kmem} {Q : Int → Kmem → Prop} {a a2 : Int} (ha : kIsX a 9) (ha2 : kIsX a2 9) (h : ∀ s1 : Kmem, s1 = (kup σ a 0 (σ a2 0)) → ∀ s3 : Kmem, s3 = (kup s1 a 1 (s1 a2 1)) → ∀ s5 : Kmem, s5 = (kup s3 a 2 (s3 a2 2)) → ∀ s7 : Kmem, s7 = (kup s5 a 3 (s5 a2 3)) → ∀ s9 : Kmem, s9 = (kup s7 a 4 (s7 a2 4)) → ∀ s11 : Kmem, s11 = (kup s9 a 5 (s9 a2 5)) → Q 0 s11) : Run G WX M_X9_copy 0 0 0 [vA G a, vA G a2] σ Q := by
  refine Run.of (by decide +kernel) (by show (2 : Nat) ≤ 2; decide) ?_
  show Ex G WX M_X9_copy 0 0 0 0 [(0, vA G a), (1, vA G a2)] [] σ Q
  refine R_aload_n e_X9_copy_0.1 0 rfl ?_
  refine R_aload_n e_X9_copy_0.2.1 1 rfl ?_
  refine R_getL 9 0 0 e_X9_copy_0.2.2.1 f_X9_7 (kLX ha2) (fun _ _ => rfl) rfl ?_
  refine R_putL 9 0 0 WX_ok e_X9_copy_0.2.2.2.1 f_X9_7 (kLX ha) rfl rfl rfl ?_
  obtain ⟨s1, e2⟩ : ∃ z : Kmem, z = (kup σ a 0 (σ a2 0)) := ⟨_, rfl⟩
  rw [← e2]
  replace h := h s1 e2
  refine R_aload_n e_X9_copy_0.2.2.2.2.1 0 rfl ?_
  refine R_aload_n e_X9_copy_0.2.2.2.2.2.1 1 rfl ?_
  refine R_getI 9 1 1 e_X9_copy_0.2.2.2.2.2.2.1 f_X9_13 (kLX ha2) (fun _ _ => rfl) rfl ?_
  refine R_putI 9 1 1 WX_ok e_X9_copy_0.2.2.2.2.2.2.2.1 f_X9_13 (kLX ha) rfl rfl rfl ?_
  obtain ⟨s3, e4⟩ : ∃ z : Kmem, z = (kup s1 a 1 (s1 a2 1)) := ⟨_, rfl⟩
  rw [← e4]
  replace h := h s3 e4
  refine R_aload_n e_X9_copy_0.2.2.2.2.2.2.2.2.1 0 rfl ?_
  refine R_aload_n e_X9_copy_0.2.2.2.2.2.2.2.2.2 1 rfl ?_
  refine R_getI 9 2 2 e_X9_copy_1.1 f_X9_17 (kLX ha2) (fun _ _ => rfl) rfl ?_
  refine R_putI 9 2 2 WX_ok e_X9_copy_1.2.1 f_X9_17 (kLX ha) rfl rfl rfl ?_
  obtain ⟨s5, e6⟩ : ∃ z : Kmem, z = (kup s3 a 2 (s3 a2 2)) := ⟨_, rfl⟩
  rw [← e6]
  replace h := h s5 e6
  refine R_aload_n e_X9_copy_1.2.2.1 0 rfl ?_
  refine R_aload_n e_X9_copy_1.2.2.2.1 1 rfl ?_
  refine R_getI 9 3 3 e_X9_copy_1.2.2.2.2.1 f_X9_20 (kLX ha2) (fun _ _ => rfl) rfl ?_
  refine R_putI 9 3 3 WX_ok e_X9_copy_1.2.2.2.2.2.1 f_X9_20 (kLX ha) rfl rfl rfl ?_
  obtain ⟨s7, e8⟩ : ∃ z : Kmem, z = (kup s5 a 3 (s5 a2 3)) := ⟨_, rfl⟩
  rw [← e8]
  replace h := h s7 e8
  refine R_aload_n e_X9_copy_1.2.2.2.2.2.2.1 0 rfl ?_
  refine R_aload_n e_X9_copy_1.2.2.2.2.2.2.2.1 1 rfl ?_
  refine R_getI 9 4 4 e_X9_copy_1.2.2.2.2.2.2.2.2.1 f_X9_23 (kLX ha2) (fun _ _ => rfl) rfl ?_
  refine R_putI 9 4 4 WX_ok e_X9_copy_1.2.2.2.2.2.2.2.2.2 f_X9_23 (kLX ha) rfl rfl rfl ?_
  obtain ⟨s9, e10⟩ : ∃ z : Kmem, z = (kup s7 a 4 (s7 a2 4)) := ⟨_, rfl⟩
  rw [← e10]
  replace h := h s9 e10
  refine R_aload_n e_X9_copy_2.1 0 rfl ?_
  refine R_aload_n e_X9_copy_2.2.1 1 rfl ?_
  refine R_getI 9 5 5 e_X9_copy_2.2.2.1 f_X9_26 (kLX ha2) (fun _ _ => rfl) rfl ?_
  refine R_putI 9 5 5 WX_ok e_X9_copy_2.2.2.2.1 f_X9_26 (kLX ha) rfl rfl rfl ?_
  obtain ⟨s11, e12⟩ : ∃ z : Kmem, z = (kup s9 a 5 (s9 a2 5)) := ⟨_, rfl⟩
  rw [← e12]
  replace h := h s11 e12
  exact R_return e_X9_copy_2.2.2.2.2 rfl h
/-! KiteLand$County.copy(LKiteLand$County;)V -/
theorem e_X0_copy_0 : decode cX0_copy 0 = .ok (.aload_n 0, 1) ∧ decode cX0_copy 1 = .ok (.aload_n 1, 1) ∧ decode cX0_copy 2 = .ok (.getfield 9, 3) ∧ decode cX0_copy 5 = .ok (.putfield 9, 3) ∧ decode cX0_copy 8 = .ok (.aload_n 0, 1) ∧ decode cX0_copy 9 = .ok (.aload_n 1, 1) ∧ decode cX0_copy 10 = .ok (.getfield 15, 3) ∧ decode cX0_copy 13 = .ok (.putfield 15, 3) ∧ decode cX0_copy 16 = .ok (.aload_n 0, 1) ∧ decode cX0_copy 17 = .ok (.aload_n 1, 1) := by decide +kernel
theorem e_X0_copy_1 : decode cX0_copy 18 = .ok (.getfield 18, 3) ∧ decode cX0_copy 21 = .ok (.putfield 18, 3) ∧ decode cX0_copy 24 = .ok (.aload_n 0, 1) ∧ decode cX0_copy 25 = .ok (.aload_n 1, 1) ∧ decode cX0_copy 26 = .ok (.getfield 21, 3) ∧ decode cX0_copy 29 = .ok (.putfield 21, 3) ∧ decode cX0_copy 32 = .ok (.aload_n 0, 1) ∧ decode cX0_copy 33 = .ok (.aload_n 1, 1) ∧ decode cX0_copy 34 = .ok (.getfield 24, 3) ∧ decode cX0_copy 37 = .ok (.putfield 24, 3) := by decide +kernel
theorem e_X0_copy_2 : decode cX0_copy 40 = .ok (.aload_n 0, 1) ∧ decode cX0_copy 41 = .ok (.aload_n 1, 1) ∧ decode cX0_copy 42 = .ok (.getfield 27, 3) ∧ decode cX0_copy 45 = .ok (.putfield 27, 3) ∧ decode cX0_copy 48 = .ok (.aload_n 0, 1) ∧ decode cX0_copy 49 = .ok (.aload_n 1, 1) ∧ decode cX0_copy 50 = .ok (.getfield 30, 3) ∧ decode cX0_copy 53 = .ok (.putfield 30, 3) ∧ decode cX0_copy 56 = .ok (.aload_n 0, 1) ∧ decode cX0_copy 57 = .ok (.aload_n 1, 1) := by decide +kernel
theorem e_X0_copy_3 : decode cX0_copy 58 = .ok (.getfield 33, 3) ∧ decode cX0_copy 61 = .ok (.putfield 33, 3) ∧ decode cX0_copy 64 = .ok (.aload_n 1, 1) ∧ decode cX0_copy 65 = .ok (.getfield 36, 3) ∧ decode cX0_copy 68 = .ok (.iconst 0, 1) ∧ decode cX0_copy 69 = .ok (.aload_n 0, 1) ∧ decode cX0_copy 70 = .ok (.getfield 36, 3) ∧ decode cX0_copy 73 = .ok (.iconst 0, 1) ∧ decode cX0_copy 74 = .ok (.bipush 12, 2) ∧ decode cX0_copy 76 = .ok (.invokestatic 67, 3) := by decide +kernel
theorem e_X0_copy_4 : decode cX0_copy 79 = .ok (.aload_n 1, 1) ∧ decode cX0_copy 80 = .ok (.getfield 40, 3) ∧ decode cX0_copy 83 = .ok (.iconst 0, 1) ∧ decode cX0_copy 84 = .ok (.aload_n 0, 1) ∧ decode cX0_copy 85 = .ok (.getfield 40, 3) ∧ decode cX0_copy 88 = .ok (.iconst 0, 1) ∧ decode cX0_copy 89 = .ok (.bipush 12, 2) ∧ decode cX0_copy 91 = .ok (.invokestatic 67, 3) ∧ decode cX0_copy 94 = .ok (.iconst 0, 1) ∧ decode cX0_copy 95 = .ok (.istore_n 2, 1) := by decide +kernel
theorem e_X0_copy_5 : decode cX0_copy 96 = .ok (.iload_n 2, 1) ∧ decode cX0_copy 97 = .ok (.aload_n 0, 1) ∧ decode cX0_copy 98 = .ok (.getfield 27, 3) ∧ decode cX0_copy 101 = .ok (.if_icmp .ge 24, 3) ∧ decode cX0_copy 104 = .ok (.aload_n 0, 1) ∧ decode cX0_copy 105 = .ok (.getfield 45, 3) ∧ decode cX0_copy 108 = .ok (.iload_n 2, 1) ∧ decode cX0_copy 109 = .ok (.aaload, 1) ∧ decode cX0_copy 110 = .ok (.aload_n 1, 1) ∧ decode cX0_copy 111 = .ok (.getfield 45, 3) := by decide +kernel
theorem e_X0_copy_6 : decode cX0_copy 114 = .ok (.iload_n 2, 1) ∧ decode cX0_copy 115 = .ok (.aaload, 1) ∧ decode cX0_copy 116 = .ok (.invokevirtual 73, 3) ∧ decode cX0_copy 119 = .ok (.iinc 2 1, 3) ∧ decode cX0_copy 122 = .ok (.goto (-26), 3) ∧ decode cX0_copy 125 = .ok (.iconst 0, 1) ∧ decode cX0_copy 126 = .ok (.istore_n 2, 1) ∧ decode cX0_copy 127 = .ok (.iload_n 2, 1) ∧ decode cX0_copy 128 = .ok (.aload_n 0, 1) ∧ decode cX0_copy 129 = .ok (.getfield 30, 3) := by decide +kernel
theorem e_X0_copy_7 : decode cX0_copy 132 = .ok (.if_icmp .ge 24, 3) ∧ decode cX0_copy 135 = .ok (.aload_n 0, 1) ∧ decode cX0_copy 136 = .ok (.getfield 51, 3) ∧ decode cX0_copy 139 = .ok (.iload_n 2, 1) ∧ decode cX0_copy 140 = .ok (.aaload, 1) ∧ decode cX0_copy 141 = .ok (.aload_n 1, 1) ∧ decode cX0_copy 142 = .ok (.getfield 51, 3) ∧ decode cX0_copy 145 = .ok (.iload_n 2, 1) ∧ decode cX0_copy 146 = .ok (.aaload, 1) ∧ decode cX0_copy 147 = .ok (.invokevirtual 77, 3) := by decide +kernel
theorem e_X0_copy_8 : decode cX0_copy 150 = .ok (.iinc 2 1, 3) ∧ decode cX0_copy 153 = .ok (.goto (-26), 3) ∧ decode cX0_copy 156 = .ok (.iconst 0, 1) ∧ decode cX0_copy 157 = .ok (.istore_n 2, 1) ∧ decode cX0_copy 158 = .ok (.iload_n 2, 1) ∧ decode cX0_copy 159 = .ok (.aload_n 0, 1) ∧ decode cX0_copy 160 = .ok (.getfield 33, 3) ∧ decode cX0_copy 163 = .ok (.if_icmp .ge 24, 3) ∧ decode cX0_copy 166 = .ok (.aload_n 0, 1) ∧ decode cX0_copy 167 = .ok (.getfield 57, 3) := by decide +kernel
theorem e_X0_copy_9 : decode cX0_copy 170 = .ok (.iload_n 2, 1) ∧ decode cX0_copy 171 = .ok (.aaload, 1) ∧ decode cX0_copy 172 = .ok (.aload_n 1, 1) ∧ decode cX0_copy 173 = .ok (.getfield 57, 3) ∧ decode cX0_copy 176 = .ok (.iload_n 2, 1) ∧ decode cX0_copy 177 = .ok (.aaload, 1) ∧ decode cX0_copy 178 = .ok (.invokevirtual 80, 3) ∧ decode cX0_copy 181 = .ok (.iinc 2 1, 3) ∧ decode cX0_copy 184 = .ok (.goto (-26), 3) ∧ decode cX0_copy 187 = .ok (.return_, 1) := by decide +kernel
abbrev E_X0_copy_96 (G : Kg) (c c2 l2 : Int) (σ : Kmem) (Q : Int → Kmem → Prop) : Prop := Ex G WX M_X0_copy 1 0 0 96 [(0, vA G c), (1, vA G c2), (2, vI l2)] [] σ Q
abbrev E_X0_copy_127 (G : Kg) (c c2 l2 : Int) (σ : Kmem) (Q : Int → Kmem → Prop) : Prop := Ex G WX M_X0_copy 1 0 0 127 [(0, vA G c), (1, vA G c2), (2, vI l2)] [] σ Q
abbrev E_X0_copy_158 (G : Kg) (c c2 l2 : Int) (σ : Kmem) (Q : Int → Kmem → Prop) : Prop := Ex G WX M_X0_copy 1 0 0 158 [(0, vA G c), (1, vA G c2), (2, vI l2)] [] σ Q
theorem S_X0_copy {G : Kg} {σ : Kmem} {Q : Int → Kmem → Prop} {c c2 : Int} (hc : isC c) (hc2 : isC c2) (h : ∀ s1 : Kmem, s1 = (kup σ c 0 (σ c2 0)) → ∀ s3 : Kmem, s3 = (kup s1 c 1 (s1 c2 1)) → ∀ s5 : Kmem, s5 = (kup s3 c 2 (s3 c2 2)) → ∀ s7 : Kmem, s7 = (kup s5 c 3 (s5 c2 3)) → ∀ s9 : Kmem, s9 = (kup s7 c 4 (s7 c2 4)) → ∀ s11 : Kmem, s11 = (kup s9 c 5 (s9 c2 5)) → ∀ s13 : Kmem, s13 = (kup s11 c 6 (s11 c2 6)) → ∀ s15 : Kmem, s15 = (kup s13 c 7 (s13 c2 7)) → (((0 : Int) ≤ 0 ∧ (0 : Int) ≤ 0 ∧ (0 : Int) ≤ 12) ∧ (0 : Int) + 12 ≤ 12 ∧ (0 : Int) + 12 ≤ 12) ∧ ∀ s18 : Kmem, s18 = (kcpy s15 (c2 + 1) 0 (c + 1) 0 12) → (((0 : Int) ≤ 0 ∧ (0 : Int) ≤ 0 ∧ (0 : Int) ≤ 12) ∧ (0 : Int) + 12 ≤ 12 ∧ (0 : Int) + 12 ≤ 12) ∧ ∀ s21 : Kmem, s21 = (kcpy s18 (c2 + 2) 0 (c + 2) 0 12) → E_X0_copy_96 G c c2 0 s21 Q) : Run G WX M_X0_copy 1 0 0 [vA G c, vA G c2] σ Q := by
  refine Run.of (by decide +kernel) (by show (2 : Nat) ≤ 3; decide) ?_
  show Ex G WX M_X0_copy 1 0 0 0 [(0, vA G c), (1, vA G c2)] [] σ Q
  refine R_aload_n e_X0_copy_0.1 0 rfl ?_
  refine R_aload_n e_X0_copy_0.2.1 1 rfl ?_
  refine R_getI 0 0 0 e_X0_copy_0.2.2.1 f_X0_9 (kC_self hc2) (fun _ _ => rfl) rfl ?_
  refine R_putI 0 0 0 WX_ok e_X0_copy_0.2.2.2.1 f_X0_9 (kC_self hc) rfl rfl rfl ?_
  obtain ⟨s1, e2⟩ : ∃ z : Kmem, z = (kup σ c 0 (σ c2 0)) := ⟨_, rfl⟩
  rw [← e2]
  replace h := h s1 e2
  refine R_aload_n e_X0_copy_0.2.2.2.2.1 0 rfl ?_
  refine R_aload_n e_X0_copy_0.2.2.2.2.2.1 1 rfl ?_
  refine R_getI 0 1 1 e_X0_copy_0.2.2.2.2.2.2.1 f_X0_15 (kC_self hc2) (fun _ _ => rfl) rfl ?_
  refine R_putI 0 1 1 WX_ok e_X0_copy_0.2.2.2.2.2.2.2.1 f_X0_15 (kC_self hc) rfl rfl rfl ?_
  obtain ⟨s3, e4⟩ : ∃ z : Kmem, z = (kup s1 c 1 (s1 c2 1)) := ⟨_, rfl⟩
  rw [← e4]
  replace h := h s3 e4
  refine R_aload_n e_X0_copy_0.2.2.2.2.2.2.2.2.1 0 rfl ?_
  refine R_aload_n e_X0_copy_0.2.2.2.2.2.2.2.2.2 1 rfl ?_
  refine R_getI 0 2 2 e_X0_copy_1.1 f_X0_18 (kC_self hc2) (fun _ _ => rfl) rfl ?_
  refine R_putI 0 2 2 WX_ok e_X0_copy_1.2.1 f_X0_18 (kC_self hc) rfl rfl rfl ?_
  obtain ⟨s5, e6⟩ : ∃ z : Kmem, z = (kup s3 c 2 (s3 c2 2)) := ⟨_, rfl⟩
  rw [← e6]
  replace h := h s5 e6
  refine R_aload_n e_X0_copy_1.2.2.1 0 rfl ?_
  refine R_aload_n e_X0_copy_1.2.2.2.1 1 rfl ?_
  refine R_getI 0 3 3 e_X0_copy_1.2.2.2.2.1 f_X0_21 (kC_self hc2) (fun _ _ => rfl) rfl ?_
  refine R_putI 0 3 3 WX_ok e_X0_copy_1.2.2.2.2.2.1 f_X0_21 (kC_self hc) rfl rfl rfl ?_
  obtain ⟨s7, e8⟩ : ∃ z : Kmem, z = (kup s5 c 3 (s5 c2 3)) := ⟨_, rfl⟩
  rw [← e8]
  replace h := h s7 e8
  refine R_aload_n e_X0_copy_1.2.2.2.2.2.2.1 0 rfl ?_
  refine R_aload_n e_X0_copy_1.2.2.2.2.2.2.2.1 1 rfl ?_
  refine R_getI 0 4 4 e_X0_copy_1.2.2.2.2.2.2.2.2.1 f_X0_24 (kC_self hc2) (fun _ _ => rfl) rfl ?_
  refine R_putI 0 4 4 WX_ok e_X0_copy_1.2.2.2.2.2.2.2.2.2 f_X0_24 (kC_self hc) rfl rfl rfl ?_
  obtain ⟨s9, e10⟩ : ∃ z : Kmem, z = (kup s7 c 4 (s7 c2 4)) := ⟨_, rfl⟩
  rw [← e10]
  replace h := h s9 e10
  refine R_aload_n e_X0_copy_2.1 0 rfl ?_
  refine R_aload_n e_X0_copy_2.2.1 1 rfl ?_
  refine R_getI 0 5 5 e_X0_copy_2.2.2.1 f_X0_27 (kC_self hc2) (fun _ _ => rfl) rfl ?_
  refine R_putI 0 5 5 WX_ok e_X0_copy_2.2.2.2.1 f_X0_27 (kC_self hc) rfl rfl rfl ?_
  obtain ⟨s11, e12⟩ : ∃ z : Kmem, z = (kup s9 c 5 (s9 c2 5)) := ⟨_, rfl⟩
  rw [← e12]
  replace h := h s11 e12
  refine R_aload_n e_X0_copy_2.2.2.2.2.1 0 rfl ?_
  refine R_aload_n e_X0_copy_2.2.2.2.2.2.1 1 rfl ?_
  refine R_getI 0 6 6 e_X0_copy_2.2.2.2.2.2.2.1 f_X0_30 (kC_self hc2) (fun _ _ => rfl) rfl ?_
  refine R_putI 0 6 6 WX_ok e_X0_copy_2.2.2.2.2.2.2.2.1 f_X0_30 (kC_self hc) rfl rfl rfl ?_
  obtain ⟨s13, e14⟩ : ∃ z : Kmem, z = (kup s11 c 6 (s11 c2 6)) := ⟨_, rfl⟩
  rw [← e14]
  replace h := h s13 e14
  refine R_aload_n e_X0_copy_2.2.2.2.2.2.2.2.2.1 0 rfl ?_
  refine R_aload_n e_X0_copy_2.2.2.2.2.2.2.2.2.2 1 rfl ?_
  refine R_getI 0 7 7 e_X0_copy_3.1 f_X0_33 (kC_self hc2) (fun _ _ => rfl) rfl ?_
  refine R_putI 0 7 7 WX_ok e_X0_copy_3.2.1 f_X0_33 (kC_self hc) rfl rfl rfl ?_
  obtain ⟨s15, e16⟩ : ∃ z : Kmem, z = (kup s13 c 7 (s13 c2 7)) := ⟨_, rfl⟩
  rw [← e16]
  replace h := h s15 e16
  refine R_aload_n e_X0_copy_3.2.2.1 1 rfl ?_
  refine R_getA 0 8 (c2 + 1) e_X0_copy_3.2.2.2.1 f_X0_36 (kC_self hc2) (fun _ _ => rfl) (kC_r8 hc2) (kC_n1 hc2) ?_
  refine R_iconst e_X0_copy_3.2.2.2.2.1 ?_
  refine R_aload_n e_X0_copy_3.2.2.2.2.2.1 0 rfl ?_
  refine R_getA 0 8 (c + 1) e_X0_copy_3.2.2.2.2.2.2.1 f_X0_36 (kC_self hc) (fun _ _ => rfl) (kC_r8 hc) (kC_n1 hc) ?_
  refine R_iconst e_X0_copy_3.2.2.2.2.2.2.2.1 ?_
  refine R_bipush e_X0_copy_3.2.2.2.2.2.2.2.2.1 (by decide) ?_
  obtain ⟨q17, h⟩ := h
  refine R_copyI 12 12 rfl WX_rd e_X0_copy_3.2.2.2.2.2.2.2.2.2 (kC_dirs hc2) (kC_dirs hc) q17 l_cp_X0_67 (by decide) (by show (0 : Nat) ≤ 8; decide) ?_
  obtain ⟨s18, e19⟩ : ∃ z : Kmem, z = (kcpy s15 (c2 + 1) 0 (c + 1) 0 12) := ⟨_, rfl⟩
  rw [← e19]
  replace h := h s18 e19
  refine R_aload_n e_X0_copy_4.1 1 rfl ?_
  refine R_getA 0 9 (c2 + 2) e_X0_copy_4.2.1 f_X0_40 (kC_self hc2) (fun _ _ => rfl) (kC_r9 hc2) (kC_n2 hc2) ?_
  refine R_iconst e_X0_copy_4.2.2.1 ?_
  refine R_aload_n e_X0_copy_4.2.2.2.1 0 rfl ?_
  refine R_getA 0 9 (c + 2) e_X0_copy_4.2.2.2.2.1 f_X0_40 (kC_self hc) (fun _ _ => rfl) (kC_r9 hc) (kC_n2 hc) ?_
  refine R_iconst e_X0_copy_4.2.2.2.2.2.1 ?_
  refine R_bipush e_X0_copy_4.2.2.2.2.2.2.1 (by decide) ?_
  obtain ⟨q20, h⟩ := h
  refine R_copyI 12 12 rfl WX_rd e_X0_copy_4.2.2.2.2.2.2.2.1 (kC_forces hc2) (kC_forces hc) q20 l_cp_X0_67 (by decide) (by show (0 : Nat) ≤ 8; decide) ?_
  obtain ⟨s21, e22⟩ : ∃ z : Kmem, z = (kcpy s18 (c2 + 2) 0 (c + 2) 0 12) := ⟨_, rfl⟩
  rw [← e22]
  replace h := h s21 e22
  refine R_iconst e_X0_copy_4.2.2.2.2.2.2.2.2.1 ?_
  refine R_istore_n (ls2 := [(2, vI 0), (0, vA G c), (1, vA G c2)]) e_X0_copy_4.2.2.2.2.2.2.2.2.2 (by decide) rfl ?_
  refine R_ls (ls2 := [(0, vA G c), (1, vA G c2), (2, vI 0)]) [1, 2, 0] rfl ?_
  exact h
theorem S_X0_copy_96 {G : Kg} {σ : Kmem} {Q : Int → Kmem → Prop} {c c2 l2 : Int} (hc : isC c) (hc2 : isC c2) (h : (rI l2) ∧ (rI (σ c 5)) ∧ ((σ c 5 ≤ l2 → E_X0_copy_127 G c c2 0 σ Q) ∧ (l2 < σ c 5 → (0 ≤ l2 ∧ l2 < 6) ∧ (0 ≤ l2 ∧ l2 < 6) ∧ Run G WX M_X3_copy 0 0 0 [vA G (c + 6 + l2), vA G (c2 + 6 + l2)] σ (fun r27 s28 => E_X0_copy_96 G c c2 (l2 + 1) s28 Q)))) : E_X0_copy_96 G c c2 l2 σ Q := by
  refine R_iload_n e_X0_copy_5.1 2 rfl ?_
  refine R_aload_n e_X0_copy_5.2.1 0 rfl ?_
  refine R_getI 0 5 5 e_X0_copy_5.2.2.1 f_X0_27 (kC_self hc) (fun _ _ => rfl) rfl ?_
  obtain ⟨q23, h⟩ := h
  obtain ⟨q24, h⟩ := h
  refine R_icmp_ge 125 e_X0_copy_5.2.2.2.1 (by decide) q23 q24 (fun q => ?_) (fun q => ?_)
  · replace h := h.1 q
    refine R_iconst e_X0_copy_6.2.2.2.2.2.1 ?_
    refine R_istore_n (ls2 := [(2, vI 0), (0, vA G c), (1, vA G c2)]) e_X0_copy_6.2.2.2.2.2.2.1 (by decide) rfl ?_
    refine R_ls (ls2 := [(0, vA G c), (1, vA G c2), (2, vI 0)]) [1, 2, 0] rfl ?_
    exact h
  · replace h := h.2 q
    refine R_aload_n e_X0_copy_5.2.2.2.2.1 0 rfl ?_
    refine R_getA 0 10 (c + 3) e_X0_copy_5.2.2.2.2.2.1 f_X0_45 (kC_self hc) (fun _ _ => rfl) (kC_r10 hc) (kC_n3 hc) ?_
    refine R_iload_n e_X0_copy_5.2.2.2.2.2.2.1 2 rfl ?_
    obtain ⟨q25, h⟩ := h
    refine R_aald 27 6 (c + 6 + l2) e_X0_copy_5.2.2.2.2.2.2.2.1 (by decide) (kC_kites hc) q25 (kC_kiteAt hc q25) (kC_kiteN hc q25) ?_
    refine R_aload_n e_X0_copy_5.2.2.2.2.2.2.2.2.1 1 rfl ?_
    refine R_getA 0 10 (c2 + 3) e_X0_copy_5.2.2.2.2.2.2.2.2.2 f_X0_45 (kC_self hc2) (fun _ _ => rfl) (kC_r10 hc2) (kC_n3 hc2) ?_
    refine R_iload_n e_X0_copy_6.1 2 rfl ?_
    obtain ⟨q26, h⟩ := h
    refine R_aald 27 6 (c2 + 6 + l2) e_X0_copy_6.2.1 (by decide) (kC_kites hc2) q26 (kC_kiteAt hc2 q26) (kC_kiteN hc2 q26) ?_
    refine R_callV (mc := 0) (ms := 0) (mc' := 0) (ms' := 0) (M' := M_X3_copy) (d' := 0) (as := [vA G (c2 + 6 + l2)]) (st := []) 3 1 e_X0_copy_6.2.2.1 (kCVof m_X3_copy l_X0_73) rfl (by decide) (kC_kite hc q25) (by decide) (by decide) rfl rfl (by show (0 : Nat) ≤ 8; decide) ?_
    refine Run.mono h (fun r27 s28 h => ?_)
    refine R_eqs (st2 := []) rfl rfl ?_
    refine R_iinc (ls2 := [(2, vI (l2 + 1)), (0, vA G c), (1, vA G c2)]) e_X0_copy_6.2.2.2.1 2 rfl (by decide) rfl ?_
    refine R_goto 96 e_X0_copy_6.2.2.2.2.1 (by decide) ?_
    refine R_ls (ls2 := [(0, vA G c), (1, vA G c2), (2, vI (l2 + 1))]) [1, 2, 0] rfl ?_
    exact h
theorem S_X0_copy_127 {G : Kg} {σ : Kmem} {Q : Int → Kmem → Prop} {c c2 l2 : Int} (hc : isC c) (hc2 : isC c2) (h : (rI l2) ∧ (rI (σ c 6)) ∧ ((σ c 6 ≤ l2 → E_X0_copy_158 G c c2 0 σ Q) ∧ (l2 < σ c 6 → (0 ≤ l2 ∧ l2 < 8) ∧ (0 ≤ l2 ∧ l2 < 8) ∧ Run G WX M_X2_copy 0 0 0 [vA G (c + 12 + l2), vA G (c2 + 12 + l2)] σ (fun r33 s34 => E_X0_copy_127 G c c2 (l2 + 1) s34 Q)))) : E_X0_copy_127 G c c2 l2 σ Q := by
  refine R_iload_n e_X0_copy_6.2.2.2.2.2.2.2.1 2 rfl ?_
  refine R_aload_n e_X0_copy_6.2.2.2.2.2.2.2.2.1 0 rfl ?_
  refine R_getI 0 6 6 e_X0_copy_6.2.2.2.2.2.2.2.2.2 f_X0_30 (kC_self hc) (fun _ _ => rfl) rfl ?_
  obtain ⟨q29, h⟩ := h
  obtain ⟨q30, h⟩ := h
  refine R_icmp_ge 156 e_X0_copy_7.1 (by decide) q29 q30 (fun q => ?_) (fun q => ?_)
  · replace h := h.1 q
    refine R_iconst e_X0_copy_8.2.2.1 ?_
    refine R_istore_n (ls2 := [(2, vI 0), (0, vA G c), (1, vA G c2)]) e_X0_copy_8.2.2.2.1 (by decide) rfl ?_
    refine R_ls (ls2 := [(0, vA G c), (1, vA G c2), (2, vI 0)]) [1, 2, 0] rfl ?_
    exact h
  · replace h := h.2 q
    refine R_aload_n e_X0_copy_7.2.1 0 rfl ?_
    refine R_getA 0 11 (c + 4) e_X0_copy_7.2.2.1 f_X0_51 (kC_self hc) (fun _ _ => rfl) (kC_r11 hc) (kC_n4 hc) ?_
    refine R_iload_n e_X0_copy_7.2.2.2.1 2 rfl ?_
    obtain ⟨q31, h⟩ := h
    refine R_aald 28 8 (c + 12 + l2) e_X0_copy_7.2.2.2.2.1 (by decide) (kC_crops hc) q31 (kC_cropAt hc q31) (kC_cropN hc q31) ?_
    refine R_aload_n e_X0_copy_7.2.2.2.2.2.1 1 rfl ?_
    refine R_getA 0 11 (c2 + 4) e_X0_copy_7.2.2.2.2.2.2.1 f_X0_51 (kC_self hc2) (fun _ _ => rfl) (kC_r11 hc2) (kC_n4 hc2) ?_
    refine R_iload_n e_X0_copy_7.2.2.2.2.2.2.2.1 2 rfl ?_
    obtain ⟨q32, h⟩ := h
    refine R_aald 28 8 (c2 + 12 + l2) e_X0_copy_7.2.2.2.2.2.2.2.2.1 (by decide) (kC_crops hc2) q32 (kC_cropAt hc2 q32) (kC_cropN hc2 q32) ?_
    refine R_callV (mc := 0) (ms := 0) (mc' := 0) (ms' := 0) (M' := M_X2_copy) (d' := 0) (as := [vA G (c2 + 12 + l2)]) (st := []) 2 1 e_X0_copy_7.2.2.2.2.2.2.2.2.2 (kCVof m_X2_copy l_X0_77) rfl (by decide) (kC_crop hc q31) (by decide) (by decide) rfl rfl (by show (0 : Nat) ≤ 8; decide) ?_
    refine Run.mono h (fun r33 s34 h => ?_)
    refine R_eqs (st2 := []) rfl rfl ?_
    refine R_iinc (ls2 := [(2, vI (l2 + 1)), (0, vA G c), (1, vA G c2)]) e_X0_copy_8.1 2 rfl (by decide) rfl ?_
    refine R_goto 127 e_X0_copy_8.2.1 (by decide) ?_
    refine R_ls (ls2 := [(0, vA G c), (1, vA G c2), (2, vI (l2 + 1))]) [1, 2, 0] rfl ?_
    exact h
theorem S_X0_copy_158 {G : Kg} {σ : Kmem} {Q : Int → Kmem → Prop} {c c2 l2 : Int} (hc : isC c) (hc2 : isC c2) (h : (rI l2) ∧ (rI (σ c 7)) ∧ ((σ c 7 ≤ l2 → Q 0 σ) ∧ (l2 < σ c 7 → (0 ≤ l2 ∧ l2 < 6) ∧ (0 ≤ l2 ∧ l2 < 6) ∧ Run G WX M_X9_copy 0 0 0 [vA G (c + 20 + l2), vA G (c2 + 20 + l2)] σ (fun r39 s40 => E_X0_copy_158 G c c2 (l2 + 1) s40 Q)))) : E_X0_copy_158 G c c2 l2 σ Q := by
  refine R_iload_n e_X0_copy_8.2.2.2.2.1 2 rfl ?_
  refine R_aload_n e_X0_copy_8.2.2.2.2.2.1 0 rfl ?_
  refine R_getI 0 7 7 e_X0_copy_8.2.2.2.2.2.2.1 f_X0_33 (kC_self hc) (fun _ _ => rfl) rfl ?_
  obtain ⟨q35, h⟩ := h
  obtain ⟨q36, h⟩ := h
  refine R_icmp_ge 187 e_X0_copy_8.2.2.2.2.2.2.2.1 (by decide) q35 q36 (fun q => ?_) (fun q => ?_)
  · replace h := h.1 q
    exact R_return e_X0_copy_9.2.2.2.2.2.2.2.2.2 rfl h
  · replace h := h.2 q
    refine R_aload_n e_X0_copy_8.2.2.2.2.2.2.2.2.1 0 rfl ?_
    refine R_getA 0 12 (c + 5) e_X0_copy_8.2.2.2.2.2.2.2.2.2 f_X0_57 (kC_self hc) (fun _ _ => rfl) (kC_r12 hc) (kC_n5 hc) ?_
    refine R_iload_n e_X0_copy_9.1 2 rfl ?_
    obtain ⟨q37, h⟩ := h
    refine R_aald 29 6 (c + 20 + l2) e_X0_copy_9.2.1 (by decide) (kC_tens hc) q37 (kC_tenAt hc q37) (kC_tenN hc q37) ?_
    refine R_aload_n e_X0_copy_9.2.2.1 1 rfl ?_
    refine R_getA 0 12 (c2 + 5) e_X0_copy_9.2.2.2.1 f_X0_57 (kC_self hc2) (fun _ _ => rfl) (kC_r12 hc2) (kC_n5 hc2) ?_
    refine R_iload_n e_X0_copy_9.2.2.2.2.1 2 rfl ?_
    obtain ⟨q38, h⟩ := h
    refine R_aald 29 6 (c2 + 20 + l2) e_X0_copy_9.2.2.2.2.2.1 (by decide) (kC_tens hc2) q38 (kC_tenAt hc2 q38) (kC_tenN hc2 q38) ?_
    refine R_callV (mc := 0) (ms := 0) (mc' := 0) (ms' := 0) (M' := M_X9_copy) (d' := 0) (as := [vA G (c2 + 20 + l2)]) (st := []) 9 1 e_X0_copy_9.2.2.2.2.2.2.1 (kCVof m_X9_copy l_X0_80) rfl (by decide) (kC_ten hc q37) (by decide) (by decide) rfl rfl (by show (0 : Nat) ≤ 8; decide) ?_
    refine Run.mono h (fun r39 s40 h => ?_)
    refine R_eqs (st2 := []) rfl rfl ?_
    refine R_iinc (ls2 := [(2, vI (l2 + 1)), (0, vA G c), (1, vA G c2)]) e_X0_copy_9.2.2.2.2.2.2.2.1 2 rfl (by decide) rfl ?_
    refine R_goto 158 e_X0_copy_9.2.2.2.2.2.2.2.2.1 (by decide) ?_
    refine R_ls (ls2 := [(0, vA G c), (1, vA G c2), (2, vI (l2 + 1))]) [1, 2, 0] rfl ?_
    exact h
