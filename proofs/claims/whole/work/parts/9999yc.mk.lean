/-! THE CLASS, MADE (3) -/
def mu31 : Kmem := (kmk (kup mu30 1 2 102) 104)
def mu32 : Kmem := (kup (kmk (kup (kup (kup mu31 104 0 0) 104 1 0) 104 2 0) 105) 104 3 105)
theorem I_mu32 {G : Kg} : Run G WX0 M_X10_init 1 1 60 [vA G 104] mu31 (fun _ s => s = mu32) := by
  refine Run.of (by decide +kernel) (by show (1 : Nat) ≤ 1; decide) ?_
  show Ex G WX0 M_X10_init 1 1 60 0 [(0, vA G 104)] [] mu31 _
  refine R_aload_n e_X10_init_0.1 0 rfl ?_
  refine R_obj e_X10_init_0.2.1 oL_X10_3 oI_1 oI_2 (by decide) (by decide) ?_
  refine R_aload_n e_X10_init_0.2.2.1 0 rfl ?_
  refine R_iconst e_X10_init_0.2.2.2.1 ?_
  refine R_putZ 10 0 0 WX0_ok e_X10_init_0.2.2.2.2.1 f_X10_9 (kIs_0 WX0_g (n := 105) (by decide +kernel) ⟨by decide, by decide, by decide +kernel⟩) rfl rfl rfl (Or.inl rfl) ?_
  refine R_aload_n e_X10_init_0.2.2.2.2.2.1 0 rfl ?_
  refine R_iconst e_X10_init_0.2.2.2.2.2.2.1 ?_
  refine R_putI 10 1 1 WX0_ok e_X10_init_0.2.2.2.2.2.2.2.1 f_X10_15 (kIs_0 WX0_g (n := 105) (by decide +kernel) ⟨by decide, by decide, by decide +kernel⟩) rfl rfl rfl ?_
  refine R_aload_n e_X10_init_0.2.2.2.2.2.2.2.2.1 0 rfl ?_
  refine R_iconst e_X10_init_0.2.2.2.2.2.2.2.2.2 ?_
  refine R_putI 10 2 2 WX0_ok e_X10_init_1.1 f_X10_19 (kIs_0 WX0_g (n := 105) (by decide +kernel) ⟨by decide, by decide, by decide +kernel⟩) rfl rfl rfl ?_
  refine R_aload_n e_X10_init_1.2.1 0 rfl ?_
  refine R_bipush e_X10_init_1.2.2.1 (by decide) ?_
  refine R_newarr 105 21 60 0 0 WX0_g e_X10_init_1.2.2.2.1 rfl (by decide) aC_long (by decide +kernel) ⟨by decide, by decide, by decide +kernel⟩ (by decide) ⟨by decide, by decide⟩ ?_
  refine R_putA 10 3 3 e_X10_init_1.2.2.2.2.1 f_X10_22 (kIs_0 WX0_g (n := 106) (by decide +kernel) ⟨by decide, by decide, by decide +kernel⟩) (Or.inr ⟨rfl, rfl, rfl⟩) rfl (puts0 WX0_g (by decide) (by decide)) rfl ?_
  exact R_return e_X10_init_1.2.2.2.2.2 rfl rfl
def mu33 : Kmem := (kmk (kup mu32 1 3 104) 106)
def mu34 : Kmem := (kup (iX9 (kmk (kup (iX9 (kmk (kup (iX9 (kmk (kup (iX9 (kmk (kup (iX9 (kmk (kup (iX9 (kmk (kup (iX2 (kmk (kup (iX2 (kmk (kup (iX2 (kmk (kup (iX2 (kmk (kup (iX2 (kmk (kup (iX2 (kmk (kup (iX2 (kmk (kup (iX2 (kmk (kup (iX3 (kmk (kup (iX3 (kmk (kup (iX3 (kmk (kup (iX3 (kmk (kup (iX3 (kmk (kup (iX3 (kmk (kup (kmk (kup (kmk (kup (kmk (kup (kmk (kup (kmk (kup (kup (kup (kup (kup (kup (kup (kup mu33 106 0 0) 106 1 0) 106 2 6) 106 3 0) 106 4 0) 106 5 0) 106 6 0) 106 7 0) 107) 106 8 107) 108) 106 9 108) 109) 106 10 109) 110) 106 11 110) 111) 106 12 111) 112) 112) 109 0 112) 113) 113) 109 1 113) 114) 114) 109 2 114) 115) 115) 109 3 115) 116) 116) 109 4 116) 117) 117) 109 5 117) 118) 118) 110 0 118) 119) 119) 110 1 119) 120) 120) 110 2 120) 121) 121) 110 3 121) 122) 122) 110 4 122) 123) 123) 110 5 123) 124) 124) 110 6 124) 125) 125) 110 7 125) 126) 126) 111 0 126) 127) 127) 111 1 127) 128) 128) 111 2 128) 129) 129) 111 3 129) 130) 130) 111 4 130) 131) 131) 111 5 131)
def mu35 : Kmem := (kup (kup (kup (kup (kup (kup (kup (kup (kup (kup (kup (kup (kup (kup (kup (kup (kup (kup (kup (kup (kup (kup (kup (kup (kup (kup (kup (kup (kup (kup (kup (kup mu34 106 0 0) 106 1 0) 106 2 6) 106 3 0) 106 4 0) 106 5 0) 106 6 0) 106 7 0) 107 0 2) 108 0 2) 107 1 2) 108 1 2) 107 2 2) 108 2 2) 107 3 2) 108 3 2) 107 4 2) 108 4 2) 107 5 2) 108 5 2) 107 6 2) 108 6 2) 107 7 2) 108 7 2) 107 8 2) 108 8 2) 107 9 2) 108 9 2) 107 10 2) 108 10 2) 107 11 2) 108 11 2)
theorem I_mu35 {G : Kg} : Run G WX0 M_X0_clear 0 0 0 [vA G 106] mu34 (fun _ s => s = mu35) := by
  refine Run.of (by decide +kernel) (by show (1 : Nat) ≤ 2; decide) ?_
  show Ex G WX0 M_X0_clear 0 0 0 0 [(0, vA G 106)] [] mu34 _
  refine R_aload_n e_X0_clear_0.1 0 rfl ?_
  refine R_iconst e_X0_clear_0.2.1 ?_
  refine R_putI 0 0 0 WX0_ok e_X0_clear_0.2.2.1 f_X0_9 (kIs_0 WX0_g (n := 132) (by decide +kernel) ⟨by decide, by decide, by decide +kernel⟩) rfl rfl rfl ?_
  refine R_aload_n e_X0_clear_0.2.2.2.1 0 rfl ?_
  refine R_iconst e_X0_clear_0.2.2.2.2.1 ?_
  refine R_putI 0 1 1 WX0_ok e_X0_clear_0.2.2.2.2.2.1 f_X0_15 (kIs_0 WX0_g (n := 132) (by decide +kernel) ⟨by decide, by decide, by decide +kernel⟩) rfl rfl rfl ?_
  refine R_aload_n e_X0_clear_0.2.2.2.2.2.2.1 0 rfl ?_
  refine R_bipush e_X0_clear_0.2.2.2.2.2.2.2.1 (by decide) ?_
  refine R_putI 0 2 2 WX0_ok e_X0_clear_0.2.2.2.2.2.2.2.2.1 f_X0_18 (kIs_0 WX0_g (n := 132) (by decide +kernel) ⟨by decide, by decide, by decide +kernel⟩) rfl rfl rfl ?_
  refine R_aload_n e_X0_clear_0.2.2.2.2.2.2.2.2.2 0 rfl ?_
  refine R_iconst e_X0_clear_1.1 ?_
  refine R_putI 0 3 3 WX0_ok e_X0_clear_1.2.1 f_X0_21 (kIs_0 WX0_g (n := 132) (by decide +kernel) ⟨by decide, by decide, by decide +kernel⟩) rfl rfl rfl ?_
  refine R_aload_n e_X0_clear_1.2.2.1 0 rfl ?_
  refine R_iconst e_X0_clear_1.2.2.2.1 ?_
  refine R_putI 0 4 4 WX0_ok e_X0_clear_1.2.2.2.2.1 f_X0_24 (kIs_0 WX0_g (n := 132) (by decide +kernel) ⟨by decide, by decide, by decide +kernel⟩) rfl rfl rfl ?_
  refine R_aload_n e_X0_clear_1.2.2.2.2.2.1 0 rfl ?_
  refine R_iconst e_X0_clear_1.2.2.2.2.2.2.1 ?_
  refine R_putI 0 5 5 WX0_ok e_X0_clear_1.2.2.2.2.2.2.2.1 f_X0_27 (kIs_0 WX0_g (n := 132) (by decide +kernel) ⟨by decide, by decide, by decide +kernel⟩) rfl rfl rfl ?_
  refine R_aload_n e_X0_clear_1.2.2.2.2.2.2.2.2.1 0 rfl ?_
  refine R_iconst e_X0_clear_1.2.2.2.2.2.2.2.2.2 ?_
  refine R_putI 0 6 6 WX0_ok e_X0_clear_2.1 f_X0_30 (kIs_0 WX0_g (n := 132) (by decide +kernel) ⟨by decide, by decide, by decide +kernel⟩) rfl rfl rfl ?_
  refine R_aload_n e_X0_clear_2.2.1 0 rfl ?_
  refine R_iconst e_X0_clear_2.2.2.1 ?_
  refine R_putI 0 7 7 WX0_ok e_X0_clear_2.2.2.2.1 f_X0_33 (kIs_0 WX0_g (n := 132) (by decide +kernel) ⟨by decide, by decide, by decide +kernel⟩) rfl rfl rfl ?_
  refine R_iconst e_X0_clear_2.2.2.2.2.1 ?_
  refine R_istore_n (ls2 := [(1, vI 0), (0, vA G 106)]) e_X0_clear_2.2.2.2.2.2.1 (by decide) rfl ?_
  refine R_iload_n e_X0_clear_2.2.2.2.2.2.2.1 0 rfl ?_
  refine R_bipush e_X0_clear_2.2.2.2.2.2.2.2.1 (by decide) ?_
  refine R_icmp_ge 69 e_X0_clear_2.2.2.2.2.2.2.2.2.1 (by decide) (by decide) (by decide) (fun q => absurd q (by decide)) (fun q => ?_)
  refine R_aload_n e_X0_clear_2.2.2.2.2.2.2.2.2.2 1 rfl ?_
  refine R_getA 0 8 107 e_X0_clear_3.1 f_X0_36 (kIs_0 WX0_g (n := 132) (by decide +kernel) ⟨by decide, by decide, by decide +kernel⟩) (fun _ _ => rfl) (by decide +kernel) (by decide) ?_
  refine R_iload_n e_X0_clear_3.2.1 0 rfl ?_
  refine R_iconst e_X0_clear_3.2.2.1 ?_
  refine R_iast 12 WX0_ok e_X0_clear_3.2.2.2.1 (kAr_0 WX0_g (n := 132) (by decide +kernel) ⟨by decide, by decide, by decide +kernel⟩ (by decide)) (by decide) ?_
  refine R_aload_n e_X0_clear_3.2.2.2.2.1 1 rfl ?_
  refine R_getA 0 9 108 e_X0_clear_3.2.2.2.2.2.1 f_X0_40 (kIs_0 WX0_g (n := 132) (by decide +kernel) ⟨by decide, by decide, by decide +kernel⟩) (fun _ _ => rfl) (by decide +kernel) (by decide) ?_
  refine R_iload_n e_X0_clear_3.2.2.2.2.2.2.1 0 rfl ?_
  refine R_iconst e_X0_clear_3.2.2.2.2.2.2.2.1 ?_
  refine R_iast 12 WX0_ok e_X0_clear_3.2.2.2.2.2.2.2.2.1 (kAr_0 WX0_g (n := 132) (by decide +kernel) ⟨by decide, by decide, by decide +kernel⟩ (by decide)) (by decide) ?_
  refine R_iinc (ls2 := [(1, vI 1), (0, vA G 106)]) e_X0_clear_3.2.2.2.2.2.2.2.2.2 0 rfl (by decide) rfl ?_
  refine R_goto 43 e_X0_clear_4.1 (by decide) ?_
  refine R_iload_n e_X0_clear_2.2.2.2.2.2.2.1 0 rfl ?_
  refine R_bipush e_X0_clear_2.2.2.2.2.2.2.2.1 (by decide) ?_
  refine R_icmp_ge 69 e_X0_clear_2.2.2.2.2.2.2.2.2.1 (by decide) (by decide) (by decide) (fun q => absurd q (by decide)) (fun q => ?_)
  refine R_aload_n e_X0_clear_2.2.2.2.2.2.2.2.2.2 1 rfl ?_
  refine R_getA 0 8 107 e_X0_clear_3.1 f_X0_36 (kIs_0 WX0_g (n := 132) (by decide +kernel) ⟨by decide, by decide, by decide +kernel⟩) (fun _ _ => rfl) (by decide +kernel) (by decide) ?_
  refine R_iload_n e_X0_clear_3.2.1 0 rfl ?_
  refine R_iconst e_X0_clear_3.2.2.1 ?_
  refine R_iast 12 WX0_ok e_X0_clear_3.2.2.2.1 (kAr_0 WX0_g (n := 132) (by decide +kernel) ⟨by decide, by decide, by decide +kernel⟩ (by decide)) (by decide) ?_
  refine R_aload_n e_X0_clear_3.2.2.2.2.1 1 rfl ?_
  refine R_getA 0 9 108 e_X0_clear_3.2.2.2.2.2.1 f_X0_40 (kIs_0 WX0_g (n := 132) (by decide +kernel) ⟨by decide, by decide, by decide +kernel⟩) (fun _ _ => rfl) (by decide +kernel) (by decide) ?_
  refine R_iload_n e_X0_clear_3.2.2.2.2.2.2.1 0 rfl ?_
  refine R_iconst e_X0_clear_3.2.2.2.2.2.2.2.1 ?_
  refine R_iast 12 WX0_ok e_X0_clear_3.2.2.2.2.2.2.2.2.1 (kAr_0 WX0_g (n := 132) (by decide +kernel) ⟨by decide, by decide, by decide +kernel⟩ (by decide)) (by decide) ?_
  refine R_iinc (ls2 := [(1, vI 2), (0, vA G 106)]) e_X0_clear_3.2.2.2.2.2.2.2.2.2 0 rfl (by decide) rfl ?_
  refine R_goto 43 e_X0_clear_4.1 (by decide) ?_
  refine R_iload_n e_X0_clear_2.2.2.2.2.2.2.1 0 rfl ?_
  refine R_bipush e_X0_clear_2.2.2.2.2.2.2.2.1 (by decide) ?_
  refine R_icmp_ge 69 e_X0_clear_2.2.2.2.2.2.2.2.2.1 (by decide) (by decide) (by decide) (fun q => absurd q (by decide)) (fun q => ?_)
  refine R_aload_n e_X0_clear_2.2.2.2.2.2.2.2.2.2 1 rfl ?_
  refine R_getA 0 8 107 e_X0_clear_3.1 f_X0_36 (kIs_0 WX0_g (n := 132) (by decide +kernel) ⟨by decide, by decide, by decide +kernel⟩) (fun _ _ => rfl) (by decide +kernel) (by decide) ?_
  refine R_iload_n e_X0_clear_3.2.1 0 rfl ?_
  refine R_iconst e_X0_clear_3.2.2.1 ?_
  refine R_iast 12 WX0_ok e_X0_clear_3.2.2.2.1 (kAr_0 WX0_g (n := 132) (by decide +kernel) ⟨by decide, by decide, by decide +kernel⟩ (by decide)) (by decide) ?_
  refine R_aload_n e_X0_clear_3.2.2.2.2.1 1 rfl ?_
  refine R_getA 0 9 108 e_X0_clear_3.2.2.2.2.2.1 f_X0_40 (kIs_0 WX0_g (n := 132) (by decide +kernel) ⟨by decide, by decide, by decide +kernel⟩) (fun _ _ => rfl) (by decide +kernel) (by decide) ?_
  refine R_iload_n e_X0_clear_3.2.2.2.2.2.2.1 0 rfl ?_
  refine R_iconst e_X0_clear_3.2.2.2.2.2.2.2.1 ?_
  refine R_iast 12 WX0_ok e_X0_clear_3.2.2.2.2.2.2.2.2.1 (kAr_0 WX0_g (n := 132) (by decide +kernel) ⟨by decide, by decide, by decide +kernel⟩ (by decide)) (by decide) ?_
  refine R_iinc (ls2 := [(1, vI 3), (0, vA G 106)]) e_X0_clear_3.2.2.2.2.2.2.2.2.2 0 rfl (by decide) rfl ?_
  refine R_goto 43 e_X0_clear_4.1 (by decide) ?_
  refine R_iload_n e_X0_clear_2.2.2.2.2.2.2.1 0 rfl ?_
  refine R_bipush e_X0_clear_2.2.2.2.2.2.2.2.1 (by decide) ?_
  refine R_icmp_ge 69 e_X0_clear_2.2.2.2.2.2.2.2.2.1 (by decide) (by decide) (by decide) (fun q => absurd q (by decide)) (fun q => ?_)
  refine R_aload_n e_X0_clear_2.2.2.2.2.2.2.2.2.2 1 rfl ?_
  refine R_getA 0 8 107 e_X0_clear_3.1 f_X0_36 (kIs_0 WX0_g (n := 132) (by decide +kernel) ⟨by decide, by decide, by decide +kernel⟩) (fun _ _ => rfl) (by decide +kernel) (by decide) ?_
  refine R_iload_n e_X0_clear_3.2.1 0 rfl ?_
  refine R_iconst e_X0_clear_3.2.2.1 ?_
  refine R_iast 12 WX0_ok e_X0_clear_3.2.2.2.1 (kAr_0 WX0_g (n := 132) (by decide +kernel) ⟨by decide, by decide, by decide +kernel⟩ (by decide)) (by decide) ?_
  refine R_aload_n e_X0_clear_3.2.2.2.2.1 1 rfl ?_
  refine R_getA 0 9 108 e_X0_clear_3.2.2.2.2.2.1 f_X0_40 (kIs_0 WX0_g (n := 132) (by decide +kernel) ⟨by decide, by decide, by decide +kernel⟩) (fun _ _ => rfl) (by decide +kernel) (by decide) ?_
  refine R_iload_n e_X0_clear_3.2.2.2.2.2.2.1 0 rfl ?_
  refine R_iconst e_X0_clear_3.2.2.2.2.2.2.2.1 ?_
  refine R_iast 12 WX0_ok e_X0_clear_3.2.2.2.2.2.2.2.2.1 (kAr_0 WX0_g (n := 132) (by decide +kernel) ⟨by decide, by decide, by decide +kernel⟩ (by decide)) (by decide) ?_
  refine R_iinc (ls2 := [(1, vI 4), (0, vA G 106)]) e_X0_clear_3.2.2.2.2.2.2.2.2.2 0 rfl (by decide) rfl ?_
  refine R_goto 43 e_X0_clear_4.1 (by decide) ?_
  refine R_iload_n e_X0_clear_2.2.2.2.2.2.2.1 0 rfl ?_
  refine R_bipush e_X0_clear_2.2.2.2.2.2.2.2.1 (by decide) ?_
  refine R_icmp_ge 69 e_X0_clear_2.2.2.2.2.2.2.2.2.1 (by decide) (by decide) (by decide) (fun q => absurd q (by decide)) (fun q => ?_)
  refine R_aload_n e_X0_clear_2.2.2.2.2.2.2.2.2.2 1 rfl ?_
  refine R_getA 0 8 107 e_X0_clear_3.1 f_X0_36 (kIs_0 WX0_g (n := 132) (by decide +kernel) ⟨by decide, by decide, by decide +kernel⟩) (fun _ _ => rfl) (by decide +kernel) (by decide) ?_
  refine R_iload_n e_X0_clear_3.2.1 0 rfl ?_
  refine R_iconst e_X0_clear_3.2.2.1 ?_
  refine R_iast 12 WX0_ok e_X0_clear_3.2.2.2.1 (kAr_0 WX0_g (n := 132) (by decide +kernel) ⟨by decide, by decide, by decide +kernel⟩ (by decide)) (by decide) ?_
  refine R_aload_n e_X0_clear_3.2.2.2.2.1 1 rfl ?_
  refine R_getA 0 9 108 e_X0_clear_3.2.2.2.2.2.1 f_X0_40 (kIs_0 WX0_g (n := 132) (by decide +kernel) ⟨by decide, by decide, by decide +kernel⟩) (fun _ _ => rfl) (by decide +kernel) (by decide) ?_
  refine R_iload_n e_X0_clear_3.2.2.2.2.2.2.1 0 rfl ?_
  refine R_iconst e_X0_clear_3.2.2.2.2.2.2.2.1 ?_
  refine R_iast 12 WX0_ok e_X0_clear_3.2.2.2.2.2.2.2.2.1 (kAr_0 WX0_g (n := 132) (by decide +kernel) ⟨by decide, by decide, by decide +kernel⟩ (by decide)) (by decide) ?_
  refine R_iinc (ls2 := [(1, vI 5), (0, vA G 106)]) e_X0_clear_3.2.2.2.2.2.2.2.2.2 0 rfl (by decide) rfl ?_
  refine R_goto 43 e_X0_clear_4.1 (by decide) ?_
  refine R_iload_n e_X0_clear_2.2.2.2.2.2.2.1 0 rfl ?_
  refine R_bipush e_X0_clear_2.2.2.2.2.2.2.2.1 (by decide) ?_
  refine R_icmp_ge 69 e_X0_clear_2.2.2.2.2.2.2.2.2.1 (by decide) (by decide) (by decide) (fun q => absurd q (by decide)) (fun q => ?_)
  refine R_aload_n e_X0_clear_2.2.2.2.2.2.2.2.2.2 1 rfl ?_
  refine R_getA 0 8 107 e_X0_clear_3.1 f_X0_36 (kIs_0 WX0_g (n := 132) (by decide +kernel) ⟨by decide, by decide, by decide +kernel⟩) (fun _ _ => rfl) (by decide +kernel) (by decide) ?_
  refine R_iload_n e_X0_clear_3.2.1 0 rfl ?_
  refine R_iconst e_X0_clear_3.2.2.1 ?_
  refine R_iast 12 WX0_ok e_X0_clear_3.2.2.2.1 (kAr_0 WX0_g (n := 132) (by decide +kernel) ⟨by decide, by decide, by decide +kernel⟩ (by decide)) (by decide) ?_
  refine R_aload_n e_X0_clear_3.2.2.2.2.1 1 rfl ?_
  refine R_getA 0 9 108 e_X0_clear_3.2.2.2.2.2.1 f_X0_40 (kIs_0 WX0_g (n := 132) (by decide +kernel) ⟨by decide, by decide, by decide +kernel⟩) (fun _ _ => rfl) (by decide +kernel) (by decide) ?_
  refine R_iload_n e_X0_clear_3.2.2.2.2.2.2.1 0 rfl ?_
  refine R_iconst e_X0_clear_3.2.2.2.2.2.2.2.1 ?_
  refine R_iast 12 WX0_ok e_X0_clear_3.2.2.2.2.2.2.2.2.1 (kAr_0 WX0_g (n := 132) (by decide +kernel) ⟨by decide, by decide, by decide +kernel⟩ (by decide)) (by decide) ?_
  refine R_iinc (ls2 := [(1, vI 6), (0, vA G 106)]) e_X0_clear_3.2.2.2.2.2.2.2.2.2 0 rfl (by decide) rfl ?_
  refine R_goto 43 e_X0_clear_4.1 (by decide) ?_
  refine R_iload_n e_X0_clear_2.2.2.2.2.2.2.1 0 rfl ?_
  refine R_bipush e_X0_clear_2.2.2.2.2.2.2.2.1 (by decide) ?_
  refine R_icmp_ge 69 e_X0_clear_2.2.2.2.2.2.2.2.2.1 (by decide) (by decide) (by decide) (fun q => absurd q (by decide)) (fun q => ?_)
  refine R_aload_n e_X0_clear_2.2.2.2.2.2.2.2.2.2 1 rfl ?_
  refine R_getA 0 8 107 e_X0_clear_3.1 f_X0_36 (kIs_0 WX0_g (n := 132) (by decide +kernel) ⟨by decide, by decide, by decide +kernel⟩) (fun _ _ => rfl) (by decide +kernel) (by decide) ?_
  refine R_iload_n e_X0_clear_3.2.1 0 rfl ?_
  refine R_iconst e_X0_clear_3.2.2.1 ?_
  refine R_iast 12 WX0_ok e_X0_clear_3.2.2.2.1 (kAr_0 WX0_g (n := 132) (by decide +kernel) ⟨by decide, by decide, by decide +kernel⟩ (by decide)) (by decide) ?_
  refine R_aload_n e_X0_clear_3.2.2.2.2.1 1 rfl ?_
  refine R_getA 0 9 108 e_X0_clear_3.2.2.2.2.2.1 f_X0_40 (kIs_0 WX0_g (n := 132) (by decide +kernel) ⟨by decide, by decide, by decide +kernel⟩) (fun _ _ => rfl) (by decide +kernel) (by decide) ?_
  refine R_iload_n e_X0_clear_3.2.2.2.2.2.2.1 0 rfl ?_
  refine R_iconst e_X0_clear_3.2.2.2.2.2.2.2.1 ?_
  refine R_iast 12 WX0_ok e_X0_clear_3.2.2.2.2.2.2.2.2.1 (kAr_0 WX0_g (n := 132) (by decide +kernel) ⟨by decide, by decide, by decide +kernel⟩ (by decide)) (by decide) ?_
  refine R_iinc (ls2 := [(1, vI 7), (0, vA G 106)]) e_X0_clear_3.2.2.2.2.2.2.2.2.2 0 rfl (by decide) rfl ?_
  refine R_goto 43 e_X0_clear_4.1 (by decide) ?_
  refine R_iload_n e_X0_clear_2.2.2.2.2.2.2.1 0 rfl ?_
  refine R_bipush e_X0_clear_2.2.2.2.2.2.2.2.1 (by decide) ?_
  refine R_icmp_ge 69 e_X0_clear_2.2.2.2.2.2.2.2.2.1 (by decide) (by decide) (by decide) (fun q => absurd q (by decide)) (fun q => ?_)
  refine R_aload_n e_X0_clear_2.2.2.2.2.2.2.2.2.2 1 rfl ?_
  refine R_getA 0 8 107 e_X0_clear_3.1 f_X0_36 (kIs_0 WX0_g (n := 132) (by decide +kernel) ⟨by decide, by decide, by decide +kernel⟩) (fun _ _ => rfl) (by decide +kernel) (by decide) ?_
  refine R_iload_n e_X0_clear_3.2.1 0 rfl ?_
  refine R_iconst e_X0_clear_3.2.2.1 ?_
  refine R_iast 12 WX0_ok e_X0_clear_3.2.2.2.1 (kAr_0 WX0_g (n := 132) (by decide +kernel) ⟨by decide, by decide, by decide +kernel⟩ (by decide)) (by decide) ?_
  refine R_aload_n e_X0_clear_3.2.2.2.2.1 1 rfl ?_
  refine R_getA 0 9 108 e_X0_clear_3.2.2.2.2.2.1 f_X0_40 (kIs_0 WX0_g (n := 132) (by decide +kernel) ⟨by decide, by decide, by decide +kernel⟩) (fun _ _ => rfl) (by decide +kernel) (by decide) ?_
  refine R_iload_n e_X0_clear_3.2.2.2.2.2.2.1 0 rfl ?_
  refine R_iconst e_X0_clear_3.2.2.2.2.2.2.2.1 ?_
  refine R_iast 12 WX0_ok e_X0_clear_3.2.2.2.2.2.2.2.2.1 (kAr_0 WX0_g (n := 132) (by decide +kernel) ⟨by decide, by decide, by decide +kernel⟩ (by decide)) (by decide) ?_
  refine R_iinc (ls2 := [(1, vI 8), (0, vA G 106)]) e_X0_clear_3.2.2.2.2.2.2.2.2.2 0 rfl (by decide) rfl ?_
  refine R_goto 43 e_X0_clear_4.1 (by decide) ?_
  refine R_iload_n e_X0_clear_2.2.2.2.2.2.2.1 0 rfl ?_
  refine R_bipush e_X0_clear_2.2.2.2.2.2.2.2.1 (by decide) ?_
  refine R_icmp_ge 69 e_X0_clear_2.2.2.2.2.2.2.2.2.1 (by decide) (by decide) (by decide) (fun q => absurd q (by decide)) (fun q => ?_)
  refine R_aload_n e_X0_clear_2.2.2.2.2.2.2.2.2.2 1 rfl ?_
  refine R_getA 0 8 107 e_X0_clear_3.1 f_X0_36 (kIs_0 WX0_g (n := 132) (by decide +kernel) ⟨by decide, by decide, by decide +kernel⟩) (fun _ _ => rfl) (by decide +kernel) (by decide) ?_
  refine R_iload_n e_X0_clear_3.2.1 0 rfl ?_
  refine R_iconst e_X0_clear_3.2.2.1 ?_
  refine R_iast 12 WX0_ok e_X0_clear_3.2.2.2.1 (kAr_0 WX0_g (n := 132) (by decide +kernel) ⟨by decide, by decide, by decide +kernel⟩ (by decide)) (by decide) ?_
  refine R_aload_n e_X0_clear_3.2.2.2.2.1 1 rfl ?_
  refine R_getA 0 9 108 e_X0_clear_3.2.2.2.2.2.1 f_X0_40 (kIs_0 WX0_g (n := 132) (by decide +kernel) ⟨by decide, by decide, by decide +kernel⟩) (fun _ _ => rfl) (by decide +kernel) (by decide) ?_
  refine R_iload_n e_X0_clear_3.2.2.2.2.2.2.1 0 rfl ?_
  refine R_iconst e_X0_clear_3.2.2.2.2.2.2.2.1 ?_
  refine R_iast 12 WX0_ok e_X0_clear_3.2.2.2.2.2.2.2.2.1 (kAr_0 WX0_g (n := 132) (by decide +kernel) ⟨by decide, by decide, by decide +kernel⟩ (by decide)) (by decide) ?_
  refine R_iinc (ls2 := [(1, vI 9), (0, vA G 106)]) e_X0_clear_3.2.2.2.2.2.2.2.2.2 0 rfl (by decide) rfl ?_
  refine R_goto 43 e_X0_clear_4.1 (by decide) ?_
  refine R_iload_n e_X0_clear_2.2.2.2.2.2.2.1 0 rfl ?_
  refine R_bipush e_X0_clear_2.2.2.2.2.2.2.2.1 (by decide) ?_
  refine R_icmp_ge 69 e_X0_clear_2.2.2.2.2.2.2.2.2.1 (by decide) (by decide) (by decide) (fun q => absurd q (by decide)) (fun q => ?_)
  refine R_aload_n e_X0_clear_2.2.2.2.2.2.2.2.2.2 1 rfl ?_
  refine R_getA 0 8 107 e_X0_clear_3.1 f_X0_36 (kIs_0 WX0_g (n := 132) (by decide +kernel) ⟨by decide, by decide, by decide +kernel⟩) (fun _ _ => rfl) (by decide +kernel) (by decide) ?_
  refine R_iload_n e_X0_clear_3.2.1 0 rfl ?_
  refine R_iconst e_X0_clear_3.2.2.1 ?_
  refine R_iast 12 WX0_ok e_X0_clear_3.2.2.2.1 (kAr_0 WX0_g (n := 132) (by decide +kernel) ⟨by decide, by decide, by decide +kernel⟩ (by decide)) (by decide) ?_
  refine R_aload_n e_X0_clear_3.2.2.2.2.1 1 rfl ?_
  refine R_getA 0 9 108 e_X0_clear_3.2.2.2.2.2.1 f_X0_40 (kIs_0 WX0_g (n := 132) (by decide +kernel) ⟨by decide, by decide, by decide +kernel⟩) (fun _ _ => rfl) (by decide +kernel) (by decide) ?_
  refine R_iload_n e_X0_clear_3.2.2.2.2.2.2.1 0 rfl ?_
  refine R_iconst e_X0_clear_3.2.2.2.2.2.2.2.1 ?_
  refine R_iast 12 WX0_ok e_X0_clear_3.2.2.2.2.2.2.2.2.1 (kAr_0 WX0_g (n := 132) (by decide +kernel) ⟨by decide, by decide, by decide +kernel⟩ (by decide)) (by decide) ?_
  refine R_iinc (ls2 := [(1, vI 10), (0, vA G 106)]) e_X0_clear_3.2.2.2.2.2.2.2.2.2 0 rfl (by decide) rfl ?_
  refine R_goto 43 e_X0_clear_4.1 (by decide) ?_
  refine R_iload_n e_X0_clear_2.2.2.2.2.2.2.1 0 rfl ?_
  refine R_bipush e_X0_clear_2.2.2.2.2.2.2.2.1 (by decide) ?_
  refine R_icmp_ge 69 e_X0_clear_2.2.2.2.2.2.2.2.2.1 (by decide) (by decide) (by decide) (fun q => absurd q (by decide)) (fun q => ?_)
  refine R_aload_n e_X0_clear_2.2.2.2.2.2.2.2.2.2 1 rfl ?_
  refine R_getA 0 8 107 e_X0_clear_3.1 f_X0_36 (kIs_0 WX0_g (n := 132) (by decide +kernel) ⟨by decide, by decide, by decide +kernel⟩) (fun _ _ => rfl) (by decide +kernel) (by decide) ?_
  refine R_iload_n e_X0_clear_3.2.1 0 rfl ?_
  refine R_iconst e_X0_clear_3.2.2.1 ?_
  refine R_iast 12 WX0_ok e_X0_clear_3.2.2.2.1 (kAr_0 WX0_g (n := 132) (by decide +kernel) ⟨by decide, by decide, by decide +kernel⟩ (by decide)) (by decide) ?_
  refine R_aload_n e_X0_clear_3.2.2.2.2.1 1 rfl ?_
  refine R_getA 0 9 108 e_X0_clear_3.2.2.2.2.2.1 f_X0_40 (kIs_0 WX0_g (n := 132) (by decide +kernel) ⟨by decide, by decide, by decide +kernel⟩) (fun _ _ => rfl) (by decide +kernel) (by decide) ?_
  refine R_iload_n e_X0_clear_3.2.2.2.2.2.2.1 0 rfl ?_
  refine R_iconst e_X0_clear_3.2.2.2.2.2.2.2.1 ?_
  refine R_iast 12 WX0_ok e_X0_clear_3.2.2.2.2.2.2.2.2.1 (kAr_0 WX0_g (n := 132) (by decide +kernel) ⟨by decide, by decide, by decide +kernel⟩ (by decide)) (by decide) ?_
  refine R_iinc (ls2 := [(1, vI 11), (0, vA G 106)]) e_X0_clear_3.2.2.2.2.2.2.2.2.2 0 rfl (by decide) rfl ?_
  refine R_goto 43 e_X0_clear_4.1 (by decide) ?_
  refine R_iload_n e_X0_clear_2.2.2.2.2.2.2.1 0 rfl ?_
  refine R_bipush e_X0_clear_2.2.2.2.2.2.2.2.1 (by decide) ?_
  refine R_icmp_ge 69 e_X0_clear_2.2.2.2.2.2.2.2.2.1 (by decide) (by decide) (by decide) (fun q => absurd q (by decide)) (fun q => ?_)
  refine R_aload_n e_X0_clear_2.2.2.2.2.2.2.2.2.2 1 rfl ?_
  refine R_getA 0 8 107 e_X0_clear_3.1 f_X0_36 (kIs_0 WX0_g (n := 132) (by decide +kernel) ⟨by decide, by decide, by decide +kernel⟩) (fun _ _ => rfl) (by decide +kernel) (by decide) ?_
  refine R_iload_n e_X0_clear_3.2.1 0 rfl ?_
  refine R_iconst e_X0_clear_3.2.2.1 ?_
  refine R_iast 12 WX0_ok e_X0_clear_3.2.2.2.1 (kAr_0 WX0_g (n := 132) (by decide +kernel) ⟨by decide, by decide, by decide +kernel⟩ (by decide)) (by decide) ?_
  refine R_aload_n e_X0_clear_3.2.2.2.2.1 1 rfl ?_
  refine R_getA 0 9 108 e_X0_clear_3.2.2.2.2.2.1 f_X0_40 (kIs_0 WX0_g (n := 132) (by decide +kernel) ⟨by decide, by decide, by decide +kernel⟩) (fun _ _ => rfl) (by decide +kernel) (by decide) ?_
  refine R_iload_n e_X0_clear_3.2.2.2.2.2.2.1 0 rfl ?_
  refine R_iconst e_X0_clear_3.2.2.2.2.2.2.2.1 ?_
  refine R_iast 12 WX0_ok e_X0_clear_3.2.2.2.2.2.2.2.2.1 (kAr_0 WX0_g (n := 132) (by decide +kernel) ⟨by decide, by decide, by decide +kernel⟩ (by decide)) (by decide) ?_
  refine R_iinc (ls2 := [(1, vI 12), (0, vA G 106)]) e_X0_clear_3.2.2.2.2.2.2.2.2.2 0 rfl (by decide) rfl ?_
  refine R_goto 43 e_X0_clear_4.1 (by decide) ?_
  refine R_iload_n e_X0_clear_2.2.2.2.2.2.2.1 0 rfl ?_
  refine R_bipush e_X0_clear_2.2.2.2.2.2.2.2.1 (by decide) ?_
  refine R_icmp_ge 69 e_X0_clear_2.2.2.2.2.2.2.2.2.1 (by decide) (by decide) (by decide) (fun q => ?_) (fun q => absurd q (by decide))
  exact R_return e_X0_clear_4.2 rfl rfl
def mu36 : Kmem := mu35
theorem I_mu36 {G : Kg} : Run G WX0 M_X0_init 2 25 180 [vA G 106] mu33 (fun _ s => s = mu36) := by
  refine Run.of (by decide +kernel) (by show (1 : Nat) ≤ 2; decide) ?_
  show Ex G WX0 M_X0_init 2 25 180 0 [(0, vA G 106)] [] mu33 _
  refine R_aload_n e_X0_init_0.1 0 rfl ?_
  refine R_obj e_X0_init_0.2.1 oL_X0_3 oI_1 oI_2 (by decide) (by decide) ?_
  refine R_aload_n e_X0_init_0.2.2.1 0 rfl ?_
  refine R_iconst e_X0_init_0.2.2.2.1 ?_
  refine R_putI 0 0 0 WX0_ok e_X0_init_0.2.2.2.2.1 f_X0_9 (kIs_0 WX0_g (n := 107) (by decide +kernel) ⟨by decide, by decide, by decide +kernel⟩) rfl rfl rfl ?_
  refine R_aload_n e_X0_init_0.2.2.2.2.2.1 0 rfl ?_
  refine R_iconst e_X0_init_0.2.2.2.2.2.2.1 ?_
  refine R_putI 0 1 1 WX0_ok e_X0_init_0.2.2.2.2.2.2.2.1 f_X0_15 (kIs_0 WX0_g (n := 107) (by decide +kernel) ⟨by decide, by decide, by decide +kernel⟩) rfl rfl rfl ?_
  refine R_aload_n e_X0_init_0.2.2.2.2.2.2.2.2.1 0 rfl ?_
  refine R_bipush e_X0_init_0.2.2.2.2.2.2.2.2.2 (by decide) ?_
  refine R_putI 0 2 2 WX0_ok e_X0_init_1.1 f_X0_18 (kIs_0 WX0_g (n := 107) (by decide +kernel) ⟨by decide, by decide, by decide +kernel⟩) rfl rfl rfl ?_
  refine R_aload_n e_X0_init_1.2.1 0 rfl ?_
  refine R_iconst e_X0_init_1.2.2.1 ?_
  refine R_putI 0 3 3 WX0_ok e_X0_init_1.2.2.2.1 f_X0_21 (kIs_0 WX0_g (n := 107) (by decide +kernel) ⟨by decide, by decide, by decide +kernel⟩) rfl rfl rfl ?_
  refine R_aload_n e_X0_init_1.2.2.2.2.1 0 rfl ?_
  refine R_iconst e_X0_init_1.2.2.2.2.2.1 ?_
  refine R_putI 0 4 4 WX0_ok e_X0_init_1.2.2.2.2.2.2.1 f_X0_24 (kIs_0 WX0_g (n := 107) (by decide +kernel) ⟨by decide, by decide, by decide +kernel⟩) rfl rfl rfl ?_
  refine R_aload_n e_X0_init_1.2.2.2.2.2.2.2.1 0 rfl ?_
  refine R_iconst e_X0_init_1.2.2.2.2.2.2.2.2.1 ?_
  refine R_putI 0 5 5 WX0_ok e_X0_init_1.2.2.2.2.2.2.2.2.2 f_X0_27 (kIs_0 WX0_g (n := 107) (by decide +kernel) ⟨by decide, by decide, by decide +kernel⟩) rfl rfl rfl ?_
  refine R_aload_n e_X0_init_2.1 0 rfl ?_
  refine R_iconst e_X0_init_2.2.1 ?_
  refine R_putI 0 6 6 WX0_ok e_X0_init_2.2.2.1 f_X0_30 (kIs_0 WX0_g (n := 107) (by decide +kernel) ⟨by decide, by decide, by decide +kernel⟩) rfl rfl rfl ?_
  refine R_aload_n e_X0_init_2.2.2.2.1 0 rfl ?_
  refine R_iconst e_X0_init_2.2.2.2.2.1 ?_
  refine R_putI 0 7 7 WX0_ok e_X0_init_2.2.2.2.2.2.1 f_X0_33 (kIs_0 WX0_g (n := 107) (by decide +kernel) ⟨by decide, by decide, by decide +kernel⟩) rfl rfl rfl ?_
  refine R_aload_n e_X0_init_2.2.2.2.2.2.2.1 0 rfl ?_
  refine R_bipush e_X0_init_2.2.2.2.2.2.2.2.1 (by decide) ?_
  refine R_newarr 107 20 12 24 168 WX0_g e_X0_init_2.2.2.2.2.2.2.2.2.1 rfl (by decide) aC_int (by decide +kernel) ⟨by decide, by decide, by decide +kernel⟩ (by decide) ⟨by decide, by decide⟩ ?_
  refine R_putA 0 8 8 e_X0_init_2.2.2.2.2.2.2.2.2.2 f_X0_36 (kIs_0 WX0_g (n := 108) (by decide +kernel) ⟨by decide, by decide, by decide +kernel⟩) (Or.inr ⟨rfl, rfl, rfl⟩) rfl (puts0 WX0_g (by decide) (by decide)) rfl ?_
  refine R_aload_n e_X0_init_3.1 0 rfl ?_
  refine R_bipush e_X0_init_3.2.1 (by decide) ?_
  refine R_newarr 108 20 12 23 156 WX0_g e_X0_init_3.2.2.1 rfl (by decide) aC_int (by decide +kernel) ⟨by decide, by decide, by decide +kernel⟩ (by decide) ⟨by decide, by decide⟩ ?_
  refine R_putA 0 9 9 e_X0_init_3.2.2.2.1 f_X0_40 (kIs_0 WX0_g (n := 109) (by decide +kernel) ⟨by decide, by decide, by decide +kernel⟩) (Or.inr ⟨rfl, rfl, rfl⟩) rfl (puts0 WX0_g (by decide) (by decide)) rfl ?_
  refine R_aload_n e_X0_init_3.2.2.2.2.1 0 rfl ?_
  refine R_bipush e_X0_init_3.2.2.2.2.2.1 (by decide) ?_
  refine R_newq (C := RX3) 109 27 6 22 150 WX0_g e_X0_init_3.2.2.2.2.2.2.1 (by decide) rfl cL_X0_43 aO_X3 (by decide +kernel) ⟨by decide, by decide, by decide +kernel⟩ (by decide) ⟨by decide, by decide⟩ ?_
  refine R_putA 0 10 10 e_X0_init_3.2.2.2.2.2.2.2.1 f_X0_45 (kIs_0 WX0_g (n := 110) (by decide +kernel) ⟨by decide, by decide, by decide +kernel⟩) (Or.inr ⟨rfl, rfl, rfl⟩) rfl (puts0 WX0_g (by decide) (by decide)) rfl ?_
  refine R_aload_n e_X0_init_3.2.2.2.2.2.2.2.2.1 0 rfl ?_
  refine R_bipush e_X0_init_3.2.2.2.2.2.2.2.2.2 (by decide) ?_
  refine R_newq (C := RX2) 110 28 8 21 142 WX0_g e_X0_init_4.1 (by decide) rfl cL_X0_49 aO_X2 (by decide +kernel) ⟨by decide, by decide, by decide +kernel⟩ (by decide) ⟨by decide, by decide⟩ ?_
  refine R_putA 0 11 11 e_X0_init_4.2.1 f_X0_51 (kIs_0 WX0_g (n := 111) (by decide +kernel) ⟨by decide, by decide, by decide +kernel⟩) (Or.inr ⟨rfl, rfl, rfl⟩) rfl (puts0 WX0_g (by decide) (by decide)) rfl ?_
  refine R_aload_n e_X0_init_4.2.2.1 0 rfl ?_
  refine R_bipush e_X0_init_4.2.2.2.1 (by decide) ?_
  refine R_newq (C := RX9) 111 29 6 20 136 WX0_g e_X0_init_4.2.2.2.2.1 (by decide) rfl cL_X0_55 aO_X9 (by decide +kernel) ⟨by decide, by decide, by decide +kernel⟩ (by decide) ⟨by decide, by decide⟩ ?_
  refine R_putA 0 12 12 e_X0_init_4.2.2.2.2.2.1 f_X0_57 (kIs_0 WX0_g (n := 112) (by decide +kernel) ⟨by decide, by decide, by decide +kernel⟩) (Or.inr ⟨rfl, rfl, rfl⟩) rfl (puts0 WX0_g (by decide) (by decide)) rfl ?_
  refine R_iconst e_X0_init_4.2.2.2.2.2.2.1 ?_
  refine R_istore_n (ls2 := [(1, vI 0), (0, vA G 106)]) e_X0_init_4.2.2.2.2.2.2.2.1 (by decide) rfl ?_
  refine R_iload_n e_X0_init_4.2.2.2.2.2.2.2.2.1 0 rfl ?_
  refine R_bipush e_X0_init_4.2.2.2.2.2.2.2.2.2 (by decide) ?_
  refine R_icmp_ge 115 e_X0_init_5.1 (by decide) (by decide) (by decide) (fun q => absurd q (by decide)) (fun q => ?_)
  refine R_aload_n e_X0_init_5.2.1 1 rfl ?_
  refine R_getA 0 10 109 e_X0_init_5.2.2.1 f_X0_45 (kIs_0 WX0_g (n := 112) (by decide +kernel) ⟨by decide, by decide, by decide +kernel⟩) (fun _ _ => rfl) (by decide +kernel) (by decide) ?_
  refine R_iload_n e_X0_init_5.2.2.2.1 0 rfl ?_
  refine R_new 112 3 19 126 WX0_g e_X0_init_5.2.2.2.2.1 ⟨by decide, cL_X0_43⟩ cI_X3 cN_X3 (by decide +kernel) ⟨by decide, by decide, by decide +kernel⟩ ⟨by decide, by decide⟩ ?_
  refine R_dup e_X0_init_5.2.2.2.2.2.1 rfl ?_
  refine R_callIN (mc := 19) (ms := 126) (mc' := 0) (ms' := 0) (M' := M_X3_init) (d' := 1) (as := []) (st := [vA G 112, vI 0, vA G 109]) 0 e_X0_init_5.2.2.2.2.2.2.1 m_X3_init kn_X0_61 (by decide) (by decide) rfl rfl (by show (3 : Nat) ≤ 8; decide) ?_
  refine Run.mono (I_X3 (kIs_s WX0_g (n := 113) (by decide +kernel) ⟨by decide, by decide, by decide +kernel⟩) (by decide)) (fun r s e => ?_)
  refine R_eqs (st2 := [vA G 112, vI 0, vA G 109]) (σ2 := (iX3 (kmk (kup (kmk (kup (kmk (kup (kmk (kup (kmk (kup (kmk (kup (kup (kup (kup (kup (kup (kup (kup mu33 106 0 0) 106 1 0) 106 2 6) 106 3 0) 106 4 0) 106 5 0) 106 6 0) 106 7 0) 107) 106 8 107) 108) 106 9 108) 109) 106 10 109) 110) 106 11 110) 111) 106 12 111) 112) 112)) rfl e ?_
  refine R_astq 27 3 6 WX0_g e_X0_init_5.2.2.2.2.2.2.2.1 (by decide) rfl (by decide) (kAr_0 WX0_g (n := 113) (by decide +kernel) ⟨by decide, by decide, by decide +kernel⟩ (by decide)) (kIs_0 WX0_g (n := 113) (by decide +kernel) ⟨by decide, by decide, by decide +kernel⟩) (by decide) (by decide) ?_
  refine R_iinc (ls2 := [(1, vI 1), (0, vA G 106)]) e_X0_init_5.2.2.2.2.2.2.2.2.1 0 rfl (by decide) rfl ?_
  refine R_goto 90 e_X0_init_5.2.2.2.2.2.2.2.2.2 (by decide) ?_
  refine R_iload_n e_X0_init_4.2.2.2.2.2.2.2.2.1 0 rfl ?_
  refine R_bipush e_X0_init_4.2.2.2.2.2.2.2.2.2 (by decide) ?_
  refine R_icmp_ge 115 e_X0_init_5.1 (by decide) (by decide) (by decide) (fun q => absurd q (by decide)) (fun q => ?_)
  refine R_aload_n e_X0_init_5.2.1 1 rfl ?_
  refine R_getA 0 10 109 e_X0_init_5.2.2.1 f_X0_45 (kIs_0 WX0_g (n := 113) (by decide +kernel) ⟨by decide, by decide, by decide +kernel⟩) (fun _ _ => rfl) (by decide +kernel) (by decide) ?_
  refine R_iload_n e_X0_init_5.2.2.2.1 0 rfl ?_
  refine R_new 113 3 18 116 WX0_g e_X0_init_5.2.2.2.2.1 ⟨by decide, cL_X0_43⟩ cI_X3 cN_X3 (by decide +kernel) ⟨by decide, by decide, by decide +kernel⟩ ⟨by decide, by decide⟩ ?_
  refine R_dup e_X0_init_5.2.2.2.2.2.1 rfl ?_
  refine R_callIN (mc := 18) (ms := 116) (mc' := 0) (ms' := 0) (M' := M_X3_init) (d' := 1) (as := []) (st := [vA G 113, vI 1, vA G 109]) 0 e_X0_init_5.2.2.2.2.2.2.1 m_X3_init kn_X0_61 (by decide) (by decide) rfl rfl (by show (3 : Nat) ≤ 8; decide) ?_
  refine Run.mono (I_X3 (kIs_s WX0_g (n := 114) (by decide +kernel) ⟨by decide, by decide, by decide +kernel⟩) (by decide)) (fun r s e => ?_)
  refine R_eqs (st2 := [vA G 113, vI 1, vA G 109]) (σ2 := (iX3 (kmk (kup (iX3 (kmk (kup (kmk (kup (kmk (kup (kmk (kup (kmk (kup (kmk (kup (kup (kup (kup (kup (kup (kup (kup mu33 106 0 0) 106 1 0) 106 2 6) 106 3 0) 106 4 0) 106 5 0) 106 6 0) 106 7 0) 107) 106 8 107) 108) 106 9 108) 109) 106 10 109) 110) 106 11 110) 111) 106 12 111) 112) 112) 109 0 112) 113) 113)) rfl e ?_
  refine R_astq 27 3 6 WX0_g e_X0_init_5.2.2.2.2.2.2.2.1 (by decide) rfl (by decide) (kAr_0 WX0_g (n := 114) (by decide +kernel) ⟨by decide, by decide, by decide +kernel⟩ (by decide)) (kIs_0 WX0_g (n := 114) (by decide +kernel) ⟨by decide, by decide, by decide +kernel⟩) (by decide) (by decide) ?_
  refine R_iinc (ls2 := [(1, vI 2), (0, vA G 106)]) e_X0_init_5.2.2.2.2.2.2.2.2.1 0 rfl (by decide) rfl ?_
  refine R_goto 90 e_X0_init_5.2.2.2.2.2.2.2.2.2 (by decide) ?_
  refine R_iload_n e_X0_init_4.2.2.2.2.2.2.2.2.1 0 rfl ?_
  refine R_bipush e_X0_init_4.2.2.2.2.2.2.2.2.2 (by decide) ?_
  refine R_icmp_ge 115 e_X0_init_5.1 (by decide) (by decide) (by decide) (fun q => absurd q (by decide)) (fun q => ?_)
  refine R_aload_n e_X0_init_5.2.1 1 rfl ?_
  refine R_getA 0 10 109 e_X0_init_5.2.2.1 f_X0_45 (kIs_0 WX0_g (n := 114) (by decide +kernel) ⟨by decide, by decide, by decide +kernel⟩) (fun _ _ => rfl) (by decide +kernel) (by decide) ?_
  refine R_iload_n e_X0_init_5.2.2.2.1 0 rfl ?_
  refine R_new 114 3 17 106 WX0_g e_X0_init_5.2.2.2.2.1 ⟨by decide, cL_X0_43⟩ cI_X3 cN_X3 (by decide +kernel) ⟨by decide, by decide, by decide +kernel⟩ ⟨by decide, by decide⟩ ?_
  refine R_dup e_X0_init_5.2.2.2.2.2.1 rfl ?_
  refine R_callIN (mc := 17) (ms := 106) (mc' := 0) (ms' := 0) (M' := M_X3_init) (d' := 1) (as := []) (st := [vA G 114, vI 2, vA G 109]) 0 e_X0_init_5.2.2.2.2.2.2.1 m_X3_init kn_X0_61 (by decide) (by decide) rfl rfl (by show (3 : Nat) ≤ 8; decide) ?_
  refine Run.mono (I_X3 (kIs_s WX0_g (n := 115) (by decide +kernel) ⟨by decide, by decide, by decide +kernel⟩) (by decide)) (fun r s e => ?_)
  refine R_eqs (st2 := [vA G 114, vI 2, vA G 109]) (σ2 := (iX3 (kmk (kup (iX3 (kmk (kup (iX3 (kmk (kup (kmk (kup (kmk (kup (kmk (kup (kmk (kup (kmk (kup (kup (kup (kup (kup (kup (kup (kup mu33 106 0 0) 106 1 0) 106 2 6) 106 3 0) 106 4 0) 106 5 0) 106 6 0) 106 7 0) 107) 106 8 107) 108) 106 9 108) 109) 106 10 109) 110) 106 11 110) 111) 106 12 111) 112) 112) 109 0 112) 113) 113) 109 1 113) 114) 114)) rfl e ?_
  refine R_astq 27 3 6 WX0_g e_X0_init_5.2.2.2.2.2.2.2.1 (by decide) rfl (by decide) (kAr_0 WX0_g (n := 115) (by decide +kernel) ⟨by decide, by decide, by decide +kernel⟩ (by decide)) (kIs_0 WX0_g (n := 115) (by decide +kernel) ⟨by decide, by decide, by decide +kernel⟩) (by decide) (by decide) ?_
  refine R_iinc (ls2 := [(1, vI 3), (0, vA G 106)]) e_X0_init_5.2.2.2.2.2.2.2.2.1 0 rfl (by decide) rfl ?_
  refine R_goto 90 e_X0_init_5.2.2.2.2.2.2.2.2.2 (by decide) ?_
  refine R_iload_n e_X0_init_4.2.2.2.2.2.2.2.2.1 0 rfl ?_
  refine R_bipush e_X0_init_4.2.2.2.2.2.2.2.2.2 (by decide) ?_
  refine R_icmp_ge 115 e_X0_init_5.1 (by decide) (by decide) (by decide) (fun q => absurd q (by decide)) (fun q => ?_)
  refine R_aload_n e_X0_init_5.2.1 1 rfl ?_
  refine R_getA 0 10 109 e_X0_init_5.2.2.1 f_X0_45 (kIs_0 WX0_g (n := 115) (by decide +kernel) ⟨by decide, by decide, by decide +kernel⟩) (fun _ _ => rfl) (by decide +kernel) (by decide) ?_
  refine R_iload_n e_X0_init_5.2.2.2.1 0 rfl ?_
  refine R_new 115 3 16 96 WX0_g e_X0_init_5.2.2.2.2.1 ⟨by decide, cL_X0_43⟩ cI_X3 cN_X3 (by decide +kernel) ⟨by decide, by decide, by decide +kernel⟩ ⟨by decide, by decide⟩ ?_
  refine R_dup e_X0_init_5.2.2.2.2.2.1 rfl ?_
  refine R_callIN (mc := 16) (ms := 96) (mc' := 0) (ms' := 0) (M' := M_X3_init) (d' := 1) (as := []) (st := [vA G 115, vI 3, vA G 109]) 0 e_X0_init_5.2.2.2.2.2.2.1 m_X3_init kn_X0_61 (by decide) (by decide) rfl rfl (by show (3 : Nat) ≤ 8; decide) ?_
  refine Run.mono (I_X3 (kIs_s WX0_g (n := 116) (by decide +kernel) ⟨by decide, by decide, by decide +kernel⟩) (by decide)) (fun r s e => ?_)
  refine R_eqs (st2 := [vA G 115, vI 3, vA G 109]) (σ2 := (iX3 (kmk (kup (iX3 (kmk (kup (iX3 (kmk (kup (iX3 (kmk (kup (kmk (kup (kmk (kup (kmk (kup (kmk (kup (kmk (kup (kup (kup (kup (kup (kup (kup (kup mu33 106 0 0) 106 1 0) 106 2 6) 106 3 0) 106 4 0) 106 5 0) 106 6 0) 106 7 0) 107) 106 8 107) 108) 106 9 108) 109) 106 10 109) 110) 106 11 110) 111) 106 12 111) 112) 112) 109 0 112) 113) 113) 109 1 113) 114) 114) 109 2 114) 115) 115)) rfl e ?_
  refine R_astq 27 3 6 WX0_g e_X0_init_5.2.2.2.2.2.2.2.1 (by decide) rfl (by decide) (kAr_0 WX0_g (n := 116) (by decide +kernel) ⟨by decide, by decide, by decide +kernel⟩ (by decide)) (kIs_0 WX0_g (n := 116) (by decide +kernel) ⟨by decide, by decide, by decide +kernel⟩) (by decide) (by decide) ?_
  refine R_iinc (ls2 := [(1, vI 4), (0, vA G 106)]) e_X0_init_5.2.2.2.2.2.2.2.2.1 0 rfl (by decide) rfl ?_
  refine R_goto 90 e_X0_init_5.2.2.2.2.2.2.2.2.2 (by decide) ?_
  refine R_iload_n e_X0_init_4.2.2.2.2.2.2.2.2.1 0 rfl ?_
  refine R_bipush e_X0_init_4.2.2.2.2.2.2.2.2.2 (by decide) ?_
  refine R_icmp_ge 115 e_X0_init_5.1 (by decide) (by decide) (by decide) (fun q => absurd q (by decide)) (fun q => ?_)
  refine R_aload_n e_X0_init_5.2.1 1 rfl ?_
  refine R_getA 0 10 109 e_X0_init_5.2.2.1 f_X0_45 (kIs_0 WX0_g (n := 116) (by decide +kernel) ⟨by decide, by decide, by decide +kernel⟩) (fun _ _ => rfl) (by decide +kernel) (by decide) ?_
  refine R_iload_n e_X0_init_5.2.2.2.1 0 rfl ?_
  refine R_new 116 3 15 86 WX0_g e_X0_init_5.2.2.2.2.1 ⟨by decide, cL_X0_43⟩ cI_X3 cN_X3 (by decide +kernel) ⟨by decide, by decide, by decide +kernel⟩ ⟨by decide, by decide⟩ ?_
  refine R_dup e_X0_init_5.2.2.2.2.2.1 rfl ?_
  refine R_callIN (mc := 15) (ms := 86) (mc' := 0) (ms' := 0) (M' := M_X3_init) (d' := 1) (as := []) (st := [vA G 116, vI 4, vA G 109]) 0 e_X0_init_5.2.2.2.2.2.2.1 m_X3_init kn_X0_61 (by decide) (by decide) rfl rfl (by show (3 : Nat) ≤ 8; decide) ?_
  refine Run.mono (I_X3 (kIs_s WX0_g (n := 117) (by decide +kernel) ⟨by decide, by decide, by decide +kernel⟩) (by decide)) (fun r s e => ?_)
  refine R_eqs (st2 := [vA G 116, vI 4, vA G 109]) (σ2 := (iX3 (kmk (kup (iX3 (kmk (kup (iX3 (kmk (kup (iX3 (kmk (kup (iX3 (kmk (kup (kmk (kup (kmk (kup (kmk (kup (kmk (kup (kmk (kup (kup (kup (kup (kup (kup (kup (kup mu33 106 0 0) 106 1 0) 106 2 6) 106 3 0) 106 4 0) 106 5 0) 106 6 0) 106 7 0) 107) 106 8 107) 108) 106 9 108) 109) 106 10 109) 110) 106 11 110) 111) 106 12 111) 112) 112) 109 0 112) 113) 113) 109 1 113) 114) 114) 109 2 114) 115) 115) 109 3 115) 116) 116)) rfl e ?_
  refine R_astq 27 3 6 WX0_g e_X0_init_5.2.2.2.2.2.2.2.1 (by decide) rfl (by decide) (kAr_0 WX0_g (n := 117) (by decide +kernel) ⟨by decide, by decide, by decide +kernel⟩ (by decide)) (kIs_0 WX0_g (n := 117) (by decide +kernel) ⟨by decide, by decide, by decide +kernel⟩) (by decide) (by decide) ?_
  refine R_iinc (ls2 := [(1, vI 5), (0, vA G 106)]) e_X0_init_5.2.2.2.2.2.2.2.2.1 0 rfl (by decide) rfl ?_
  refine R_goto 90 e_X0_init_5.2.2.2.2.2.2.2.2.2 (by decide) ?_
  refine R_iload_n e_X0_init_4.2.2.2.2.2.2.2.2.1 0 rfl ?_
  refine R_bipush e_X0_init_4.2.2.2.2.2.2.2.2.2 (by decide) ?_
  refine R_icmp_ge 115 e_X0_init_5.1 (by decide) (by decide) (by decide) (fun q => absurd q (by decide)) (fun q => ?_)
  refine R_aload_n e_X0_init_5.2.1 1 rfl ?_
  refine R_getA 0 10 109 e_X0_init_5.2.2.1 f_X0_45 (kIs_0 WX0_g (n := 117) (by decide +kernel) ⟨by decide, by decide, by decide +kernel⟩) (fun _ _ => rfl) (by decide +kernel) (by decide) ?_
  refine R_iload_n e_X0_init_5.2.2.2.1 0 rfl ?_
  refine R_new 117 3 14 76 WX0_g e_X0_init_5.2.2.2.2.1 ⟨by decide, cL_X0_43⟩ cI_X3 cN_X3 (by decide +kernel) ⟨by decide, by decide, by decide +kernel⟩ ⟨by decide, by decide⟩ ?_
  refine R_dup e_X0_init_5.2.2.2.2.2.1 rfl ?_
  refine R_callIN (mc := 14) (ms := 76) (mc' := 0) (ms' := 0) (M' := M_X3_init) (d' := 1) (as := []) (st := [vA G 117, vI 5, vA G 109]) 0 e_X0_init_5.2.2.2.2.2.2.1 m_X3_init kn_X0_61 (by decide) (by decide) rfl rfl (by show (3 : Nat) ≤ 8; decide) ?_
  refine Run.mono (I_X3 (kIs_s WX0_g (n := 118) (by decide +kernel) ⟨by decide, by decide, by decide +kernel⟩) (by decide)) (fun r s e => ?_)
  refine R_eqs (st2 := [vA G 117, vI 5, vA G 109]) (σ2 := (iX3 (kmk (kup (iX3 (kmk (kup (iX3 (kmk (kup (iX3 (kmk (kup (iX3 (kmk (kup (iX3 (kmk (kup (kmk (kup (kmk (kup (kmk (kup (kmk (kup (kmk (kup (kup (kup (kup (kup (kup (kup (kup mu33 106 0 0) 106 1 0) 106 2 6) 106 3 0) 106 4 0) 106 5 0) 106 6 0) 106 7 0) 107) 106 8 107) 108) 106 9 108) 109) 106 10 109) 110) 106 11 110) 111) 106 12 111) 112) 112) 109 0 112) 113) 113) 109 1 113) 114) 114) 109 2 114) 115) 115) 109 3 115) 116) 116) 109 4 116) 117) 117)) rfl e ?_
  refine R_astq 27 3 6 WX0_g e_X0_init_5.2.2.2.2.2.2.2.1 (by decide) rfl (by decide) (kAr_0 WX0_g (n := 118) (by decide +kernel) ⟨by decide, by decide, by decide +kernel⟩ (by decide)) (kIs_0 WX0_g (n := 118) (by decide +kernel) ⟨by decide, by decide, by decide +kernel⟩) (by decide) (by decide) ?_
  refine R_iinc (ls2 := [(1, vI 6), (0, vA G 106)]) e_X0_init_5.2.2.2.2.2.2.2.2.1 0 rfl (by decide) rfl ?_
  refine R_goto 90 e_X0_init_5.2.2.2.2.2.2.2.2.2 (by decide) ?_
  refine R_iload_n e_X0_init_4.2.2.2.2.2.2.2.2.1 0 rfl ?_
  refine R_bipush e_X0_init_4.2.2.2.2.2.2.2.2.2 (by decide) ?_
  refine R_icmp_ge 115 e_X0_init_5.1 (by decide) (by decide) (by decide) (fun q => ?_) (fun q => absurd q (by decide))
  refine R_iconst e_X0_init_6.1 ?_
  refine R_istore_n (ls2 := [(1, vI 0), (0, vA G 106)]) e_X0_init_6.2.1 (by decide) rfl ?_
  refine R_iload_n e_X0_init_6.2.2.1 0 rfl ?_
  refine R_bipush e_X0_init_6.2.2.2.1 (by decide) ?_
  refine R_icmp_ge 142 e_X0_init_6.2.2.2.2.1 (by decide) (by decide) (by decide) (fun q => absurd q (by decide)) (fun q => ?_)
  refine R_aload_n e_X0_init_6.2.2.2.2.2.1 1 rfl ?_
  refine R_getA 0 11 110 e_X0_init_6.2.2.2.2.2.2.1 f_X0_51 (kIs_0 WX0_g (n := 118) (by decide +kernel) ⟨by decide, by decide, by decide +kernel⟩) (fun _ _ => rfl) (by decide +kernel) (by decide) ?_
  refine R_iload_n e_X0_init_6.2.2.2.2.2.2.2.1 0 rfl ?_
  refine R_new 118 2 13 71 WX0_g e_X0_init_6.2.2.2.2.2.2.2.2.1 ⟨by decide, cL_X0_49⟩ cI_X2 cN_X2 (by decide +kernel) ⟨by decide, by decide, by decide +kernel⟩ ⟨by decide, by decide⟩ ?_
  refine R_dup e_X0_init_6.2.2.2.2.2.2.2.2.2 rfl ?_
  refine R_callIN (mc := 13) (ms := 71) (mc' := 0) (ms' := 0) (M' := M_X2_init) (d' := 1) (as := []) (st := [vA G 118, vI 0, vA G 110]) 0 e_X0_init_7.1 m_X2_init kn_X0_62 (by decide) (by decide) rfl rfl (by show (3 : Nat) ≤ 8; decide) ?_
  refine Run.mono (I_X2 (kIs_s WX0_g (n := 119) (by decide +kernel) ⟨by decide, by decide, by decide +kernel⟩) (by decide)) (fun r s e => ?_)
  refine R_eqs (st2 := [vA G 118, vI 0, vA G 110]) (σ2 := (iX2 (kmk (kup (iX3 (kmk (kup (iX3 (kmk (kup (iX3 (kmk (kup (iX3 (kmk (kup (iX3 (kmk (kup (iX3 (kmk (kup (kmk (kup (kmk (kup (kmk (kup (kmk (kup (kmk (kup (kup (kup (kup (kup (kup (kup (kup mu33 106 0 0) 106 1 0) 106 2 6) 106 3 0) 106 4 0) 106 5 0) 106 6 0) 106 7 0) 107) 106 8 107) 108) 106 9 108) 109) 106 10 109) 110) 106 11 110) 111) 106 12 111) 112) 112) 109 0 112) 113) 113) 109 1 113) 114) 114) 109 2 114) 115) 115) 109 3 115) 116) 116) 109 4 116) 117) 117) 109 5 117) 118) 118)) rfl e ?_
  refine R_astq 28 2 8 WX0_g e_X0_init_7.2.1 (by decide) rfl (by decide) (kAr_0 WX0_g (n := 119) (by decide +kernel) ⟨by decide, by decide, by decide +kernel⟩ (by decide)) (kIs_0 WX0_g (n := 119) (by decide +kernel) ⟨by decide, by decide, by decide +kernel⟩) (by decide) (by decide) ?_
  refine R_iinc (ls2 := [(1, vI 1), (0, vA G 106)]) e_X0_init_7.2.2.1 0 rfl (by decide) rfl ?_
  refine R_goto 117 e_X0_init_7.2.2.2.1 (by decide) ?_
  refine R_iload_n e_X0_init_6.2.2.1 0 rfl ?_
  refine R_bipush e_X0_init_6.2.2.2.1 (by decide) ?_
  refine R_icmp_ge 142 e_X0_init_6.2.2.2.2.1 (by decide) (by decide) (by decide) (fun q => absurd q (by decide)) (fun q => ?_)
  refine R_aload_n e_X0_init_6.2.2.2.2.2.1 1 rfl ?_
  refine R_getA 0 11 110 e_X0_init_6.2.2.2.2.2.2.1 f_X0_51 (kIs_0 WX0_g (n := 119) (by decide +kernel) ⟨by decide, by decide, by decide +kernel⟩) (fun _ _ => rfl) (by decide +kernel) (by decide) ?_
  refine R_iload_n e_X0_init_6.2.2.2.2.2.2.2.1 0 rfl ?_
  refine R_new 119 2 12 66 WX0_g e_X0_init_6.2.2.2.2.2.2.2.2.1 ⟨by decide, cL_X0_49⟩ cI_X2 cN_X2 (by decide +kernel) ⟨by decide, by decide, by decide +kernel⟩ ⟨by decide, by decide⟩ ?_
  refine R_dup e_X0_init_6.2.2.2.2.2.2.2.2.2 rfl ?_
  refine R_callIN (mc := 12) (ms := 66) (mc' := 0) (ms' := 0) (M' := M_X2_init) (d' := 1) (as := []) (st := [vA G 119, vI 1, vA G 110]) 0 e_X0_init_7.1 m_X2_init kn_X0_62 (by decide) (by decide) rfl rfl (by show (3 : Nat) ≤ 8; decide) ?_
  refine Run.mono (I_X2 (kIs_s WX0_g (n := 120) (by decide +kernel) ⟨by decide, by decide, by decide +kernel⟩) (by decide)) (fun r s e => ?_)
  refine R_eqs (st2 := [vA G 119, vI 1, vA G 110]) (σ2 := (iX2 (kmk (kup (iX2 (kmk (kup (iX3 (kmk (kup (iX3 (kmk (kup (iX3 (kmk (kup (iX3 (kmk (kup (iX3 (kmk (kup (iX3 (kmk (kup (kmk (kup (kmk (kup (kmk (kup (kmk (kup (kmk (kup (kup (kup (kup (kup (kup (kup (kup mu33 106 0 0) 106 1 0) 106 2 6) 106 3 0) 106 4 0) 106 5 0) 106 6 0) 106 7 0) 107) 106 8 107) 108) 106 9 108) 109) 106 10 109) 110) 106 11 110) 111) 106 12 111) 112) 112) 109 0 112) 113) 113) 109 1 113) 114) 114) 109 2 114) 115) 115) 109 3 115) 116) 116) 109 4 116) 117) 117) 109 5 117) 118) 118) 110 0 118) 119) 119)) rfl e ?_
  refine R_astq 28 2 8 WX0_g e_X0_init_7.2.1 (by decide) rfl (by decide) (kAr_0 WX0_g (n := 120) (by decide +kernel) ⟨by decide, by decide, by decide +kernel⟩ (by decide)) (kIs_0 WX0_g (n := 120) (by decide +kernel) ⟨by decide, by decide, by decide +kernel⟩) (by decide) (by decide) ?_
  refine R_iinc (ls2 := [(1, vI 2), (0, vA G 106)]) e_X0_init_7.2.2.1 0 rfl (by decide) rfl ?_
  refine R_goto 117 e_X0_init_7.2.2.2.1 (by decide) ?_
  refine R_iload_n e_X0_init_6.2.2.1 0 rfl ?_
  refine R_bipush e_X0_init_6.2.2.2.1 (by decide) ?_
  refine R_icmp_ge 142 e_X0_init_6.2.2.2.2.1 (by decide) (by decide) (by decide) (fun q => absurd q (by decide)) (fun q => ?_)
  refine R_aload_n e_X0_init_6.2.2.2.2.2.1 1 rfl ?_
  refine R_getA 0 11 110 e_X0_init_6.2.2.2.2.2.2.1 f_X0_51 (kIs_0 WX0_g (n := 120) (by decide +kernel) ⟨by decide, by decide, by decide +kernel⟩) (fun _ _ => rfl) (by decide +kernel) (by decide) ?_
  refine R_iload_n e_X0_init_6.2.2.2.2.2.2.2.1 0 rfl ?_
  refine R_new 120 2 11 61 WX0_g e_X0_init_6.2.2.2.2.2.2.2.2.1 ⟨by decide, cL_X0_49⟩ cI_X2 cN_X2 (by decide +kernel) ⟨by decide, by decide, by decide +kernel⟩ ⟨by decide, by decide⟩ ?_
  refine R_dup e_X0_init_6.2.2.2.2.2.2.2.2.2 rfl ?_
  refine R_callIN (mc := 11) (ms := 61) (mc' := 0) (ms' := 0) (M' := M_X2_init) (d' := 1) (as := []) (st := [vA G 120, vI 2, vA G 110]) 0 e_X0_init_7.1 m_X2_init kn_X0_62 (by decide) (by decide) rfl rfl (by show (3 : Nat) ≤ 8; decide) ?_
  refine Run.mono (I_X2 (kIs_s WX0_g (n := 121) (by decide +kernel) ⟨by decide, by decide, by decide +kernel⟩) (by decide)) (fun r s e => ?_)
  refine R_eqs (st2 := [vA G 120, vI 2, vA G 110]) (σ2 := (iX2 (kmk (kup (iX2 (kmk (kup (iX2 (kmk (kup (iX3 (kmk (kup (iX3 (kmk (kup (iX3 (kmk (kup (iX3 (kmk (kup (iX3 (kmk (kup (iX3 (kmk (kup (kmk (kup (kmk (kup (kmk (kup (kmk (kup (kmk (kup (kup (kup (kup (kup (kup (kup (kup mu33 106 0 0) 106 1 0) 106 2 6) 106 3 0) 106 4 0) 106 5 0) 106 6 0) 106 7 0) 107) 106 8 107) 108) 106 9 108) 109) 106 10 109) 110) 106 11 110) 111) 106 12 111) 112) 112) 109 0 112) 113) 113) 109 1 113) 114) 114) 109 2 114) 115) 115) 109 3 115) 116) 116) 109 4 116) 117) 117) 109 5 117) 118) 118) 110 0 118) 119) 119) 110 1 119) 120) 120)) rfl e ?_
  refine R_astq 28 2 8 WX0_g e_X0_init_7.2.1 (by decide) rfl (by decide) (kAr_0 WX0_g (n := 121) (by decide +kernel) ⟨by decide, by decide, by decide +kernel⟩ (by decide)) (kIs_0 WX0_g (n := 121) (by decide +kernel) ⟨by decide, by decide, by decide +kernel⟩) (by decide) (by decide) ?_
  refine R_iinc (ls2 := [(1, vI 3), (0, vA G 106)]) e_X0_init_7.2.2.1 0 rfl (by decide) rfl ?_
  refine R_goto 117 e_X0_init_7.2.2.2.1 (by decide) ?_
  refine R_iload_n e_X0_init_6.2.2.1 0 rfl ?_
  refine R_bipush e_X0_init_6.2.2.2.1 (by decide) ?_
  refine R_icmp_ge 142 e_X0_init_6.2.2.2.2.1 (by decide) (by decide) (by decide) (fun q => absurd q (by decide)) (fun q => ?_)
  refine R_aload_n e_X0_init_6.2.2.2.2.2.1 1 rfl ?_
  refine R_getA 0 11 110 e_X0_init_6.2.2.2.2.2.2.1 f_X0_51 (kIs_0 WX0_g (n := 121) (by decide +kernel) ⟨by decide, by decide, by decide +kernel⟩) (fun _ _ => rfl) (by decide +kernel) (by decide) ?_
  refine R_iload_n e_X0_init_6.2.2.2.2.2.2.2.1 0 rfl ?_
  refine R_new 121 2 10 56 WX0_g e_X0_init_6.2.2.2.2.2.2.2.2.1 ⟨by decide, cL_X0_49⟩ cI_X2 cN_X2 (by decide +kernel) ⟨by decide, by decide, by decide +kernel⟩ ⟨by decide, by decide⟩ ?_
  refine R_dup e_X0_init_6.2.2.2.2.2.2.2.2.2 rfl ?_
  refine R_callIN (mc := 10) (ms := 56) (mc' := 0) (ms' := 0) (M' := M_X2_init) (d' := 1) (as := []) (st := [vA G 121, vI 3, vA G 110]) 0 e_X0_init_7.1 m_X2_init kn_X0_62 (by decide) (by decide) rfl rfl (by show (3 : Nat) ≤ 8; decide) ?_
  refine Run.mono (I_X2 (kIs_s WX0_g (n := 122) (by decide +kernel) ⟨by decide, by decide, by decide +kernel⟩) (by decide)) (fun r s e => ?_)
  refine R_eqs (st2 := [vA G 121, vI 3, vA G 110]) (σ2 := (iX2 (kmk (kup (iX2 (kmk (kup (iX2 (kmk (kup (iX2 (kmk (kup (iX3 (kmk (kup (iX3 (kmk (kup (iX3 (kmk (kup (iX3 (kmk (kup (iX3 (kmk (kup (iX3 (kmk (kup (kmk (kup (kmk (kup (kmk (kup (kmk (kup (kmk (kup (kup (kup (kup (kup (kup (kup (kup mu33 106 0 0) 106 1 0) 106 2 6) 106 3 0) 106 4 0) 106 5 0) 106 6 0) 106 7 0) 107) 106 8 107) 108) 106 9 108) 109) 106 10 109) 110) 106 11 110) 111) 106 12 111) 112) 112) 109 0 112) 113) 113) 109 1 113) 114) 114) 109 2 114) 115) 115) 109 3 115) 116) 116) 109 4 116) 117) 117) 109 5 117) 118) 118) 110 0 118) 119) 119) 110 1 119) 120) 120) 110 2 120) 121) 121)) rfl e ?_
  refine R_astq 28 2 8 WX0_g e_X0_init_7.2.1 (by decide) rfl (by decide) (kAr_0 WX0_g (n := 122) (by decide +kernel) ⟨by decide, by decide, by decide +kernel⟩ (by decide)) (kIs_0 WX0_g (n := 122) (by decide +kernel) ⟨by decide, by decide, by decide +kernel⟩) (by decide) (by decide) ?_
  refine R_iinc (ls2 := [(1, vI 4), (0, vA G 106)]) e_X0_init_7.2.2.1 0 rfl (by decide) rfl ?_
  refine R_goto 117 e_X0_init_7.2.2.2.1 (by decide) ?_
  refine R_iload_n e_X0_init_6.2.2.1 0 rfl ?_
  refine R_bipush e_X0_init_6.2.2.2.1 (by decide) ?_
  refine R_icmp_ge 142 e_X0_init_6.2.2.2.2.1 (by decide) (by decide) (by decide) (fun q => absurd q (by decide)) (fun q => ?_)
  refine R_aload_n e_X0_init_6.2.2.2.2.2.1 1 rfl ?_
  refine R_getA 0 11 110 e_X0_init_6.2.2.2.2.2.2.1 f_X0_51 (kIs_0 WX0_g (n := 122) (by decide +kernel) ⟨by decide, by decide, by decide +kernel⟩) (fun _ _ => rfl) (by decide +kernel) (by decide) ?_
  refine R_iload_n e_X0_init_6.2.2.2.2.2.2.2.1 0 rfl ?_
  refine R_new 122 2 9 51 WX0_g e_X0_init_6.2.2.2.2.2.2.2.2.1 ⟨by decide, cL_X0_49⟩ cI_X2 cN_X2 (by decide +kernel) ⟨by decide, by decide, by decide +kernel⟩ ⟨by decide, by decide⟩ ?_
  refine R_dup e_X0_init_6.2.2.2.2.2.2.2.2.2 rfl ?_
  refine R_callIN (mc := 9) (ms := 51) (mc' := 0) (ms' := 0) (M' := M_X2_init) (d' := 1) (as := []) (st := [vA G 122, vI 4, vA G 110]) 0 e_X0_init_7.1 m_X2_init kn_X0_62 (by decide) (by decide) rfl rfl (by show (3 : Nat) ≤ 8; decide) ?_
  refine Run.mono (I_X2 (kIs_s WX0_g (n := 123) (by decide +kernel) ⟨by decide, by decide, by decide +kernel⟩) (by decide)) (fun r s e => ?_)
  refine R_eqs (st2 := [vA G 122, vI 4, vA G 110]) (σ2 := (iX2 (kmk (kup (iX2 (kmk (kup (iX2 (kmk (kup (iX2 (kmk (kup (iX2 (kmk (kup (iX3 (kmk (kup (iX3 (kmk (kup (iX3 (kmk (kup (iX3 (kmk (kup (iX3 (kmk (kup (iX3 (kmk (kup (kmk (kup (kmk (kup (kmk (kup (kmk (kup (kmk (kup (kup (kup (kup (kup (kup (kup (kup mu33 106 0 0) 106 1 0) 106 2 6) 106 3 0) 106 4 0) 106 5 0) 106 6 0) 106 7 0) 107) 106 8 107) 108) 106 9 108) 109) 106 10 109) 110) 106 11 110) 111) 106 12 111) 112) 112) 109 0 112) 113) 113) 109 1 113) 114) 114) 109 2 114) 115) 115) 109 3 115) 116) 116) 109 4 116) 117) 117) 109 5 117) 118) 118) 110 0 118) 119) 119) 110 1 119) 120) 120) 110 2 120) 121) 121) 110 3 121) 122) 122)) rfl e ?_
  refine R_astq 28 2 8 WX0_g e_X0_init_7.2.1 (by decide) rfl (by decide) (kAr_0 WX0_g (n := 123) (by decide +kernel) ⟨by decide, by decide, by decide +kernel⟩ (by decide)) (kIs_0 WX0_g (n := 123) (by decide +kernel) ⟨by decide, by decide, by decide +kernel⟩) (by decide) (by decide) ?_
  refine R_iinc (ls2 := [(1, vI 5), (0, vA G 106)]) e_X0_init_7.2.2.1 0 rfl (by decide) rfl ?_
  refine R_goto 117 e_X0_init_7.2.2.2.1 (by decide) ?_
  refine R_iload_n e_X0_init_6.2.2.1 0 rfl ?_
  refine R_bipush e_X0_init_6.2.2.2.1 (by decide) ?_
  refine R_icmp_ge 142 e_X0_init_6.2.2.2.2.1 (by decide) (by decide) (by decide) (fun q => absurd q (by decide)) (fun q => ?_)
  refine R_aload_n e_X0_init_6.2.2.2.2.2.1 1 rfl ?_
  refine R_getA 0 11 110 e_X0_init_6.2.2.2.2.2.2.1 f_X0_51 (kIs_0 WX0_g (n := 123) (by decide +kernel) ⟨by decide, by decide, by decide +kernel⟩) (fun _ _ => rfl) (by decide +kernel) (by decide) ?_
  refine R_iload_n e_X0_init_6.2.2.2.2.2.2.2.1 0 rfl ?_
  refine R_new 123 2 8 46 WX0_g e_X0_init_6.2.2.2.2.2.2.2.2.1 ⟨by decide, cL_X0_49⟩ cI_X2 cN_X2 (by decide +kernel) ⟨by decide, by decide, by decide +kernel⟩ ⟨by decide, by decide⟩ ?_
  refine R_dup e_X0_init_6.2.2.2.2.2.2.2.2.2 rfl ?_
  refine R_callIN (mc := 8) (ms := 46) (mc' := 0) (ms' := 0) (M' := M_X2_init) (d' := 1) (as := []) (st := [vA G 123, vI 5, vA G 110]) 0 e_X0_init_7.1 m_X2_init kn_X0_62 (by decide) (by decide) rfl rfl (by show (3 : Nat) ≤ 8; decide) ?_
  refine Run.mono (I_X2 (kIs_s WX0_g (n := 124) (by decide +kernel) ⟨by decide, by decide, by decide +kernel⟩) (by decide)) (fun r s e => ?_)
  refine R_eqs (st2 := [vA G 123, vI 5, vA G 110]) (σ2 := (iX2 (kmk (kup (iX2 (kmk (kup (iX2 (kmk (kup (iX2 (kmk (kup (iX2 (kmk (kup (iX2 (kmk (kup (iX3 (kmk (kup (iX3 (kmk (kup (iX3 (kmk (kup (iX3 (kmk (kup (iX3 (kmk (kup (iX3 (kmk (kup (kmk (kup (kmk (kup (kmk (kup (kmk (kup (kmk (kup (kup (kup (kup (kup (kup (kup (kup mu33 106 0 0) 106 1 0) 106 2 6) 106 3 0) 106 4 0) 106 5 0) 106 6 0) 106 7 0) 107) 106 8 107) 108) 106 9 108) 109) 106 10 109) 110) 106 11 110) 111) 106 12 111) 112) 112) 109 0 112) 113) 113) 109 1 113) 114) 114) 109 2 114) 115) 115) 109 3 115) 116) 116) 109 4 116) 117) 117) 109 5 117) 118) 118) 110 0 118) 119) 119) 110 1 119) 120) 120) 110 2 120) 121) 121) 110 3 121) 122) 122) 110 4 122) 123) 123)) rfl e ?_
  refine R_astq 28 2 8 WX0_g e_X0_init_7.2.1 (by decide) rfl (by decide) (kAr_0 WX0_g (n := 124) (by decide +kernel) ⟨by decide, by decide, by decide +kernel⟩ (by decide)) (kIs_0 WX0_g (n := 124) (by decide +kernel) ⟨by decide, by decide, by decide +kernel⟩) (by decide) (by decide) ?_
  refine R_iinc (ls2 := [(1, vI 6), (0, vA G 106)]) e_X0_init_7.2.2.1 0 rfl (by decide) rfl ?_
  refine R_goto 117 e_X0_init_7.2.2.2.1 (by decide) ?_
  refine R_iload_n e_X0_init_6.2.2.1 0 rfl ?_
  refine R_bipush e_X0_init_6.2.2.2.1 (by decide) ?_
  refine R_icmp_ge 142 e_X0_init_6.2.2.2.2.1 (by decide) (by decide) (by decide) (fun q => absurd q (by decide)) (fun q => ?_)
  refine R_aload_n e_X0_init_6.2.2.2.2.2.1 1 rfl ?_
  refine R_getA 0 11 110 e_X0_init_6.2.2.2.2.2.2.1 f_X0_51 (kIs_0 WX0_g (n := 124) (by decide +kernel) ⟨by decide, by decide, by decide +kernel⟩) (fun _ _ => rfl) (by decide +kernel) (by decide) ?_
  refine R_iload_n e_X0_init_6.2.2.2.2.2.2.2.1 0 rfl ?_
  refine R_new 124 2 7 41 WX0_g e_X0_init_6.2.2.2.2.2.2.2.2.1 ⟨by decide, cL_X0_49⟩ cI_X2 cN_X2 (by decide +kernel) ⟨by decide, by decide, by decide +kernel⟩ ⟨by decide, by decide⟩ ?_
  refine R_dup e_X0_init_6.2.2.2.2.2.2.2.2.2 rfl ?_
  refine R_callIN (mc := 7) (ms := 41) (mc' := 0) (ms' := 0) (M' := M_X2_init) (d' := 1) (as := []) (st := [vA G 124, vI 6, vA G 110]) 0 e_X0_init_7.1 m_X2_init kn_X0_62 (by decide) (by decide) rfl rfl (by show (3 : Nat) ≤ 8; decide) ?_
  refine Run.mono (I_X2 (kIs_s WX0_g (n := 125) (by decide +kernel) ⟨by decide, by decide, by decide +kernel⟩) (by decide)) (fun r s e => ?_)
  refine R_eqs (st2 := [vA G 124, vI 6, vA G 110]) (σ2 := (iX2 (kmk (kup (iX2 (kmk (kup (iX2 (kmk (kup (iX2 (kmk (kup (iX2 (kmk (kup (iX2 (kmk (kup (iX2 (kmk (kup (iX3 (kmk (kup (iX3 (kmk (kup (iX3 (kmk (kup (iX3 (kmk (kup (iX3 (kmk (kup (iX3 (kmk (kup (kmk (kup (kmk (kup (kmk (kup (kmk (kup (kmk (kup (kup (kup (kup (kup (kup (kup (kup mu33 106 0 0) 106 1 0) 106 2 6) 106 3 0) 106 4 0) 106 5 0) 106 6 0) 106 7 0) 107) 106 8 107) 108) 106 9 108) 109) 106 10 109) 110) 106 11 110) 111) 106 12 111) 112) 112) 109 0 112) 113) 113) 109 1 113) 114) 114) 109 2 114) 115) 115) 109 3 115) 116) 116) 109 4 116) 117) 117) 109 5 117) 118) 118) 110 0 118) 119) 119) 110 1 119) 120) 120) 110 2 120) 121) 121) 110 3 121) 122) 122) 110 4 122) 123) 123) 110 5 123) 124) 124)) rfl e ?_
  refine R_astq 28 2 8 WX0_g e_X0_init_7.2.1 (by decide) rfl (by decide) (kAr_0 WX0_g (n := 125) (by decide +kernel) ⟨by decide, by decide, by decide +kernel⟩ (by decide)) (kIs_0 WX0_g (n := 125) (by decide +kernel) ⟨by decide, by decide, by decide +kernel⟩) (by decide) (by decide) ?_
  refine R_iinc (ls2 := [(1, vI 7), (0, vA G 106)]) e_X0_init_7.2.2.1 0 rfl (by decide) rfl ?_
  refine R_goto 117 e_X0_init_7.2.2.2.1 (by decide) ?_
  refine R_iload_n e_X0_init_6.2.2.1 0 rfl ?_
  refine R_bipush e_X0_init_6.2.2.2.1 (by decide) ?_
  refine R_icmp_ge 142 e_X0_init_6.2.2.2.2.1 (by decide) (by decide) (by decide) (fun q => absurd q (by decide)) (fun q => ?_)
  refine R_aload_n e_X0_init_6.2.2.2.2.2.1 1 rfl ?_
  refine R_getA 0 11 110 e_X0_init_6.2.2.2.2.2.2.1 f_X0_51 (kIs_0 WX0_g (n := 125) (by decide +kernel) ⟨by decide, by decide, by decide +kernel⟩) (fun _ _ => rfl) (by decide +kernel) (by decide) ?_
  refine R_iload_n e_X0_init_6.2.2.2.2.2.2.2.1 0 rfl ?_
  refine R_new 125 2 6 36 WX0_g e_X0_init_6.2.2.2.2.2.2.2.2.1 ⟨by decide, cL_X0_49⟩ cI_X2 cN_X2 (by decide +kernel) ⟨by decide, by decide, by decide +kernel⟩ ⟨by decide, by decide⟩ ?_
  refine R_dup e_X0_init_6.2.2.2.2.2.2.2.2.2 rfl ?_
  refine R_callIN (mc := 6) (ms := 36) (mc' := 0) (ms' := 0) (M' := M_X2_init) (d' := 1) (as := []) (st := [vA G 125, vI 7, vA G 110]) 0 e_X0_init_7.1 m_X2_init kn_X0_62 (by decide) (by decide) rfl rfl (by show (3 : Nat) ≤ 8; decide) ?_
  refine Run.mono (I_X2 (kIs_s WX0_g (n := 126) (by decide +kernel) ⟨by decide, by decide, by decide +kernel⟩) (by decide)) (fun r s e => ?_)
  refine R_eqs (st2 := [vA G 125, vI 7, vA G 110]) (σ2 := (iX2 (kmk (kup (iX2 (kmk (kup (iX2 (kmk (kup (iX2 (kmk (kup (iX2 (kmk (kup (iX2 (kmk (kup (iX2 (kmk (kup (iX2 (kmk (kup (iX3 (kmk (kup (iX3 (kmk (kup (iX3 (kmk (kup (iX3 (kmk (kup (iX3 (kmk (kup (iX3 (kmk (kup (kmk (kup (kmk (kup (kmk (kup (kmk (kup (kmk (kup (kup (kup (kup (kup (kup (kup (kup mu33 106 0 0) 106 1 0) 106 2 6) 106 3 0) 106 4 0) 106 5 0) 106 6 0) 106 7 0) 107) 106 8 107) 108) 106 9 108) 109) 106 10 109) 110) 106 11 110) 111) 106 12 111) 112) 112) 109 0 112) 113) 113) 109 1 113) 114) 114) 109 2 114) 115) 115) 109 3 115) 116) 116) 109 4 116) 117) 117) 109 5 117) 118) 118) 110 0 118) 119) 119) 110 1 119) 120) 120) 110 2 120) 121) 121) 110 3 121) 122) 122) 110 4 122) 123) 123) 110 5 123) 124) 124) 110 6 124) 125) 125)) rfl e ?_
  refine R_astq 28 2 8 WX0_g e_X0_init_7.2.1 (by decide) rfl (by decide) (kAr_0 WX0_g (n := 126) (by decide +kernel) ⟨by decide, by decide, by decide +kernel⟩ (by decide)) (kIs_0 WX0_g (n := 126) (by decide +kernel) ⟨by decide, by decide, by decide +kernel⟩) (by decide) (by decide) ?_
  refine R_iinc (ls2 := [(1, vI 8), (0, vA G 106)]) e_X0_init_7.2.2.1 0 rfl (by decide) rfl ?_
  refine R_goto 117 e_X0_init_7.2.2.2.1 (by decide) ?_
  refine R_iload_n e_X0_init_6.2.2.1 0 rfl ?_
  refine R_bipush e_X0_init_6.2.2.2.1 (by decide) ?_
  refine R_icmp_ge 142 e_X0_init_6.2.2.2.2.1 (by decide) (by decide) (by decide) (fun q => ?_) (fun q => absurd q (by decide))
  refine R_iconst e_X0_init_7.2.2.2.2.1 ?_
  refine R_istore_n (ls2 := [(1, vI 0), (0, vA G 106)]) e_X0_init_7.2.2.2.2.2.1 (by decide) rfl ?_
  refine R_iload_n e_X0_init_7.2.2.2.2.2.2.1 0 rfl ?_
  refine R_bipush e_X0_init_7.2.2.2.2.2.2.2.1 (by decide) ?_
  refine R_icmp_ge 169 e_X0_init_7.2.2.2.2.2.2.2.2.1 (by decide) (by decide) (by decide) (fun q => absurd q (by decide)) (fun q => ?_)
  refine R_aload_n e_X0_init_7.2.2.2.2.2.2.2.2.2 1 rfl ?_
  refine R_getA 0 12 111 e_X0_init_8.1 f_X0_57 (kIs_0 WX0_g (n := 126) (by decide +kernel) ⟨by decide, by decide, by decide +kernel⟩) (fun _ _ => rfl) (by decide +kernel) (by decide) ?_
  refine R_iload_n e_X0_init_8.2.1 0 rfl ?_
  refine R_new 126 9 5 30 WX0_g e_X0_init_8.2.2.1 ⟨by decide, cL_X0_55⟩ cI_X9 cN_X9 (by decide +kernel) ⟨by decide, by decide, by decide +kernel⟩ ⟨by decide, by decide⟩ ?_
  refine R_dup e_X0_init_8.2.2.2.1 rfl ?_
  refine R_callIN (mc := 5) (ms := 30) (mc' := 0) (ms' := 0) (M' := M_X9_init) (d' := 1) (as := []) (st := [vA G 126, vI 0, vA G 111]) 0 e_X0_init_8.2.2.2.2.1 m_X9_init kn_X0_63 (by decide) (by decide) rfl rfl (by show (3 : Nat) ≤ 8; decide) ?_
  refine Run.mono (I_X9 (kIs_s WX0_g (n := 127) (by decide +kernel) ⟨by decide, by decide, by decide +kernel⟩) (by decide)) (fun r s e => ?_)
  refine R_eqs (st2 := [vA G 126, vI 0, vA G 111]) (σ2 := (iX9 (kmk (kup (iX2 (kmk (kup (iX2 (kmk (kup (iX2 (kmk (kup (iX2 (kmk (kup (iX2 (kmk (kup (iX2 (kmk (kup (iX2 (kmk (kup (iX2 (kmk (kup (iX3 (kmk (kup (iX3 (kmk (kup (iX3 (kmk (kup (iX3 (kmk (kup (iX3 (kmk (kup (iX3 (kmk (kup (kmk (kup (kmk (kup (kmk (kup (kmk (kup (kmk (kup (kup (kup (kup (kup (kup (kup (kup mu33 106 0 0) 106 1 0) 106 2 6) 106 3 0) 106 4 0) 106 5 0) 106 6 0) 106 7 0) 107) 106 8 107) 108) 106 9 108) 109) 106 10 109) 110) 106 11 110) 111) 106 12 111) 112) 112) 109 0 112) 113) 113) 109 1 113) 114) 114) 109 2 114) 115) 115) 109 3 115) 116) 116) 109 4 116) 117) 117) 109 5 117) 118) 118) 110 0 118) 119) 119) 110 1 119) 120) 120) 110 2 120) 121) 121) 110 3 121) 122) 122) 110 4 122) 123) 123) 110 5 123) 124) 124) 110 6 124) 125) 125) 110 7 125) 126) 126)) rfl e ?_
  refine R_astq 29 9 6 WX0_g e_X0_init_8.2.2.2.2.2.1 (by decide) rfl (by decide) (kAr_0 WX0_g (n := 127) (by decide +kernel) ⟨by decide, by decide, by decide +kernel⟩ (by decide)) (kIs_0 WX0_g (n := 127) (by decide +kernel) ⟨by decide, by decide, by decide +kernel⟩) (by decide) (by decide) ?_
  refine R_iinc (ls2 := [(1, vI 1), (0, vA G 106)]) e_X0_init_8.2.2.2.2.2.2.1 0 rfl (by decide) rfl ?_
  refine R_goto 144 e_X0_init_8.2.2.2.2.2.2.2.1 (by decide) ?_
  refine R_iload_n e_X0_init_7.2.2.2.2.2.2.1 0 rfl ?_
  refine R_bipush e_X0_init_7.2.2.2.2.2.2.2.1 (by decide) ?_
  refine R_icmp_ge 169 e_X0_init_7.2.2.2.2.2.2.2.2.1 (by decide) (by decide) (by decide) (fun q => absurd q (by decide)) (fun q => ?_)
  refine R_aload_n e_X0_init_7.2.2.2.2.2.2.2.2.2 1 rfl ?_
  refine R_getA 0 12 111 e_X0_init_8.1 f_X0_57 (kIs_0 WX0_g (n := 127) (by decide +kernel) ⟨by decide, by decide, by decide +kernel⟩) (fun _ _ => rfl) (by decide +kernel) (by decide) ?_
  refine R_iload_n e_X0_init_8.2.1 0 rfl ?_
  refine R_new 127 9 4 24 WX0_g e_X0_init_8.2.2.1 ⟨by decide, cL_X0_55⟩ cI_X9 cN_X9 (by decide +kernel) ⟨by decide, by decide, by decide +kernel⟩ ⟨by decide, by decide⟩ ?_
  refine R_dup e_X0_init_8.2.2.2.1 rfl ?_
  refine R_callIN (mc := 4) (ms := 24) (mc' := 0) (ms' := 0) (M' := M_X9_init) (d' := 1) (as := []) (st := [vA G 127, vI 1, vA G 111]) 0 e_X0_init_8.2.2.2.2.1 m_X9_init kn_X0_63 (by decide) (by decide) rfl rfl (by show (3 : Nat) ≤ 8; decide) ?_
  refine Run.mono (I_X9 (kIs_s WX0_g (n := 128) (by decide +kernel) ⟨by decide, by decide, by decide +kernel⟩) (by decide)) (fun r s e => ?_)
  refine R_eqs (st2 := [vA G 127, vI 1, vA G 111]) (σ2 := (iX9 (kmk (kup (iX9 (kmk (kup (iX2 (kmk (kup (iX2 (kmk (kup (iX2 (kmk (kup (iX2 (kmk (kup (iX2 (kmk (kup (iX2 (kmk (kup (iX2 (kmk (kup (iX2 (kmk (kup (iX3 (kmk (kup (iX3 (kmk (kup (iX3 (kmk (kup (iX3 (kmk (kup (iX3 (kmk (kup (iX3 (kmk (kup (kmk (kup (kmk (kup (kmk (kup (kmk (kup (kmk (kup (kup (kup (kup (kup (kup (kup (kup mu33 106 0 0) 106 1 0) 106 2 6) 106 3 0) 106 4 0) 106 5 0) 106 6 0) 106 7 0) 107) 106 8 107) 108) 106 9 108) 109) 106 10 109) 110) 106 11 110) 111) 106 12 111) 112) 112) 109 0 112) 113) 113) 109 1 113) 114) 114) 109 2 114) 115) 115) 109 3 115) 116) 116) 109 4 116) 117) 117) 109 5 117) 118) 118) 110 0 118) 119) 119) 110 1 119) 120) 120) 110 2 120) 121) 121) 110 3 121) 122) 122) 110 4 122) 123) 123) 110 5 123) 124) 124) 110 6 124) 125) 125) 110 7 125) 126) 126) 111 0 126) 127) 127)) rfl e ?_
  refine R_astq 29 9 6 WX0_g e_X0_init_8.2.2.2.2.2.1 (by decide) rfl (by decide) (kAr_0 WX0_g (n := 128) (by decide +kernel) ⟨by decide, by decide, by decide +kernel⟩ (by decide)) (kIs_0 WX0_g (n := 128) (by decide +kernel) ⟨by decide, by decide, by decide +kernel⟩) (by decide) (by decide) ?_
  refine R_iinc (ls2 := [(1, vI 2), (0, vA G 106)]) e_X0_init_8.2.2.2.2.2.2.1 0 rfl (by decide) rfl ?_
  refine R_goto 144 e_X0_init_8.2.2.2.2.2.2.2.1 (by decide) ?_
  refine R_iload_n e_X0_init_7.2.2.2.2.2.2.1 0 rfl ?_
  refine R_bipush e_X0_init_7.2.2.2.2.2.2.2.1 (by decide) ?_
  refine R_icmp_ge 169 e_X0_init_7.2.2.2.2.2.2.2.2.1 (by decide) (by decide) (by decide) (fun q => absurd q (by decide)) (fun q => ?_)
  refine R_aload_n e_X0_init_7.2.2.2.2.2.2.2.2.2 1 rfl ?_
  refine R_getA 0 12 111 e_X0_init_8.1 f_X0_57 (kIs_0 WX0_g (n := 128) (by decide +kernel) ⟨by decide, by decide, by decide +kernel⟩) (fun _ _ => rfl) (by decide +kernel) (by decide) ?_
  refine R_iload_n e_X0_init_8.2.1 0 rfl ?_
  refine R_new 128 9 3 18 WX0_g e_X0_init_8.2.2.1 ⟨by decide, cL_X0_55⟩ cI_X9 cN_X9 (by decide +kernel) ⟨by decide, by decide, by decide +kernel⟩ ⟨by decide, by decide⟩ ?_
  refine R_dup e_X0_init_8.2.2.2.1 rfl ?_
  refine R_callIN (mc := 3) (ms := 18) (mc' := 0) (ms' := 0) (M' := M_X9_init) (d' := 1) (as := []) (st := [vA G 128, vI 2, vA G 111]) 0 e_X0_init_8.2.2.2.2.1 m_X9_init kn_X0_63 (by decide) (by decide) rfl rfl (by show (3 : Nat) ≤ 8; decide) ?_
  refine Run.mono (I_X9 (kIs_s WX0_g (n := 129) (by decide +kernel) ⟨by decide, by decide, by decide +kernel⟩) (by decide)) (fun r s e => ?_)
  refine R_eqs (st2 := [vA G 128, vI 2, vA G 111]) (σ2 := (iX9 (kmk (kup (iX9 (kmk (kup (iX9 (kmk (kup (iX2 (kmk (kup (iX2 (kmk (kup (iX2 (kmk (kup (iX2 (kmk (kup (iX2 (kmk (kup (iX2 (kmk (kup (iX2 (kmk (kup (iX2 (kmk (kup (iX3 (kmk (kup (iX3 (kmk (kup (iX3 (kmk (kup (iX3 (kmk (kup (iX3 (kmk (kup (iX3 (kmk (kup (kmk (kup (kmk (kup (kmk (kup (kmk (kup (kmk (kup (kup (kup (kup (kup (kup (kup (kup mu33 106 0 0) 106 1 0) 106 2 6) 106 3 0) 106 4 0) 106 5 0) 106 6 0) 106 7 0) 107) 106 8 107) 108) 106 9 108) 109) 106 10 109) 110) 106 11 110) 111) 106 12 111) 112) 112) 109 0 112) 113) 113) 109 1 113) 114) 114) 109 2 114) 115) 115) 109 3 115) 116) 116) 109 4 116) 117) 117) 109 5 117) 118) 118) 110 0 118) 119) 119) 110 1 119) 120) 120) 110 2 120) 121) 121) 110 3 121) 122) 122) 110 4 122) 123) 123) 110 5 123) 124) 124) 110 6 124) 125) 125) 110 7 125) 126) 126) 111 0 126) 127) 127) 111 1 127) 128) 128)) rfl e ?_
  refine R_astq 29 9 6 WX0_g e_X0_init_8.2.2.2.2.2.1 (by decide) rfl (by decide) (kAr_0 WX0_g (n := 129) (by decide +kernel) ⟨by decide, by decide, by decide +kernel⟩ (by decide)) (kIs_0 WX0_g (n := 129) (by decide +kernel) ⟨by decide, by decide, by decide +kernel⟩) (by decide) (by decide) ?_
  refine R_iinc (ls2 := [(1, vI 3), (0, vA G 106)]) e_X0_init_8.2.2.2.2.2.2.1 0 rfl (by decide) rfl ?_
  refine R_goto 144 e_X0_init_8.2.2.2.2.2.2.2.1 (by decide) ?_
  refine R_iload_n e_X0_init_7.2.2.2.2.2.2.1 0 rfl ?_
  refine R_bipush e_X0_init_7.2.2.2.2.2.2.2.1 (by decide) ?_
  refine R_icmp_ge 169 e_X0_init_7.2.2.2.2.2.2.2.2.1 (by decide) (by decide) (by decide) (fun q => absurd q (by decide)) (fun q => ?_)
  refine R_aload_n e_X0_init_7.2.2.2.2.2.2.2.2.2 1 rfl ?_
  refine R_getA 0 12 111 e_X0_init_8.1 f_X0_57 (kIs_0 WX0_g (n := 129) (by decide +kernel) ⟨by decide, by decide, by decide +kernel⟩) (fun _ _ => rfl) (by decide +kernel) (by decide) ?_
  refine R_iload_n e_X0_init_8.2.1 0 rfl ?_
  refine R_new 129 9 2 12 WX0_g e_X0_init_8.2.2.1 ⟨by decide, cL_X0_55⟩ cI_X9 cN_X9 (by decide +kernel) ⟨by decide, by decide, by decide +kernel⟩ ⟨by decide, by decide⟩ ?_
  refine R_dup e_X0_init_8.2.2.2.1 rfl ?_
  refine R_callIN (mc := 2) (ms := 12) (mc' := 0) (ms' := 0) (M' := M_X9_init) (d' := 1) (as := []) (st := [vA G 129, vI 3, vA G 111]) 0 e_X0_init_8.2.2.2.2.1 m_X9_init kn_X0_63 (by decide) (by decide) rfl rfl (by show (3 : Nat) ≤ 8; decide) ?_
  refine Run.mono (I_X9 (kIs_s WX0_g (n := 130) (by decide +kernel) ⟨by decide, by decide, by decide +kernel⟩) (by decide)) (fun r s e => ?_)
  refine R_eqs (st2 := [vA G 129, vI 3, vA G 111]) (σ2 := (iX9 (kmk (kup (iX9 (kmk (kup (iX9 (kmk (kup (iX9 (kmk (kup (iX2 (kmk (kup (iX2 (kmk (kup (iX2 (kmk (kup (iX2 (kmk (kup (iX2 (kmk (kup (iX2 (kmk (kup (iX2 (kmk (kup (iX2 (kmk (kup (iX3 (kmk (kup (iX3 (kmk (kup (iX3 (kmk (kup (iX3 (kmk (kup (iX3 (kmk (kup (iX3 (kmk (kup (kmk (kup (kmk (kup (kmk (kup (kmk (kup (kmk (kup (kup (kup (kup (kup (kup (kup (kup mu33 106 0 0) 106 1 0) 106 2 6) 106 3 0) 106 4 0) 106 5 0) 106 6 0) 106 7 0) 107) 106 8 107) 108) 106 9 108) 109) 106 10 109) 110) 106 11 110) 111) 106 12 111) 112) 112) 109 0 112) 113) 113) 109 1 113) 114) 114) 109 2 114) 115) 115) 109 3 115) 116) 116) 109 4 116) 117) 117) 109 5 117) 118) 118) 110 0 118) 119) 119) 110 1 119) 120) 120) 110 2 120) 121) 121) 110 3 121) 122) 122) 110 4 122) 123) 123) 110 5 123) 124) 124) 110 6 124) 125) 125) 110 7 125) 126) 126) 111 0 126) 127) 127) 111 1 127) 128) 128) 111 2 128) 129) 129)) rfl e ?_
  refine R_astq 29 9 6 WX0_g e_X0_init_8.2.2.2.2.2.1 (by decide) rfl (by decide) (kAr_0 WX0_g (n := 130) (by decide +kernel) ⟨by decide, by decide, by decide +kernel⟩ (by decide)) (kIs_0 WX0_g (n := 130) (by decide +kernel) ⟨by decide, by decide, by decide +kernel⟩) (by decide) (by decide) ?_
  refine R_iinc (ls2 := [(1, vI 4), (0, vA G 106)]) e_X0_init_8.2.2.2.2.2.2.1 0 rfl (by decide) rfl ?_
  refine R_goto 144 e_X0_init_8.2.2.2.2.2.2.2.1 (by decide) ?_
  refine R_iload_n e_X0_init_7.2.2.2.2.2.2.1 0 rfl ?_
  refine R_bipush e_X0_init_7.2.2.2.2.2.2.2.1 (by decide) ?_
  refine R_icmp_ge 169 e_X0_init_7.2.2.2.2.2.2.2.2.1 (by decide) (by decide) (by decide) (fun q => absurd q (by decide)) (fun q => ?_)
  refine R_aload_n e_X0_init_7.2.2.2.2.2.2.2.2.2 1 rfl ?_
  refine R_getA 0 12 111 e_X0_init_8.1 f_X0_57 (kIs_0 WX0_g (n := 130) (by decide +kernel) ⟨by decide, by decide, by decide +kernel⟩) (fun _ _ => rfl) (by decide +kernel) (by decide) ?_
  refine R_iload_n e_X0_init_8.2.1 0 rfl ?_
  refine R_new 130 9 1 6 WX0_g e_X0_init_8.2.2.1 ⟨by decide, cL_X0_55⟩ cI_X9 cN_X9 (by decide +kernel) ⟨by decide, by decide, by decide +kernel⟩ ⟨by decide, by decide⟩ ?_
  refine R_dup e_X0_init_8.2.2.2.1 rfl ?_
  refine R_callIN (mc := 1) (ms := 6) (mc' := 0) (ms' := 0) (M' := M_X9_init) (d' := 1) (as := []) (st := [vA G 130, vI 4, vA G 111]) 0 e_X0_init_8.2.2.2.2.1 m_X9_init kn_X0_63 (by decide) (by decide) rfl rfl (by show (3 : Nat) ≤ 8; decide) ?_
  refine Run.mono (I_X9 (kIs_s WX0_g (n := 131) (by decide +kernel) ⟨by decide, by decide, by decide +kernel⟩) (by decide)) (fun r s e => ?_)
  refine R_eqs (st2 := [vA G 130, vI 4, vA G 111]) (σ2 := (iX9 (kmk (kup (iX9 (kmk (kup (iX9 (kmk (kup (iX9 (kmk (kup (iX9 (kmk (kup (iX2 (kmk (kup (iX2 (kmk (kup (iX2 (kmk (kup (iX2 (kmk (kup (iX2 (kmk (kup (iX2 (kmk (kup (iX2 (kmk (kup (iX2 (kmk (kup (iX3 (kmk (kup (iX3 (kmk (kup (iX3 (kmk (kup (iX3 (kmk (kup (iX3 (kmk (kup (iX3 (kmk (kup (kmk (kup (kmk (kup (kmk (kup (kmk (kup (kmk (kup (kup (kup (kup (kup (kup (kup (kup mu33 106 0 0) 106 1 0) 106 2 6) 106 3 0) 106 4 0) 106 5 0) 106 6 0) 106 7 0) 107) 106 8 107) 108) 106 9 108) 109) 106 10 109) 110) 106 11 110) 111) 106 12 111) 112) 112) 109 0 112) 113) 113) 109 1 113) 114) 114) 109 2 114) 115) 115) 109 3 115) 116) 116) 109 4 116) 117) 117) 109 5 117) 118) 118) 110 0 118) 119) 119) 110 1 119) 120) 120) 110 2 120) 121) 121) 110 3 121) 122) 122) 110 4 122) 123) 123) 110 5 123) 124) 124) 110 6 124) 125) 125) 110 7 125) 126) 126) 111 0 126) 127) 127) 111 1 127) 128) 128) 111 2 128) 129) 129) 111 3 129) 130) 130)) rfl e ?_
  refine R_astq 29 9 6 WX0_g e_X0_init_8.2.2.2.2.2.1 (by decide) rfl (by decide) (kAr_0 WX0_g (n := 131) (by decide +kernel) ⟨by decide, by decide, by decide +kernel⟩ (by decide)) (kIs_0 WX0_g (n := 131) (by decide +kernel) ⟨by decide, by decide, by decide +kernel⟩) (by decide) (by decide) ?_
  refine R_iinc (ls2 := [(1, vI 5), (0, vA G 106)]) e_X0_init_8.2.2.2.2.2.2.1 0 rfl (by decide) rfl ?_
  refine R_goto 144 e_X0_init_8.2.2.2.2.2.2.2.1 (by decide) ?_
  refine R_iload_n e_X0_init_7.2.2.2.2.2.2.1 0 rfl ?_
  refine R_bipush e_X0_init_7.2.2.2.2.2.2.2.1 (by decide) ?_
  refine R_icmp_ge 169 e_X0_init_7.2.2.2.2.2.2.2.2.1 (by decide) (by decide) (by decide) (fun q => absurd q (by decide)) (fun q => ?_)
  refine R_aload_n e_X0_init_7.2.2.2.2.2.2.2.2.2 1 rfl ?_
  refine R_getA 0 12 111 e_X0_init_8.1 f_X0_57 (kIs_0 WX0_g (n := 131) (by decide +kernel) ⟨by decide, by decide, by decide +kernel⟩) (fun _ _ => rfl) (by decide +kernel) (by decide) ?_
  refine R_iload_n e_X0_init_8.2.1 0 rfl ?_
  refine R_new 131 9 0 0 WX0_g e_X0_init_8.2.2.1 ⟨by decide, cL_X0_55⟩ cI_X9 cN_X9 (by decide +kernel) ⟨by decide, by decide, by decide +kernel⟩ ⟨by decide, by decide⟩ ?_
  refine R_dup e_X0_init_8.2.2.2.1 rfl ?_
  refine R_callIN (mc := 0) (ms := 0) (mc' := 0) (ms' := 0) (M' := M_X9_init) (d' := 1) (as := []) (st := [vA G 131, vI 5, vA G 111]) 0 e_X0_init_8.2.2.2.2.1 m_X9_init kn_X0_63 (by decide) (by decide) rfl rfl (by show (3 : Nat) ≤ 8; decide) ?_
  refine Run.mono (I_X9 (kIs_s WX0_g (n := 132) (by decide +kernel) ⟨by decide, by decide, by decide +kernel⟩) (by decide)) (fun r s e => ?_)
  refine R_eqs (st2 := [vA G 131, vI 5, vA G 111]) (σ2 := (iX9 (kmk (kup (iX9 (kmk (kup (iX9 (kmk (kup (iX9 (kmk (kup (iX9 (kmk (kup (iX9 (kmk (kup (iX2 (kmk (kup (iX2 (kmk (kup (iX2 (kmk (kup (iX2 (kmk (kup (iX2 (kmk (kup (iX2 (kmk (kup (iX2 (kmk (kup (iX2 (kmk (kup (iX3 (kmk (kup (iX3 (kmk (kup (iX3 (kmk (kup (iX3 (kmk (kup (iX3 (kmk (kup (iX3 (kmk (kup (kmk (kup (kmk (kup (kmk (kup (kmk (kup (kmk (kup (kup (kup (kup (kup (kup (kup (kup mu33 106 0 0) 106 1 0) 106 2 6) 106 3 0) 106 4 0) 106 5 0) 106 6 0) 106 7 0) 107) 106 8 107) 108) 106 9 108) 109) 106 10 109) 110) 106 11 110) 111) 106 12 111) 112) 112) 109 0 112) 113) 113) 109 1 113) 114) 114) 109 2 114) 115) 115) 109 3 115) 116) 116) 109 4 116) 117) 117) 109 5 117) 118) 118) 110 0 118) 119) 119) 110 1 119) 120) 120) 110 2 120) 121) 121) 110 3 121) 122) 122) 110 4 122) 123) 123) 110 5 123) 124) 124) 110 6 124) 125) 125) 110 7 125) 126) 126) 111 0 126) 127) 127) 111 1 127) 128) 128) 111 2 128) 129) 129) 111 3 129) 130) 130) 111 4 130) 131) 131)) rfl e ?_
  refine R_astq 29 9 6 WX0_g e_X0_init_8.2.2.2.2.2.1 (by decide) rfl (by decide) (kAr_0 WX0_g (n := 132) (by decide +kernel) ⟨by decide, by decide, by decide +kernel⟩ (by decide)) (kIs_0 WX0_g (n := 132) (by decide +kernel) ⟨by decide, by decide, by decide +kernel⟩) (by decide) (by decide) ?_
  refine R_iinc (ls2 := [(1, vI 6), (0, vA G 106)]) e_X0_init_8.2.2.2.2.2.2.1 0 rfl (by decide) rfl ?_
  refine R_goto 144 e_X0_init_8.2.2.2.2.2.2.2.1 (by decide) ?_
  refine R_iload_n e_X0_init_7.2.2.2.2.2.2.1 0 rfl ?_
  refine R_bipush e_X0_init_7.2.2.2.2.2.2.2.1 (by decide) ?_
  refine R_icmp_ge 169 e_X0_init_7.2.2.2.2.2.2.2.2.1 (by decide) (by decide) (by decide) (fun q => ?_) (fun q => absurd q (by decide))
  refine R_aload_n e_X0_init_8.2.2.2.2.2.2.2.2.1 1 rfl ?_
  refine R_callV (mc := 0) (ms := 0) (mc' := 0) (ms' := 0) (M' := M_X0_clear) (d' := 0) (as := []) (st := []) 0 0 e_X0_init_8.2.2.2.2.2.2.2.2.2 (kCVof m_X0_clear l_X0_64) rfl (by decide) (kIs_0 WX0_g (n := 132) (by decide +kernel) ⟨by decide, by decide, by decide +kernel⟩) (by decide) (by decide) rfl rfl (by show (0 : Nat) ≤ 8; decide) ?_
  refine Run.mono I_mu35 (fun r s e => ?_)
  refine R_eqs (st2 := []) (σ2 := mu35) rfl e ?_
  exact R_return e_X0_init_9 rfl rfl
def mu37 : Kmem := (kmk (kup mu36 96 0 106) 132)
def mu38 : Kmem := (kup (kup (kmk (kup (kmk (kup (kmk (kup (kmk (kup (kmk (kup (kmk (kup (kup (kup mu37 132 0 0) 132 1 0) 132 2 0) 133) 132 3 133) 134) 132 4 134) 135) 132 5 135) 136) 132 6 136) 137) 132 7 137) 138) 132 8 138) 132 9 0)
theorem I_mu38 {G : Kg} : Run G WX0 M_X7_init 1 6 303 [vA G 132] mu37 (fun _ s => s = mu38) := by
  refine Run.of (by decide +kernel) (by show (1 : Nat) ≤ 1; decide) ?_
  show Ex G WX0 M_X7_init 1 6 303 0 [(0, vA G 132)] [] mu37 _
  refine R_aload_n e_X7_init_0.1 0 rfl ?_
  refine R_obj e_X7_init_0.2.1 oL_X7_3 oI_1 oI_2 (by decide) (by decide) ?_
  refine R_aload_n e_X7_init_0.2.2.1 0 rfl ?_
  refine R_iconst e_X7_init_0.2.2.2.1 ?_
  refine R_putZ 7 0 0 WX0_ok e_X7_init_0.2.2.2.2.1 f_X7_9 (kIs_0 WX0_g (n := 133) (by decide +kernel) ⟨by decide, by decide, by decide +kernel⟩) rfl rfl rfl (Or.inl rfl) ?_
  refine R_aload_n e_X7_init_0.2.2.2.2.2.1 0 rfl ?_
  refine R_iconst e_X7_init_0.2.2.2.2.2.2.1 ?_
  refine R_putI 7 1 1 WX0_ok e_X7_init_0.2.2.2.2.2.2.2.1 f_X7_15 (kIs_0 WX0_g (n := 133) (by decide +kernel) ⟨by decide, by decide, by decide +kernel⟩) rfl rfl rfl ?_
  refine R_aload_n e_X7_init_0.2.2.2.2.2.2.2.2.1 0 rfl ?_
  refine R_iconst e_X7_init_0.2.2.2.2.2.2.2.2.2 ?_
  refine R_putI 7 2 2 WX0_ok e_X7_init_1.1 f_X7_19 (kIs_0 WX0_g (n := 133) (by decide +kernel) ⟨by decide, by decide, by decide +kernel⟩) rfl rfl rfl ?_
  refine R_aload_n e_X7_init_1.2.1 0 rfl ?_
  refine R_bipush e_X7_init_1.2.2.1 (by decide) ?_
  refine R_newarr 133 20 60 5 243 WX0_g e_X7_init_1.2.2.2.1 rfl (by decide) aC_int (by decide +kernel) ⟨by decide, by decide, by decide +kernel⟩ (by decide) ⟨by decide, by decide⟩ ?_
  refine R_putA 7 3 3 e_X7_init_1.2.2.2.2.1 f_X7_22 (kIs_0 WX0_g (n := 134) (by decide +kernel) ⟨by decide, by decide, by decide +kernel⟩) (Or.inr ⟨rfl, rfl, rfl⟩) rfl (puts0 WX0_g (by decide) (by decide)) rfl ?_
  refine R_aload_n e_X7_init_1.2.2.2.2.2.1 0 rfl ?_
  refine R_bipush e_X7_init_1.2.2.2.2.2.2.1 (by decide) ?_
  refine R_newarr 134 20 60 4 183 WX0_g e_X7_init_1.2.2.2.2.2.2.2.1 rfl (by decide) aC_int (by decide +kernel) ⟨by decide, by decide, by decide +kernel⟩ (by decide) ⟨by decide, by decide⟩ ?_
  refine R_putA 7 4 4 e_X7_init_1.2.2.2.2.2.2.2.2.1 f_X7_26 (kIs_0 WX0_g (n := 135) (by decide +kernel) ⟨by decide, by decide, by decide +kernel⟩) (Or.inr ⟨rfl, rfl, rfl⟩) rfl (puts0 WX0_g (by decide) (by decide)) rfl ?_
  refine R_aload_n e_X7_init_1.2.2.2.2.2.2.2.2.2 0 rfl ?_
  refine R_bipush e_X7_init_2.1 (by decide) ?_
  refine R_newarr 135 20 60 3 123 WX0_g e_X7_init_2.2.1 rfl (by decide) aC_int (by decide +kernel) ⟨by decide, by decide, by decide +kernel⟩ (by decide) ⟨by decide, by decide⟩ ?_
  refine R_putA 7 5 5 e_X7_init_2.2.2.1 f_X7_29 (kIs_0 WX0_g (n := 136) (by decide +kernel) ⟨by decide, by decide, by decide +kernel⟩) (Or.inr ⟨rfl, rfl, rfl⟩) rfl (puts0 WX0_g (by decide) (by decide)) rfl ?_
  refine R_aload_n e_X7_init_2.2.2.2.1 0 rfl ?_
  refine R_bipush e_X7_init_2.2.2.2.2.1 (by decide) ?_
  refine R_newarr 136 20 60 2 63 WX0_g e_X7_init_2.2.2.2.2.2.1 rfl (by decide) aC_int (by decide +kernel) ⟨by decide, by decide, by decide +kernel⟩ (by decide) ⟨by decide, by decide⟩ ?_
  refine R_putA 7 6 6 e_X7_init_2.2.2.2.2.2.2.1 f_X7_32 (kIs_0 WX0_g (n := 137) (by decide +kernel) ⟨by decide, by decide, by decide +kernel⟩) (Or.inr ⟨rfl, rfl, rfl⟩) rfl (puts0 WX0_g (by decide) (by decide)) rfl ?_
  refine R_aload_n e_X7_init_2.2.2.2.2.2.2.2.1 0 rfl ?_
  refine R_bipush e_X7_init_2.2.2.2.2.2.2.2.2.1 (by decide) ?_
  refine R_newarr 137 20 60 1 3 WX0_g e_X7_init_2.2.2.2.2.2.2.2.2.2 rfl (by decide) aC_int (by decide +kernel) ⟨by decide, by decide, by decide +kernel⟩ (by decide) ⟨by decide, by decide⟩ ?_
  refine R_putA 7 7 7 e_X7_init_3.1 f_X7_35 (kIs_0 WX0_g (n := 138) (by decide +kernel) ⟨by decide, by decide, by decide +kernel⟩) (Or.inr ⟨rfl, rfl, rfl⟩) rfl (puts0 WX0_g (by decide) (by decide)) rfl ?_
  refine R_aload_n e_X7_init_3.2.1 0 rfl ?_
  refine R_iconst e_X7_init_3.2.2.1 ?_
  refine R_newarr 138 20 3 0 0 WX0_g e_X7_init_3.2.2.2.1 rfl (by decide) aC_int (by decide +kernel) ⟨by decide, by decide, by decide +kernel⟩ (by decide) ⟨by decide, by decide⟩ ?_
  refine R_putA 7 8 8 e_X7_init_3.2.2.2.2.1 f_X7_38 (kIs_0 WX0_g (n := 139) (by decide +kernel) ⟨by decide, by decide, by decide +kernel⟩) (Or.inr ⟨rfl, rfl, rfl⟩) rfl (puts0 WX0_g (by decide) (by decide)) rfl ?_
  refine R_aload_n e_X7_init_3.2.2.2.2.2.1 0 rfl ?_
  refine R_iconst e_X7_init_3.2.2.2.2.2.2.1 ?_
  refine R_putI 7 9 9 WX0_ok e_X7_init_3.2.2.2.2.2.2.2.1 f_X7_41 (kIs_0 WX0_g (n := 139) (by decide +kernel) ⟨by decide, by decide, by decide +kernel⟩) rfl rfl rfl ?_
  exact R_return e_X7_init_3.2.2.2.2.2.2.2.2 rfl rfl
def mu39 : Kmem := (kmk (kup mu38 97 0 132) 139)
def mu40 : Kmem := (kup (iX9 (kmk (kup (iX9 (kmk (kup (iX9 (kmk (kup (iX9 (kmk (kup (iX9 (kmk (kup (iX9 (kmk (kup (iX2 (kmk (kup (iX2 (kmk (kup (iX2 (kmk (kup (iX2 (kmk (kup (iX2 (kmk (kup (iX2 (kmk (kup (iX2 (kmk (kup (iX2 (kmk (kup (iX3 (kmk (kup (iX3 (kmk (kup (iX3 (kmk (kup (iX3 (kmk (kup (iX3 (kmk (kup (iX3 (kmk (kup (kmk (kup (kmk (kup (kmk (kup (kmk (kup (kmk (kup (kup (kup (kup (kup (kup (kup (kup mu39 139 0 0) 139 1 0) 139 2 6) 139 3 0) 139 4 0) 139 5 0) 139 6 0) 139 7 0) 140) 139 8 140) 141) 139 9 141) 142) 139 10 142) 143) 139 11 143) 144) 139 12 144) 145) 145) 142 0 145) 146) 146) 142 1 146) 147) 147) 142 2 147) 148) 148) 142 3 148) 149) 149) 142 4 149) 150) 150) 142 5 150) 151) 151) 143 0 151) 152) 152) 143 1 152) 153) 153) 143 2 153) 154) 154) 143 3 154) 155) 155) 143 4 155) 156) 156) 143 5 156) 157) 157) 143 6 157) 158) 158) 143 7 158) 159) 159) 144 0 159) 160) 160) 144 1 160) 161) 161) 144 2 161) 162) 162) 144 3 162) 163) 163) 144 4 163) 164) 164) 144 5 164)
def mu41 : Kmem := (kup (kup (kup (kup (kup (kup (kup (kup (kup (kup (kup (kup (kup (kup (kup (kup (kup (kup (kup (kup (kup (kup (kup (kup (kup (kup (kup (kup (kup (kup (kup (kup mu40 139 0 0) 139 1 0) 139 2 6) 139 3 0) 139 4 0) 139 5 0) 139 6 0) 139 7 0) 140 0 2) 141 0 2) 140 1 2) 141 1 2) 140 2 2) 141 2 2) 140 3 2) 141 3 2) 140 4 2) 141 4 2) 140 5 2) 141 5 2) 140 6 2) 141 6 2) 140 7 2) 141 7 2) 140 8 2) 141 8 2) 140 9 2) 141 9 2) 140 10 2) 141 10 2) 140 11 2) 141 11 2)
theorem I_mu41 {G : Kg} : Run G WX0 M_X0_clear 0 0 0 [vA G 139] mu40 (fun _ s => s = mu41) := by
  refine Run.of (by decide +kernel) (by show (1 : Nat) ≤ 2; decide) ?_
  show Ex G WX0 M_X0_clear 0 0 0 0 [(0, vA G 139)] [] mu40 _
  refine R_aload_n e_X0_clear_0.1 0 rfl ?_
  refine R_iconst e_X0_clear_0.2.1 ?_
  refine R_putI 0 0 0 WX0_ok e_X0_clear_0.2.2.1 f_X0_9 (kIs_0 WX0_g (n := 165) (by decide +kernel) ⟨by decide, by decide, by decide +kernel⟩) rfl rfl rfl ?_
  refine R_aload_n e_X0_clear_0.2.2.2.1 0 rfl ?_
  refine R_iconst e_X0_clear_0.2.2.2.2.1 ?_
  refine R_putI 0 1 1 WX0_ok e_X0_clear_0.2.2.2.2.2.1 f_X0_15 (kIs_0 WX0_g (n := 165) (by decide +kernel) ⟨by decide, by decide, by decide +kernel⟩) rfl rfl rfl ?_
  refine R_aload_n e_X0_clear_0.2.2.2.2.2.2.1 0 rfl ?_
  refine R_bipush e_X0_clear_0.2.2.2.2.2.2.2.1 (by decide) ?_
  refine R_putI 0 2 2 WX0_ok e_X0_clear_0.2.2.2.2.2.2.2.2.1 f_X0_18 (kIs_0 WX0_g (n := 165) (by decide +kernel) ⟨by decide, by decide, by decide +kernel⟩) rfl rfl rfl ?_
  refine R_aload_n e_X0_clear_0.2.2.2.2.2.2.2.2.2 0 rfl ?_
  refine R_iconst e_X0_clear_1.1 ?_
  refine R_putI 0 3 3 WX0_ok e_X0_clear_1.2.1 f_X0_21 (kIs_0 WX0_g (n := 165) (by decide +kernel) ⟨by decide, by decide, by decide +kernel⟩) rfl rfl rfl ?_
  refine R_aload_n e_X0_clear_1.2.2.1 0 rfl ?_
  refine R_iconst e_X0_clear_1.2.2.2.1 ?_
  refine R_putI 0 4 4 WX0_ok e_X0_clear_1.2.2.2.2.1 f_X0_24 (kIs_0 WX0_g (n := 165) (by decide +kernel) ⟨by decide, by decide, by decide +kernel⟩) rfl rfl rfl ?_
  refine R_aload_n e_X0_clear_1.2.2.2.2.2.1 0 rfl ?_
  refine R_iconst e_X0_clear_1.2.2.2.2.2.2.1 ?_
  refine R_putI 0 5 5 WX0_ok e_X0_clear_1.2.2.2.2.2.2.2.1 f_X0_27 (kIs_0 WX0_g (n := 165) (by decide +kernel) ⟨by decide, by decide, by decide +kernel⟩) rfl rfl rfl ?_
  refine R_aload_n e_X0_clear_1.2.2.2.2.2.2.2.2.1 0 rfl ?_
  refine R_iconst e_X0_clear_1.2.2.2.2.2.2.2.2.2 ?_
  refine R_putI 0 6 6 WX0_ok e_X0_clear_2.1 f_X0_30 (kIs_0 WX0_g (n := 165) (by decide +kernel) ⟨by decide, by decide, by decide +kernel⟩) rfl rfl rfl ?_
  refine R_aload_n e_X0_clear_2.2.1 0 rfl ?_
  refine R_iconst e_X0_clear_2.2.2.1 ?_
  refine R_putI 0 7 7 WX0_ok e_X0_clear_2.2.2.2.1 f_X0_33 (kIs_0 WX0_g (n := 165) (by decide +kernel) ⟨by decide, by decide, by decide +kernel⟩) rfl rfl rfl ?_
  refine R_iconst e_X0_clear_2.2.2.2.2.1 ?_
  refine R_istore_n (ls2 := [(1, vI 0), (0, vA G 139)]) e_X0_clear_2.2.2.2.2.2.1 (by decide) rfl ?_
  refine R_iload_n e_X0_clear_2.2.2.2.2.2.2.1 0 rfl ?_
  refine R_bipush e_X0_clear_2.2.2.2.2.2.2.2.1 (by decide) ?_
  refine R_icmp_ge 69 e_X0_clear_2.2.2.2.2.2.2.2.2.1 (by decide) (by decide) (by decide) (fun q => absurd q (by decide)) (fun q => ?_)
  refine R_aload_n e_X0_clear_2.2.2.2.2.2.2.2.2.2 1 rfl ?_
  refine R_getA 0 8 140 e_X0_clear_3.1 f_X0_36 (kIs_0 WX0_g (n := 165) (by decide +kernel) ⟨by decide, by decide, by decide +kernel⟩) (fun _ _ => rfl) (by decide +kernel) (by decide) ?_
  refine R_iload_n e_X0_clear_3.2.1 0 rfl ?_
  refine R_iconst e_X0_clear_3.2.2.1 ?_
  refine R_iast 12 WX0_ok e_X0_clear_3.2.2.2.1 (kAr_0 WX0_g (n := 165) (by decide +kernel) ⟨by decide, by decide, by decide +kernel⟩ (by decide)) (by decide) ?_
  refine R_aload_n e_X0_clear_3.2.2.2.2.1 1 rfl ?_
  refine R_getA 0 9 141 e_X0_clear_3.2.2.2.2.2.1 f_X0_40 (kIs_0 WX0_g (n := 165) (by decide +kernel) ⟨by decide, by decide, by decide +kernel⟩) (fun _ _ => rfl) (by decide +kernel) (by decide) ?_
  refine R_iload_n e_X0_clear_3.2.2.2.2.2.2.1 0 rfl ?_
  refine R_iconst e_X0_clear_3.2.2.2.2.2.2.2.1 ?_
  refine R_iast 12 WX0_ok e_X0_clear_3.2.2.2.2.2.2.2.2.1 (kAr_0 WX0_g (n := 165) (by decide +kernel) ⟨by decide, by decide, by decide +kernel⟩ (by decide)) (by decide) ?_
  refine R_iinc (ls2 := [(1, vI 1), (0, vA G 139)]) e_X0_clear_3.2.2.2.2.2.2.2.2.2 0 rfl (by decide) rfl ?_
  refine R_goto 43 e_X0_clear_4.1 (by decide) ?_
  refine R_iload_n e_X0_clear_2.2.2.2.2.2.2.1 0 rfl ?_
  refine R_bipush e_X0_clear_2.2.2.2.2.2.2.2.1 (by decide) ?_
  refine R_icmp_ge 69 e_X0_clear_2.2.2.2.2.2.2.2.2.1 (by decide) (by decide) (by decide) (fun q => absurd q (by decide)) (fun q => ?_)
  refine R_aload_n e_X0_clear_2.2.2.2.2.2.2.2.2.2 1 rfl ?_
  refine R_getA 0 8 140 e_X0_clear_3.1 f_X0_36 (kIs_0 WX0_g (n := 165) (by decide +kernel) ⟨by decide, by decide, by decide +kernel⟩) (fun _ _ => rfl) (by decide +kernel) (by decide) ?_
  refine R_iload_n e_X0_clear_3.2.1 0 rfl ?_
  refine R_iconst e_X0_clear_3.2.2.1 ?_
  refine R_iast 12 WX0_ok e_X0_clear_3.2.2.2.1 (kAr_0 WX0_g (n := 165) (by decide +kernel) ⟨by decide, by decide, by decide +kernel⟩ (by decide)) (by decide) ?_
  refine R_aload_n e_X0_clear_3.2.2.2.2.1 1 rfl ?_
  refine R_getA 0 9 141 e_X0_clear_3.2.2.2.2.2.1 f_X0_40 (kIs_0 WX0_g (n := 165) (by decide +kernel) ⟨by decide, by decide, by decide +kernel⟩) (fun _ _ => rfl) (by decide +kernel) (by decide) ?_
  refine R_iload_n e_X0_clear_3.2.2.2.2.2.2.1 0 rfl ?_
  refine R_iconst e_X0_clear_3.2.2.2.2.2.2.2.1 ?_
  refine R_iast 12 WX0_ok e_X0_clear_3.2.2.2.2.2.2.2.2.1 (kAr_0 WX0_g (n := 165) (by decide +kernel) ⟨by decide, by decide, by decide +kernel⟩ (by decide)) (by decide) ?_
  refine R_iinc (ls2 := [(1, vI 2), (0, vA G 139)]) e_X0_clear_3.2.2.2.2.2.2.2.2.2 0 rfl (by decide) rfl ?_
  refine R_goto 43 e_X0_clear_4.1 (by decide) ?_
  refine R_iload_n e_X0_clear_2.2.2.2.2.2.2.1 0 rfl ?_
  refine R_bipush e_X0_clear_2.2.2.2.2.2.2.2.1 (by decide) ?_
  refine R_icmp_ge 69 e_X0_clear_2.2.2.2.2.2.2.2.2.1 (by decide) (by decide) (by decide) (fun q => absurd q (by decide)) (fun q => ?_)
  refine R_aload_n e_X0_clear_2.2.2.2.2.2.2.2.2.2 1 rfl ?_
  refine R_getA 0 8 140 e_X0_clear_3.1 f_X0_36 (kIs_0 WX0_g (n := 165) (by decide +kernel) ⟨by decide, by decide, by decide +kernel⟩) (fun _ _ => rfl) (by decide +kernel) (by decide) ?_
  refine R_iload_n e_X0_clear_3.2.1 0 rfl ?_
  refine R_iconst e_X0_clear_3.2.2.1 ?_
  refine R_iast 12 WX0_ok e_X0_clear_3.2.2.2.1 (kAr_0 WX0_g (n := 165) (by decide +kernel) ⟨by decide, by decide, by decide +kernel⟩ (by decide)) (by decide) ?_
  refine R_aload_n e_X0_clear_3.2.2.2.2.1 1 rfl ?_
  refine R_getA 0 9 141 e_X0_clear_3.2.2.2.2.2.1 f_X0_40 (kIs_0 WX0_g (n := 165) (by decide +kernel) ⟨by decide, by decide, by decide +kernel⟩) (fun _ _ => rfl) (by decide +kernel) (by decide) ?_
  refine R_iload_n e_X0_clear_3.2.2.2.2.2.2.1 0 rfl ?_
  refine R_iconst e_X0_clear_3.2.2.2.2.2.2.2.1 ?_
  refine R_iast 12 WX0_ok e_X0_clear_3.2.2.2.2.2.2.2.2.1 (kAr_0 WX0_g (n := 165) (by decide +kernel) ⟨by decide, by decide, by decide +kernel⟩ (by decide)) (by decide) ?_
  refine R_iinc (ls2 := [(1, vI 3), (0, vA G 139)]) e_X0_clear_3.2.2.2.2.2.2.2.2.2 0 rfl (by decide) rfl ?_
  refine R_goto 43 e_X0_clear_4.1 (by decide) ?_
  refine R_iload_n e_X0_clear_2.2.2.2.2.2.2.1 0 rfl ?_
  refine R_bipush e_X0_clear_2.2.2.2.2.2.2.2.1 (by decide) ?_
  refine R_icmp_ge 69 e_X0_clear_2.2.2.2.2.2.2.2.2.1 (by decide) (by decide) (by decide) (fun q => absurd q (by decide)) (fun q => ?_)
  refine R_aload_n e_X0_clear_2.2.2.2.2.2.2.2.2.2 1 rfl ?_
  refine R_getA 0 8 140 e_X0_clear_3.1 f_X0_36 (kIs_0 WX0_g (n := 165) (by decide +kernel) ⟨by decide, by decide, by decide +kernel⟩) (fun _ _ => rfl) (by decide +kernel) (by decide) ?_
  refine R_iload_n e_X0_clear_3.2.1 0 rfl ?_
  refine R_iconst e_X0_clear_3.2.2.1 ?_
  refine R_iast 12 WX0_ok e_X0_clear_3.2.2.2.1 (kAr_0 WX0_g (n := 165) (by decide +kernel) ⟨by decide, by decide, by decide +kernel⟩ (by decide)) (by decide) ?_
  refine R_aload_n e_X0_clear_3.2.2.2.2.1 1 rfl ?_
  refine R_getA 0 9 141 e_X0_clear_3.2.2.2.2.2.1 f_X0_40 (kIs_0 WX0_g (n := 165) (by decide +kernel) ⟨by decide, by decide, by decide +kernel⟩) (fun _ _ => rfl) (by decide +kernel) (by decide) ?_
  refine R_iload_n e_X0_clear_3.2.2.2.2.2.2.1 0 rfl ?_
  refine R_iconst e_X0_clear_3.2.2.2.2.2.2.2.1 ?_
  refine R_iast 12 WX0_ok e_X0_clear_3.2.2.2.2.2.2.2.2.1 (kAr_0 WX0_g (n := 165) (by decide +kernel) ⟨by decide, by decide, by decide +kernel⟩ (by decide)) (by decide) ?_
  refine R_iinc (ls2 := [(1, vI 4), (0, vA G 139)]) e_X0_clear_3.2.2.2.2.2.2.2.2.2 0 rfl (by decide) rfl ?_
  refine R_goto 43 e_X0_clear_4.1 (by decide) ?_
  refine R_iload_n e_X0_clear_2.2.2.2.2.2.2.1 0 rfl ?_
  refine R_bipush e_X0_clear_2.2.2.2.2.2.2.2.1 (by decide) ?_
  refine R_icmp_ge 69 e_X0_clear_2.2.2.2.2.2.2.2.2.1 (by decide) (by decide) (by decide) (fun q => absurd q (by decide)) (fun q => ?_)
  refine R_aload_n e_X0_clear_2.2.2.2.2.2.2.2.2.2 1 rfl ?_
  refine R_getA 0 8 140 e_X0_clear_3.1 f_X0_36 (kIs_0 WX0_g (n := 165) (by decide +kernel) ⟨by decide, by decide, by decide +kernel⟩) (fun _ _ => rfl) (by decide +kernel) (by decide) ?_
  refine R_iload_n e_X0_clear_3.2.1 0 rfl ?_
  refine R_iconst e_X0_clear_3.2.2.1 ?_
  refine R_iast 12 WX0_ok e_X0_clear_3.2.2.2.1 (kAr_0 WX0_g (n := 165) (by decide +kernel) ⟨by decide, by decide, by decide +kernel⟩ (by decide)) (by decide) ?_
  refine R_aload_n e_X0_clear_3.2.2.2.2.1 1 rfl ?_
  refine R_getA 0 9 141 e_X0_clear_3.2.2.2.2.2.1 f_X0_40 (kIs_0 WX0_g (n := 165) (by decide +kernel) ⟨by decide, by decide, by decide +kernel⟩) (fun _ _ => rfl) (by decide +kernel) (by decide) ?_
  refine R_iload_n e_X0_clear_3.2.2.2.2.2.2.1 0 rfl ?_
  refine R_iconst e_X0_clear_3.2.2.2.2.2.2.2.1 ?_
  refine R_iast 12 WX0_ok e_X0_clear_3.2.2.2.2.2.2.2.2.1 (kAr_0 WX0_g (n := 165) (by decide +kernel) ⟨by decide, by decide, by decide +kernel⟩ (by decide)) (by decide) ?_
  refine R_iinc (ls2 := [(1, vI 5), (0, vA G 139)]) e_X0_clear_3.2.2.2.2.2.2.2.2.2 0 rfl (by decide) rfl ?_
  refine R_goto 43 e_X0_clear_4.1 (by decide) ?_
  refine R_iload_n e_X0_clear_2.2.2.2.2.2.2.1 0 rfl ?_
  refine R_bipush e_X0_clear_2.2.2.2.2.2.2.2.1 (by decide) ?_
  refine R_icmp_ge 69 e_X0_clear_2.2.2.2.2.2.2.2.2.1 (by decide) (by decide) (by decide) (fun q => absurd q (by decide)) (fun q => ?_)
  refine R_aload_n e_X0_clear_2.2.2.2.2.2.2.2.2.2 1 rfl ?_
  refine R_getA 0 8 140 e_X0_clear_3.1 f_X0_36 (kIs_0 WX0_g (n := 165) (by decide +kernel) ⟨by decide, by decide, by decide +kernel⟩) (fun _ _ => rfl) (by decide +kernel) (by decide) ?_
  refine R_iload_n e_X0_clear_3.2.1 0 rfl ?_
  refine R_iconst e_X0_clear_3.2.2.1 ?_
  refine R_iast 12 WX0_ok e_X0_clear_3.2.2.2.1 (kAr_0 WX0_g (n := 165) (by decide +kernel) ⟨by decide, by decide, by decide +kernel⟩ (by decide)) (by decide) ?_
  refine R_aload_n e_X0_clear_3.2.2.2.2.1 1 rfl ?_
  refine R_getA 0 9 141 e_X0_clear_3.2.2.2.2.2.1 f_X0_40 (kIs_0 WX0_g (n := 165) (by decide +kernel) ⟨by decide, by decide, by decide +kernel⟩) (fun _ _ => rfl) (by decide +kernel) (by decide) ?_
  refine R_iload_n e_X0_clear_3.2.2.2.2.2.2.1 0 rfl ?_
  refine R_iconst e_X0_clear_3.2.2.2.2.2.2.2.1 ?_
  refine R_iast 12 WX0_ok e_X0_clear_3.2.2.2.2.2.2.2.2.1 (kAr_0 WX0_g (n := 165) (by decide +kernel) ⟨by decide, by decide, by decide +kernel⟩ (by decide)) (by decide) ?_
  refine R_iinc (ls2 := [(1, vI 6), (0, vA G 139)]) e_X0_clear_3.2.2.2.2.2.2.2.2.2 0 rfl (by decide) rfl ?_
  refine R_goto 43 e_X0_clear_4.1 (by decide) ?_
  refine R_iload_n e_X0_clear_2.2.2.2.2.2.2.1 0 rfl ?_
  refine R_bipush e_X0_clear_2.2.2.2.2.2.2.2.1 (by decide) ?_
  refine R_icmp_ge 69 e_X0_clear_2.2.2.2.2.2.2.2.2.1 (by decide) (by decide) (by decide) (fun q => absurd q (by decide)) (fun q => ?_)
  refine R_aload_n e_X0_clear_2.2.2.2.2.2.2.2.2.2 1 rfl ?_
  refine R_getA 0 8 140 e_X0_clear_3.1 f_X0_36 (kIs_0 WX0_g (n := 165) (by decide +kernel) ⟨by decide, by decide, by decide +kernel⟩) (fun _ _ => rfl) (by decide +kernel) (by decide) ?_
  refine R_iload_n e_X0_clear_3.2.1 0 rfl ?_
  refine R_iconst e_X0_clear_3.2.2.1 ?_
  refine R_iast 12 WX0_ok e_X0_clear_3.2.2.2.1 (kAr_0 WX0_g (n := 165) (by decide +kernel) ⟨by decide, by decide, by decide +kernel⟩ (by decide)) (by decide) ?_
  refine R_aload_n e_X0_clear_3.2.2.2.2.1 1 rfl ?_
  refine R_getA 0 9 141 e_X0_clear_3.2.2.2.2.2.1 f_X0_40 (kIs_0 WX0_g (n := 165) (by decide +kernel) ⟨by decide, by decide, by decide +kernel⟩) (fun _ _ => rfl) (by decide +kernel) (by decide) ?_
  refine R_iload_n e_X0_clear_3.2.2.2.2.2.2.1 0 rfl ?_
  refine R_iconst e_X0_clear_3.2.2.2.2.2.2.2.1 ?_
  refine R_iast 12 WX0_ok e_X0_clear_3.2.2.2.2.2.2.2.2.1 (kAr_0 WX0_g (n := 165) (by decide +kernel) ⟨by decide, by decide, by decide +kernel⟩ (by decide)) (by decide) ?_
  refine R_iinc (ls2 := [(1, vI 7), (0, vA G 139)]) e_X0_clear_3.2.2.2.2.2.2.2.2.2 0 rfl (by decide) rfl ?_
  refine R_goto 43 e_X0_clear_4.1 (by decide) ?_
  refine R_iload_n e_X0_clear_2.2.2.2.2.2.2.1 0 rfl ?_
  refine R_bipush e_X0_clear_2.2.2.2.2.2.2.2.1 (by decide) ?_
  refine R_icmp_ge 69 e_X0_clear_2.2.2.2.2.2.2.2.2.1 (by decide) (by decide) (by decide) (fun q => absurd q (by decide)) (fun q => ?_)
  refine R_aload_n e_X0_clear_2.2.2.2.2.2.2.2.2.2 1 rfl ?_
  refine R_getA 0 8 140 e_X0_clear_3.1 f_X0_36 (kIs_0 WX0_g (n := 165) (by decide +kernel) ⟨by decide, by decide, by decide +kernel⟩) (fun _ _ => rfl) (by decide +kernel) (by decide) ?_
  refine R_iload_n e_X0_clear_3.2.1 0 rfl ?_
  refine R_iconst e_X0_clear_3.2.2.1 ?_
  refine R_iast 12 WX0_ok e_X0_clear_3.2.2.2.1 (kAr_0 WX0_g (n := 165) (by decide +kernel) ⟨by decide, by decide, by decide +kernel⟩ (by decide)) (by decide) ?_
  refine R_aload_n e_X0_clear_3.2.2.2.2.1 1 rfl ?_
  refine R_getA 0 9 141 e_X0_clear_3.2.2.2.2.2.1 f_X0_40 (kIs_0 WX0_g (n := 165) (by decide +kernel) ⟨by decide, by decide, by decide +kernel⟩) (fun _ _ => rfl) (by decide +kernel) (by decide) ?_
  refine R_iload_n e_X0_clear_3.2.2.2.2.2.2.1 0 rfl ?_
  refine R_iconst e_X0_clear_3.2.2.2.2.2.2.2.1 ?_
  refine R_iast 12 WX0_ok e_X0_clear_3.2.2.2.2.2.2.2.2.1 (kAr_0 WX0_g (n := 165) (by decide +kernel) ⟨by decide, by decide, by decide +kernel⟩ (by decide)) (by decide) ?_
  refine R_iinc (ls2 := [(1, vI 8), (0, vA G 139)]) e_X0_clear_3.2.2.2.2.2.2.2.2.2 0 rfl (by decide) rfl ?_
  refine R_goto 43 e_X0_clear_4.1 (by decide) ?_
  refine R_iload_n e_X0_clear_2.2.2.2.2.2.2.1 0 rfl ?_
  refine R_bipush e_X0_clear_2.2.2.2.2.2.2.2.1 (by decide) ?_
  refine R_icmp_ge 69 e_X0_clear_2.2.2.2.2.2.2.2.2.1 (by decide) (by decide) (by decide) (fun q => absurd q (by decide)) (fun q => ?_)
  refine R_aload_n e_X0_clear_2.2.2.2.2.2.2.2.2.2 1 rfl ?_
  refine R_getA 0 8 140 e_X0_clear_3.1 f_X0_36 (kIs_0 WX0_g (n := 165) (by decide +kernel) ⟨by decide, by decide, by decide +kernel⟩) (fun _ _ => rfl) (by decide +kernel) (by decide) ?_
  refine R_iload_n e_X0_clear_3.2.1 0 rfl ?_
  refine R_iconst e_X0_clear_3.2.2.1 ?_
  refine R_iast 12 WX0_ok e_X0_clear_3.2.2.2.1 (kAr_0 WX0_g (n := 165) (by decide +kernel) ⟨by decide, by decide, by decide +kernel⟩ (by decide)) (by decide) ?_
  refine R_aload_n e_X0_clear_3.2.2.2.2.1 1 rfl ?_
  refine R_getA 0 9 141 e_X0_clear_3.2.2.2.2.2.1 f_X0_40 (kIs_0 WX0_g (n := 165) (by decide +kernel) ⟨by decide, by decide, by decide +kernel⟩) (fun _ _ => rfl) (by decide +kernel) (by decide) ?_
  refine R_iload_n e_X0_clear_3.2.2.2.2.2.2.1 0 rfl ?_
  refine R_iconst e_X0_clear_3.2.2.2.2.2.2.2.1 ?_
  refine R_iast 12 WX0_ok e_X0_clear_3.2.2.2.2.2.2.2.2.1 (kAr_0 WX0_g (n := 165) (by decide +kernel) ⟨by decide, by decide, by decide +kernel⟩ (by decide)) (by decide) ?_
  refine R_iinc (ls2 := [(1, vI 9), (0, vA G 139)]) e_X0_clear_3.2.2.2.2.2.2.2.2.2 0 rfl (by decide) rfl ?_
  refine R_goto 43 e_X0_clear_4.1 (by decide) ?_
  refine R_iload_n e_X0_clear_2.2.2.2.2.2.2.1 0 rfl ?_
  refine R_bipush e_X0_clear_2.2.2.2.2.2.2.2.1 (by decide) ?_
  refine R_icmp_ge 69 e_X0_clear_2.2.2.2.2.2.2.2.2.1 (by decide) (by decide) (by decide) (fun q => absurd q (by decide)) (fun q => ?_)
  refine R_aload_n e_X0_clear_2.2.2.2.2.2.2.2.2.2 1 rfl ?_
  refine R_getA 0 8 140 e_X0_clear_3.1 f_X0_36 (kIs_0 WX0_g (n := 165) (by decide +kernel) ⟨by decide, by decide, by decide +kernel⟩) (fun _ _ => rfl) (by decide +kernel) (by decide) ?_
  refine R_iload_n e_X0_clear_3.2.1 0 rfl ?_
  refine R_iconst e_X0_clear_3.2.2.1 ?_
  refine R_iast 12 WX0_ok e_X0_clear_3.2.2.2.1 (kAr_0 WX0_g (n := 165) (by decide +kernel) ⟨by decide, by decide, by decide +kernel⟩ (by decide)) (by decide) ?_
  refine R_aload_n e_X0_clear_3.2.2.2.2.1 1 rfl ?_
  refine R_getA 0 9 141 e_X0_clear_3.2.2.2.2.2.1 f_X0_40 (kIs_0 WX0_g (n := 165) (by decide +kernel) ⟨by decide, by decide, by decide +kernel⟩) (fun _ _ => rfl) (by decide +kernel) (by decide) ?_
  refine R_iload_n e_X0_clear_3.2.2.2.2.2.2.1 0 rfl ?_
  refine R_iconst e_X0_clear_3.2.2.2.2.2.2.2.1 ?_
  refine R_iast 12 WX0_ok e_X0_clear_3.2.2.2.2.2.2.2.2.1 (kAr_0 WX0_g (n := 165) (by decide +kernel) ⟨by decide, by decide, by decide +kernel⟩ (by decide)) (by decide) ?_
  refine R_iinc (ls2 := [(1, vI 10), (0, vA G 139)]) e_X0_clear_3.2.2.2.2.2.2.2.2.2 0 rfl (by decide) rfl ?_
  refine R_goto 43 e_X0_clear_4.1 (by decide) ?_
  refine R_iload_n e_X0_clear_2.2.2.2.2.2.2.1 0 rfl ?_
  refine R_bipush e_X0_clear_2.2.2.2.2.2.2.2.1 (by decide) ?_
  refine R_icmp_ge 69 e_X0_clear_2.2.2.2.2.2.2.2.2.1 (by decide) (by decide) (by decide) (fun q => absurd q (by decide)) (fun q => ?_)
  refine R_aload_n e_X0_clear_2.2.2.2.2.2.2.2.2.2 1 rfl ?_
  refine R_getA 0 8 140 e_X0_clear_3.1 f_X0_36 (kIs_0 WX0_g (n := 165) (by decide +kernel) ⟨by decide, by decide, by decide +kernel⟩) (fun _ _ => rfl) (by decide +kernel) (by decide) ?_
  refine R_iload_n e_X0_clear_3.2.1 0 rfl ?_
  refine R_iconst e_X0_clear_3.2.2.1 ?_
  refine R_iast 12 WX0_ok e_X0_clear_3.2.2.2.1 (kAr_0 WX0_g (n := 165) (by decide +kernel) ⟨by decide, by decide, by decide +kernel⟩ (by decide)) (by decide) ?_
  refine R_aload_n e_X0_clear_3.2.2.2.2.1 1 rfl ?_
  refine R_getA 0 9 141 e_X0_clear_3.2.2.2.2.2.1 f_X0_40 (kIs_0 WX0_g (n := 165) (by decide +kernel) ⟨by decide, by decide, by decide +kernel⟩) (fun _ _ => rfl) (by decide +kernel) (by decide) ?_
  refine R_iload_n e_X0_clear_3.2.2.2.2.2.2.1 0 rfl ?_
  refine R_iconst e_X0_clear_3.2.2.2.2.2.2.2.1 ?_
  refine R_iast 12 WX0_ok e_X0_clear_3.2.2.2.2.2.2.2.2.1 (kAr_0 WX0_g (n := 165) (by decide +kernel) ⟨by decide, by decide, by decide +kernel⟩ (by decide)) (by decide) ?_
  refine R_iinc (ls2 := [(1, vI 11), (0, vA G 139)]) e_X0_clear_3.2.2.2.2.2.2.2.2.2 0 rfl (by decide) rfl ?_
  refine R_goto 43 e_X0_clear_4.1 (by decide) ?_
  refine R_iload_n e_X0_clear_2.2.2.2.2.2.2.1 0 rfl ?_
  refine R_bipush e_X0_clear_2.2.2.2.2.2.2.2.1 (by decide) ?_
  refine R_icmp_ge 69 e_X0_clear_2.2.2.2.2.2.2.2.2.1 (by decide) (by decide) (by decide) (fun q => absurd q (by decide)) (fun q => ?_)
  refine R_aload_n e_X0_clear_2.2.2.2.2.2.2.2.2.2 1 rfl ?_
  refine R_getA 0 8 140 e_X0_clear_3.1 f_X0_36 (kIs_0 WX0_g (n := 165) (by decide +kernel) ⟨by decide, by decide, by decide +kernel⟩) (fun _ _ => rfl) (by decide +kernel) (by decide) ?_
  refine R_iload_n e_X0_clear_3.2.1 0 rfl ?_
  refine R_iconst e_X0_clear_3.2.2.1 ?_
  refine R_iast 12 WX0_ok e_X0_clear_3.2.2.2.1 (kAr_0 WX0_g (n := 165) (by decide +kernel) ⟨by decide, by decide, by decide +kernel⟩ (by decide)) (by decide) ?_
  refine R_aload_n e_X0_clear_3.2.2.2.2.1 1 rfl ?_
  refine R_getA 0 9 141 e_X0_clear_3.2.2.2.2.2.1 f_X0_40 (kIs_0 WX0_g (n := 165) (by decide +kernel) ⟨by decide, by decide, by decide +kernel⟩) (fun _ _ => rfl) (by decide +kernel) (by decide) ?_
  refine R_iload_n e_X0_clear_3.2.2.2.2.2.2.1 0 rfl ?_
  refine R_iconst e_X0_clear_3.2.2.2.2.2.2.2.1 ?_
  refine R_iast 12 WX0_ok e_X0_clear_3.2.2.2.2.2.2.2.2.1 (kAr_0 WX0_g (n := 165) (by decide +kernel) ⟨by decide, by decide, by decide +kernel⟩ (by decide)) (by decide) ?_
  refine R_iinc (ls2 := [(1, vI 12), (0, vA G 139)]) e_X0_clear_3.2.2.2.2.2.2.2.2.2 0 rfl (by decide) rfl ?_
  refine R_goto 43 e_X0_clear_4.1 (by decide) ?_
  refine R_iload_n e_X0_clear_2.2.2.2.2.2.2.1 0 rfl ?_
  refine R_bipush e_X0_clear_2.2.2.2.2.2.2.2.1 (by decide) ?_
  refine R_icmp_ge 69 e_X0_clear_2.2.2.2.2.2.2.2.2.1 (by decide) (by decide) (by decide) (fun q => ?_) (fun q => absurd q (by decide))
  exact R_return e_X0_clear_4.2 rfl rfl
