/-! THE REFERENCE, MADE -/
def nu0 : Kmem := kmk mZ 0
def nu1 : Kmem := (tPl (kup (kmk (kup (kmk (kup (kmk (kup (kmk (kup (kmk (kup (kmk (kup (kmk (kup (kmk (kup (kmk (kup (kmk (kup (kmk (kup (kmk (kup (kmk (kup (kup (kup (kmk (kup (kmk (kup (kmk (kup (kup (kup (kup (kup (kmk (kup (kmk (kup (kup (kmk (kup (kmk nu0 1) 0 0 1) 2) 0 1 2) 0 4 1) 3) 0 5 3) 4) 4 0 (-1)) 4 1 (-1)) 4 2 (-1)) 4 3 (-1)) 0 6 4) 5) 0 7 5) 6) 0 8 6) 7) 0 9 7) 0 16 (-1)) 0 17 (-1)) 8) 0 21 8) 9) 0 24 9) 10) 0 25 10) 11) 0 27 11) 12) 0 28 12) 13) 0 29 13) 14) 0 30 14) 15) 0 31 15) 16) 0 32 16) 17) 0 33 17) 18) 0 37 18) 19) 0 38 19) 20) 0 39 20) 0)
theorem I_nu1 {G : Kg} : Run G WM0 M_X12_init 1 20 6100 [vA G 0] nu0 (fun _ s => s = nu1) := by
  refine Run.of (by decide +kernel) (by show (1 : Nat) ≤ 1; decide) ?_
  show Ex G WM0 M_X12_init 1 20 6100 0 [(0, vA G 0)] [] nu0 _
  refine R_aload_n e_X12_init_0.1 0 rfl ?_
  refine R_obj e_X12_init_0.2.1 oL_X12_1 oI_1 oI_2 (by decide) (by decide) ?_
  refine R_aload_n e_X12_init_0.2.2.1 0 rfl ?_
  refine R_sipush e_X12_init_0.2.2.2.1 (by decide) ?_
  refine R_newarr 1 20 3598 19 2502 WM0_g e_X12_init_0.2.2.2.2.1 rfl (by decide) aC_int (by decide +kernel) ⟨by decide, by decide, by decide +kernel⟩ (by decide) ⟨by decide, by decide⟩ ?_
  refine R_putA 12 0 0 e_X12_init_0.2.2.2.2.2.1 f_X12_7 (kIs_0 WM0_g (n := 2) (by decide +kernel) ⟨by decide, by decide, by decide +kernel⟩) (Or.inr ⟨rfl, rfl, rfl⟩) rfl (puts0 WM0_g (by decide) (by decide)) rfl ?_
  refine R_aload_n e_X12_init_0.2.2.2.2.2.2.1 0 rfl ?_
  refine R_bipush e_X12_init_0.2.2.2.2.2.2.2.1 (by decide) ?_
  refine R_newarr 2 21 120 18 2382 WM0_g e_X12_init_0.2.2.2.2.2.2.2.2.1 rfl (by decide) aC_long (by decide +kernel) ⟨by decide, by decide, by decide +kernel⟩ (by decide) ⟨by decide, by decide⟩ ?_
  refine R_putA 12 1 1 e_X12_init_0.2.2.2.2.2.2.2.2.2 f_X12_13 (kIs_0 WM0_g (n := 3) (by decide +kernel) ⟨by decide, by decide, by decide +kernel⟩) (Or.inr ⟨rfl, rfl, rfl⟩) rfl (puts0 WM0_g (by decide) (by decide)) rfl ?_
  refine R_aload_n e_X12_init_1.1 0 rfl ?_
  refine R_lconst 1 e_X12_init_1.2.1 (by decide) ?_
  refine R_putL 12 4 4 WM0_ok e_X12_init_1.2.2.1 f_X12_17 (kIs_0 WM0_g (n := 3) (by decide +kernel) ⟨by decide, by decide, by decide +kernel⟩) rfl rfl rfl ?_
  refine R_aload_n e_X12_init_1.2.2.2.1 0 rfl ?_
  refine R_iconst e_X12_init_1.2.2.2.2.1 ?_
  refine R_newarr 3 20 4 17 2378 WM0_g e_X12_init_1.2.2.2.2.2.1 rfl (by decide) aC_int (by decide +kernel) ⟨by decide, by decide, by decide +kernel⟩ (by decide) ⟨by decide, by decide⟩ ?_
  refine R_putA 12 5 5 e_X12_init_1.2.2.2.2.2.2.1 f_X12_21 (kIs_0 WM0_g (n := 4) (by decide +kernel) ⟨by decide, by decide, by decide +kernel⟩) (Or.inr ⟨rfl, rfl, rfl⟩) rfl (puts0 WM0_g (by decide) (by decide)) rfl ?_
  refine R_aload_n e_X12_init_1.2.2.2.2.2.2.2.1 0 rfl ?_
  refine R_iconst e_X12_init_1.2.2.2.2.2.2.2.2.1 ?_
  refine R_newarr 4 20 4 16 2374 WM0_g e_X12_init_1.2.2.2.2.2.2.2.2.2 rfl (by decide) aC_int (by decide +kernel) ⟨by decide, by decide, by decide +kernel⟩ (by decide) ⟨by decide, by decide⟩ ?_
  refine R_dup e_X12_init_2.1 rfl ?_
  refine R_iconst e_X12_init_2.2.1 ?_
  refine R_iconst e_X12_init_2.2.2.1 ?_
  refine R_iast 4 WM0_ok e_X12_init_2.2.2.2.1 (kAr_0 WM0_g (n := 5) (by decide +kernel) ⟨by decide, by decide, by decide +kernel⟩ (by decide)) (by decide) ?_
  refine R_dup e_X12_init_2.2.2.2.2.1 rfl ?_
  refine R_iconst e_X12_init_2.2.2.2.2.2.1 ?_
  refine R_iconst e_X12_init_2.2.2.2.2.2.2.1 ?_
  refine R_iast 4 WM0_ok e_X12_init_2.2.2.2.2.2.2.2.1 (kAr_0 WM0_g (n := 5) (by decide +kernel) ⟨by decide, by decide, by decide +kernel⟩ (by decide)) (by decide) ?_
  refine R_dup e_X12_init_2.2.2.2.2.2.2.2.2.1 rfl ?_
  refine R_iconst e_X12_init_2.2.2.2.2.2.2.2.2.2 ?_
  refine R_iconst e_X12_init_3.1 ?_
  refine R_iast 4 WM0_ok e_X12_init_3.2.1 (kAr_0 WM0_g (n := 5) (by decide +kernel) ⟨by decide, by decide, by decide +kernel⟩ (by decide)) (by decide) ?_
  refine R_dup e_X12_init_3.2.2.1 rfl ?_
  refine R_iconst e_X12_init_3.2.2.2.1 ?_
  refine R_iconst e_X12_init_3.2.2.2.2.1 ?_
  refine R_iast 4 WM0_ok e_X12_init_3.2.2.2.2.2.1 (kAr_0 WM0_g (n := 5) (by decide +kernel) ⟨by decide, by decide, by decide +kernel⟩ (by decide)) (by decide) ?_
  refine R_putA 12 6 6 e_X12_init_3.2.2.2.2.2.2.1 f_X12_24 (kIs_0 WM0_g (n := 5) (by decide +kernel) ⟨by decide, by decide, by decide +kernel⟩) (Or.inr ⟨rfl, rfl, rfl⟩) rfl (puts0 WM0_g (by decide) (by decide)) rfl ?_
  refine R_aload_n e_X12_init_3.2.2.2.2.2.2.2.1 0 rfl ?_
  refine R_sipush e_X12_init_3.2.2.2.2.2.2.2.2.1 (by decide) ?_
  refine R_newarr 5 21 240 15 2134 WM0_g e_X12_init_3.2.2.2.2.2.2.2.2.2 rfl (by decide) aC_long (by decide +kernel) ⟨by decide, by decide, by decide +kernel⟩ (by decide) ⟨by decide, by decide⟩ ?_
  refine R_putA 12 7 7 e_X12_init_4.1 f_X12_27 (kIs_0 WM0_g (n := 6) (by decide +kernel) ⟨by decide, by decide, by decide +kernel⟩) (Or.inr ⟨rfl, rfl, rfl⟩) rfl (puts0 WM0_g (by decide) (by decide)) rfl ?_
  refine R_aload_n e_X12_init_4.2.1 0 rfl ?_
  refine R_sipush e_X12_init_4.2.2.1 (by decide) ?_
  refine R_newarr 6 22 900 14 1234 WM0_g e_X12_init_4.2.2.2.1 rfl (by decide) aC_byte (by decide +kernel) ⟨by decide, by decide, by decide +kernel⟩ (by decide) ⟨by decide, by decide⟩ ?_
  refine R_putA 12 8 8 e_X12_init_4.2.2.2.2.1 f_X12_30 (kIs_0 WM0_g (n := 7) (by decide +kernel) ⟨by decide, by decide, by decide +kernel⟩) (Or.inr ⟨rfl, rfl, rfl⟩) rfl (puts0 WM0_g (by decide) (by decide)) rfl ?_
  refine R_aload_n e_X12_init_4.2.2.2.2.2.1 0 rfl ?_
  refine R_sipush e_X12_init_4.2.2.2.2.2.2.1 (by decide) ?_
  refine R_newarr 7 22 900 13 334 WM0_g e_X12_init_4.2.2.2.2.2.2.2.1 rfl (by decide) aC_byte (by decide +kernel) ⟨by decide, by decide, by decide +kernel⟩ (by decide) ⟨by decide, by decide⟩ ?_
  refine R_putA 12 9 9 e_X12_init_4.2.2.2.2.2.2.2.2.1 f_X12_34 (kIs_0 WM0_g (n := 8) (by decide +kernel) ⟨by decide, by decide, by decide +kernel⟩) (Or.inr ⟨rfl, rfl, rfl⟩) rfl (puts0 WM0_g (by decide) (by decide)) rfl ?_
  refine R_aload_n e_X12_init_4.2.2.2.2.2.2.2.2.2 0 rfl ?_
  refine R_iconst e_X12_init_5.1 ?_
  refine R_putI 12 16 16 WM0_ok e_X12_init_5.2.1 f_X12_37 (kIs_0 WM0_g (n := 8) (by decide +kernel) ⟨by decide, by decide, by decide +kernel⟩) rfl rfl rfl ?_
  refine R_aload_n e_X12_init_5.2.2.1 0 rfl ?_
  refine R_iconst e_X12_init_5.2.2.2.1 ?_
  refine R_putI 12 17 17 WM0_ok e_X12_init_5.2.2.2.2.1 f_X12_41 (kIs_0 WM0_g (n := 8) (by decide +kernel) ⟨by decide, by decide, by decide +kernel⟩) rfl rfl rfl ?_
  refine R_aload_n e_X12_init_5.2.2.2.2.2.1 0 rfl ?_
  refine R_iconst e_X12_init_5.2.2.2.2.2.2.1 ?_
  refine R_newarr 8 20 3 12 331 WM0_g e_X12_init_5.2.2.2.2.2.2.2.1 rfl (by decide) aC_int (by decide +kernel) ⟨by decide, by decide, by decide +kernel⟩ (by decide) ⟨by decide, by decide⟩ ?_
  refine R_putA 12 21 21 e_X12_init_5.2.2.2.2.2.2.2.2.1 f_X12_44 (kIs_0 WM0_g (n := 9) (by decide +kernel) ⟨by decide, by decide, by decide +kernel⟩) (Or.inr ⟨rfl, rfl, rfl⟩) rfl (puts0 WM0_g (by decide) (by decide)) rfl ?_
  refine R_aload_n e_X12_init_5.2.2.2.2.2.2.2.2.2 0 rfl ?_
  refine R_bipush e_X12_init_6.1 (by decide) ?_
  refine R_newarr 9 20 70 11 261 WM0_g e_X12_init_6.2.1 rfl (by decide) aC_int (by decide +kernel) ⟨by decide, by decide, by decide +kernel⟩ (by decide) ⟨by decide, by decide⟩ ?_
  refine R_putA 12 24 24 e_X12_init_6.2.2.1 f_X12_47 (kIs_0 WM0_g (n := 10) (by decide +kernel) ⟨by decide, by decide, by decide +kernel⟩) (Or.inr ⟨rfl, rfl, rfl⟩) rfl (puts0 WM0_g (by decide) (by decide)) rfl ?_
  refine R_aload_n e_X12_init_6.2.2.2.1 0 rfl ?_
  refine R_iconst e_X12_init_6.2.2.2.2.1 ?_
  refine R_newarr 10 20 5 10 256 WM0_g e_X12_init_6.2.2.2.2.2.1 rfl (by decide) aC_int (by decide +kernel) ⟨by decide, by decide, by decide +kernel⟩ (by decide) ⟨by decide, by decide⟩ ?_
  refine R_putA 12 25 25 e_X12_init_6.2.2.2.2.2.2.1 f_X12_50 (kIs_0 WM0_g (n := 11) (by decide +kernel) ⟨by decide, by decide, by decide +kernel⟩) (Or.inr ⟨rfl, rfl, rfl⟩) rfl (puts0 WM0_g (by decide) (by decide)) rfl ?_
  refine R_aload_n e_X12_init_6.2.2.2.2.2.2.2.1 0 rfl ?_
  refine R_bipush e_X12_init_6.2.2.2.2.2.2.2.2.1 (by decide) ?_
  refine R_newarr 11 20 70 9 186 WM0_g e_X12_init_6.2.2.2.2.2.2.2.2.2 rfl (by decide) aC_int (by decide +kernel) ⟨by decide, by decide, by decide +kernel⟩ (by decide) ⟨by decide, by decide⟩ ?_
  refine R_putA 12 27 27 e_X12_init_7.1 f_X12_53 (kIs_0 WM0_g (n := 12) (by decide +kernel) ⟨by decide, by decide, by decide +kernel⟩) (Or.inr ⟨rfl, rfl, rfl⟩) rfl (puts0 WM0_g (by decide) (by decide)) rfl ?_
  refine R_aload_n e_X12_init_7.2.1 0 rfl ?_
  refine R_bipush e_X12_init_7.2.2.1 (by decide) ?_
  refine R_newarr 12 20 70 8 116 WM0_g e_X12_init_7.2.2.2.1 rfl (by decide) aC_int (by decide +kernel) ⟨by decide, by decide, by decide +kernel⟩ (by decide) ⟨by decide, by decide⟩ ?_
  refine R_putA 12 28 28 e_X12_init_7.2.2.2.2.1 f_X12_56 (kIs_0 WM0_g (n := 13) (by decide +kernel) ⟨by decide, by decide, by decide +kernel⟩) (Or.inr ⟨rfl, rfl, rfl⟩) rfl (puts0 WM0_g (by decide) (by decide)) rfl ?_
  refine R_aload_n e_X12_init_7.2.2.2.2.2.1 0 rfl ?_
  refine R_bipush e_X12_init_7.2.2.2.2.2.2.1 (by decide) ?_
  refine R_newarr 13 20 6 7 110 WM0_g e_X12_init_7.2.2.2.2.2.2.2.1 rfl (by decide) aC_int (by decide +kernel) ⟨by decide, by decide, by decide +kernel⟩ (by decide) ⟨by decide, by decide⟩ ?_
  refine R_putA 12 29 29 e_X12_init_7.2.2.2.2.2.2.2.2.1 f_X12_59 (kIs_0 WM0_g (n := 14) (by decide +kernel) ⟨by decide, by decide, by decide +kernel⟩) (Or.inr ⟨rfl, rfl, rfl⟩) rfl (puts0 WM0_g (by decide) (by decide)) rfl ?_
  refine R_aload_n e_X12_init_7.2.2.2.2.2.2.2.2.2 0 rfl ?_
  refine R_iconst e_X12_init_8.1 ?_
  refine R_newarr 14 20 5 6 105 WM0_g e_X12_init_8.2.1 rfl (by decide) aC_int (by decide +kernel) ⟨by decide, by decide, by decide +kernel⟩ (by decide) ⟨by decide, by decide⟩ ?_
  refine R_putA 12 30 30 e_X12_init_8.2.2.1 f_X12_62 (kIs_0 WM0_g (n := 15) (by decide +kernel) ⟨by decide, by decide, by decide +kernel⟩) (Or.inr ⟨rfl, rfl, rfl⟩) rfl (puts0 WM0_g (by decide) (by decide)) rfl ?_
  refine R_aload_n e_X12_init_8.2.2.2.1 0 rfl ?_
  refine R_iconst e_X12_init_8.2.2.2.2.1 ?_
  refine R_newarr 15 20 5 5 100 WM0_g e_X12_init_8.2.2.2.2.2.1 rfl (by decide) aC_int (by decide +kernel) ⟨by decide, by decide, by decide +kernel⟩ (by decide) ⟨by decide, by decide⟩ ?_
  refine R_putA 12 31 31 e_X12_init_8.2.2.2.2.2.2.1 f_X12_65 (kIs_0 WM0_g (n := 16) (by decide +kernel) ⟨by decide, by decide, by decide +kernel⟩) (Or.inr ⟨rfl, rfl, rfl⟩) rfl (puts0 WM0_g (by decide) (by decide)) rfl ?_
  refine R_aload_n e_X12_init_8.2.2.2.2.2.2.2.1 0 rfl ?_
  refine R_iconst e_X12_init_8.2.2.2.2.2.2.2.2.1 ?_
  refine R_newarr 16 20 5 4 95 WM0_g e_X12_init_8.2.2.2.2.2.2.2.2.2 rfl (by decide) aC_int (by decide +kernel) ⟨by decide, by decide, by decide +kernel⟩ (by decide) ⟨by decide, by decide⟩ ?_
  refine R_putA 12 32 32 e_X12_init_9.1 f_X12_68 (kIs_0 WM0_g (n := 17) (by decide +kernel) ⟨by decide, by decide, by decide +kernel⟩) (Or.inr ⟨rfl, rfl, rfl⟩) rfl (puts0 WM0_g (by decide) (by decide)) rfl ?_
  refine R_aload_n e_X12_init_9.2.1 0 rfl ?_
  refine R_iconst e_X12_init_9.2.2.1 ?_
  refine R_newarr 17 20 5 3 90 WM0_g e_X12_init_9.2.2.2.1 rfl (by decide) aC_int (by decide +kernel) ⟨by decide, by decide, by decide +kernel⟩ (by decide) ⟨by decide, by decide⟩ ?_
  refine R_putA 12 33 33 e_X12_init_9.2.2.2.2.1 f_X12_71 (kIs_0 WM0_g (n := 18) (by decide +kernel) ⟨by decide, by decide, by decide +kernel⟩) (Or.inr ⟨rfl, rfl, rfl⟩) rfl (puts0 WM0_g (by decide) (by decide)) rfl ?_
  refine R_aload_n e_X12_init_9.2.2.2.2.2.1 0 rfl ?_
  refine R_bipush e_X12_init_9.2.2.2.2.2.2.1 (by decide) ?_
  refine R_newarr 18 20 80 2 10 WM0_g e_X12_init_9.2.2.2.2.2.2.2.1 rfl (by decide) aC_int (by decide +kernel) ⟨by decide, by decide, by decide +kernel⟩ (by decide) ⟨by decide, by decide⟩ ?_
  refine R_putA 12 37 37 e_X12_init_9.2.2.2.2.2.2.2.2.1 f_X12_74 (kIs_0 WM0_g (n := 19) (by decide +kernel) ⟨by decide, by decide, by decide +kernel⟩) (Or.inr ⟨rfl, rfl, rfl⟩) rfl (puts0 WM0_g (by decide) (by decide)) rfl ?_
  refine R_aload_n e_X12_init_9.2.2.2.2.2.2.2.2.2 0 rfl ?_
  refine R_iconst e_X12_init_10.1 ?_
  refine R_newarr 19 20 5 1 5 WM0_g e_X12_init_10.2.1 rfl (by decide) aC_int (by decide +kernel) ⟨by decide, by decide, by decide +kernel⟩ (by decide) ⟨by decide, by decide⟩ ?_
  refine R_putA 12 38 38 e_X12_init_10.2.2.1 f_X12_77 (kIs_0 WM0_g (n := 20) (by decide +kernel) ⟨by decide, by decide, by decide +kernel⟩) (Or.inr ⟨rfl, rfl, rfl⟩) rfl (puts0 WM0_g (by decide) (by decide)) rfl ?_
  refine R_aload_n e_X12_init_10.2.2.2.1 0 rfl ?_
  refine R_iconst e_X12_init_10.2.2.2.2.1 ?_
  refine R_newarr 20 20 5 0 0 WM0_g e_X12_init_10.2.2.2.2.2.1 rfl (by decide) aC_int (by decide +kernel) ⟨by decide, by decide, by decide +kernel⟩ (by decide) ⟨by decide, by decide⟩ ?_
  refine R_putA 12 39 39 e_X12_init_10.2.2.2.2.2.2.1 f_X12_80 (kIs_0 WM0_g (n := 21) (by decide +kernel) ⟨by decide, by decide, by decide +kernel⟩) (Or.inr ⟨rfl, rfl, rfl⟩) rfl (puts0 WM0_g (by decide) (by decide)) rfl ?_
  refine R_aload_n e_X12_init_10.2.2.2.2.2.2.2.1 0 rfl ?_
  refine R_iconst e_X12_init_10.2.2.2.2.2.2.2.2.1 ?_
  refine R_callV (mc := 0) (ms := 0) (mc' := 0) (ms' := 0) (M' := M_X12_plain) (d' := 0) (as := [vI 0]) (st := []) 12 1 e_X12_init_10.2.2.2.2.2.2.2.2.2 (kCVof m_X12_plain l_X12_83) rfl (by decide) (kIs_0 WM0_g (n := 21) (by decide +kernel) ⟨by decide, by decide, by decide +kernel⟩) (by decide) (by decide) rfl rfl (by show (0 : Nat) ≤ 8; decide) ?_
  refine Run.mono (I_plain (by decide +kernel) (by decide +kernel)) (fun r s e => ?_)
  refine R_eqs (st2 := []) (σ2 := (tPl (kup (kmk (kup (kmk (kup (kmk (kup (kmk (kup (kmk (kup (kmk (kup (kmk (kup (kmk (kup (kmk (kup (kmk (kup (kmk (kup (kmk (kup (kmk (kup (kup (kup (kmk (kup (kmk (kup (kmk (kup (kup (kup (kup (kup (kmk (kup (kmk (kup (kup (kmk (kup (kmk nu0 1) 0 0 1) 2) 0 1 2) 0 4 1) 3) 0 5 3) 4) 4 0 (-1)) 4 1 (-1)) 4 2 (-1)) 4 3 (-1)) 0 6 4) 5) 0 7 5) 6) 0 8 6) 7) 0 9 7) 0 16 (-1)) 0 17 (-1)) 8) 0 21 8) 9) 0 24 9) 10) 0 25 10) 11) 0 27 11) 12) 0 28 12) 13) 0 29 13) 14) 0 30 14) 15) 0 31 15) 16) 0 32 16) 17) 0 33 17) 18) 0 37 18) 19) 0 38 19) 20) 0 39 20) 0)) rfl e.2 ?_
  exact R_return e_X12_init_11 rfl rfl
