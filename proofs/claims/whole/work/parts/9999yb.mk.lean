/-! THE CLASS, MADE (2) -/
def mu10 : Kmem := mu9
theorem I_mu10 {G : Kg} : Run G WX0 M_X0_init 2 25 180 [vA G 31] mu7 (fun _ s => s = mu10) := by
  refine Run.of (by decide +kernel) (by show (1 : Nat) ≤ 2; decide) ?_
  show Ex G WX0 M_X0_init 2 25 180 0 [(0, vA G 31)] [] mu7 _
  refine R_aload_n e_X0_init_0.1 0 rfl ?_
  refine R_obj e_X0_init_0.2.1 oL_X0_3 oI_1 oI_2 (by decide) (by decide) ?_
  refine R_aload_n e_X0_init_0.2.2.1 0 rfl ?_
  refine R_iconst e_X0_init_0.2.2.2.1 ?_
  refine R_putI 0 0 0 WX0_ok e_X0_init_0.2.2.2.2.1 f_X0_9 (kIs_0 WX0_g (n := 32) (by decide +kernel) ⟨by decide, by decide, by decide +kernel⟩) rfl rfl rfl ?_
  refine R_aload_n e_X0_init_0.2.2.2.2.2.1 0 rfl ?_
  refine R_iconst e_X0_init_0.2.2.2.2.2.2.1 ?_
  refine R_putI 0 1 1 WX0_ok e_X0_init_0.2.2.2.2.2.2.2.1 f_X0_15 (kIs_0 WX0_g (n := 32) (by decide +kernel) ⟨by decide, by decide, by decide +kernel⟩) rfl rfl rfl ?_
  refine R_aload_n e_X0_init_0.2.2.2.2.2.2.2.2.1 0 rfl ?_
  refine R_bipush e_X0_init_0.2.2.2.2.2.2.2.2.2 (by decide) ?_
  refine R_putI 0 2 2 WX0_ok e_X0_init_1.1 f_X0_18 (kIs_0 WX0_g (n := 32) (by decide +kernel) ⟨by decide, by decide, by decide +kernel⟩) rfl rfl rfl ?_
  refine R_aload_n e_X0_init_1.2.1 0 rfl ?_
  refine R_iconst e_X0_init_1.2.2.1 ?_
  refine R_putI 0 3 3 WX0_ok e_X0_init_1.2.2.2.1 f_X0_21 (kIs_0 WX0_g (n := 32) (by decide +kernel) ⟨by decide, by decide, by decide +kernel⟩) rfl rfl rfl ?_
  refine R_aload_n e_X0_init_1.2.2.2.2.1 0 rfl ?_
  refine R_iconst e_X0_init_1.2.2.2.2.2.1 ?_
  refine R_putI 0 4 4 WX0_ok e_X0_init_1.2.2.2.2.2.2.1 f_X0_24 (kIs_0 WX0_g (n := 32) (by decide +kernel) ⟨by decide, by decide, by decide +kernel⟩) rfl rfl rfl ?_
  refine R_aload_n e_X0_init_1.2.2.2.2.2.2.2.1 0 rfl ?_
  refine R_iconst e_X0_init_1.2.2.2.2.2.2.2.2.1 ?_
  refine R_putI 0 5 5 WX0_ok e_X0_init_1.2.2.2.2.2.2.2.2.2 f_X0_27 (kIs_0 WX0_g (n := 32) (by decide +kernel) ⟨by decide, by decide, by decide +kernel⟩) rfl rfl rfl ?_
  refine R_aload_n e_X0_init_2.1 0 rfl ?_
  refine R_iconst e_X0_init_2.2.1 ?_
  refine R_putI 0 6 6 WX0_ok e_X0_init_2.2.2.1 f_X0_30 (kIs_0 WX0_g (n := 32) (by decide +kernel) ⟨by decide, by decide, by decide +kernel⟩) rfl rfl rfl ?_
  refine R_aload_n e_X0_init_2.2.2.2.1 0 rfl ?_
  refine R_iconst e_X0_init_2.2.2.2.2.1 ?_
  refine R_putI 0 7 7 WX0_ok e_X0_init_2.2.2.2.2.2.1 f_X0_33 (kIs_0 WX0_g (n := 32) (by decide +kernel) ⟨by decide, by decide, by decide +kernel⟩) rfl rfl rfl ?_
  refine R_aload_n e_X0_init_2.2.2.2.2.2.2.1 0 rfl ?_
  refine R_bipush e_X0_init_2.2.2.2.2.2.2.2.1 (by decide) ?_
  refine R_newarr 32 20 12 24 168 WX0_g e_X0_init_2.2.2.2.2.2.2.2.2.1 rfl (by decide) aC_int (by decide +kernel) ⟨by decide, by decide, by decide +kernel⟩ (by decide) ⟨by decide, by decide⟩ ?_
  refine R_putA 0 8 8 e_X0_init_2.2.2.2.2.2.2.2.2.2 f_X0_36 (kIs_0 WX0_g (n := 33) (by decide +kernel) ⟨by decide, by decide, by decide +kernel⟩) (Or.inr ⟨rfl, rfl, rfl⟩) rfl (puts0 WX0_g (by decide) (by decide)) rfl ?_
  refine R_aload_n e_X0_init_3.1 0 rfl ?_
  refine R_bipush e_X0_init_3.2.1 (by decide) ?_
  refine R_newarr 33 20 12 23 156 WX0_g e_X0_init_3.2.2.1 rfl (by decide) aC_int (by decide +kernel) ⟨by decide, by decide, by decide +kernel⟩ (by decide) ⟨by decide, by decide⟩ ?_
  refine R_putA 0 9 9 e_X0_init_3.2.2.2.1 f_X0_40 (kIs_0 WX0_g (n := 34) (by decide +kernel) ⟨by decide, by decide, by decide +kernel⟩) (Or.inr ⟨rfl, rfl, rfl⟩) rfl (puts0 WX0_g (by decide) (by decide)) rfl ?_
  refine R_aload_n e_X0_init_3.2.2.2.2.1 0 rfl ?_
  refine R_bipush e_X0_init_3.2.2.2.2.2.1 (by decide) ?_
  refine R_newq (C := RX3) 34 27 6 22 150 WX0_g e_X0_init_3.2.2.2.2.2.2.1 (by decide) rfl cL_X0_43 aO_X3 (by decide +kernel) ⟨by decide, by decide, by decide +kernel⟩ (by decide) ⟨by decide, by decide⟩ ?_
  refine R_putA 0 10 10 e_X0_init_3.2.2.2.2.2.2.2.1 f_X0_45 (kIs_0 WX0_g (n := 35) (by decide +kernel) ⟨by decide, by decide, by decide +kernel⟩) (Or.inr ⟨rfl, rfl, rfl⟩) rfl (puts0 WX0_g (by decide) (by decide)) rfl ?_
  refine R_aload_n e_X0_init_3.2.2.2.2.2.2.2.2.1 0 rfl ?_
  refine R_bipush e_X0_init_3.2.2.2.2.2.2.2.2.2 (by decide) ?_
  refine R_newq (C := RX2) 35 28 8 21 142 WX0_g e_X0_init_4.1 (by decide) rfl cL_X0_49 aO_X2 (by decide +kernel) ⟨by decide, by decide, by decide +kernel⟩ (by decide) ⟨by decide, by decide⟩ ?_
  refine R_putA 0 11 11 e_X0_init_4.2.1 f_X0_51 (kIs_0 WX0_g (n := 36) (by decide +kernel) ⟨by decide, by decide, by decide +kernel⟩) (Or.inr ⟨rfl, rfl, rfl⟩) rfl (puts0 WX0_g (by decide) (by decide)) rfl ?_
  refine R_aload_n e_X0_init_4.2.2.1 0 rfl ?_
  refine R_bipush e_X0_init_4.2.2.2.1 (by decide) ?_
  refine R_newq (C := RX9) 36 29 6 20 136 WX0_g e_X0_init_4.2.2.2.2.1 (by decide) rfl cL_X0_55 aO_X9 (by decide +kernel) ⟨by decide, by decide, by decide +kernel⟩ (by decide) ⟨by decide, by decide⟩ ?_
  refine R_putA 0 12 12 e_X0_init_4.2.2.2.2.2.1 f_X0_57 (kIs_0 WX0_g (n := 37) (by decide +kernel) ⟨by decide, by decide, by decide +kernel⟩) (Or.inr ⟨rfl, rfl, rfl⟩) rfl (puts0 WX0_g (by decide) (by decide)) rfl ?_
  refine R_iconst e_X0_init_4.2.2.2.2.2.2.1 ?_
  refine R_istore_n (ls2 := [(1, vI 0), (0, vA G 31)]) e_X0_init_4.2.2.2.2.2.2.2.1 (by decide) rfl ?_
  refine R_iload_n e_X0_init_4.2.2.2.2.2.2.2.2.1 0 rfl ?_
  refine R_bipush e_X0_init_4.2.2.2.2.2.2.2.2.2 (by decide) ?_
  refine R_icmp_ge 115 e_X0_init_5.1 (by decide) (by decide) (by decide) (fun q => absurd q (by decide)) (fun q => ?_)
  refine R_aload_n e_X0_init_5.2.1 1 rfl ?_
  refine R_getA 0 10 34 e_X0_init_5.2.2.1 f_X0_45 (kIs_0 WX0_g (n := 37) (by decide +kernel) ⟨by decide, by decide, by decide +kernel⟩) (fun _ _ => rfl) (by decide +kernel) (by decide) ?_
  refine R_iload_n e_X0_init_5.2.2.2.1 0 rfl ?_
  refine R_new 37 3 19 126 WX0_g e_X0_init_5.2.2.2.2.1 ⟨by decide, cL_X0_43⟩ cI_X3 cN_X3 (by decide +kernel) ⟨by decide, by decide, by decide +kernel⟩ ⟨by decide, by decide⟩ ?_
  refine R_dup e_X0_init_5.2.2.2.2.2.1 rfl ?_
  refine R_callIN (mc := 19) (ms := 126) (mc' := 0) (ms' := 0) (M' := M_X3_init) (d' := 1) (as := []) (st := [vA G 37, vI 0, vA G 34]) 0 e_X0_init_5.2.2.2.2.2.2.1 m_X3_init kn_X0_61 (by decide) (by decide) rfl rfl (by show (3 : Nat) ≤ 8; decide) ?_
  refine Run.mono (I_X3 (kIs_s WX0_g (n := 38) (by decide +kernel) ⟨by decide, by decide, by decide +kernel⟩) (by decide)) (fun r s e => ?_)
  refine R_eqs (st2 := [vA G 37, vI 0, vA G 34]) (σ2 := (iX3 (kmk (kup (kmk (kup (kmk (kup (kmk (kup (kmk (kup (kmk (kup (kup (kup (kup (kup (kup (kup (kup mu7 31 0 0) 31 1 0) 31 2 6) 31 3 0) 31 4 0) 31 5 0) 31 6 0) 31 7 0) 32) 31 8 32) 33) 31 9 33) 34) 31 10 34) 35) 31 11 35) 36) 31 12 36) 37) 37)) rfl e ?_
  refine R_astq 27 3 6 WX0_g e_X0_init_5.2.2.2.2.2.2.2.1 (by decide) rfl (by decide) (kAr_0 WX0_g (n := 38) (by decide +kernel) ⟨by decide, by decide, by decide +kernel⟩ (by decide)) (kIs_0 WX0_g (n := 38) (by decide +kernel) ⟨by decide, by decide, by decide +kernel⟩) (by decide) (by decide) ?_
  refine R_iinc (ls2 := [(1, vI 1), (0, vA G 31)]) e_X0_init_5.2.2.2.2.2.2.2.2.1 0 rfl (by decide) rfl ?_
  refine R_goto 90 e_X0_init_5.2.2.2.2.2.2.2.2.2 (by decide) ?_
  refine R_iload_n e_X0_init_4.2.2.2.2.2.2.2.2.1 0 rfl ?_
  refine R_bipush e_X0_init_4.2.2.2.2.2.2.2.2.2 (by decide) ?_
  refine R_icmp_ge 115 e_X0_init_5.1 (by decide) (by decide) (by decide) (fun q => absurd q (by decide)) (fun q => ?_)
  refine R_aload_n e_X0_init_5.2.1 1 rfl ?_
  refine R_getA 0 10 34 e_X0_init_5.2.2.1 f_X0_45 (kIs_0 WX0_g (n := 38) (by decide +kernel) ⟨by decide, by decide, by decide +kernel⟩) (fun _ _ => rfl) (by decide +kernel) (by decide) ?_
  refine R_iload_n e_X0_init_5.2.2.2.1 0 rfl ?_
  refine R_new 38 3 18 116 WX0_g e_X0_init_5.2.2.2.2.1 ⟨by decide, cL_X0_43⟩ cI_X3 cN_X3 (by decide +kernel) ⟨by decide, by decide, by decide +kernel⟩ ⟨by decide, by decide⟩ ?_
  refine R_dup e_X0_init_5.2.2.2.2.2.1 rfl ?_
  refine R_callIN (mc := 18) (ms := 116) (mc' := 0) (ms' := 0) (M' := M_X3_init) (d' := 1) (as := []) (st := [vA G 38, vI 1, vA G 34]) 0 e_X0_init_5.2.2.2.2.2.2.1 m_X3_init kn_X0_61 (by decide) (by decide) rfl rfl (by show (3 : Nat) ≤ 8; decide) ?_
  refine Run.mono (I_X3 (kIs_s WX0_g (n := 39) (by decide +kernel) ⟨by decide, by decide, by decide +kernel⟩) (by decide)) (fun r s e => ?_)
  refine R_eqs (st2 := [vA G 38, vI 1, vA G 34]) (σ2 := (iX3 (kmk (kup (iX3 (kmk (kup (kmk (kup (kmk (kup (kmk (kup (kmk (kup (kmk (kup (kup (kup (kup (kup (kup (kup (kup mu7 31 0 0) 31 1 0) 31 2 6) 31 3 0) 31 4 0) 31 5 0) 31 6 0) 31 7 0) 32) 31 8 32) 33) 31 9 33) 34) 31 10 34) 35) 31 11 35) 36) 31 12 36) 37) 37) 34 0 37) 38) 38)) rfl e ?_
  refine R_astq 27 3 6 WX0_g e_X0_init_5.2.2.2.2.2.2.2.1 (by decide) rfl (by decide) (kAr_0 WX0_g (n := 39) (by decide +kernel) ⟨by decide, by decide, by decide +kernel⟩ (by decide)) (kIs_0 WX0_g (n := 39) (by decide +kernel) ⟨by decide, by decide, by decide +kernel⟩) (by decide) (by decide) ?_
  refine R_iinc (ls2 := [(1, vI 2), (0, vA G 31)]) e_X0_init_5.2.2.2.2.2.2.2.2.1 0 rfl (by decide) rfl ?_
  refine R_goto 90 e_X0_init_5.2.2.2.2.2.2.2.2.2 (by decide) ?_
  refine R_iload_n e_X0_init_4.2.2.2.2.2.2.2.2.1 0 rfl ?_
  refine R_bipush e_X0_init_4.2.2.2.2.2.2.2.2.2 (by decide) ?_
  refine R_icmp_ge 115 e_X0_init_5.1 (by decide) (by decide) (by decide) (fun q => absurd q (by decide)) (fun q => ?_)
  refine R_aload_n e_X0_init_5.2.1 1 rfl ?_
  refine R_getA 0 10 34 e_X0_init_5.2.2.1 f_X0_45 (kIs_0 WX0_g (n := 39) (by decide +kernel) ⟨by decide, by decide, by decide +kernel⟩) (fun _ _ => rfl) (by decide +kernel) (by decide) ?_
  refine R_iload_n e_X0_init_5.2.2.2.1 0 rfl ?_
  refine R_new 39 3 17 106 WX0_g e_X0_init_5.2.2.2.2.1 ⟨by decide, cL_X0_43⟩ cI_X3 cN_X3 (by decide +kernel) ⟨by decide, by decide, by decide +kernel⟩ ⟨by decide, by decide⟩ ?_
  refine R_dup e_X0_init_5.2.2.2.2.2.1 rfl ?_
  refine R_callIN (mc := 17) (ms := 106) (mc' := 0) (ms' := 0) (M' := M_X3_init) (d' := 1) (as := []) (st := [vA G 39, vI 2, vA G 34]) 0 e_X0_init_5.2.2.2.2.2.2.1 m_X3_init kn_X0_61 (by decide) (by decide) rfl rfl (by show (3 : Nat) ≤ 8; decide) ?_
  refine Run.mono (I_X3 (kIs_s WX0_g (n := 40) (by decide +kernel) ⟨by decide, by decide, by decide +kernel⟩) (by decide)) (fun r s e => ?_)
  refine R_eqs (st2 := [vA G 39, vI 2, vA G 34]) (σ2 := (iX3 (kmk (kup (iX3 (kmk (kup (iX3 (kmk (kup (kmk (kup (kmk (kup (kmk (kup (kmk (kup (kmk (kup (kup (kup (kup (kup (kup (kup (kup mu7 31 0 0) 31 1 0) 31 2 6) 31 3 0) 31 4 0) 31 5 0) 31 6 0) 31 7 0) 32) 31 8 32) 33) 31 9 33) 34) 31 10 34) 35) 31 11 35) 36) 31 12 36) 37) 37) 34 0 37) 38) 38) 34 1 38) 39) 39)) rfl e ?_
  refine R_astq 27 3 6 WX0_g e_X0_init_5.2.2.2.2.2.2.2.1 (by decide) rfl (by decide) (kAr_0 WX0_g (n := 40) (by decide +kernel) ⟨by decide, by decide, by decide +kernel⟩ (by decide)) (kIs_0 WX0_g (n := 40) (by decide +kernel) ⟨by decide, by decide, by decide +kernel⟩) (by decide) (by decide) ?_
  refine R_iinc (ls2 := [(1, vI 3), (0, vA G 31)]) e_X0_init_5.2.2.2.2.2.2.2.2.1 0 rfl (by decide) rfl ?_
  refine R_goto 90 e_X0_init_5.2.2.2.2.2.2.2.2.2 (by decide) ?_
  refine R_iload_n e_X0_init_4.2.2.2.2.2.2.2.2.1 0 rfl ?_
  refine R_bipush e_X0_init_4.2.2.2.2.2.2.2.2.2 (by decide) ?_
  refine R_icmp_ge 115 e_X0_init_5.1 (by decide) (by decide) (by decide) (fun q => absurd q (by decide)) (fun q => ?_)
  refine R_aload_n e_X0_init_5.2.1 1 rfl ?_
  refine R_getA 0 10 34 e_X0_init_5.2.2.1 f_X0_45 (kIs_0 WX0_g (n := 40) (by decide +kernel) ⟨by decide, by decide, by decide +kernel⟩) (fun _ _ => rfl) (by decide +kernel) (by decide) ?_
  refine R_iload_n e_X0_init_5.2.2.2.1 0 rfl ?_
  refine R_new 40 3 16 96 WX0_g e_X0_init_5.2.2.2.2.1 ⟨by decide, cL_X0_43⟩ cI_X3 cN_X3 (by decide +kernel) ⟨by decide, by decide, by decide +kernel⟩ ⟨by decide, by decide⟩ ?_
  refine R_dup e_X0_init_5.2.2.2.2.2.1 rfl ?_
  refine R_callIN (mc := 16) (ms := 96) (mc' := 0) (ms' := 0) (M' := M_X3_init) (d' := 1) (as := []) (st := [vA G 40, vI 3, vA G 34]) 0 e_X0_init_5.2.2.2.2.2.2.1 m_X3_init kn_X0_61 (by decide) (by decide) rfl rfl (by show (3 : Nat) ≤ 8; decide) ?_
  refine Run.mono (I_X3 (kIs_s WX0_g (n := 41) (by decide +kernel) ⟨by decide, by decide, by decide +kernel⟩) (by decide)) (fun r s e => ?_)
  refine R_eqs (st2 := [vA G 40, vI 3, vA G 34]) (σ2 := (iX3 (kmk (kup (iX3 (kmk (kup (iX3 (kmk (kup (iX3 (kmk (kup (kmk (kup (kmk (kup (kmk (kup (kmk (kup (kmk (kup (kup (kup (kup (kup (kup (kup (kup mu7 31 0 0) 31 1 0) 31 2 6) 31 3 0) 31 4 0) 31 5 0) 31 6 0) 31 7 0) 32) 31 8 32) 33) 31 9 33) 34) 31 10 34) 35) 31 11 35) 36) 31 12 36) 37) 37) 34 0 37) 38) 38) 34 1 38) 39) 39) 34 2 39) 40) 40)) rfl e ?_
  refine R_astq 27 3 6 WX0_g e_X0_init_5.2.2.2.2.2.2.2.1 (by decide) rfl (by decide) (kAr_0 WX0_g (n := 41) (by decide +kernel) ⟨by decide, by decide, by decide +kernel⟩ (by decide)) (kIs_0 WX0_g (n := 41) (by decide +kernel) ⟨by decide, by decide, by decide +kernel⟩) (by decide) (by decide) ?_
  refine R_iinc (ls2 := [(1, vI 4), (0, vA G 31)]) e_X0_init_5.2.2.2.2.2.2.2.2.1 0 rfl (by decide) rfl ?_
  refine R_goto 90 e_X0_init_5.2.2.2.2.2.2.2.2.2 (by decide) ?_
  refine R_iload_n e_X0_init_4.2.2.2.2.2.2.2.2.1 0 rfl ?_
  refine R_bipush e_X0_init_4.2.2.2.2.2.2.2.2.2 (by decide) ?_
  refine R_icmp_ge 115 e_X0_init_5.1 (by decide) (by decide) (by decide) (fun q => absurd q (by decide)) (fun q => ?_)
  refine R_aload_n e_X0_init_5.2.1 1 rfl ?_
  refine R_getA 0 10 34 e_X0_init_5.2.2.1 f_X0_45 (kIs_0 WX0_g (n := 41) (by decide +kernel) ⟨by decide, by decide, by decide +kernel⟩) (fun _ _ => rfl) (by decide +kernel) (by decide) ?_
  refine R_iload_n e_X0_init_5.2.2.2.1 0 rfl ?_
  refine R_new 41 3 15 86 WX0_g e_X0_init_5.2.2.2.2.1 ⟨by decide, cL_X0_43⟩ cI_X3 cN_X3 (by decide +kernel) ⟨by decide, by decide, by decide +kernel⟩ ⟨by decide, by decide⟩ ?_
  refine R_dup e_X0_init_5.2.2.2.2.2.1 rfl ?_
  refine R_callIN (mc := 15) (ms := 86) (mc' := 0) (ms' := 0) (M' := M_X3_init) (d' := 1) (as := []) (st := [vA G 41, vI 4, vA G 34]) 0 e_X0_init_5.2.2.2.2.2.2.1 m_X3_init kn_X0_61 (by decide) (by decide) rfl rfl (by show (3 : Nat) ≤ 8; decide) ?_
  refine Run.mono (I_X3 (kIs_s WX0_g (n := 42) (by decide +kernel) ⟨by decide, by decide, by decide +kernel⟩) (by decide)) (fun r s e => ?_)
  refine R_eqs (st2 := [vA G 41, vI 4, vA G 34]) (σ2 := (iX3 (kmk (kup (iX3 (kmk (kup (iX3 (kmk (kup (iX3 (kmk (kup (iX3 (kmk (kup (kmk (kup (kmk (kup (kmk (kup (kmk (kup (kmk (kup (kup (kup (kup (kup (kup (kup (kup mu7 31 0 0) 31 1 0) 31 2 6) 31 3 0) 31 4 0) 31 5 0) 31 6 0) 31 7 0) 32) 31 8 32) 33) 31 9 33) 34) 31 10 34) 35) 31 11 35) 36) 31 12 36) 37) 37) 34 0 37) 38) 38) 34 1 38) 39) 39) 34 2 39) 40) 40) 34 3 40) 41) 41)) rfl e ?_
  refine R_astq 27 3 6 WX0_g e_X0_init_5.2.2.2.2.2.2.2.1 (by decide) rfl (by decide) (kAr_0 WX0_g (n := 42) (by decide +kernel) ⟨by decide, by decide, by decide +kernel⟩ (by decide)) (kIs_0 WX0_g (n := 42) (by decide +kernel) ⟨by decide, by decide, by decide +kernel⟩) (by decide) (by decide) ?_
  refine R_iinc (ls2 := [(1, vI 5), (0, vA G 31)]) e_X0_init_5.2.2.2.2.2.2.2.2.1 0 rfl (by decide) rfl ?_
  refine R_goto 90 e_X0_init_5.2.2.2.2.2.2.2.2.2 (by decide) ?_
  refine R_iload_n e_X0_init_4.2.2.2.2.2.2.2.2.1 0 rfl ?_
  refine R_bipush e_X0_init_4.2.2.2.2.2.2.2.2.2 (by decide) ?_
  refine R_icmp_ge 115 e_X0_init_5.1 (by decide) (by decide) (by decide) (fun q => absurd q (by decide)) (fun q => ?_)
  refine R_aload_n e_X0_init_5.2.1 1 rfl ?_
  refine R_getA 0 10 34 e_X0_init_5.2.2.1 f_X0_45 (kIs_0 WX0_g (n := 42) (by decide +kernel) ⟨by decide, by decide, by decide +kernel⟩) (fun _ _ => rfl) (by decide +kernel) (by decide) ?_
  refine R_iload_n e_X0_init_5.2.2.2.1 0 rfl ?_
  refine R_new 42 3 14 76 WX0_g e_X0_init_5.2.2.2.2.1 ⟨by decide, cL_X0_43⟩ cI_X3 cN_X3 (by decide +kernel) ⟨by decide, by decide, by decide +kernel⟩ ⟨by decide, by decide⟩ ?_
  refine R_dup e_X0_init_5.2.2.2.2.2.1 rfl ?_
  refine R_callIN (mc := 14) (ms := 76) (mc' := 0) (ms' := 0) (M' := M_X3_init) (d' := 1) (as := []) (st := [vA G 42, vI 5, vA G 34]) 0 e_X0_init_5.2.2.2.2.2.2.1 m_X3_init kn_X0_61 (by decide) (by decide) rfl rfl (by show (3 : Nat) ≤ 8; decide) ?_
  refine Run.mono (I_X3 (kIs_s WX0_g (n := 43) (by decide +kernel) ⟨by decide, by decide, by decide +kernel⟩) (by decide)) (fun r s e => ?_)
  refine R_eqs (st2 := [vA G 42, vI 5, vA G 34]) (σ2 := (iX3 (kmk (kup (iX3 (kmk (kup (iX3 (kmk (kup (iX3 (kmk (kup (iX3 (kmk (kup (iX3 (kmk (kup (kmk (kup (kmk (kup (kmk (kup (kmk (kup (kmk (kup (kup (kup (kup (kup (kup (kup (kup mu7 31 0 0) 31 1 0) 31 2 6) 31 3 0) 31 4 0) 31 5 0) 31 6 0) 31 7 0) 32) 31 8 32) 33) 31 9 33) 34) 31 10 34) 35) 31 11 35) 36) 31 12 36) 37) 37) 34 0 37) 38) 38) 34 1 38) 39) 39) 34 2 39) 40) 40) 34 3 40) 41) 41) 34 4 41) 42) 42)) rfl e ?_
  refine R_astq 27 3 6 WX0_g e_X0_init_5.2.2.2.2.2.2.2.1 (by decide) rfl (by decide) (kAr_0 WX0_g (n := 43) (by decide +kernel) ⟨by decide, by decide, by decide +kernel⟩ (by decide)) (kIs_0 WX0_g (n := 43) (by decide +kernel) ⟨by decide, by decide, by decide +kernel⟩) (by decide) (by decide) ?_
  refine R_iinc (ls2 := [(1, vI 6), (0, vA G 31)]) e_X0_init_5.2.2.2.2.2.2.2.2.1 0 rfl (by decide) rfl ?_
  refine R_goto 90 e_X0_init_5.2.2.2.2.2.2.2.2.2 (by decide) ?_
  refine R_iload_n e_X0_init_4.2.2.2.2.2.2.2.2.1 0 rfl ?_
  refine R_bipush e_X0_init_4.2.2.2.2.2.2.2.2.2 (by decide) ?_
  refine R_icmp_ge 115 e_X0_init_5.1 (by decide) (by decide) (by decide) (fun q => ?_) (fun q => absurd q (by decide))
  refine R_iconst e_X0_init_6.1 ?_
  refine R_istore_n (ls2 := [(1, vI 0), (0, vA G 31)]) e_X0_init_6.2.1 (by decide) rfl ?_
  refine R_iload_n e_X0_init_6.2.2.1 0 rfl ?_
  refine R_bipush e_X0_init_6.2.2.2.1 (by decide) ?_
  refine R_icmp_ge 142 e_X0_init_6.2.2.2.2.1 (by decide) (by decide) (by decide) (fun q => absurd q (by decide)) (fun q => ?_)
  refine R_aload_n e_X0_init_6.2.2.2.2.2.1 1 rfl ?_
  refine R_getA 0 11 35 e_X0_init_6.2.2.2.2.2.2.1 f_X0_51 (kIs_0 WX0_g (n := 43) (by decide +kernel) ⟨by decide, by decide, by decide +kernel⟩) (fun _ _ => rfl) (by decide +kernel) (by decide) ?_
  refine R_iload_n e_X0_init_6.2.2.2.2.2.2.2.1 0 rfl ?_
  refine R_new 43 2 13 71 WX0_g e_X0_init_6.2.2.2.2.2.2.2.2.1 ⟨by decide, cL_X0_49⟩ cI_X2 cN_X2 (by decide +kernel) ⟨by decide, by decide, by decide +kernel⟩ ⟨by decide, by decide⟩ ?_
  refine R_dup e_X0_init_6.2.2.2.2.2.2.2.2.2 rfl ?_
  refine R_callIN (mc := 13) (ms := 71) (mc' := 0) (ms' := 0) (M' := M_X2_init) (d' := 1) (as := []) (st := [vA G 43, vI 0, vA G 35]) 0 e_X0_init_7.1 m_X2_init kn_X0_62 (by decide) (by decide) rfl rfl (by show (3 : Nat) ≤ 8; decide) ?_
  refine Run.mono (I_X2 (kIs_s WX0_g (n := 44) (by decide +kernel) ⟨by decide, by decide, by decide +kernel⟩) (by decide)) (fun r s e => ?_)
  refine R_eqs (st2 := [vA G 43, vI 0, vA G 35]) (σ2 := (iX2 (kmk (kup (iX3 (kmk (kup (iX3 (kmk (kup (iX3 (kmk (kup (iX3 (kmk (kup (iX3 (kmk (kup (iX3 (kmk (kup (kmk (kup (kmk (kup (kmk (kup (kmk (kup (kmk (kup (kup (kup (kup (kup (kup (kup (kup mu7 31 0 0) 31 1 0) 31 2 6) 31 3 0) 31 4 0) 31 5 0) 31 6 0) 31 7 0) 32) 31 8 32) 33) 31 9 33) 34) 31 10 34) 35) 31 11 35) 36) 31 12 36) 37) 37) 34 0 37) 38) 38) 34 1 38) 39) 39) 34 2 39) 40) 40) 34 3 40) 41) 41) 34 4 41) 42) 42) 34 5 42) 43) 43)) rfl e ?_
  refine R_astq 28 2 8 WX0_g e_X0_init_7.2.1 (by decide) rfl (by decide) (kAr_0 WX0_g (n := 44) (by decide +kernel) ⟨by decide, by decide, by decide +kernel⟩ (by decide)) (kIs_0 WX0_g (n := 44) (by decide +kernel) ⟨by decide, by decide, by decide +kernel⟩) (by decide) (by decide) ?_
  refine R_iinc (ls2 := [(1, vI 1), (0, vA G 31)]) e_X0_init_7.2.2.1 0 rfl (by decide) rfl ?_
  refine R_goto 117 e_X0_init_7.2.2.2.1 (by decide) ?_
  refine R_iload_n e_X0_init_6.2.2.1 0 rfl ?_
  refine R_bipush e_X0_init_6.2.2.2.1 (by decide) ?_
  refine R_icmp_ge 142 e_X0_init_6.2.2.2.2.1 (by decide) (by decide) (by decide) (fun q => absurd q (by decide)) (fun q => ?_)
  refine R_aload_n e_X0_init_6.2.2.2.2.2.1 1 rfl ?_
  refine R_getA 0 11 35 e_X0_init_6.2.2.2.2.2.2.1 f_X0_51 (kIs_0 WX0_g (n := 44) (by decide +kernel) ⟨by decide, by decide, by decide +kernel⟩) (fun _ _ => rfl) (by decide +kernel) (by decide) ?_
  refine R_iload_n e_X0_init_6.2.2.2.2.2.2.2.1 0 rfl ?_
  refine R_new 44 2 12 66 WX0_g e_X0_init_6.2.2.2.2.2.2.2.2.1 ⟨by decide, cL_X0_49⟩ cI_X2 cN_X2 (by decide +kernel) ⟨by decide, by decide, by decide +kernel⟩ ⟨by decide, by decide⟩ ?_
  refine R_dup e_X0_init_6.2.2.2.2.2.2.2.2.2 rfl ?_
  refine R_callIN (mc := 12) (ms := 66) (mc' := 0) (ms' := 0) (M' := M_X2_init) (d' := 1) (as := []) (st := [vA G 44, vI 1, vA G 35]) 0 e_X0_init_7.1 m_X2_init kn_X0_62 (by decide) (by decide) rfl rfl (by show (3 : Nat) ≤ 8; decide) ?_
  refine Run.mono (I_X2 (kIs_s WX0_g (n := 45) (by decide +kernel) ⟨by decide, by decide, by decide +kernel⟩) (by decide)) (fun r s e => ?_)
  refine R_eqs (st2 := [vA G 44, vI 1, vA G 35]) (σ2 := (iX2 (kmk (kup (iX2 (kmk (kup (iX3 (kmk (kup (iX3 (kmk (kup (iX3 (kmk (kup (iX3 (kmk (kup (iX3 (kmk (kup (iX3 (kmk (kup (kmk (kup (kmk (kup (kmk (kup (kmk (kup (kmk (kup (kup (kup (kup (kup (kup (kup (kup mu7 31 0 0) 31 1 0) 31 2 6) 31 3 0) 31 4 0) 31 5 0) 31 6 0) 31 7 0) 32) 31 8 32) 33) 31 9 33) 34) 31 10 34) 35) 31 11 35) 36) 31 12 36) 37) 37) 34 0 37) 38) 38) 34 1 38) 39) 39) 34 2 39) 40) 40) 34 3 40) 41) 41) 34 4 41) 42) 42) 34 5 42) 43) 43) 35 0 43) 44) 44)) rfl e ?_
  refine R_astq 28 2 8 WX0_g e_X0_init_7.2.1 (by decide) rfl (by decide) (kAr_0 WX0_g (n := 45) (by decide +kernel) ⟨by decide, by decide, by decide +kernel⟩ (by decide)) (kIs_0 WX0_g (n := 45) (by decide +kernel) ⟨by decide, by decide, by decide +kernel⟩) (by decide) (by decide) ?_
  refine R_iinc (ls2 := [(1, vI 2), (0, vA G 31)]) e_X0_init_7.2.2.1 0 rfl (by decide) rfl ?_
  refine R_goto 117 e_X0_init_7.2.2.2.1 (by decide) ?_
  refine R_iload_n e_X0_init_6.2.2.1 0 rfl ?_
  refine R_bipush e_X0_init_6.2.2.2.1 (by decide) ?_
  refine R_icmp_ge 142 e_X0_init_6.2.2.2.2.1 (by decide) (by decide) (by decide) (fun q => absurd q (by decide)) (fun q => ?_)
  refine R_aload_n e_X0_init_6.2.2.2.2.2.1 1 rfl ?_
  refine R_getA 0 11 35 e_X0_init_6.2.2.2.2.2.2.1 f_X0_51 (kIs_0 WX0_g (n := 45) (by decide +kernel) ⟨by decide, by decide, by decide +kernel⟩) (fun _ _ => rfl) (by decide +kernel) (by decide) ?_
  refine R_iload_n e_X0_init_6.2.2.2.2.2.2.2.1 0 rfl ?_
  refine R_new 45 2 11 61 WX0_g e_X0_init_6.2.2.2.2.2.2.2.2.1 ⟨by decide, cL_X0_49⟩ cI_X2 cN_X2 (by decide +kernel) ⟨by decide, by decide, by decide +kernel⟩ ⟨by decide, by decide⟩ ?_
  refine R_dup e_X0_init_6.2.2.2.2.2.2.2.2.2 rfl ?_
  refine R_callIN (mc := 11) (ms := 61) (mc' := 0) (ms' := 0) (M' := M_X2_init) (d' := 1) (as := []) (st := [vA G 45, vI 2, vA G 35]) 0 e_X0_init_7.1 m_X2_init kn_X0_62 (by decide) (by decide) rfl rfl (by show (3 : Nat) ≤ 8; decide) ?_
  refine Run.mono (I_X2 (kIs_s WX0_g (n := 46) (by decide +kernel) ⟨by decide, by decide, by decide +kernel⟩) (by decide)) (fun r s e => ?_)
  refine R_eqs (st2 := [vA G 45, vI 2, vA G 35]) (σ2 := (iX2 (kmk (kup (iX2 (kmk (kup (iX2 (kmk (kup (iX3 (kmk (kup (iX3 (kmk (kup (iX3 (kmk (kup (iX3 (kmk (kup (iX3 (kmk (kup (iX3 (kmk (kup (kmk (kup (kmk (kup (kmk (kup (kmk (kup (kmk (kup (kup (kup (kup (kup (kup (kup (kup mu7 31 0 0) 31 1 0) 31 2 6) 31 3 0) 31 4 0) 31 5 0) 31 6 0) 31 7 0) 32) 31 8 32) 33) 31 9 33) 34) 31 10 34) 35) 31 11 35) 36) 31 12 36) 37) 37) 34 0 37) 38) 38) 34 1 38) 39) 39) 34 2 39) 40) 40) 34 3 40) 41) 41) 34 4 41) 42) 42) 34 5 42) 43) 43) 35 0 43) 44) 44) 35 1 44) 45) 45)) rfl e ?_
  refine R_astq 28 2 8 WX0_g e_X0_init_7.2.1 (by decide) rfl (by decide) (kAr_0 WX0_g (n := 46) (by decide +kernel) ⟨by decide, by decide, by decide +kernel⟩ (by decide)) (kIs_0 WX0_g (n := 46) (by decide +kernel) ⟨by decide, by decide, by decide +kernel⟩) (by decide) (by decide) ?_
  refine R_iinc (ls2 := [(1, vI 3), (0, vA G 31)]) e_X0_init_7.2.2.1 0 rfl (by decide) rfl ?_
  refine R_goto 117 e_X0_init_7.2.2.2.1 (by decide) ?_
  refine R_iload_n e_X0_init_6.2.2.1 0 rfl ?_
  refine R_bipush e_X0_init_6.2.2.2.1 (by decide) ?_
  refine R_icmp_ge 142 e_X0_init_6.2.2.2.2.1 (by decide) (by decide) (by decide) (fun q => absurd q (by decide)) (fun q => ?_)
  refine R_aload_n e_X0_init_6.2.2.2.2.2.1 1 rfl ?_
  refine R_getA 0 11 35 e_X0_init_6.2.2.2.2.2.2.1 f_X0_51 (kIs_0 WX0_g (n := 46) (by decide +kernel) ⟨by decide, by decide, by decide +kernel⟩) (fun _ _ => rfl) (by decide +kernel) (by decide) ?_
  refine R_iload_n e_X0_init_6.2.2.2.2.2.2.2.1 0 rfl ?_
  refine R_new 46 2 10 56 WX0_g e_X0_init_6.2.2.2.2.2.2.2.2.1 ⟨by decide, cL_X0_49⟩ cI_X2 cN_X2 (by decide +kernel) ⟨by decide, by decide, by decide +kernel⟩ ⟨by decide, by decide⟩ ?_
  refine R_dup e_X0_init_6.2.2.2.2.2.2.2.2.2 rfl ?_
  refine R_callIN (mc := 10) (ms := 56) (mc' := 0) (ms' := 0) (M' := M_X2_init) (d' := 1) (as := []) (st := [vA G 46, vI 3, vA G 35]) 0 e_X0_init_7.1 m_X2_init kn_X0_62 (by decide) (by decide) rfl rfl (by show (3 : Nat) ≤ 8; decide) ?_
  refine Run.mono (I_X2 (kIs_s WX0_g (n := 47) (by decide +kernel) ⟨by decide, by decide, by decide +kernel⟩) (by decide)) (fun r s e => ?_)
  refine R_eqs (st2 := [vA G 46, vI 3, vA G 35]) (σ2 := (iX2 (kmk (kup (iX2 (kmk (kup (iX2 (kmk (kup (iX2 (kmk (kup (iX3 (kmk (kup (iX3 (kmk (kup (iX3 (kmk (kup (iX3 (kmk (kup (iX3 (kmk (kup (iX3 (kmk (kup (kmk (kup (kmk (kup (kmk (kup (kmk (kup (kmk (kup (kup (kup (kup (kup (kup (kup (kup mu7 31 0 0) 31 1 0) 31 2 6) 31 3 0) 31 4 0) 31 5 0) 31 6 0) 31 7 0) 32) 31 8 32) 33) 31 9 33) 34) 31 10 34) 35) 31 11 35) 36) 31 12 36) 37) 37) 34 0 37) 38) 38) 34 1 38) 39) 39) 34 2 39) 40) 40) 34 3 40) 41) 41) 34 4 41) 42) 42) 34 5 42) 43) 43) 35 0 43) 44) 44) 35 1 44) 45) 45) 35 2 45) 46) 46)) rfl e ?_
  refine R_astq 28 2 8 WX0_g e_X0_init_7.2.1 (by decide) rfl (by decide) (kAr_0 WX0_g (n := 47) (by decide +kernel) ⟨by decide, by decide, by decide +kernel⟩ (by decide)) (kIs_0 WX0_g (n := 47) (by decide +kernel) ⟨by decide, by decide, by decide +kernel⟩) (by decide) (by decide) ?_
  refine R_iinc (ls2 := [(1, vI 4), (0, vA G 31)]) e_X0_init_7.2.2.1 0 rfl (by decide) rfl ?_
  refine R_goto 117 e_X0_init_7.2.2.2.1 (by decide) ?_
  refine R_iload_n e_X0_init_6.2.2.1 0 rfl ?_
  refine R_bipush e_X0_init_6.2.2.2.1 (by decide) ?_
  refine R_icmp_ge 142 e_X0_init_6.2.2.2.2.1 (by decide) (by decide) (by decide) (fun q => absurd q (by decide)) (fun q => ?_)
  refine R_aload_n e_X0_init_6.2.2.2.2.2.1 1 rfl ?_
  refine R_getA 0 11 35 e_X0_init_6.2.2.2.2.2.2.1 f_X0_51 (kIs_0 WX0_g (n := 47) (by decide +kernel) ⟨by decide, by decide, by decide +kernel⟩) (fun _ _ => rfl) (by decide +kernel) (by decide) ?_
  refine R_iload_n e_X0_init_6.2.2.2.2.2.2.2.1 0 rfl ?_
  refine R_new 47 2 9 51 WX0_g e_X0_init_6.2.2.2.2.2.2.2.2.1 ⟨by decide, cL_X0_49⟩ cI_X2 cN_X2 (by decide +kernel) ⟨by decide, by decide, by decide +kernel⟩ ⟨by decide, by decide⟩ ?_
  refine R_dup e_X0_init_6.2.2.2.2.2.2.2.2.2 rfl ?_
  refine R_callIN (mc := 9) (ms := 51) (mc' := 0) (ms' := 0) (M' := M_X2_init) (d' := 1) (as := []) (st := [vA G 47, vI 4, vA G 35]) 0 e_X0_init_7.1 m_X2_init kn_X0_62 (by decide) (by decide) rfl rfl (by show (3 : Nat) ≤ 8; decide) ?_
  refine Run.mono (I_X2 (kIs_s WX0_g (n := 48) (by decide +kernel) ⟨by decide, by decide, by decide +kernel⟩) (by decide)) (fun r s e => ?_)
  refine R_eqs (st2 := [vA G 47, vI 4, vA G 35]) (σ2 := (iX2 (kmk (kup (iX2 (kmk (kup (iX2 (kmk (kup (iX2 (kmk (kup (iX2 (kmk (kup (iX3 (kmk (kup (iX3 (kmk (kup (iX3 (kmk (kup (iX3 (kmk (kup (iX3 (kmk (kup (iX3 (kmk (kup (kmk (kup (kmk (kup (kmk (kup (kmk (kup (kmk (kup (kup (kup (kup (kup (kup (kup (kup mu7 31 0 0) 31 1 0) 31 2 6) 31 3 0) 31 4 0) 31 5 0) 31 6 0) 31 7 0) 32) 31 8 32) 33) 31 9 33) 34) 31 10 34) 35) 31 11 35) 36) 31 12 36) 37) 37) 34 0 37) 38) 38) 34 1 38) 39) 39) 34 2 39) 40) 40) 34 3 40) 41) 41) 34 4 41) 42) 42) 34 5 42) 43) 43) 35 0 43) 44) 44) 35 1 44) 45) 45) 35 2 45) 46) 46) 35 3 46) 47) 47)) rfl e ?_
  refine R_astq 28 2 8 WX0_g e_X0_init_7.2.1 (by decide) rfl (by decide) (kAr_0 WX0_g (n := 48) (by decide +kernel) ⟨by decide, by decide, by decide +kernel⟩ (by decide)) (kIs_0 WX0_g (n := 48) (by decide +kernel) ⟨by decide, by decide, by decide +kernel⟩) (by decide) (by decide) ?_
  refine R_iinc (ls2 := [(1, vI 5), (0, vA G 31)]) e_X0_init_7.2.2.1 0 rfl (by decide) rfl ?_
  refine R_goto 117 e_X0_init_7.2.2.2.1 (by decide) ?_
  refine R_iload_n e_X0_init_6.2.2.1 0 rfl ?_
  refine R_bipush e_X0_init_6.2.2.2.1 (by decide) ?_
  refine R_icmp_ge 142 e_X0_init_6.2.2.2.2.1 (by decide) (by decide) (by decide) (fun q => absurd q (by decide)) (fun q => ?_)
  refine R_aload_n e_X0_init_6.2.2.2.2.2.1 1 rfl ?_
  refine R_getA 0 11 35 e_X0_init_6.2.2.2.2.2.2.1 f_X0_51 (kIs_0 WX0_g (n := 48) (by decide +kernel) ⟨by decide, by decide, by decide +kernel⟩) (fun _ _ => rfl) (by decide +kernel) (by decide) ?_
  refine R_iload_n e_X0_init_6.2.2.2.2.2.2.2.1 0 rfl ?_
  refine R_new 48 2 8 46 WX0_g e_X0_init_6.2.2.2.2.2.2.2.2.1 ⟨by decide, cL_X0_49⟩ cI_X2 cN_X2 (by decide +kernel) ⟨by decide, by decide, by decide +kernel⟩ ⟨by decide, by decide⟩ ?_
  refine R_dup e_X0_init_6.2.2.2.2.2.2.2.2.2 rfl ?_
  refine R_callIN (mc := 8) (ms := 46) (mc' := 0) (ms' := 0) (M' := M_X2_init) (d' := 1) (as := []) (st := [vA G 48, vI 5, vA G 35]) 0 e_X0_init_7.1 m_X2_init kn_X0_62 (by decide) (by decide) rfl rfl (by show (3 : Nat) ≤ 8; decide) ?_
  refine Run.mono (I_X2 (kIs_s WX0_g (n := 49) (by decide +kernel) ⟨by decide, by decide, by decide +kernel⟩) (by decide)) (fun r s e => ?_)
  refine R_eqs (st2 := [vA G 48, vI 5, vA G 35]) (σ2 := (iX2 (kmk (kup (iX2 (kmk (kup (iX2 (kmk (kup (iX2 (kmk (kup (iX2 (kmk (kup (iX2 (kmk (kup (iX3 (kmk (kup (iX3 (kmk (kup (iX3 (kmk (kup (iX3 (kmk (kup (iX3 (kmk (kup (iX3 (kmk (kup (kmk (kup (kmk (kup (kmk (kup (kmk (kup (kmk (kup (kup (kup (kup (kup (kup (kup (kup mu7 31 0 0) 31 1 0) 31 2 6) 31 3 0) 31 4 0) 31 5 0) 31 6 0) 31 7 0) 32) 31 8 32) 33) 31 9 33) 34) 31 10 34) 35) 31 11 35) 36) 31 12 36) 37) 37) 34 0 37) 38) 38) 34 1 38) 39) 39) 34 2 39) 40) 40) 34 3 40) 41) 41) 34 4 41) 42) 42) 34 5 42) 43) 43) 35 0 43) 44) 44) 35 1 44) 45) 45) 35 2 45) 46) 46) 35 3 46) 47) 47) 35 4 47) 48) 48)) rfl e ?_
  refine R_astq 28 2 8 WX0_g e_X0_init_7.2.1 (by decide) rfl (by decide) (kAr_0 WX0_g (n := 49) (by decide +kernel) ⟨by decide, by decide, by decide +kernel⟩ (by decide)) (kIs_0 WX0_g (n := 49) (by decide +kernel) ⟨by decide, by decide, by decide +kernel⟩) (by decide) (by decide) ?_
  refine R_iinc (ls2 := [(1, vI 6), (0, vA G 31)]) e_X0_init_7.2.2.1 0 rfl (by decide) rfl ?_
  refine R_goto 117 e_X0_init_7.2.2.2.1 (by decide) ?_
  refine R_iload_n e_X0_init_6.2.2.1 0 rfl ?_
  refine R_bipush e_X0_init_6.2.2.2.1 (by decide) ?_
  refine R_icmp_ge 142 e_X0_init_6.2.2.2.2.1 (by decide) (by decide) (by decide) (fun q => absurd q (by decide)) (fun q => ?_)
  refine R_aload_n e_X0_init_6.2.2.2.2.2.1 1 rfl ?_
  refine R_getA 0 11 35 e_X0_init_6.2.2.2.2.2.2.1 f_X0_51 (kIs_0 WX0_g (n := 49) (by decide +kernel) ⟨by decide, by decide, by decide +kernel⟩) (fun _ _ => rfl) (by decide +kernel) (by decide) ?_
  refine R_iload_n e_X0_init_6.2.2.2.2.2.2.2.1 0 rfl ?_
  refine R_new 49 2 7 41 WX0_g e_X0_init_6.2.2.2.2.2.2.2.2.1 ⟨by decide, cL_X0_49⟩ cI_X2 cN_X2 (by decide +kernel) ⟨by decide, by decide, by decide +kernel⟩ ⟨by decide, by decide⟩ ?_
  refine R_dup e_X0_init_6.2.2.2.2.2.2.2.2.2 rfl ?_
  refine R_callIN (mc := 7) (ms := 41) (mc' := 0) (ms' := 0) (M' := M_X2_init) (d' := 1) (as := []) (st := [vA G 49, vI 6, vA G 35]) 0 e_X0_init_7.1 m_X2_init kn_X0_62 (by decide) (by decide) rfl rfl (by show (3 : Nat) ≤ 8; decide) ?_
  refine Run.mono (I_X2 (kIs_s WX0_g (n := 50) (by decide +kernel) ⟨by decide, by decide, by decide +kernel⟩) (by decide)) (fun r s e => ?_)
  refine R_eqs (st2 := [vA G 49, vI 6, vA G 35]) (σ2 := (iX2 (kmk (kup (iX2 (kmk (kup (iX2 (kmk (kup (iX2 (kmk (kup (iX2 (kmk (kup (iX2 (kmk (kup (iX2 (kmk (kup (iX3 (kmk (kup (iX3 (kmk (kup (iX3 (kmk (kup (iX3 (kmk (kup (iX3 (kmk (kup (iX3 (kmk (kup (kmk (kup (kmk (kup (kmk (kup (kmk (kup (kmk (kup (kup (kup (kup (kup (kup (kup (kup mu7 31 0 0) 31 1 0) 31 2 6) 31 3 0) 31 4 0) 31 5 0) 31 6 0) 31 7 0) 32) 31 8 32) 33) 31 9 33) 34) 31 10 34) 35) 31 11 35) 36) 31 12 36) 37) 37) 34 0 37) 38) 38) 34 1 38) 39) 39) 34 2 39) 40) 40) 34 3 40) 41) 41) 34 4 41) 42) 42) 34 5 42) 43) 43) 35 0 43) 44) 44) 35 1 44) 45) 45) 35 2 45) 46) 46) 35 3 46) 47) 47) 35 4 47) 48) 48) 35 5 48) 49) 49)) rfl e ?_
  refine R_astq 28 2 8 WX0_g e_X0_init_7.2.1 (by decide) rfl (by decide) (kAr_0 WX0_g (n := 50) (by decide +kernel) ⟨by decide, by decide, by decide +kernel⟩ (by decide)) (kIs_0 WX0_g (n := 50) (by decide +kernel) ⟨by decide, by decide, by decide +kernel⟩) (by decide) (by decide) ?_
  refine R_iinc (ls2 := [(1, vI 7), (0, vA G 31)]) e_X0_init_7.2.2.1 0 rfl (by decide) rfl ?_
  refine R_goto 117 e_X0_init_7.2.2.2.1 (by decide) ?_
  refine R_iload_n e_X0_init_6.2.2.1 0 rfl ?_
  refine R_bipush e_X0_init_6.2.2.2.1 (by decide) ?_
  refine R_icmp_ge 142 e_X0_init_6.2.2.2.2.1 (by decide) (by decide) (by decide) (fun q => absurd q (by decide)) (fun q => ?_)
  refine R_aload_n e_X0_init_6.2.2.2.2.2.1 1 rfl ?_
  refine R_getA 0 11 35 e_X0_init_6.2.2.2.2.2.2.1 f_X0_51 (kIs_0 WX0_g (n := 50) (by decide +kernel) ⟨by decide, by decide, by decide +kernel⟩) (fun _ _ => rfl) (by decide +kernel) (by decide) ?_
  refine R_iload_n e_X0_init_6.2.2.2.2.2.2.2.1 0 rfl ?_
  refine R_new 50 2 6 36 WX0_g e_X0_init_6.2.2.2.2.2.2.2.2.1 ⟨by decide, cL_X0_49⟩ cI_X2 cN_X2 (by decide +kernel) ⟨by decide, by decide, by decide +kernel⟩ ⟨by decide, by decide⟩ ?_
  refine R_dup e_X0_init_6.2.2.2.2.2.2.2.2.2 rfl ?_
  refine R_callIN (mc := 6) (ms := 36) (mc' := 0) (ms' := 0) (M' := M_X2_init) (d' := 1) (as := []) (st := [vA G 50, vI 7, vA G 35]) 0 e_X0_init_7.1 m_X2_init kn_X0_62 (by decide) (by decide) rfl rfl (by show (3 : Nat) ≤ 8; decide) ?_
  refine Run.mono (I_X2 (kIs_s WX0_g (n := 51) (by decide +kernel) ⟨by decide, by decide, by decide +kernel⟩) (by decide)) (fun r s e => ?_)
  refine R_eqs (st2 := [vA G 50, vI 7, vA G 35]) (σ2 := (iX2 (kmk (kup (iX2 (kmk (kup (iX2 (kmk (kup (iX2 (kmk (kup (iX2 (kmk (kup (iX2 (kmk (kup (iX2 (kmk (kup (iX2 (kmk (kup (iX3 (kmk (kup (iX3 (kmk (kup (iX3 (kmk (kup (iX3 (kmk (kup (iX3 (kmk (kup (iX3 (kmk (kup (kmk (kup (kmk (kup (kmk (kup (kmk (kup (kmk (kup (kup (kup (kup (kup (kup (kup (kup mu7 31 0 0) 31 1 0) 31 2 6) 31 3 0) 31 4 0) 31 5 0) 31 6 0) 31 7 0) 32) 31 8 32) 33) 31 9 33) 34) 31 10 34) 35) 31 11 35) 36) 31 12 36) 37) 37) 34 0 37) 38) 38) 34 1 38) 39) 39) 34 2 39) 40) 40) 34 3 40) 41) 41) 34 4 41) 42) 42) 34 5 42) 43) 43) 35 0 43) 44) 44) 35 1 44) 45) 45) 35 2 45) 46) 46) 35 3 46) 47) 47) 35 4 47) 48) 48) 35 5 48) 49) 49) 35 6 49) 50) 50)) rfl e ?_
  refine R_astq 28 2 8 WX0_g e_X0_init_7.2.1 (by decide) rfl (by decide) (kAr_0 WX0_g (n := 51) (by decide +kernel) ⟨by decide, by decide, by decide +kernel⟩ (by decide)) (kIs_0 WX0_g (n := 51) (by decide +kernel) ⟨by decide, by decide, by decide +kernel⟩) (by decide) (by decide) ?_
  refine R_iinc (ls2 := [(1, vI 8), (0, vA G 31)]) e_X0_init_7.2.2.1 0 rfl (by decide) rfl ?_
  refine R_goto 117 e_X0_init_7.2.2.2.1 (by decide) ?_
  refine R_iload_n e_X0_init_6.2.2.1 0 rfl ?_
  refine R_bipush e_X0_init_6.2.2.2.1 (by decide) ?_
  refine R_icmp_ge 142 e_X0_init_6.2.2.2.2.1 (by decide) (by decide) (by decide) (fun q => ?_) (fun q => absurd q (by decide))
  refine R_iconst e_X0_init_7.2.2.2.2.1 ?_
  refine R_istore_n (ls2 := [(1, vI 0), (0, vA G 31)]) e_X0_init_7.2.2.2.2.2.1 (by decide) rfl ?_
  refine R_iload_n e_X0_init_7.2.2.2.2.2.2.1 0 rfl ?_
  refine R_bipush e_X0_init_7.2.2.2.2.2.2.2.1 (by decide) ?_
  refine R_icmp_ge 169 e_X0_init_7.2.2.2.2.2.2.2.2.1 (by decide) (by decide) (by decide) (fun q => absurd q (by decide)) (fun q => ?_)
  refine R_aload_n e_X0_init_7.2.2.2.2.2.2.2.2.2 1 rfl ?_
  refine R_getA 0 12 36 e_X0_init_8.1 f_X0_57 (kIs_0 WX0_g (n := 51) (by decide +kernel) ⟨by decide, by decide, by decide +kernel⟩) (fun _ _ => rfl) (by decide +kernel) (by decide) ?_
  refine R_iload_n e_X0_init_8.2.1 0 rfl ?_
  refine R_new 51 9 5 30 WX0_g e_X0_init_8.2.2.1 ⟨by decide, cL_X0_55⟩ cI_X9 cN_X9 (by decide +kernel) ⟨by decide, by decide, by decide +kernel⟩ ⟨by decide, by decide⟩ ?_
  refine R_dup e_X0_init_8.2.2.2.1 rfl ?_
  refine R_callIN (mc := 5) (ms := 30) (mc' := 0) (ms' := 0) (M' := M_X9_init) (d' := 1) (as := []) (st := [vA G 51, vI 0, vA G 36]) 0 e_X0_init_8.2.2.2.2.1 m_X9_init kn_X0_63 (by decide) (by decide) rfl rfl (by show (3 : Nat) ≤ 8; decide) ?_
  refine Run.mono (I_X9 (kIs_s WX0_g (n := 52) (by decide +kernel) ⟨by decide, by decide, by decide +kernel⟩) (by decide)) (fun r s e => ?_)
  refine R_eqs (st2 := [vA G 51, vI 0, vA G 36]) (σ2 := (iX9 (kmk (kup (iX2 (kmk (kup (iX2 (kmk (kup (iX2 (kmk (kup (iX2 (kmk (kup (iX2 (kmk (kup (iX2 (kmk (kup (iX2 (kmk (kup (iX2 (kmk (kup (iX3 (kmk (kup (iX3 (kmk (kup (iX3 (kmk (kup (iX3 (kmk (kup (iX3 (kmk (kup (iX3 (kmk (kup (kmk (kup (kmk (kup (kmk (kup (kmk (kup (kmk (kup (kup (kup (kup (kup (kup (kup (kup mu7 31 0 0) 31 1 0) 31 2 6) 31 3 0) 31 4 0) 31 5 0) 31 6 0) 31 7 0) 32) 31 8 32) 33) 31 9 33) 34) 31 10 34) 35) 31 11 35) 36) 31 12 36) 37) 37) 34 0 37) 38) 38) 34 1 38) 39) 39) 34 2 39) 40) 40) 34 3 40) 41) 41) 34 4 41) 42) 42) 34 5 42) 43) 43) 35 0 43) 44) 44) 35 1 44) 45) 45) 35 2 45) 46) 46) 35 3 46) 47) 47) 35 4 47) 48) 48) 35 5 48) 49) 49) 35 6 49) 50) 50) 35 7 50) 51) 51)) rfl e ?_
  refine R_astq 29 9 6 WX0_g e_X0_init_8.2.2.2.2.2.1 (by decide) rfl (by decide) (kAr_0 WX0_g (n := 52) (by decide +kernel) ⟨by decide, by decide, by decide +kernel⟩ (by decide)) (kIs_0 WX0_g (n := 52) (by decide +kernel) ⟨by decide, by decide, by decide +kernel⟩) (by decide) (by decide) ?_
  refine R_iinc (ls2 := [(1, vI 1), (0, vA G 31)]) e_X0_init_8.2.2.2.2.2.2.1 0 rfl (by decide) rfl ?_
  refine R_goto 144 e_X0_init_8.2.2.2.2.2.2.2.1 (by decide) ?_
  refine R_iload_n e_X0_init_7.2.2.2.2.2.2.1 0 rfl ?_
  refine R_bipush e_X0_init_7.2.2.2.2.2.2.2.1 (by decide) ?_
  refine R_icmp_ge 169 e_X0_init_7.2.2.2.2.2.2.2.2.1 (by decide) (by decide) (by decide) (fun q => absurd q (by decide)) (fun q => ?_)
  refine R_aload_n e_X0_init_7.2.2.2.2.2.2.2.2.2 1 rfl ?_
  refine R_getA 0 12 36 e_X0_init_8.1 f_X0_57 (kIs_0 WX0_g (n := 52) (by decide +kernel) ⟨by decide, by decide, by decide +kernel⟩) (fun _ _ => rfl) (by decide +kernel) (by decide) ?_
  refine R_iload_n e_X0_init_8.2.1 0 rfl ?_
  refine R_new 52 9 4 24 WX0_g e_X0_init_8.2.2.1 ⟨by decide, cL_X0_55⟩ cI_X9 cN_X9 (by decide +kernel) ⟨by decide, by decide, by decide +kernel⟩ ⟨by decide, by decide⟩ ?_
  refine R_dup e_X0_init_8.2.2.2.1 rfl ?_
  refine R_callIN (mc := 4) (ms := 24) (mc' := 0) (ms' := 0) (M' := M_X9_init) (d' := 1) (as := []) (st := [vA G 52, vI 1, vA G 36]) 0 e_X0_init_8.2.2.2.2.1 m_X9_init kn_X0_63 (by decide) (by decide) rfl rfl (by show (3 : Nat) ≤ 8; decide) ?_
  refine Run.mono (I_X9 (kIs_s WX0_g (n := 53) (by decide +kernel) ⟨by decide, by decide, by decide +kernel⟩) (by decide)) (fun r s e => ?_)
  refine R_eqs (st2 := [vA G 52, vI 1, vA G 36]) (σ2 := (iX9 (kmk (kup (iX9 (kmk (kup (iX2 (kmk (kup (iX2 (kmk (kup (iX2 (kmk (kup (iX2 (kmk (kup (iX2 (kmk (kup (iX2 (kmk (kup (iX2 (kmk (kup (iX2 (kmk (kup (iX3 (kmk (kup (iX3 (kmk (kup (iX3 (kmk (kup (iX3 (kmk (kup (iX3 (kmk (kup (iX3 (kmk (kup (kmk (kup (kmk (kup (kmk (kup (kmk (kup (kmk (kup (kup (kup (kup (kup (kup (kup (kup mu7 31 0 0) 31 1 0) 31 2 6) 31 3 0) 31 4 0) 31 5 0) 31 6 0) 31 7 0) 32) 31 8 32) 33) 31 9 33) 34) 31 10 34) 35) 31 11 35) 36) 31 12 36) 37) 37) 34 0 37) 38) 38) 34 1 38) 39) 39) 34 2 39) 40) 40) 34 3 40) 41) 41) 34 4 41) 42) 42) 34 5 42) 43) 43) 35 0 43) 44) 44) 35 1 44) 45) 45) 35 2 45) 46) 46) 35 3 46) 47) 47) 35 4 47) 48) 48) 35 5 48) 49) 49) 35 6 49) 50) 50) 35 7 50) 51) 51) 36 0 51) 52) 52)) rfl e ?_
  refine R_astq 29 9 6 WX0_g e_X0_init_8.2.2.2.2.2.1 (by decide) rfl (by decide) (kAr_0 WX0_g (n := 53) (by decide +kernel) ⟨by decide, by decide, by decide +kernel⟩ (by decide)) (kIs_0 WX0_g (n := 53) (by decide +kernel) ⟨by decide, by decide, by decide +kernel⟩) (by decide) (by decide) ?_
  refine R_iinc (ls2 := [(1, vI 2), (0, vA G 31)]) e_X0_init_8.2.2.2.2.2.2.1 0 rfl (by decide) rfl ?_
  refine R_goto 144 e_X0_init_8.2.2.2.2.2.2.2.1 (by decide) ?_
  refine R_iload_n e_X0_init_7.2.2.2.2.2.2.1 0 rfl ?_
  refine R_bipush e_X0_init_7.2.2.2.2.2.2.2.1 (by decide) ?_
  refine R_icmp_ge 169 e_X0_init_7.2.2.2.2.2.2.2.2.1 (by decide) (by decide) (by decide) (fun q => absurd q (by decide)) (fun q => ?_)
  refine R_aload_n e_X0_init_7.2.2.2.2.2.2.2.2.2 1 rfl ?_
  refine R_getA 0 12 36 e_X0_init_8.1 f_X0_57 (kIs_0 WX0_g (n := 53) (by decide +kernel) ⟨by decide, by decide, by decide +kernel⟩) (fun _ _ => rfl) (by decide +kernel) (by decide) ?_
  refine R_iload_n e_X0_init_8.2.1 0 rfl ?_
  refine R_new 53 9 3 18 WX0_g e_X0_init_8.2.2.1 ⟨by decide, cL_X0_55⟩ cI_X9 cN_X9 (by decide +kernel) ⟨by decide, by decide, by decide +kernel⟩ ⟨by decide, by decide⟩ ?_
  refine R_dup e_X0_init_8.2.2.2.1 rfl ?_
  refine R_callIN (mc := 3) (ms := 18) (mc' := 0) (ms' := 0) (M' := M_X9_init) (d' := 1) (as := []) (st := [vA G 53, vI 2, vA G 36]) 0 e_X0_init_8.2.2.2.2.1 m_X9_init kn_X0_63 (by decide) (by decide) rfl rfl (by show (3 : Nat) ≤ 8; decide) ?_
  refine Run.mono (I_X9 (kIs_s WX0_g (n := 54) (by decide +kernel) ⟨by decide, by decide, by decide +kernel⟩) (by decide)) (fun r s e => ?_)
  refine R_eqs (st2 := [vA G 53, vI 2, vA G 36]) (σ2 := (iX9 (kmk (kup (iX9 (kmk (kup (iX9 (kmk (kup (iX2 (kmk (kup (iX2 (kmk (kup (iX2 (kmk (kup (iX2 (kmk (kup (iX2 (kmk (kup (iX2 (kmk (kup (iX2 (kmk (kup (iX2 (kmk (kup (iX3 (kmk (kup (iX3 (kmk (kup (iX3 (kmk (kup (iX3 (kmk (kup (iX3 (kmk (kup (iX3 (kmk (kup (kmk (kup (kmk (kup (kmk (kup (kmk (kup (kmk (kup (kup (kup (kup (kup (kup (kup (kup mu7 31 0 0) 31 1 0) 31 2 6) 31 3 0) 31 4 0) 31 5 0) 31 6 0) 31 7 0) 32) 31 8 32) 33) 31 9 33) 34) 31 10 34) 35) 31 11 35) 36) 31 12 36) 37) 37) 34 0 37) 38) 38) 34 1 38) 39) 39) 34 2 39) 40) 40) 34 3 40) 41) 41) 34 4 41) 42) 42) 34 5 42) 43) 43) 35 0 43) 44) 44) 35 1 44) 45) 45) 35 2 45) 46) 46) 35 3 46) 47) 47) 35 4 47) 48) 48) 35 5 48) 49) 49) 35 6 49) 50) 50) 35 7 50) 51) 51) 36 0 51) 52) 52) 36 1 52) 53) 53)) rfl e ?_
  refine R_astq 29 9 6 WX0_g e_X0_init_8.2.2.2.2.2.1 (by decide) rfl (by decide) (kAr_0 WX0_g (n := 54) (by decide +kernel) ⟨by decide, by decide, by decide +kernel⟩ (by decide)) (kIs_0 WX0_g (n := 54) (by decide +kernel) ⟨by decide, by decide, by decide +kernel⟩) (by decide) (by decide) ?_
  refine R_iinc (ls2 := [(1, vI 3), (0, vA G 31)]) e_X0_init_8.2.2.2.2.2.2.1 0 rfl (by decide) rfl ?_
  refine R_goto 144 e_X0_init_8.2.2.2.2.2.2.2.1 (by decide) ?_
  refine R_iload_n e_X0_init_7.2.2.2.2.2.2.1 0 rfl ?_
  refine R_bipush e_X0_init_7.2.2.2.2.2.2.2.1 (by decide) ?_
  refine R_icmp_ge 169 e_X0_init_7.2.2.2.2.2.2.2.2.1 (by decide) (by decide) (by decide) (fun q => absurd q (by decide)) (fun q => ?_)
  refine R_aload_n e_X0_init_7.2.2.2.2.2.2.2.2.2 1 rfl ?_
  refine R_getA 0 12 36 e_X0_init_8.1 f_X0_57 (kIs_0 WX0_g (n := 54) (by decide +kernel) ⟨by decide, by decide, by decide +kernel⟩) (fun _ _ => rfl) (by decide +kernel) (by decide) ?_
  refine R_iload_n e_X0_init_8.2.1 0 rfl ?_
  refine R_new 54 9 2 12 WX0_g e_X0_init_8.2.2.1 ⟨by decide, cL_X0_55⟩ cI_X9 cN_X9 (by decide +kernel) ⟨by decide, by decide, by decide +kernel⟩ ⟨by decide, by decide⟩ ?_
  refine R_dup e_X0_init_8.2.2.2.1 rfl ?_
  refine R_callIN (mc := 2) (ms := 12) (mc' := 0) (ms' := 0) (M' := M_X9_init) (d' := 1) (as := []) (st := [vA G 54, vI 3, vA G 36]) 0 e_X0_init_8.2.2.2.2.1 m_X9_init kn_X0_63 (by decide) (by decide) rfl rfl (by show (3 : Nat) ≤ 8; decide) ?_
  refine Run.mono (I_X9 (kIs_s WX0_g (n := 55) (by decide +kernel) ⟨by decide, by decide, by decide +kernel⟩) (by decide)) (fun r s e => ?_)
  refine R_eqs (st2 := [vA G 54, vI 3, vA G 36]) (σ2 := (iX9 (kmk (kup (iX9 (kmk (kup (iX9 (kmk (kup (iX9 (kmk (kup (iX2 (kmk (kup (iX2 (kmk (kup (iX2 (kmk (kup (iX2 (kmk (kup (iX2 (kmk (kup (iX2 (kmk (kup (iX2 (kmk (kup (iX2 (kmk (kup (iX3 (kmk (kup (iX3 (kmk (kup (iX3 (kmk (kup (iX3 (kmk (kup (iX3 (kmk (kup (iX3 (kmk (kup (kmk (kup (kmk (kup (kmk (kup (kmk (kup (kmk (kup (kup (kup (kup (kup (kup (kup (kup mu7 31 0 0) 31 1 0) 31 2 6) 31 3 0) 31 4 0) 31 5 0) 31 6 0) 31 7 0) 32) 31 8 32) 33) 31 9 33) 34) 31 10 34) 35) 31 11 35) 36) 31 12 36) 37) 37) 34 0 37) 38) 38) 34 1 38) 39) 39) 34 2 39) 40) 40) 34 3 40) 41) 41) 34 4 41) 42) 42) 34 5 42) 43) 43) 35 0 43) 44) 44) 35 1 44) 45) 45) 35 2 45) 46) 46) 35 3 46) 47) 47) 35 4 47) 48) 48) 35 5 48) 49) 49) 35 6 49) 50) 50) 35 7 50) 51) 51) 36 0 51) 52) 52) 36 1 52) 53) 53) 36 2 53) 54) 54)) rfl e ?_
  refine R_astq 29 9 6 WX0_g e_X0_init_8.2.2.2.2.2.1 (by decide) rfl (by decide) (kAr_0 WX0_g (n := 55) (by decide +kernel) ⟨by decide, by decide, by decide +kernel⟩ (by decide)) (kIs_0 WX0_g (n := 55) (by decide +kernel) ⟨by decide, by decide, by decide +kernel⟩) (by decide) (by decide) ?_
  refine R_iinc (ls2 := [(1, vI 4), (0, vA G 31)]) e_X0_init_8.2.2.2.2.2.2.1 0 rfl (by decide) rfl ?_
  refine R_goto 144 e_X0_init_8.2.2.2.2.2.2.2.1 (by decide) ?_
  refine R_iload_n e_X0_init_7.2.2.2.2.2.2.1 0 rfl ?_
  refine R_bipush e_X0_init_7.2.2.2.2.2.2.2.1 (by decide) ?_
  refine R_icmp_ge 169 e_X0_init_7.2.2.2.2.2.2.2.2.1 (by decide) (by decide) (by decide) (fun q => absurd q (by decide)) (fun q => ?_)
  refine R_aload_n e_X0_init_7.2.2.2.2.2.2.2.2.2 1 rfl ?_
  refine R_getA 0 12 36 e_X0_init_8.1 f_X0_57 (kIs_0 WX0_g (n := 55) (by decide +kernel) ⟨by decide, by decide, by decide +kernel⟩) (fun _ _ => rfl) (by decide +kernel) (by decide) ?_
  refine R_iload_n e_X0_init_8.2.1 0 rfl ?_
  refine R_new 55 9 1 6 WX0_g e_X0_init_8.2.2.1 ⟨by decide, cL_X0_55⟩ cI_X9 cN_X9 (by decide +kernel) ⟨by decide, by decide, by decide +kernel⟩ ⟨by decide, by decide⟩ ?_
  refine R_dup e_X0_init_8.2.2.2.1 rfl ?_
  refine R_callIN (mc := 1) (ms := 6) (mc' := 0) (ms' := 0) (M' := M_X9_init) (d' := 1) (as := []) (st := [vA G 55, vI 4, vA G 36]) 0 e_X0_init_8.2.2.2.2.1 m_X9_init kn_X0_63 (by decide) (by decide) rfl rfl (by show (3 : Nat) ≤ 8; decide) ?_
  refine Run.mono (I_X9 (kIs_s WX0_g (n := 56) (by decide +kernel) ⟨by decide, by decide, by decide +kernel⟩) (by decide)) (fun r s e => ?_)
  refine R_eqs (st2 := [vA G 55, vI 4, vA G 36]) (σ2 := (iX9 (kmk (kup (iX9 (kmk (kup (iX9 (kmk (kup (iX9 (kmk (kup (iX9 (kmk (kup (iX2 (kmk (kup (iX2 (kmk (kup (iX2 (kmk (kup (iX2 (kmk (kup (iX2 (kmk (kup (iX2 (kmk (kup (iX2 (kmk (kup (iX2 (kmk (kup (iX3 (kmk (kup (iX3 (kmk (kup (iX3 (kmk (kup (iX3 (kmk (kup (iX3 (kmk (kup (iX3 (kmk (kup (kmk (kup (kmk (kup (kmk (kup (kmk (kup (kmk (kup (kup (kup (kup (kup (kup (kup (kup mu7 31 0 0) 31 1 0) 31 2 6) 31 3 0) 31 4 0) 31 5 0) 31 6 0) 31 7 0) 32) 31 8 32) 33) 31 9 33) 34) 31 10 34) 35) 31 11 35) 36) 31 12 36) 37) 37) 34 0 37) 38) 38) 34 1 38) 39) 39) 34 2 39) 40) 40) 34 3 40) 41) 41) 34 4 41) 42) 42) 34 5 42) 43) 43) 35 0 43) 44) 44) 35 1 44) 45) 45) 35 2 45) 46) 46) 35 3 46) 47) 47) 35 4 47) 48) 48) 35 5 48) 49) 49) 35 6 49) 50) 50) 35 7 50) 51) 51) 36 0 51) 52) 52) 36 1 52) 53) 53) 36 2 53) 54) 54) 36 3 54) 55) 55)) rfl e ?_
  refine R_astq 29 9 6 WX0_g e_X0_init_8.2.2.2.2.2.1 (by decide) rfl (by decide) (kAr_0 WX0_g (n := 56) (by decide +kernel) ⟨by decide, by decide, by decide +kernel⟩ (by decide)) (kIs_0 WX0_g (n := 56) (by decide +kernel) ⟨by decide, by decide, by decide +kernel⟩) (by decide) (by decide) ?_
  refine R_iinc (ls2 := [(1, vI 5), (0, vA G 31)]) e_X0_init_8.2.2.2.2.2.2.1 0 rfl (by decide) rfl ?_
  refine R_goto 144 e_X0_init_8.2.2.2.2.2.2.2.1 (by decide) ?_
  refine R_iload_n e_X0_init_7.2.2.2.2.2.2.1 0 rfl ?_
  refine R_bipush e_X0_init_7.2.2.2.2.2.2.2.1 (by decide) ?_
  refine R_icmp_ge 169 e_X0_init_7.2.2.2.2.2.2.2.2.1 (by decide) (by decide) (by decide) (fun q => absurd q (by decide)) (fun q => ?_)
  refine R_aload_n e_X0_init_7.2.2.2.2.2.2.2.2.2 1 rfl ?_
  refine R_getA 0 12 36 e_X0_init_8.1 f_X0_57 (kIs_0 WX0_g (n := 56) (by decide +kernel) ⟨by decide, by decide, by decide +kernel⟩) (fun _ _ => rfl) (by decide +kernel) (by decide) ?_
  refine R_iload_n e_X0_init_8.2.1 0 rfl ?_
  refine R_new 56 9 0 0 WX0_g e_X0_init_8.2.2.1 ⟨by decide, cL_X0_55⟩ cI_X9 cN_X9 (by decide +kernel) ⟨by decide, by decide, by decide +kernel⟩ ⟨by decide, by decide⟩ ?_
  refine R_dup e_X0_init_8.2.2.2.1 rfl ?_
  refine R_callIN (mc := 0) (ms := 0) (mc' := 0) (ms' := 0) (M' := M_X9_init) (d' := 1) (as := []) (st := [vA G 56, vI 5, vA G 36]) 0 e_X0_init_8.2.2.2.2.1 m_X9_init kn_X0_63 (by decide) (by decide) rfl rfl (by show (3 : Nat) ≤ 8; decide) ?_
  refine Run.mono (I_X9 (kIs_s WX0_g (n := 57) (by decide +kernel) ⟨by decide, by decide, by decide +kernel⟩) (by decide)) (fun r s e => ?_)
  refine R_eqs (st2 := [vA G 56, vI 5, vA G 36]) (σ2 := (iX9 (kmk (kup (iX9 (kmk (kup (iX9 (kmk (kup (iX9 (kmk (kup (iX9 (kmk (kup (iX9 (kmk (kup (iX2 (kmk (kup (iX2 (kmk (kup (iX2 (kmk (kup (iX2 (kmk (kup (iX2 (kmk (kup (iX2 (kmk (kup (iX2 (kmk (kup (iX2 (kmk (kup (iX3 (kmk (kup (iX3 (kmk (kup (iX3 (kmk (kup (iX3 (kmk (kup (iX3 (kmk (kup (iX3 (kmk (kup (kmk (kup (kmk (kup (kmk (kup (kmk (kup (kmk (kup (kup (kup (kup (kup (kup (kup (kup mu7 31 0 0) 31 1 0) 31 2 6) 31 3 0) 31 4 0) 31 5 0) 31 6 0) 31 7 0) 32) 31 8 32) 33) 31 9 33) 34) 31 10 34) 35) 31 11 35) 36) 31 12 36) 37) 37) 34 0 37) 38) 38) 34 1 38) 39) 39) 34 2 39) 40) 40) 34 3 40) 41) 41) 34 4 41) 42) 42) 34 5 42) 43) 43) 35 0 43) 44) 44) 35 1 44) 45) 45) 35 2 45) 46) 46) 35 3 46) 47) 47) 35 4 47) 48) 48) 35 5 48) 49) 49) 35 6 49) 50) 50) 35 7 50) 51) 51) 36 0 51) 52) 52) 36 1 52) 53) 53) 36 2 53) 54) 54) 36 3 54) 55) 55) 36 4 55) 56) 56)) rfl e ?_
  refine R_astq 29 9 6 WX0_g e_X0_init_8.2.2.2.2.2.1 (by decide) rfl (by decide) (kAr_0 WX0_g (n := 57) (by decide +kernel) ⟨by decide, by decide, by decide +kernel⟩ (by decide)) (kIs_0 WX0_g (n := 57) (by decide +kernel) ⟨by decide, by decide, by decide +kernel⟩) (by decide) (by decide) ?_
  refine R_iinc (ls2 := [(1, vI 6), (0, vA G 31)]) e_X0_init_8.2.2.2.2.2.2.1 0 rfl (by decide) rfl ?_
  refine R_goto 144 e_X0_init_8.2.2.2.2.2.2.2.1 (by decide) ?_
  refine R_iload_n e_X0_init_7.2.2.2.2.2.2.1 0 rfl ?_
  refine R_bipush e_X0_init_7.2.2.2.2.2.2.2.1 (by decide) ?_
  refine R_icmp_ge 169 e_X0_init_7.2.2.2.2.2.2.2.2.1 (by decide) (by decide) (by decide) (fun q => ?_) (fun q => absurd q (by decide))
  refine R_aload_n e_X0_init_8.2.2.2.2.2.2.2.2.1 1 rfl ?_
  refine R_callV (mc := 0) (ms := 0) (mc' := 0) (ms' := 0) (M' := M_X0_clear) (d' := 0) (as := []) (st := []) 0 0 e_X0_init_8.2.2.2.2.2.2.2.2.2 (kCVof m_X0_clear l_X0_64) rfl (by decide) (kIs_0 WX0_g (n := 57) (by decide +kernel) ⟨by decide, by decide, by decide +kernel⟩) (by decide) (by decide) rfl rfl (by show (0 : Nat) ≤ 8; decide) ?_
  refine Run.mono I_mu9 (fun r s e => ?_)
  refine R_eqs (st2 := []) (σ2 := mu9) rfl e ?_
  exact R_return e_X0_init_9 rfl rfl
def mu11 : Kmem := (kmk (kup mu10 0 8 31) 57)
def mu12 : Kmem := (kup (kup (kup (kup (kup (kup (kup mu11 57 2 0) 57 3 0) 57 4 0) 57 5 0) 57 6 0) 57 0 3) 57 1 31)
theorem I_mu12 {G : Kg} : Run G WX0 M_X1_init 1 0 0 [vA G 57, vA G 3, vA G 31] mu11 (fun _ s => s = mu12) := by
  refine Run.of (by decide +kernel) (by show (3 : Nat) ≤ 3; decide) ?_
  show Ex G WX0 M_X1_init 1 0 0 0 [(0, vA G 57), (1, vA G 3), (2, vA G 31)] [] mu11 _
  refine R_aload_n e_X1_init_0.1 0 rfl ?_
  refine R_obj e_X1_init_0.2.1 oL_X1_3 oI_1 oI_2 (by decide) (by decide) ?_
  refine R_aload_n e_X1_init_0.2.2.1 0 rfl ?_
  refine R_iconst e_X1_init_0.2.2.2.1 ?_
  refine R_putZ 1 2 2 WX0_ok e_X1_init_0.2.2.2.2.1 f_X1_9 (kIs_0 WX0_g (n := 58) (by decide +kernel) ⟨by decide, by decide, by decide +kernel⟩) rfl rfl rfl (Or.inl rfl) ?_
  refine R_aload_n e_X1_init_0.2.2.2.2.2.1 0 rfl ?_
  refine R_iconst e_X1_init_0.2.2.2.2.2.2.1 ?_
  refine R_putZ 1 3 3 WX0_ok e_X1_init_0.2.2.2.2.2.2.2.1 f_X1_15 (kIs_0 WX0_g (n := 58) (by decide +kernel) ⟨by decide, by decide, by decide +kernel⟩) rfl rfl rfl (Or.inl rfl) ?_
  refine R_aload_n e_X1_init_0.2.2.2.2.2.2.2.2.1 0 rfl ?_
  refine R_lconst 0 e_X1_init_0.2.2.2.2.2.2.2.2.2 (by decide) ?_
  refine R_putL 1 4 4 WX0_ok e_X1_init_1.1 f_X1_18 (kIs_0 WX0_g (n := 58) (by decide +kernel) ⟨by decide, by decide, by decide +kernel⟩) rfl rfl rfl ?_
  refine R_aload_n e_X1_init_1.2.1 0 rfl ?_
  refine R_iconst e_X1_init_1.2.2.1 ?_
  refine R_putI 1 5 5 WX0_ok e_X1_init_1.2.2.2.1 f_X1_22 (kIs_0 WX0_g (n := 58) (by decide +kernel) ⟨by decide, by decide, by decide +kernel⟩) rfl rfl rfl ?_
  refine R_aload_n e_X1_init_1.2.2.2.2.1 0 rfl ?_
  refine R_iconst e_X1_init_1.2.2.2.2.2.1 ?_
  refine R_putI 1 6 6 WX0_ok e_X1_init_1.2.2.2.2.2.2.1 f_X1_26 (kIs_0 WX0_g (n := 58) (by decide +kernel) ⟨by decide, by decide, by decide +kernel⟩) rfl rfl rfl ?_
  refine R_aload_n e_X1_init_1.2.2.2.2.2.2.2.1 0 rfl ?_
  refine R_aload_n e_X1_init_1.2.2.2.2.2.2.2.2.1 1 rfl ?_
  refine R_putA 1 0 0 e_X1_init_1.2.2.2.2.2.2.2.2.2 f_X1_29 (kIs_0 WX0_g (n := 58) (by decide +kernel) ⟨by decide, by decide, by decide +kernel⟩) (Or.inr ⟨rfl, rfl, rfl⟩) rfl (puts0 WX0_g (by decide) (by decide)) rfl ?_
  refine R_aload_n e_X1_init_2.1 0 rfl ?_
  refine R_aload_n e_X1_init_2.2.1 2 rfl ?_
  refine R_putA 1 1 1 e_X1_init_2.2.2.1 f_X1_33 (kIs_0 WX0_g (n := 58) (by decide +kernel) ⟨by decide, by decide, by decide +kernel⟩) (Or.inr ⟨rfl, rfl, rfl⟩) rfl (puts0 WX0_g (by decide) (by decide)) rfl ?_
  exact R_return e_X1_init_2.2.2.2 rfl rfl
def mu13 : Kmem := (kmk (kup mu12 0 9 57) 58)
def mu14 : Kmem := (kup (kup (kmk (kup (kmk (kup (kmk (kup (kmk (kup (kmk (kup mu13 58 1 0) 59) 58 2 59) 60) 58 3 60) 61) 58 4 61) 62) 58 5 62) 63) 58 6 63) 58 0 5)
theorem I_mu14 {G : Kg} : Run G WX0 M_X8_init 1 5 144 [vA G 58, vA G 5] mu13 (fun _ s => s = mu14) := by
  refine Run.of (by decide +kernel) (by show (2 : Nat) ≤ 2; decide) ?_
  show Ex G WX0 M_X8_init 1 5 144 0 [(0, vA G 58), (1, vA G 5)] [] mu13 _
  refine R_aload_n e_X8_init_0.1 0 rfl ?_
  refine R_obj e_X8_init_0.2.1 oL_X8_3 oI_1 oI_2 (by decide) (by decide) ?_
  refine R_aload_n e_X8_init_0.2.2.1 0 rfl ?_
  refine R_iconst e_X8_init_0.2.2.2.1 ?_
  refine R_putI 8 1 1 WX0_ok e_X8_init_0.2.2.2.2.1 f_X8_9 (kIs_0 WX0_g (n := 59) (by decide +kernel) ⟨by decide, by decide, by decide +kernel⟩) rfl rfl rfl ?_
  refine R_aload_n e_X8_init_0.2.2.2.2.2.1 0 rfl ?_
  refine R_bipush e_X8_init_0.2.2.2.2.2.2.1 (by decide) ?_
  refine R_newarr 59 20 6 4 138 WX0_g e_X8_init_0.2.2.2.2.2.2.2.1 rfl (by decide) aC_int (by decide +kernel) ⟨by decide, by decide, by decide +kernel⟩ (by decide) ⟨by decide, by decide⟩ ?_
  refine R_putA 8 2 2 e_X8_init_0.2.2.2.2.2.2.2.2.1 f_X8_15 (kIs_0 WX0_g (n := 60) (by decide +kernel) ⟨by decide, by decide, by decide +kernel⟩) (Or.inr ⟨rfl, rfl, rfl⟩) rfl (puts0 WX0_g (by decide) (by decide)) rfl ?_
  refine R_aload_n e_X8_init_0.2.2.2.2.2.2.2.2.2 0 rfl ?_
  refine R_bipush e_X8_init_1.1 (by decide) ?_
  refine R_newarr 60 20 6 3 132 WX0_g e_X8_init_1.2.1 rfl (by decide) aC_int (by decide +kernel) ⟨by decide, by decide, by decide +kernel⟩ (by decide) ⟨by decide, by decide⟩ ?_
  refine R_putA 8 3 3 e_X8_init_1.2.2.1 f_X8_19 (kIs_0 WX0_g (n := 61) (by decide +kernel) ⟨by decide, by decide, by decide +kernel⟩) (Or.inr ⟨rfl, rfl, rfl⟩) rfl (puts0 WX0_g (by decide) (by decide)) rfl ?_
  refine R_aload_n e_X8_init_1.2.2.2.1 0 rfl ?_
  refine R_bipush e_X8_init_1.2.2.2.2.1 (by decide) ?_
  refine R_newarr 61 20 6 2 126 WX0_g e_X8_init_1.2.2.2.2.2.1 rfl (by decide) aC_int (by decide +kernel) ⟨by decide, by decide, by decide +kernel⟩ (by decide) ⟨by decide, by decide⟩ ?_
  refine R_putA 8 4 4 e_X8_init_1.2.2.2.2.2.2.1 f_X8_22 (kIs_0 WX0_g (n := 62) (by decide +kernel) ⟨by decide, by decide, by decide +kernel⟩) (Or.inr ⟨rfl, rfl, rfl⟩) rfl (puts0 WX0_g (by decide) (by decide)) rfl ?_
  refine R_aload_n e_X8_init_1.2.2.2.2.2.2.2.1 0 rfl ?_
  refine R_bipush e_X8_init_1.2.2.2.2.2.2.2.2.1 (by decide) ?_
  refine R_newarr 62 20 63 1 63 WX0_g e_X8_init_1.2.2.2.2.2.2.2.2.2 rfl (by decide) aC_int (by decide +kernel) ⟨by decide, by decide, by decide +kernel⟩ (by decide) ⟨by decide, by decide⟩ ?_
  refine R_putA 8 5 5 e_X8_init_2.1 f_X8_25 (kIs_0 WX0_g (n := 63) (by decide +kernel) ⟨by decide, by decide, by decide +kernel⟩) (Or.inr ⟨rfl, rfl, rfl⟩) rfl (puts0 WX0_g (by decide) (by decide)) rfl ?_
  refine R_aload_n e_X8_init_2.2.1 0 rfl ?_
  refine R_bipush e_X8_init_2.2.2.1 (by decide) ?_
  refine R_newarr 63 20 63 0 0 WX0_g e_X8_init_2.2.2.2.1 rfl (by decide) aC_int (by decide +kernel) ⟨by decide, by decide, by decide +kernel⟩ (by decide) ⟨by decide, by decide⟩ ?_
  refine R_putA 8 6 6 e_X8_init_2.2.2.2.2.1 f_X8_28 (kIs_0 WX0_g (n := 64) (by decide +kernel) ⟨by decide, by decide, by decide +kernel⟩) (Or.inr ⟨rfl, rfl, rfl⟩) rfl (puts0 WX0_g (by decide) (by decide)) rfl ?_
  refine R_aload_n e_X8_init_2.2.2.2.2.2.1 0 rfl ?_
  refine R_aload_n e_X8_init_2.2.2.2.2.2.2.1 1 rfl ?_
  refine R_putA 8 0 0 e_X8_init_2.2.2.2.2.2.2.2.1 f_X8_31 (kIs_0 WX0_g (n := 64) (by decide +kernel) ⟨by decide, by decide, by decide +kernel⟩) (Or.inl rfl) rfl (puts0 WX0_g (by decide) (by decide)) rfl ?_
  exact R_return e_X8_init_2.2.2.2.2.2.2.2.2 rfl rfl
def mu15 : Kmem := (kmk (kup mu14 0 10 58) 64)
def mu16 : Kmem := (kup (kup (kmk (kup (kmk (kup (kmk (kup (kmk (kup (kmk (kup (kmk (kup (kup (kup mu15 64 0 0) 64 1 0) 64 2 0) 65) 64 3 65) 66) 64 4 66) 67) 64 5 67) 68) 64 6 68) 69) 64 7 69) 70) 64 8 70) 64 9 0)
theorem I_mu16 {G : Kg} : Run G WX0 M_X7_init 1 6 303 [vA G 64] mu15 (fun _ s => s = mu16) := by
  refine Run.of (by decide +kernel) (by show (1 : Nat) ≤ 1; decide) ?_
  show Ex G WX0 M_X7_init 1 6 303 0 [(0, vA G 64)] [] mu15 _
  refine R_aload_n e_X7_init_0.1 0 rfl ?_
  refine R_obj e_X7_init_0.2.1 oL_X7_3 oI_1 oI_2 (by decide) (by decide) ?_
  refine R_aload_n e_X7_init_0.2.2.1 0 rfl ?_
  refine R_iconst e_X7_init_0.2.2.2.1 ?_
  refine R_putZ 7 0 0 WX0_ok e_X7_init_0.2.2.2.2.1 f_X7_9 (kIs_0 WX0_g (n := 65) (by decide +kernel) ⟨by decide, by decide, by decide +kernel⟩) rfl rfl rfl (Or.inl rfl) ?_
  refine R_aload_n e_X7_init_0.2.2.2.2.2.1 0 rfl ?_
  refine R_iconst e_X7_init_0.2.2.2.2.2.2.1 ?_
  refine R_putI 7 1 1 WX0_ok e_X7_init_0.2.2.2.2.2.2.2.1 f_X7_15 (kIs_0 WX0_g (n := 65) (by decide +kernel) ⟨by decide, by decide, by decide +kernel⟩) rfl rfl rfl ?_
  refine R_aload_n e_X7_init_0.2.2.2.2.2.2.2.2.1 0 rfl ?_
  refine R_iconst e_X7_init_0.2.2.2.2.2.2.2.2.2 ?_
  refine R_putI 7 2 2 WX0_ok e_X7_init_1.1 f_X7_19 (kIs_0 WX0_g (n := 65) (by decide +kernel) ⟨by decide, by decide, by decide +kernel⟩) rfl rfl rfl ?_
  refine R_aload_n e_X7_init_1.2.1 0 rfl ?_
  refine R_bipush e_X7_init_1.2.2.1 (by decide) ?_
  refine R_newarr 65 20 60 5 243 WX0_g e_X7_init_1.2.2.2.1 rfl (by decide) aC_int (by decide +kernel) ⟨by decide, by decide, by decide +kernel⟩ (by decide) ⟨by decide, by decide⟩ ?_
  refine R_putA 7 3 3 e_X7_init_1.2.2.2.2.1 f_X7_22 (kIs_0 WX0_g (n := 66) (by decide +kernel) ⟨by decide, by decide, by decide +kernel⟩) (Or.inr ⟨rfl, rfl, rfl⟩) rfl (puts0 WX0_g (by decide) (by decide)) rfl ?_
  refine R_aload_n e_X7_init_1.2.2.2.2.2.1 0 rfl ?_
  refine R_bipush e_X7_init_1.2.2.2.2.2.2.1 (by decide) ?_
  refine R_newarr 66 20 60 4 183 WX0_g e_X7_init_1.2.2.2.2.2.2.2.1 rfl (by decide) aC_int (by decide +kernel) ⟨by decide, by decide, by decide +kernel⟩ (by decide) ⟨by decide, by decide⟩ ?_
  refine R_putA 7 4 4 e_X7_init_1.2.2.2.2.2.2.2.2.1 f_X7_26 (kIs_0 WX0_g (n := 67) (by decide +kernel) ⟨by decide, by decide, by decide +kernel⟩) (Or.inr ⟨rfl, rfl, rfl⟩) rfl (puts0 WX0_g (by decide) (by decide)) rfl ?_
  refine R_aload_n e_X7_init_1.2.2.2.2.2.2.2.2.2 0 rfl ?_
  refine R_bipush e_X7_init_2.1 (by decide) ?_
  refine R_newarr 67 20 60 3 123 WX0_g e_X7_init_2.2.1 rfl (by decide) aC_int (by decide +kernel) ⟨by decide, by decide, by decide +kernel⟩ (by decide) ⟨by decide, by decide⟩ ?_
  refine R_putA 7 5 5 e_X7_init_2.2.2.1 f_X7_29 (kIs_0 WX0_g (n := 68) (by decide +kernel) ⟨by decide, by decide, by decide +kernel⟩) (Or.inr ⟨rfl, rfl, rfl⟩) rfl (puts0 WX0_g (by decide) (by decide)) rfl ?_
  refine R_aload_n e_X7_init_2.2.2.2.1 0 rfl ?_
  refine R_bipush e_X7_init_2.2.2.2.2.1 (by decide) ?_
  refine R_newarr 68 20 60 2 63 WX0_g e_X7_init_2.2.2.2.2.2.1 rfl (by decide) aC_int (by decide +kernel) ⟨by decide, by decide, by decide +kernel⟩ (by decide) ⟨by decide, by decide⟩ ?_
  refine R_putA 7 6 6 e_X7_init_2.2.2.2.2.2.2.1 f_X7_32 (kIs_0 WX0_g (n := 69) (by decide +kernel) ⟨by decide, by decide, by decide +kernel⟩) (Or.inr ⟨rfl, rfl, rfl⟩) rfl (puts0 WX0_g (by decide) (by decide)) rfl ?_
  refine R_aload_n e_X7_init_2.2.2.2.2.2.2.2.1 0 rfl ?_
  refine R_bipush e_X7_init_2.2.2.2.2.2.2.2.2.1 (by decide) ?_
  refine R_newarr 69 20 60 1 3 WX0_g e_X7_init_2.2.2.2.2.2.2.2.2.2 rfl (by decide) aC_int (by decide +kernel) ⟨by decide, by decide, by decide +kernel⟩ (by decide) ⟨by decide, by decide⟩ ?_
  refine R_putA 7 7 7 e_X7_init_3.1 f_X7_35 (kIs_0 WX0_g (n := 70) (by decide +kernel) ⟨by decide, by decide, by decide +kernel⟩) (Or.inr ⟨rfl, rfl, rfl⟩) rfl (puts0 WX0_g (by decide) (by decide)) rfl ?_
  refine R_aload_n e_X7_init_3.2.1 0 rfl ?_
  refine R_iconst e_X7_init_3.2.2.1 ?_
  refine R_newarr 70 20 3 0 0 WX0_g e_X7_init_3.2.2.2.1 rfl (by decide) aC_int (by decide +kernel) ⟨by decide, by decide, by decide +kernel⟩ (by decide) ⟨by decide, by decide⟩ ?_
  refine R_putA 7 8 8 e_X7_init_3.2.2.2.2.1 f_X7_38 (kIs_0 WX0_g (n := 71) (by decide +kernel) ⟨by decide, by decide, by decide +kernel⟩) (Or.inr ⟨rfl, rfl, rfl⟩) rfl (puts0 WX0_g (by decide) (by decide)) rfl ?_
  refine R_aload_n e_X7_init_3.2.2.2.2.2.1 0 rfl ?_
  refine R_iconst e_X7_init_3.2.2.2.2.2.2.1 ?_
  refine R_putI 7 9 9 WX0_ok e_X7_init_3.2.2.2.2.2.2.2.1 f_X7_41 (kIs_0 WX0_g (n := 71) (by decide +kernel) ⟨by decide, by decide, by decide +kernel⟩) rfl rfl rfl ?_
  exact R_return e_X7_init_3.2.2.2.2.2.2.2.2 rfl rfl
def mu17 : Kmem := (kmk (kup mu16 0 11 64) 71)
def mu18 : Kmem := (kup (kup (kmk (kup (kmk (kup (kmk (kup (kmk (kup (kmk (kup (kmk (kup (kup (kup mu17 71 0 0) 71 1 0) 71 2 0) 72) 71 3 72) 73) 71 4 73) 74) 71 5 74) 75) 71 6 75) 76) 71 7 76) 77) 71 8 77) 71 9 0)
theorem I_mu18 {G : Kg} : Run G WX0 M_X7_init 1 6 303 [vA G 71] mu17 (fun _ s => s = mu18) := by
  refine Run.of (by decide +kernel) (by show (1 : Nat) ≤ 1; decide) ?_
  show Ex G WX0 M_X7_init 1 6 303 0 [(0, vA G 71)] [] mu17 _
  refine R_aload_n e_X7_init_0.1 0 rfl ?_
  refine R_obj e_X7_init_0.2.1 oL_X7_3 oI_1 oI_2 (by decide) (by decide) ?_
  refine R_aload_n e_X7_init_0.2.2.1 0 rfl ?_
  refine R_iconst e_X7_init_0.2.2.2.1 ?_
  refine R_putZ 7 0 0 WX0_ok e_X7_init_0.2.2.2.2.1 f_X7_9 (kIs_0 WX0_g (n := 72) (by decide +kernel) ⟨by decide, by decide, by decide +kernel⟩) rfl rfl rfl (Or.inl rfl) ?_
  refine R_aload_n e_X7_init_0.2.2.2.2.2.1 0 rfl ?_
  refine R_iconst e_X7_init_0.2.2.2.2.2.2.1 ?_
  refine R_putI 7 1 1 WX0_ok e_X7_init_0.2.2.2.2.2.2.2.1 f_X7_15 (kIs_0 WX0_g (n := 72) (by decide +kernel) ⟨by decide, by decide, by decide +kernel⟩) rfl rfl rfl ?_
  refine R_aload_n e_X7_init_0.2.2.2.2.2.2.2.2.1 0 rfl ?_
  refine R_iconst e_X7_init_0.2.2.2.2.2.2.2.2.2 ?_
  refine R_putI 7 2 2 WX0_ok e_X7_init_1.1 f_X7_19 (kIs_0 WX0_g (n := 72) (by decide +kernel) ⟨by decide, by decide, by decide +kernel⟩) rfl rfl rfl ?_
  refine R_aload_n e_X7_init_1.2.1 0 rfl ?_
  refine R_bipush e_X7_init_1.2.2.1 (by decide) ?_
  refine R_newarr 72 20 60 5 243 WX0_g e_X7_init_1.2.2.2.1 rfl (by decide) aC_int (by decide +kernel) ⟨by decide, by decide, by decide +kernel⟩ (by decide) ⟨by decide, by decide⟩ ?_
  refine R_putA 7 3 3 e_X7_init_1.2.2.2.2.1 f_X7_22 (kIs_0 WX0_g (n := 73) (by decide +kernel) ⟨by decide, by decide, by decide +kernel⟩) (Or.inr ⟨rfl, rfl, rfl⟩) rfl (puts0 WX0_g (by decide) (by decide)) rfl ?_
  refine R_aload_n e_X7_init_1.2.2.2.2.2.1 0 rfl ?_
  refine R_bipush e_X7_init_1.2.2.2.2.2.2.1 (by decide) ?_
  refine R_newarr 73 20 60 4 183 WX0_g e_X7_init_1.2.2.2.2.2.2.2.1 rfl (by decide) aC_int (by decide +kernel) ⟨by decide, by decide, by decide +kernel⟩ (by decide) ⟨by decide, by decide⟩ ?_
  refine R_putA 7 4 4 e_X7_init_1.2.2.2.2.2.2.2.2.1 f_X7_26 (kIs_0 WX0_g (n := 74) (by decide +kernel) ⟨by decide, by decide, by decide +kernel⟩) (Or.inr ⟨rfl, rfl, rfl⟩) rfl (puts0 WX0_g (by decide) (by decide)) rfl ?_
  refine R_aload_n e_X7_init_1.2.2.2.2.2.2.2.2.2 0 rfl ?_
  refine R_bipush e_X7_init_2.1 (by decide) ?_
  refine R_newarr 74 20 60 3 123 WX0_g e_X7_init_2.2.1 rfl (by decide) aC_int (by decide +kernel) ⟨by decide, by decide, by decide +kernel⟩ (by decide) ⟨by decide, by decide⟩ ?_
  refine R_putA 7 5 5 e_X7_init_2.2.2.1 f_X7_29 (kIs_0 WX0_g (n := 75) (by decide +kernel) ⟨by decide, by decide, by decide +kernel⟩) (Or.inr ⟨rfl, rfl, rfl⟩) rfl (puts0 WX0_g (by decide) (by decide)) rfl ?_
  refine R_aload_n e_X7_init_2.2.2.2.1 0 rfl ?_
  refine R_bipush e_X7_init_2.2.2.2.2.1 (by decide) ?_
  refine R_newarr 75 20 60 2 63 WX0_g e_X7_init_2.2.2.2.2.2.1 rfl (by decide) aC_int (by decide +kernel) ⟨by decide, by decide, by decide +kernel⟩ (by decide) ⟨by decide, by decide⟩ ?_
  refine R_putA 7 6 6 e_X7_init_2.2.2.2.2.2.2.1 f_X7_32 (kIs_0 WX0_g (n := 76) (by decide +kernel) ⟨by decide, by decide, by decide +kernel⟩) (Or.inr ⟨rfl, rfl, rfl⟩) rfl (puts0 WX0_g (by decide) (by decide)) rfl ?_
  refine R_aload_n e_X7_init_2.2.2.2.2.2.2.2.1 0 rfl ?_
  refine R_bipush e_X7_init_2.2.2.2.2.2.2.2.2.1 (by decide) ?_
  refine R_newarr 76 20 60 1 3 WX0_g e_X7_init_2.2.2.2.2.2.2.2.2.2 rfl (by decide) aC_int (by decide +kernel) ⟨by decide, by decide, by decide +kernel⟩ (by decide) ⟨by decide, by decide⟩ ?_
  refine R_putA 7 7 7 e_X7_init_3.1 f_X7_35 (kIs_0 WX0_g (n := 77) (by decide +kernel) ⟨by decide, by decide, by decide +kernel⟩) (Or.inr ⟨rfl, rfl, rfl⟩) rfl (puts0 WX0_g (by decide) (by decide)) rfl ?_
  refine R_aload_n e_X7_init_3.2.1 0 rfl ?_
  refine R_iconst e_X7_init_3.2.2.1 ?_
  refine R_newarr 77 20 3 0 0 WX0_g e_X7_init_3.2.2.2.1 rfl (by decide) aC_int (by decide +kernel) ⟨by decide, by decide, by decide +kernel⟩ (by decide) ⟨by decide, by decide⟩ ?_
  refine R_putA 7 8 8 e_X7_init_3.2.2.2.2.1 f_X7_38 (kIs_0 WX0_g (n := 78) (by decide +kernel) ⟨by decide, by decide, by decide +kernel⟩) (Or.inr ⟨rfl, rfl, rfl⟩) rfl (puts0 WX0_g (by decide) (by decide)) rfl ?_
  refine R_aload_n e_X7_init_3.2.2.2.2.2.1 0 rfl ?_
  refine R_iconst e_X7_init_3.2.2.2.2.2.2.1 ?_
  refine R_putI 7 9 9 WX0_ok e_X7_init_3.2.2.2.2.2.2.2.1 f_X7_41 (kIs_0 WX0_g (n := 78) (by decide +kernel) ⟨by decide, by decide, by decide +kernel⟩) rfl rfl rfl ?_
  exact R_return e_X7_init_3.2.2.2.2.2.2.2.2 rfl rfl
def mu19 : Kmem := (kmk (kup mu18 0 12 71) 78)
def mu20 : Kmem := (kup (kmk (kup (kup (kup (kup (kup (kup (kup (kup mu19 78 0 0) 78 1 0) 78 2 0) 78 3 0) 78 4 0) 78 5 0) 78 6 0) 78 7 0) 79) 78 8 79)
theorem I_mu20 {G : Kg} : Run G WX0 M_X4_init 1 1 60 [vA G 78] mu19 (fun _ s => s = mu20) := by
  refine Run.of (by decide +kernel) (by show (1 : Nat) ≤ 1; decide) ?_
  show Ex G WX0 M_X4_init 1 1 60 0 [(0, vA G 78)] [] mu19 _
  refine R_aload_n e_X4_init_0.1 0 rfl ?_
  refine R_obj e_X4_init_0.2.1 oL_X4_3 oI_1 oI_2 (by decide) (by decide) ?_
  refine R_aload_n e_X4_init_0.2.2.1 0 rfl ?_
  refine R_iconst e_X4_init_0.2.2.2.1 ?_
  refine R_putZ 4 0 0 WX0_ok e_X4_init_0.2.2.2.2.1 f_X4_9 (kIs_0 WX0_g (n := 79) (by decide +kernel) ⟨by decide, by decide, by decide +kernel⟩) rfl rfl rfl (Or.inl rfl) ?_
  refine R_aload_n e_X4_init_0.2.2.2.2.2.1 0 rfl ?_
  refine R_iconst e_X4_init_0.2.2.2.2.2.2.1 ?_
  refine R_putI 4 1 1 WX0_ok e_X4_init_0.2.2.2.2.2.2.2.1 f_X4_15 (kIs_0 WX0_g (n := 79) (by decide +kernel) ⟨by decide, by decide, by decide +kernel⟩) rfl rfl rfl ?_
  refine R_aload_n e_X4_init_0.2.2.2.2.2.2.2.2.1 0 rfl ?_
  refine R_iconst e_X4_init_0.2.2.2.2.2.2.2.2.2 ?_
  refine R_putI 4 2 2 WX0_ok e_X4_init_1.1 f_X4_19 (kIs_0 WX0_g (n := 79) (by decide +kernel) ⟨by decide, by decide, by decide +kernel⟩) rfl rfl rfl ?_
  refine R_aload_n e_X4_init_1.2.1 0 rfl ?_
  refine R_iconst e_X4_init_1.2.2.1 ?_
  refine R_putI 4 3 3 WX0_ok e_X4_init_1.2.2.2.1 f_X4_22 (kIs_0 WX0_g (n := 79) (by decide +kernel) ⟨by decide, by decide, by decide +kernel⟩) rfl rfl rfl ?_
  refine R_aload_n e_X4_init_1.2.2.2.2.1 0 rfl ?_
  refine R_iconst e_X4_init_1.2.2.2.2.2.1 ?_
  refine R_putI 4 4 4 WX0_ok e_X4_init_1.2.2.2.2.2.2.1 f_X4_25 (kIs_0 WX0_g (n := 79) (by decide +kernel) ⟨by decide, by decide, by decide +kernel⟩) rfl rfl rfl ?_
  refine R_aload_n e_X4_init_1.2.2.2.2.2.2.2.1 0 rfl ?_
  refine R_iconst e_X4_init_1.2.2.2.2.2.2.2.2.1 ?_
  refine R_putI 4 5 5 WX0_ok e_X4_init_1.2.2.2.2.2.2.2.2.2 f_X4_28 (kIs_0 WX0_g (n := 79) (by decide +kernel) ⟨by decide, by decide, by decide +kernel⟩) rfl rfl rfl ?_
  refine R_aload_n e_X4_init_2.1 0 rfl ?_
  refine R_iconst e_X4_init_2.2.1 ?_
  refine R_putZ 4 6 6 WX0_ok e_X4_init_2.2.2.1 f_X4_31 (kIs_0 WX0_g (n := 79) (by decide +kernel) ⟨by decide, by decide, by decide +kernel⟩) rfl rfl rfl (Or.inl rfl) ?_
  refine R_aload_n e_X4_init_2.2.2.2.1 0 rfl ?_
  refine R_iconst e_X4_init_2.2.2.2.2.1 ?_
  refine R_putI 4 7 7 WX0_ok e_X4_init_2.2.2.2.2.2.1 f_X4_34 (kIs_0 WX0_g (n := 79) (by decide +kernel) ⟨by decide, by decide, by decide +kernel⟩) rfl rfl rfl ?_
  refine R_aload_n e_X4_init_2.2.2.2.2.2.2.1 0 rfl ?_
  refine R_bipush e_X4_init_2.2.2.2.2.2.2.2.1 (by decide) ?_
  refine R_newarr 79 20 60 0 0 WX0_g e_X4_init_2.2.2.2.2.2.2.2.2.1 rfl (by decide) aC_int (by decide +kernel) ⟨by decide, by decide, by decide +kernel⟩ (by decide) ⟨by decide, by decide⟩ ?_
  refine R_putA 4 8 8 e_X4_init_2.2.2.2.2.2.2.2.2.2 f_X4_39 (kIs_0 WX0_g (n := 80) (by decide +kernel) ⟨by decide, by decide, by decide +kernel⟩) (Or.inr ⟨rfl, rfl, rfl⟩) rfl (puts0 WX0_g (by decide) (by decide)) rfl ?_
  exact R_return e_X4_init_3 rfl rfl
def mu21 : Kmem := (kmk (kup mu20 0 13 78) 80)
def mu22 : Kmem := (kup (kmk (kup (kup (kup (kup (kup (kup (kup (kup mu21 80 0 0) 80 1 0) 80 2 0) 80 3 0) 80 4 0) 80 5 0) 80 6 0) 80 7 0) 81) 80 8 81)
theorem I_mu22 {G : Kg} : Run G WX0 M_X4_init 1 1 60 [vA G 80] mu21 (fun _ s => s = mu22) := by
  refine Run.of (by decide +kernel) (by show (1 : Nat) ≤ 1; decide) ?_
  show Ex G WX0 M_X4_init 1 1 60 0 [(0, vA G 80)] [] mu21 _
  refine R_aload_n e_X4_init_0.1 0 rfl ?_
  refine R_obj e_X4_init_0.2.1 oL_X4_3 oI_1 oI_2 (by decide) (by decide) ?_
  refine R_aload_n e_X4_init_0.2.2.1 0 rfl ?_
  refine R_iconst e_X4_init_0.2.2.2.1 ?_
  refine R_putZ 4 0 0 WX0_ok e_X4_init_0.2.2.2.2.1 f_X4_9 (kIs_0 WX0_g (n := 81) (by decide +kernel) ⟨by decide, by decide, by decide +kernel⟩) rfl rfl rfl (Or.inl rfl) ?_
  refine R_aload_n e_X4_init_0.2.2.2.2.2.1 0 rfl ?_
  refine R_iconst e_X4_init_0.2.2.2.2.2.2.1 ?_
  refine R_putI 4 1 1 WX0_ok e_X4_init_0.2.2.2.2.2.2.2.1 f_X4_15 (kIs_0 WX0_g (n := 81) (by decide +kernel) ⟨by decide, by decide, by decide +kernel⟩) rfl rfl rfl ?_
  refine R_aload_n e_X4_init_0.2.2.2.2.2.2.2.2.1 0 rfl ?_
  refine R_iconst e_X4_init_0.2.2.2.2.2.2.2.2.2 ?_
  refine R_putI 4 2 2 WX0_ok e_X4_init_1.1 f_X4_19 (kIs_0 WX0_g (n := 81) (by decide +kernel) ⟨by decide, by decide, by decide +kernel⟩) rfl rfl rfl ?_
  refine R_aload_n e_X4_init_1.2.1 0 rfl ?_
  refine R_iconst e_X4_init_1.2.2.1 ?_
  refine R_putI 4 3 3 WX0_ok e_X4_init_1.2.2.2.1 f_X4_22 (kIs_0 WX0_g (n := 81) (by decide +kernel) ⟨by decide, by decide, by decide +kernel⟩) rfl rfl rfl ?_
  refine R_aload_n e_X4_init_1.2.2.2.2.1 0 rfl ?_
  refine R_iconst e_X4_init_1.2.2.2.2.2.1 ?_
  refine R_putI 4 4 4 WX0_ok e_X4_init_1.2.2.2.2.2.2.1 f_X4_25 (kIs_0 WX0_g (n := 81) (by decide +kernel) ⟨by decide, by decide, by decide +kernel⟩) rfl rfl rfl ?_
  refine R_aload_n e_X4_init_1.2.2.2.2.2.2.2.1 0 rfl ?_
  refine R_iconst e_X4_init_1.2.2.2.2.2.2.2.2.1 ?_
  refine R_putI 4 5 5 WX0_ok e_X4_init_1.2.2.2.2.2.2.2.2.2 f_X4_28 (kIs_0 WX0_g (n := 81) (by decide +kernel) ⟨by decide, by decide, by decide +kernel⟩) rfl rfl rfl ?_
  refine R_aload_n e_X4_init_2.1 0 rfl ?_
  refine R_iconst e_X4_init_2.2.1 ?_
  refine R_putZ 4 6 6 WX0_ok e_X4_init_2.2.2.1 f_X4_31 (kIs_0 WX0_g (n := 81) (by decide +kernel) ⟨by decide, by decide, by decide +kernel⟩) rfl rfl rfl (Or.inl rfl) ?_
  refine R_aload_n e_X4_init_2.2.2.2.1 0 rfl ?_
  refine R_iconst e_X4_init_2.2.2.2.2.1 ?_
  refine R_putI 4 7 7 WX0_ok e_X4_init_2.2.2.2.2.2.1 f_X4_34 (kIs_0 WX0_g (n := 81) (by decide +kernel) ⟨by decide, by decide, by decide +kernel⟩) rfl rfl rfl ?_
  refine R_aload_n e_X4_init_2.2.2.2.2.2.2.1 0 rfl ?_
  refine R_bipush e_X4_init_2.2.2.2.2.2.2.2.1 (by decide) ?_
  refine R_newarr 81 20 60 0 0 WX0_g e_X4_init_2.2.2.2.2.2.2.2.2.1 rfl (by decide) aC_int (by decide +kernel) ⟨by decide, by decide, by decide +kernel⟩ (by decide) ⟨by decide, by decide⟩ ?_
  refine R_putA 4 8 8 e_X4_init_2.2.2.2.2.2.2.2.2.2 f_X4_39 (kIs_0 WX0_g (n := 82) (by decide +kernel) ⟨by decide, by decide, by decide +kernel⟩) (Or.inr ⟨rfl, rfl, rfl⟩) rfl (puts0 WX0_g (by decide) (by decide)) rfl ?_
  exact R_return e_X4_init_3 rfl rfl
def mu23 : Kmem := (kmk (kup mu22 0 14 80) 82)
def mu24 : Kmem := (kup (kup (kup (kmr (kup (kmk (kup (kmk (kup (kup (kmk (kup (kup (kup (kup (kup (kmk (kup (kup (kup (kmk (kup (kmk (kup (kup mu23 82 2 0) 82 3 0) 83) 82 4 83) 84) 82 5 84) 82 6 0) 82 7 0) 85) 82 8 85) 82 9 0) 82 10 0) 82 11 0) 82 12 0) 86) 82 13 86) 82 14 0) 87) 82 15 87) 88) 82 16 88) 89) 82 17 89) 82 0 31) 82 1 58)
theorem I_mu24 {G : Kg} : Run G WX0 M_X5_init 1 13 222 [vA G 82, vA G 31, vA G 58] mu23 (fun _ s => s = mu24) := by
  refine Run.of (by decide +kernel) (by show (3 : Nat) ≤ 3; decide) ?_
  show Ex G WX0 M_X5_init 1 13 222 0 [(0, vA G 82), (1, vA G 31), (2, vA G 58)] [] mu23 _
  refine R_aload_n e_X5_init_0.1 0 rfl ?_
  refine R_obj e_X5_init_0.2.1 oL_X5_3 oI_1 oI_2 (by decide) (by decide) ?_
  refine R_aload_n e_X5_init_0.2.2.1 0 rfl ?_
  refine R_iconst e_X5_init_0.2.2.2.1 ?_
  refine R_putI 5 2 2 WX0_ok e_X5_init_0.2.2.2.2.1 f_X5_9 (kIs_0 WX0_g (n := 83) (by decide +kernel) ⟨by decide, by decide, by decide +kernel⟩) rfl rfl rfl ?_
  refine R_aload_n e_X5_init_0.2.2.2.2.2.1 0 rfl ?_
  refine R_iconst e_X5_init_0.2.2.2.2.2.2.1 ?_
  refine R_putI 5 3 3 WX0_ok e_X5_init_0.2.2.2.2.2.2.2.1 f_X5_15 (kIs_0 WX0_g (n := 83) (by decide +kernel) ⟨by decide, by decide, by decide +kernel⟩) rfl rfl rfl ?_
  refine R_aload_n e_X5_init_0.2.2.2.2.2.2.2.2.1 0 rfl ?_
  refine R_bipush e_X5_init_0.2.2.2.2.2.2.2.2.2 (by decide) ?_
  refine R_newarr 83 20 63 12 159 WX0_g e_X5_init_1.1 rfl (by decide) aC_int (by decide +kernel) ⟨by decide, by decide, by decide +kernel⟩ (by decide) ⟨by decide, by decide⟩ ?_
  refine R_putA 5 4 4 e_X5_init_1.2.1 f_X5_18 (kIs_0 WX0_g (n := 84) (by decide +kernel) ⟨by decide, by decide, by decide +kernel⟩) (Or.inr ⟨rfl, rfl, rfl⟩) rfl (puts0 WX0_g (by decide) (by decide)) rfl ?_
  refine R_aload_n e_X5_init_1.2.2.1 0 rfl ?_
  refine R_iconst e_X5_init_1.2.2.2.1 ?_
  refine R_newarr 84 20 5 11 154 WX0_g e_X5_init_1.2.2.2.2.1 rfl (by decide) aC_int (by decide +kernel) ⟨by decide, by decide, by decide +kernel⟩ (by decide) ⟨by decide, by decide⟩ ?_
  refine R_putA 5 5 5 e_X5_init_1.2.2.2.2.2.1 f_X5_22 (kIs_0 WX0_g (n := 85) (by decide +kernel) ⟨by decide, by decide, by decide +kernel⟩) (Or.inr ⟨rfl, rfl, rfl⟩) rfl (puts0 WX0_g (by decide) (by decide)) rfl ?_
  refine R_aload_n e_X5_init_1.2.2.2.2.2.2.1 0 rfl ?_
  refine R_iconst e_X5_init_1.2.2.2.2.2.2.2.1 ?_
  refine R_putI 5 6 6 WX0_ok e_X5_init_1.2.2.2.2.2.2.2.2.1 f_X5_25 (kIs_0 WX0_g (n := 85) (by decide +kernel) ⟨by decide, by decide, by decide +kernel⟩) rfl rfl rfl ?_
  refine R_aload_n e_X5_init_1.2.2.2.2.2.2.2.2.2 0 rfl ?_
  refine R_iconst e_X5_init_2.1 ?_
  refine R_putI 5 7 7 WX0_ok e_X5_init_2.2.1 f_X5_28 (kIs_0 WX0_g (n := 85) (by decide +kernel) ⟨by decide, by decide, by decide +kernel⟩) rfl rfl rfl ?_
  refine R_aload_n e_X5_init_2.2.2.1 0 rfl ?_
  refine R_iconst e_X5_init_2.2.2.2.1 ?_
  refine R_newarr 85 20 5 10 149 WX0_g e_X5_init_2.2.2.2.2.1 rfl (by decide) aC_int (by decide +kernel) ⟨by decide, by decide, by decide +kernel⟩ (by decide) ⟨by decide, by decide⟩ ?_
  refine R_putA 5 8 8 e_X5_init_2.2.2.2.2.2.1 f_X5_31 (kIs_0 WX0_g (n := 86) (by decide +kernel) ⟨by decide, by decide, by decide +kernel⟩) (Or.inr ⟨rfl, rfl, rfl⟩) rfl (puts0 WX0_g (by decide) (by decide)) rfl ?_
  refine R_aload_n e_X5_init_2.2.2.2.2.2.2.1 0 rfl ?_
  refine R_iconst e_X5_init_2.2.2.2.2.2.2.2.1 ?_
  refine R_putI 5 9 9 WX0_ok e_X5_init_2.2.2.2.2.2.2.2.2.1 f_X5_34 (kIs_0 WX0_g (n := 86) (by decide +kernel) ⟨by decide, by decide, by decide +kernel⟩) rfl rfl rfl ?_
  refine R_aload_n e_X5_init_2.2.2.2.2.2.2.2.2.2 0 rfl ?_
  refine R_iconst e_X5_init_3.1 ?_
  refine R_putI 5 10 10 WX0_ok e_X5_init_3.2.1 f_X5_37 (kIs_0 WX0_g (n := 86) (by decide +kernel) ⟨by decide, by decide, by decide +kernel⟩) rfl rfl rfl ?_
  refine R_aload_n e_X5_init_3.2.2.1 0 rfl ?_
  refine R_iconst e_X5_init_3.2.2.2.1 ?_
  refine R_putI 5 11 11 WX0_ok e_X5_init_3.2.2.2.2.1 f_X5_40 (kIs_0 WX0_g (n := 86) (by decide +kernel) ⟨by decide, by decide, by decide +kernel⟩) rfl rfl rfl ?_
  refine R_aload_n e_X5_init_3.2.2.2.2.2.1 0 rfl ?_
  refine R_iconst e_X5_init_3.2.2.2.2.2.2.1 ?_
  refine R_putI 5 12 12 WX0_ok e_X5_init_3.2.2.2.2.2.2.2.1 f_X5_43 (kIs_0 WX0_g (n := 86) (by decide +kernel) ⟨by decide, by decide, by decide +kernel⟩) rfl rfl rfl ?_
  refine R_aload_n e_X5_init_3.2.2.2.2.2.2.2.2.1 0 rfl ?_
  refine R_iconst e_X5_init_3.2.2.2.2.2.2.2.2.2 ?_
  refine R_newarr 86 20 5 9 144 WX0_g e_X5_init_4.1 rfl (by decide) aC_int (by decide +kernel) ⟨by decide, by decide, by decide +kernel⟩ (by decide) ⟨by decide, by decide⟩ ?_
  refine R_putA 5 13 13 e_X5_init_4.2.1 f_X5_46 (kIs_0 WX0_g (n := 87) (by decide +kernel) ⟨by decide, by decide, by decide +kernel⟩) (Or.inr ⟨rfl, rfl, rfl⟩) rfl (puts0 WX0_g (by decide) (by decide)) rfl ?_
  refine R_aload_n e_X5_init_4.2.2.1 0 rfl ?_
  refine R_iconst e_X5_init_4.2.2.2.1 ?_
  refine R_putI 5 14 14 WX0_ok e_X5_init_4.2.2.2.2.1 f_X5_49 (kIs_0 WX0_g (n := 87) (by decide +kernel) ⟨by decide, by decide, by decide +kernel⟩) rfl rfl rfl ?_
  refine R_aload_n e_X5_init_4.2.2.2.2.2.1 0 rfl ?_
  refine R_bipush e_X5_init_4.2.2.2.2.2.2.1 (by decide) ?_
  refine R_newarr 87 20 20 8 124 WX0_g e_X5_init_4.2.2.2.2.2.2.2.1 rfl (by decide) aC_int (by decide +kernel) ⟨by decide, by decide, by decide +kernel⟩ (by decide) ⟨by decide, by decide⟩ ?_
  refine R_putA 5 15 15 e_X5_init_4.2.2.2.2.2.2.2.2.1 f_X5_52 (kIs_0 WX0_g (n := 88) (by decide +kernel) ⟨by decide, by decide, by decide +kernel⟩) (Or.inr ⟨rfl, rfl, rfl⟩) rfl (puts0 WX0_g (by decide) (by decide)) rfl ?_
  refine R_aload_n e_X5_init_4.2.2.2.2.2.2.2.2.2 0 rfl ?_
  refine R_bipush e_X5_init_5.1 (by decide) ?_
  refine R_newarr 88 23 64 7 60 WX0_g e_X5_init_5.2.1 rfl (by decide) aC_boolean (by decide +kernel) ⟨by decide, by decide, by decide +kernel⟩ (by decide) ⟨by decide, by decide⟩ ?_
  refine R_putA 5 16 16 e_X5_init_5.2.2.1 f_X5_55 (kIs_0 WX0_g (n := 89) (by decide +kernel) ⟨by decide, by decide, by decide +kernel⟩) (Or.inr ⟨rfl, rfl, rfl⟩) rfl (puts0 WX0_g (by decide) (by decide)) rfl ?_
  refine R_aload_n e_X5_init_5.2.2.2.1 0 rfl ?_
  refine R_bipush e_X5_init_5.2.2.2.2.1 (by decide) ?_
  refine R_bipush e_X5_init_5.2.2.2.2.2.1 (by decide) ?_
  refine R_mna 89 0 0 WX0_g e_X5_init_5.2.2.2.2.2.2.1 cL_X5_59 aO_I aC_int (by decide +kernel) ⟨by decide, by decide, by decide +kernel, by decide +kernel⟩ ⟨by decide, by decide⟩ ?_
  refine R_putA 5 17 17 e_X5_init_5.2.2.2.2.2.2.2.1 f_X5_61 (kIs_0 WX0_g (n := 96) (by decide +kernel) ⟨by decide, by decide, by decide +kernel⟩) (Or.inr ⟨rfl, rfl, rfl⟩) rfl (puts0 WX0_g (by decide) (by decide)) rfl ?_
  refine R_aload_n e_X5_init_5.2.2.2.2.2.2.2.2.1 0 rfl ?_
  refine R_aload_n e_X5_init_5.2.2.2.2.2.2.2.2.2 1 rfl ?_
  refine R_putA 5 0 0 e_X5_init_6.1 f_X5_64 (kIs_0 WX0_g (n := 96) (by decide +kernel) ⟨by decide, by decide, by decide +kernel⟩) (Or.inr ⟨rfl, rfl, rfl⟩) rfl (puts0 WX0_g (by decide) (by decide)) rfl ?_
  refine R_aload_n e_X5_init_6.2.1 0 rfl ?_
  refine R_aload_n e_X5_init_6.2.2.1 2 rfl ?_
  refine R_putA 5 1 1 e_X5_init_6.2.2.2.1 f_X5_68 (kIs_0 WX0_g (n := 96) (by decide +kernel) ⟨by decide, by decide, by decide +kernel⟩) (Or.inr ⟨rfl, rfl, rfl⟩) rfl (puts0 WX0_g (by decide) (by decide)) rfl ?_
  exact R_return e_X5_init_6.2.2.2.2 rfl rfl
def mu25 : Kmem := (kmk (kup (kup (kmk (kup (kmk (kup mu24 0 15 82) 96) 0 16 96) 97) 0 17 97) 0 18 0) 98)
def mu26 : Kmem := (kup (kmk (kup (kup (kup mu25 98 0 0) 98 1 0) 98 2 0) 99) 98 3 99)
theorem I_mu26 {G : Kg} : Run G WX0 M_X10_init 1 1 60 [vA G 98] mu25 (fun _ s => s = mu26) := by
  refine Run.of (by decide +kernel) (by show (1 : Nat) ≤ 1; decide) ?_
  show Ex G WX0 M_X10_init 1 1 60 0 [(0, vA G 98)] [] mu25 _
  refine R_aload_n e_X10_init_0.1 0 rfl ?_
  refine R_obj e_X10_init_0.2.1 oL_X10_3 oI_1 oI_2 (by decide) (by decide) ?_
  refine R_aload_n e_X10_init_0.2.2.1 0 rfl ?_
  refine R_iconst e_X10_init_0.2.2.2.1 ?_
  refine R_putZ 10 0 0 WX0_ok e_X10_init_0.2.2.2.2.1 f_X10_9 (kIs_0 WX0_g (n := 99) (by decide +kernel) ⟨by decide, by decide, by decide +kernel⟩) rfl rfl rfl (Or.inl rfl) ?_
  refine R_aload_n e_X10_init_0.2.2.2.2.2.1 0 rfl ?_
  refine R_iconst e_X10_init_0.2.2.2.2.2.2.1 ?_
  refine R_putI 10 1 1 WX0_ok e_X10_init_0.2.2.2.2.2.2.2.1 f_X10_15 (kIs_0 WX0_g (n := 99) (by decide +kernel) ⟨by decide, by decide, by decide +kernel⟩) rfl rfl rfl ?_
  refine R_aload_n e_X10_init_0.2.2.2.2.2.2.2.2.1 0 rfl ?_
  refine R_iconst e_X10_init_0.2.2.2.2.2.2.2.2.2 ?_
  refine R_putI 10 2 2 WX0_ok e_X10_init_1.1 f_X10_19 (kIs_0 WX0_g (n := 99) (by decide +kernel) ⟨by decide, by decide, by decide +kernel⟩) rfl rfl rfl ?_
  refine R_aload_n e_X10_init_1.2.1 0 rfl ?_
  refine R_bipush e_X10_init_1.2.2.1 (by decide) ?_
  refine R_newarr 99 21 60 0 0 WX0_g e_X10_init_1.2.2.2.1 rfl (by decide) aC_long (by decide +kernel) ⟨by decide, by decide, by decide +kernel⟩ (by decide) ⟨by decide, by decide⟩ ?_
  refine R_putA 10 3 3 e_X10_init_1.2.2.2.2.1 f_X10_22 (kIs_0 WX0_g (n := 100) (by decide +kernel) ⟨by decide, by decide, by decide +kernel⟩) (Or.inr ⟨rfl, rfl, rfl⟩) rfl (puts0 WX0_g (by decide) (by decide)) rfl ?_
  exact R_return e_X10_init_1.2.2.2.2.2 rfl rfl
def mu27 : Kmem := (kmk (kup mu26 1 0 98) 100)
def mu28 : Kmem := (kup (kmk (kup (kup (kup mu27 100 0 0) 100 1 0) 100 2 0) 101) 100 3 101)
theorem I_mu28 {G : Kg} : Run G WX0 M_X10_init 1 1 60 [vA G 100] mu27 (fun _ s => s = mu28) := by
  refine Run.of (by decide +kernel) (by show (1 : Nat) ≤ 1; decide) ?_
  show Ex G WX0 M_X10_init 1 1 60 0 [(0, vA G 100)] [] mu27 _
  refine R_aload_n e_X10_init_0.1 0 rfl ?_
  refine R_obj e_X10_init_0.2.1 oL_X10_3 oI_1 oI_2 (by decide) (by decide) ?_
  refine R_aload_n e_X10_init_0.2.2.1 0 rfl ?_
  refine R_iconst e_X10_init_0.2.2.2.1 ?_
  refine R_putZ 10 0 0 WX0_ok e_X10_init_0.2.2.2.2.1 f_X10_9 (kIs_0 WX0_g (n := 101) (by decide +kernel) ⟨by decide, by decide, by decide +kernel⟩) rfl rfl rfl (Or.inl rfl) ?_
  refine R_aload_n e_X10_init_0.2.2.2.2.2.1 0 rfl ?_
  refine R_iconst e_X10_init_0.2.2.2.2.2.2.1 ?_
  refine R_putI 10 1 1 WX0_ok e_X10_init_0.2.2.2.2.2.2.2.1 f_X10_15 (kIs_0 WX0_g (n := 101) (by decide +kernel) ⟨by decide, by decide, by decide +kernel⟩) rfl rfl rfl ?_
  refine R_aload_n e_X10_init_0.2.2.2.2.2.2.2.2.1 0 rfl ?_
  refine R_iconst e_X10_init_0.2.2.2.2.2.2.2.2.2 ?_
  refine R_putI 10 2 2 WX0_ok e_X10_init_1.1 f_X10_19 (kIs_0 WX0_g (n := 101) (by decide +kernel) ⟨by decide, by decide, by decide +kernel⟩) rfl rfl rfl ?_
  refine R_aload_n e_X10_init_1.2.1 0 rfl ?_
  refine R_bipush e_X10_init_1.2.2.1 (by decide) ?_
  refine R_newarr 101 21 60 0 0 WX0_g e_X10_init_1.2.2.2.1 rfl (by decide) aC_long (by decide +kernel) ⟨by decide, by decide, by decide +kernel⟩ (by decide) ⟨by decide, by decide⟩ ?_
  refine R_putA 10 3 3 e_X10_init_1.2.2.2.2.1 f_X10_22 (kIs_0 WX0_g (n := 102) (by decide +kernel) ⟨by decide, by decide, by decide +kernel⟩) (Or.inr ⟨rfl, rfl, rfl⟩) rfl (puts0 WX0_g (by decide) (by decide)) rfl ?_
  exact R_return e_X10_init_1.2.2.2.2.2 rfl rfl
def mu29 : Kmem := (kmk (kup mu28 1 1 100) 102)
def mu30 : Kmem := (kup (kmk (kup (kup (kup mu29 102 0 0) 102 1 0) 102 2 0) 103) 102 3 103)
theorem I_mu30 {G : Kg} : Run G WX0 M_X10_init 1 1 60 [vA G 102] mu29 (fun _ s => s = mu30) := by
  refine Run.of (by decide +kernel) (by show (1 : Nat) ≤ 1; decide) ?_
  show Ex G WX0 M_X10_init 1 1 60 0 [(0, vA G 102)] [] mu29 _
  refine R_aload_n e_X10_init_0.1 0 rfl ?_
  refine R_obj e_X10_init_0.2.1 oL_X10_3 oI_1 oI_2 (by decide) (by decide) ?_
  refine R_aload_n e_X10_init_0.2.2.1 0 rfl ?_
  refine R_iconst e_X10_init_0.2.2.2.1 ?_
  refine R_putZ 10 0 0 WX0_ok e_X10_init_0.2.2.2.2.1 f_X10_9 (kIs_0 WX0_g (n := 103) (by decide +kernel) ⟨by decide, by decide, by decide +kernel⟩) rfl rfl rfl (Or.inl rfl) ?_
  refine R_aload_n e_X10_init_0.2.2.2.2.2.1 0 rfl ?_
  refine R_iconst e_X10_init_0.2.2.2.2.2.2.1 ?_
  refine R_putI 10 1 1 WX0_ok e_X10_init_0.2.2.2.2.2.2.2.1 f_X10_15 (kIs_0 WX0_g (n := 103) (by decide +kernel) ⟨by decide, by decide, by decide +kernel⟩) rfl rfl rfl ?_
  refine R_aload_n e_X10_init_0.2.2.2.2.2.2.2.2.1 0 rfl ?_
  refine R_iconst e_X10_init_0.2.2.2.2.2.2.2.2.2 ?_
  refine R_putI 10 2 2 WX0_ok e_X10_init_1.1 f_X10_19 (kIs_0 WX0_g (n := 103) (by decide +kernel) ⟨by decide, by decide, by decide +kernel⟩) rfl rfl rfl ?_
  refine R_aload_n e_X10_init_1.2.1 0 rfl ?_
  refine R_bipush e_X10_init_1.2.2.1 (by decide) ?_
  refine R_newarr 103 21 60 0 0 WX0_g e_X10_init_1.2.2.2.1 rfl (by decide) aC_long (by decide +kernel) ⟨by decide, by decide, by decide +kernel⟩ (by decide) ⟨by decide, by decide⟩ ?_
  refine R_putA 10 3 3 e_X10_init_1.2.2.2.2.1 f_X10_22 (kIs_0 WX0_g (n := 104) (by decide +kernel) ⟨by decide, by decide, by decide +kernel⟩) (Or.inr ⟨rfl, rfl, rfl⟩) rfl (puts0 WX0_g (by decide) (by decide)) rfl ?_
  exact R_return e_X10_init_1.2.2.2.2.2 rfl rfl
