/-! THE CLASS, MADE (4) -/
def mu42 : Kmem := mu41
theorem I_mu42 {G : Kg} : Run G WX0 M_X0_init 2 25 180 [vA G 139] mu39 (fun _ s => s = mu42) := by
  refine Run.of (by decide +kernel) (by show (1 : Nat) ≤ 2; decide) ?_
  show Ex G WX0 M_X0_init 2 25 180 0 [(0, vA G 139)] [] mu39 _
  refine R_aload_n e_X0_init_0.1 0 rfl ?_
  refine R_obj e_X0_init_0.2.1 oL_X0_3 oI_1 oI_2 (by decide) (by decide) ?_
  refine R_aload_n e_X0_init_0.2.2.1 0 rfl ?_
  refine R_iconst e_X0_init_0.2.2.2.1 ?_
  refine R_putI 0 0 0 WX0_ok e_X0_init_0.2.2.2.2.1 f_X0_9 (kIs_0 WX0_g (n := 140) (by decide +kernel) ⟨by decide, by decide, by decide +kernel⟩) rfl rfl rfl ?_
  refine R_aload_n e_X0_init_0.2.2.2.2.2.1 0 rfl ?_
  refine R_iconst e_X0_init_0.2.2.2.2.2.2.1 ?_
  refine R_putI 0 1 1 WX0_ok e_X0_init_0.2.2.2.2.2.2.2.1 f_X0_15 (kIs_0 WX0_g (n := 140) (by decide +kernel) ⟨by decide, by decide, by decide +kernel⟩) rfl rfl rfl ?_
  refine R_aload_n e_X0_init_0.2.2.2.2.2.2.2.2.1 0 rfl ?_
  refine R_bipush e_X0_init_0.2.2.2.2.2.2.2.2.2 (by decide) ?_
  refine R_putI 0 2 2 WX0_ok e_X0_init_1.1 f_X0_18 (kIs_0 WX0_g (n := 140) (by decide +kernel) ⟨by decide, by decide, by decide +kernel⟩) rfl rfl rfl ?_
  refine R_aload_n e_X0_init_1.2.1 0 rfl ?_
  refine R_iconst e_X0_init_1.2.2.1 ?_
  refine R_putI 0 3 3 WX0_ok e_X0_init_1.2.2.2.1 f_X0_21 (kIs_0 WX0_g (n := 140) (by decide +kernel) ⟨by decide, by decide, by decide +kernel⟩) rfl rfl rfl ?_
  refine R_aload_n e_X0_init_1.2.2.2.2.1 0 rfl ?_
  refine R_iconst e_X0_init_1.2.2.2.2.2.1 ?_
  refine R_putI 0 4 4 WX0_ok e_X0_init_1.2.2.2.2.2.2.1 f_X0_24 (kIs_0 WX0_g (n := 140) (by decide +kernel) ⟨by decide, by decide, by decide +kernel⟩) rfl rfl rfl ?_
  refine R_aload_n e_X0_init_1.2.2.2.2.2.2.2.1 0 rfl ?_
  refine R_iconst e_X0_init_1.2.2.2.2.2.2.2.2.1 ?_
  refine R_putI 0 5 5 WX0_ok e_X0_init_1.2.2.2.2.2.2.2.2.2 f_X0_27 (kIs_0 WX0_g (n := 140) (by decide +kernel) ⟨by decide, by decide, by decide +kernel⟩) rfl rfl rfl ?_
  refine R_aload_n e_X0_init_2.1 0 rfl ?_
  refine R_iconst e_X0_init_2.2.1 ?_
  refine R_putI 0 6 6 WX0_ok e_X0_init_2.2.2.1 f_X0_30 (kIs_0 WX0_g (n := 140) (by decide +kernel) ⟨by decide, by decide, by decide +kernel⟩) rfl rfl rfl ?_
  refine R_aload_n e_X0_init_2.2.2.2.1 0 rfl ?_
  refine R_iconst e_X0_init_2.2.2.2.2.1 ?_
  refine R_putI 0 7 7 WX0_ok e_X0_init_2.2.2.2.2.2.1 f_X0_33 (kIs_0 WX0_g (n := 140) (by decide +kernel) ⟨by decide, by decide, by decide +kernel⟩) rfl rfl rfl ?_
  refine R_aload_n e_X0_init_2.2.2.2.2.2.2.1 0 rfl ?_
  refine R_bipush e_X0_init_2.2.2.2.2.2.2.2.1 (by decide) ?_
  refine R_newarr 140 20 12 24 168 WX0_g e_X0_init_2.2.2.2.2.2.2.2.2.1 rfl (by decide) aC_int (by decide +kernel) ⟨by decide, by decide, by decide +kernel⟩ (by decide) ⟨by decide, by decide⟩ ?_
  refine R_putA 0 8 8 e_X0_init_2.2.2.2.2.2.2.2.2.2 f_X0_36 (kIs_0 WX0_g (n := 141) (by decide +kernel) ⟨by decide, by decide, by decide +kernel⟩) (Or.inr ⟨rfl, rfl, rfl⟩) rfl (puts0 WX0_g (by decide) (by decide)) rfl ?_
  refine R_aload_n e_X0_init_3.1 0 rfl ?_
  refine R_bipush e_X0_init_3.2.1 (by decide) ?_
  refine R_newarr 141 20 12 23 156 WX0_g e_X0_init_3.2.2.1 rfl (by decide) aC_int (by decide +kernel) ⟨by decide, by decide, by decide +kernel⟩ (by decide) ⟨by decide, by decide⟩ ?_
  refine R_putA 0 9 9 e_X0_init_3.2.2.2.1 f_X0_40 (kIs_0 WX0_g (n := 142) (by decide +kernel) ⟨by decide, by decide, by decide +kernel⟩) (Or.inr ⟨rfl, rfl, rfl⟩) rfl (puts0 WX0_g (by decide) (by decide)) rfl ?_
  refine R_aload_n e_X0_init_3.2.2.2.2.1 0 rfl ?_
  refine R_bipush e_X0_init_3.2.2.2.2.2.1 (by decide) ?_
  refine R_newq (C := RX3) 142 27 6 22 150 WX0_g e_X0_init_3.2.2.2.2.2.2.1 (by decide) rfl cL_X0_43 aO_X3 (by decide +kernel) ⟨by decide, by decide, by decide +kernel⟩ (by decide) ⟨by decide, by decide⟩ ?_
  refine R_putA 0 10 10 e_X0_init_3.2.2.2.2.2.2.2.1 f_X0_45 (kIs_0 WX0_g (n := 143) (by decide +kernel) ⟨by decide, by decide, by decide +kernel⟩) (Or.inr ⟨rfl, rfl, rfl⟩) rfl (puts0 WX0_g (by decide) (by decide)) rfl ?_
  refine R_aload_n e_X0_init_3.2.2.2.2.2.2.2.2.1 0 rfl ?_
  refine R_bipush e_X0_init_3.2.2.2.2.2.2.2.2.2 (by decide) ?_
  refine R_newq (C := RX2) 143 28 8 21 142 WX0_g e_X0_init_4.1 (by decide) rfl cL_X0_49 aO_X2 (by decide +kernel) ⟨by decide, by decide, by decide +kernel⟩ (by decide) ⟨by decide, by decide⟩ ?_
  refine R_putA 0 11 11 e_X0_init_4.2.1 f_X0_51 (kIs_0 WX0_g (n := 144) (by decide +kernel) ⟨by decide, by decide, by decide +kernel⟩) (Or.inr ⟨rfl, rfl, rfl⟩) rfl (puts0 WX0_g (by decide) (by decide)) rfl ?_
  refine R_aload_n e_X0_init_4.2.2.1 0 rfl ?_
  refine R_bipush e_X0_init_4.2.2.2.1 (by decide) ?_
  refine R_newq (C := RX9) 144 29 6 20 136 WX0_g e_X0_init_4.2.2.2.2.1 (by decide) rfl cL_X0_55 aO_X9 (by decide +kernel) ⟨by decide, by decide, by decide +kernel⟩ (by decide) ⟨by decide, by decide⟩ ?_
  refine R_putA 0 12 12 e_X0_init_4.2.2.2.2.2.1 f_X0_57 (kIs_0 WX0_g (n := 145) (by decide +kernel) ⟨by decide, by decide, by decide +kernel⟩) (Or.inr ⟨rfl, rfl, rfl⟩) rfl (puts0 WX0_g (by decide) (by decide)) rfl ?_
  refine R_iconst e_X0_init_4.2.2.2.2.2.2.1 ?_
  refine R_istore_n (ls2 := [(1, vI 0), (0, vA G 139)]) e_X0_init_4.2.2.2.2.2.2.2.1 (by decide) rfl ?_
  refine R_iload_n e_X0_init_4.2.2.2.2.2.2.2.2.1 0 rfl ?_
  refine R_bipush e_X0_init_4.2.2.2.2.2.2.2.2.2 (by decide) ?_
  refine R_icmp_ge 115 e_X0_init_5.1 (by decide) (by decide) (by decide) (fun q => absurd q (by decide)) (fun q => ?_)
  refine R_aload_n e_X0_init_5.2.1 1 rfl ?_
  refine R_getA 0 10 142 e_X0_init_5.2.2.1 f_X0_45 (kIs_0 WX0_g (n := 145) (by decide +kernel) ⟨by decide, by decide, by decide +kernel⟩) (fun _ _ => rfl) (by decide +kernel) (by decide) ?_
  refine R_iload_n e_X0_init_5.2.2.2.1 0 rfl ?_
  refine R_new 145 3 19 126 WX0_g e_X0_init_5.2.2.2.2.1 ⟨by decide, cL_X0_43⟩ cI_X3 cN_X3 (by decide +kernel) ⟨by decide, by decide, by decide +kernel⟩ ⟨by decide, by decide⟩ ?_
  refine R_dup e_X0_init_5.2.2.2.2.2.1 rfl ?_
  refine R_callIN (mc := 19) (ms := 126) (mc' := 0) (ms' := 0) (M' := M_X3_init) (d' := 1) (as := []) (st := [vA G 145, vI 0, vA G 142]) 0 e_X0_init_5.2.2.2.2.2.2.1 m_X3_init kn_X0_61 (by decide) (by decide) rfl rfl (by show (3 : Nat) ≤ 8; decide) ?_
  refine Run.mono (I_X3 (kIs_s WX0_g (n := 146) (by decide +kernel) ⟨by decide, by decide, by decide +kernel⟩) (by decide)) (fun r s e => ?_)
  refine R_eqs (st2 := [vA G 145, vI 0, vA G 142]) (σ2 := (iX3 (kmk (kup (kmk (kup (kmk (kup (kmk (kup (kmk (kup (kmk (kup (kup (kup (kup (kup (kup (kup (kup mu39 139 0 0) 139 1 0) 139 2 6) 139 3 0) 139 4 0) 139 5 0) 139 6 0) 139 7 0) 140) 139 8 140) 141) 139 9 141) 142) 139 10 142) 143) 139 11 143) 144) 139 12 144) 145) 145)) rfl e ?_
  refine R_astq 27 3 6 WX0_g e_X0_init_5.2.2.2.2.2.2.2.1 (by decide) rfl (by decide) (kAr_0 WX0_g (n := 146) (by decide +kernel) ⟨by decide, by decide, by decide +kernel⟩ (by decide)) (kIs_0 WX0_g (n := 146) (by decide +kernel) ⟨by decide, by decide, by decide +kernel⟩) (by decide) (by decide) ?_
  refine R_iinc (ls2 := [(1, vI 1), (0, vA G 139)]) e_X0_init_5.2.2.2.2.2.2.2.2.1 0 rfl (by decide) rfl ?_
  refine R_goto 90 e_X0_init_5.2.2.2.2.2.2.2.2.2 (by decide) ?_
  refine R_iload_n e_X0_init_4.2.2.2.2.2.2.2.2.1 0 rfl ?_
  refine R_bipush e_X0_init_4.2.2.2.2.2.2.2.2.2 (by decide) ?_
  refine R_icmp_ge 115 e_X0_init_5.1 (by decide) (by decide) (by decide) (fun q => absurd q (by decide)) (fun q => ?_)
  refine R_aload_n e_X0_init_5.2.1 1 rfl ?_
  refine R_getA 0 10 142 e_X0_init_5.2.2.1 f_X0_45 (kIs_0 WX0_g (n := 146) (by decide +kernel) ⟨by decide, by decide, by decide +kernel⟩) (fun _ _ => rfl) (by decide +kernel) (by decide) ?_
  refine R_iload_n e_X0_init_5.2.2.2.1 0 rfl ?_
  refine R_new 146 3 18 116 WX0_g e_X0_init_5.2.2.2.2.1 ⟨by decide, cL_X0_43⟩ cI_X3 cN_X3 (by decide +kernel) ⟨by decide, by decide, by decide +kernel⟩ ⟨by decide, by decide⟩ ?_
  refine R_dup e_X0_init_5.2.2.2.2.2.1 rfl ?_
  refine R_callIN (mc := 18) (ms := 116) (mc' := 0) (ms' := 0) (M' := M_X3_init) (d' := 1) (as := []) (st := [vA G 146, vI 1, vA G 142]) 0 e_X0_init_5.2.2.2.2.2.2.1 m_X3_init kn_X0_61 (by decide) (by decide) rfl rfl (by show (3 : Nat) ≤ 8; decide) ?_
  refine Run.mono (I_X3 (kIs_s WX0_g (n := 147) (by decide +kernel) ⟨by decide, by decide, by decide +kernel⟩) (by decide)) (fun r s e => ?_)
  refine R_eqs (st2 := [vA G 146, vI 1, vA G 142]) (σ2 := (iX3 (kmk (kup (iX3 (kmk (kup (kmk (kup (kmk (kup (kmk (kup (kmk (kup (kmk (kup (kup (kup (kup (kup (kup (kup (kup mu39 139 0 0) 139 1 0) 139 2 6) 139 3 0) 139 4 0) 139 5 0) 139 6 0) 139 7 0) 140) 139 8 140) 141) 139 9 141) 142) 139 10 142) 143) 139 11 143) 144) 139 12 144) 145) 145) 142 0 145) 146) 146)) rfl e ?_
  refine R_astq 27 3 6 WX0_g e_X0_init_5.2.2.2.2.2.2.2.1 (by decide) rfl (by decide) (kAr_0 WX0_g (n := 147) (by decide +kernel) ⟨by decide, by decide, by decide +kernel⟩ (by decide)) (kIs_0 WX0_g (n := 147) (by decide +kernel) ⟨by decide, by decide, by decide +kernel⟩) (by decide) (by decide) ?_
  refine R_iinc (ls2 := [(1, vI 2), (0, vA G 139)]) e_X0_init_5.2.2.2.2.2.2.2.2.1 0 rfl (by decide) rfl ?_
  refine R_goto 90 e_X0_init_5.2.2.2.2.2.2.2.2.2 (by decide) ?_
  refine R_iload_n e_X0_init_4.2.2.2.2.2.2.2.2.1 0 rfl ?_
  refine R_bipush e_X0_init_4.2.2.2.2.2.2.2.2.2 (by decide) ?_
  refine R_icmp_ge 115 e_X0_init_5.1 (by decide) (by decide) (by decide) (fun q => absurd q (by decide)) (fun q => ?_)
  refine R_aload_n e_X0_init_5.2.1 1 rfl ?_
  refine R_getA 0 10 142 e_X0_init_5.2.2.1 f_X0_45 (kIs_0 WX0_g (n := 147) (by decide +kernel) ⟨by decide, by decide, by decide +kernel⟩) (fun _ _ => rfl) (by decide +kernel) (by decide) ?_
  refine R_iload_n e_X0_init_5.2.2.2.1 0 rfl ?_
  refine R_new 147 3 17 106 WX0_g e_X0_init_5.2.2.2.2.1 ⟨by decide, cL_X0_43⟩ cI_X3 cN_X3 (by decide +kernel) ⟨by decide, by decide, by decide +kernel⟩ ⟨by decide, by decide⟩ ?_
  refine R_dup e_X0_init_5.2.2.2.2.2.1 rfl ?_
  refine R_callIN (mc := 17) (ms := 106) (mc' := 0) (ms' := 0) (M' := M_X3_init) (d' := 1) (as := []) (st := [vA G 147, vI 2, vA G 142]) 0 e_X0_init_5.2.2.2.2.2.2.1 m_X3_init kn_X0_61 (by decide) (by decide) rfl rfl (by show (3 : Nat) ≤ 8; decide) ?_
  refine Run.mono (I_X3 (kIs_s WX0_g (n := 148) (by decide +kernel) ⟨by decide, by decide, by decide +kernel⟩) (by decide)) (fun r s e => ?_)
  refine R_eqs (st2 := [vA G 147, vI 2, vA G 142]) (σ2 := (iX3 (kmk (kup (iX3 (kmk (kup (iX3 (kmk (kup (kmk (kup (kmk (kup (kmk (kup (kmk (kup (kmk (kup (kup (kup (kup (kup (kup (kup (kup mu39 139 0 0) 139 1 0) 139 2 6) 139 3 0) 139 4 0) 139 5 0) 139 6 0) 139 7 0) 140) 139 8 140) 141) 139 9 141) 142) 139 10 142) 143) 139 11 143) 144) 139 12 144) 145) 145) 142 0 145) 146) 146) 142 1 146) 147) 147)) rfl e ?_
  refine R_astq 27 3 6 WX0_g e_X0_init_5.2.2.2.2.2.2.2.1 (by decide) rfl (by decide) (kAr_0 WX0_g (n := 148) (by decide +kernel) ⟨by decide, by decide, by decide +kernel⟩ (by decide)) (kIs_0 WX0_g (n := 148) (by decide +kernel) ⟨by decide, by decide, by decide +kernel⟩) (by decide) (by decide) ?_
  refine R_iinc (ls2 := [(1, vI 3), (0, vA G 139)]) e_X0_init_5.2.2.2.2.2.2.2.2.1 0 rfl (by decide) rfl ?_
  refine R_goto 90 e_X0_init_5.2.2.2.2.2.2.2.2.2 (by decide) ?_
  refine R_iload_n e_X0_init_4.2.2.2.2.2.2.2.2.1 0 rfl ?_
  refine R_bipush e_X0_init_4.2.2.2.2.2.2.2.2.2 (by decide) ?_
  refine R_icmp_ge 115 e_X0_init_5.1 (by decide) (by decide) (by decide) (fun q => absurd q (by decide)) (fun q => ?_)
  refine R_aload_n e_X0_init_5.2.1 1 rfl ?_
  refine R_getA 0 10 142 e_X0_init_5.2.2.1 f_X0_45 (kIs_0 WX0_g (n := 148) (by decide +kernel) ⟨by decide, by decide, by decide +kernel⟩) (fun _ _ => rfl) (by decide +kernel) (by decide) ?_
  refine R_iload_n e_X0_init_5.2.2.2.1 0 rfl ?_
  refine R_new 148 3 16 96 WX0_g e_X0_init_5.2.2.2.2.1 ⟨by decide, cL_X0_43⟩ cI_X3 cN_X3 (by decide +kernel) ⟨by decide, by decide, by decide +kernel⟩ ⟨by decide, by decide⟩ ?_
  refine R_dup e_X0_init_5.2.2.2.2.2.1 rfl ?_
  refine R_callIN (mc := 16) (ms := 96) (mc' := 0) (ms' := 0) (M' := M_X3_init) (d' := 1) (as := []) (st := [vA G 148, vI 3, vA G 142]) 0 e_X0_init_5.2.2.2.2.2.2.1 m_X3_init kn_X0_61 (by decide) (by decide) rfl rfl (by show (3 : Nat) ≤ 8; decide) ?_
  refine Run.mono (I_X3 (kIs_s WX0_g (n := 149) (by decide +kernel) ⟨by decide, by decide, by decide +kernel⟩) (by decide)) (fun r s e => ?_)
  refine R_eqs (st2 := [vA G 148, vI 3, vA G 142]) (σ2 := (iX3 (kmk (kup (iX3 (kmk (kup (iX3 (kmk (kup (iX3 (kmk (kup (kmk (kup (kmk (kup (kmk (kup (kmk (kup (kmk (kup (kup (kup (kup (kup (kup (kup (kup mu39 139 0 0) 139 1 0) 139 2 6) 139 3 0) 139 4 0) 139 5 0) 139 6 0) 139 7 0) 140) 139 8 140) 141) 139 9 141) 142) 139 10 142) 143) 139 11 143) 144) 139 12 144) 145) 145) 142 0 145) 146) 146) 142 1 146) 147) 147) 142 2 147) 148) 148)) rfl e ?_
  refine R_astq 27 3 6 WX0_g e_X0_init_5.2.2.2.2.2.2.2.1 (by decide) rfl (by decide) (kAr_0 WX0_g (n := 149) (by decide +kernel) ⟨by decide, by decide, by decide +kernel⟩ (by decide)) (kIs_0 WX0_g (n := 149) (by decide +kernel) ⟨by decide, by decide, by decide +kernel⟩) (by decide) (by decide) ?_
  refine R_iinc (ls2 := [(1, vI 4), (0, vA G 139)]) e_X0_init_5.2.2.2.2.2.2.2.2.1 0 rfl (by decide) rfl ?_
  refine R_goto 90 e_X0_init_5.2.2.2.2.2.2.2.2.2 (by decide) ?_
  refine R_iload_n e_X0_init_4.2.2.2.2.2.2.2.2.1 0 rfl ?_
  refine R_bipush e_X0_init_4.2.2.2.2.2.2.2.2.2 (by decide) ?_
  refine R_icmp_ge 115 e_X0_init_5.1 (by decide) (by decide) (by decide) (fun q => absurd q (by decide)) (fun q => ?_)
  refine R_aload_n e_X0_init_5.2.1 1 rfl ?_
  refine R_getA 0 10 142 e_X0_init_5.2.2.1 f_X0_45 (kIs_0 WX0_g (n := 149) (by decide +kernel) ⟨by decide, by decide, by decide +kernel⟩) (fun _ _ => rfl) (by decide +kernel) (by decide) ?_
  refine R_iload_n e_X0_init_5.2.2.2.1 0 rfl ?_
  refine R_new 149 3 15 86 WX0_g e_X0_init_5.2.2.2.2.1 ⟨by decide, cL_X0_43⟩ cI_X3 cN_X3 (by decide +kernel) ⟨by decide, by decide, by decide +kernel⟩ ⟨by decide, by decide⟩ ?_
  refine R_dup e_X0_init_5.2.2.2.2.2.1 rfl ?_
  refine R_callIN (mc := 15) (ms := 86) (mc' := 0) (ms' := 0) (M' := M_X3_init) (d' := 1) (as := []) (st := [vA G 149, vI 4, vA G 142]) 0 e_X0_init_5.2.2.2.2.2.2.1 m_X3_init kn_X0_61 (by decide) (by decide) rfl rfl (by show (3 : Nat) ≤ 8; decide) ?_
  refine Run.mono (I_X3 (kIs_s WX0_g (n := 150) (by decide +kernel) ⟨by decide, by decide, by decide +kernel⟩) (by decide)) (fun r s e => ?_)
  refine R_eqs (st2 := [vA G 149, vI 4, vA G 142]) (σ2 := (iX3 (kmk (kup (iX3 (kmk (kup (iX3 (kmk (kup (iX3 (kmk (kup (iX3 (kmk (kup (kmk (kup (kmk (kup (kmk (kup (kmk (kup (kmk (kup (kup (kup (kup (kup (kup (kup (kup mu39 139 0 0) 139 1 0) 139 2 6) 139 3 0) 139 4 0) 139 5 0) 139 6 0) 139 7 0) 140) 139 8 140) 141) 139 9 141) 142) 139 10 142) 143) 139 11 143) 144) 139 12 144) 145) 145) 142 0 145) 146) 146) 142 1 146) 147) 147) 142 2 147) 148) 148) 142 3 148) 149) 149)) rfl e ?_
  refine R_astq 27 3 6 WX0_g e_X0_init_5.2.2.2.2.2.2.2.1 (by decide) rfl (by decide) (kAr_0 WX0_g (n := 150) (by decide +kernel) ⟨by decide, by decide, by decide +kernel⟩ (by decide)) (kIs_0 WX0_g (n := 150) (by decide +kernel) ⟨by decide, by decide, by decide +kernel⟩) (by decide) (by decide) ?_
  refine R_iinc (ls2 := [(1, vI 5), (0, vA G 139)]) e_X0_init_5.2.2.2.2.2.2.2.2.1 0 rfl (by decide) rfl ?_
  refine R_goto 90 e_X0_init_5.2.2.2.2.2.2.2.2.2 (by decide) ?_
  refine R_iload_n e_X0_init_4.2.2.2.2.2.2.2.2.1 0 rfl ?_
  refine R_bipush e_X0_init_4.2.2.2.2.2.2.2.2.2 (by decide) ?_
  refine R_icmp_ge 115 e_X0_init_5.1 (by decide) (by decide) (by decide) (fun q => absurd q (by decide)) (fun q => ?_)
  refine R_aload_n e_X0_init_5.2.1 1 rfl ?_
  refine R_getA 0 10 142 e_X0_init_5.2.2.1 f_X0_45 (kIs_0 WX0_g (n := 150) (by decide +kernel) ⟨by decide, by decide, by decide +kernel⟩) (fun _ _ => rfl) (by decide +kernel) (by decide) ?_
  refine R_iload_n e_X0_init_5.2.2.2.1 0 rfl ?_
  refine R_new 150 3 14 76 WX0_g e_X0_init_5.2.2.2.2.1 ⟨by decide, cL_X0_43⟩ cI_X3 cN_X3 (by decide +kernel) ⟨by decide, by decide, by decide +kernel⟩ ⟨by decide, by decide⟩ ?_
  refine R_dup e_X0_init_5.2.2.2.2.2.1 rfl ?_
  refine R_callIN (mc := 14) (ms := 76) (mc' := 0) (ms' := 0) (M' := M_X3_init) (d' := 1) (as := []) (st := [vA G 150, vI 5, vA G 142]) 0 e_X0_init_5.2.2.2.2.2.2.1 m_X3_init kn_X0_61 (by decide) (by decide) rfl rfl (by show (3 : Nat) ≤ 8; decide) ?_
  refine Run.mono (I_X3 (kIs_s WX0_g (n := 151) (by decide +kernel) ⟨by decide, by decide, by decide +kernel⟩) (by decide)) (fun r s e => ?_)
  refine R_eqs (st2 := [vA G 150, vI 5, vA G 142]) (σ2 := (iX3 (kmk (kup (iX3 (kmk (kup (iX3 (kmk (kup (iX3 (kmk (kup (iX3 (kmk (kup (iX3 (kmk (kup (kmk (kup (kmk (kup (kmk (kup (kmk (kup (kmk (kup (kup (kup (kup (kup (kup (kup (kup mu39 139 0 0) 139 1 0) 139 2 6) 139 3 0) 139 4 0) 139 5 0) 139 6 0) 139 7 0) 140) 139 8 140) 141) 139 9 141) 142) 139 10 142) 143) 139 11 143) 144) 139 12 144) 145) 145) 142 0 145) 146) 146) 142 1 146) 147) 147) 142 2 147) 148) 148) 142 3 148) 149) 149) 142 4 149) 150) 150)) rfl e ?_
  refine R_astq 27 3 6 WX0_g e_X0_init_5.2.2.2.2.2.2.2.1 (by decide) rfl (by decide) (kAr_0 WX0_g (n := 151) (by decide +kernel) ⟨by decide, by decide, by decide +kernel⟩ (by decide)) (kIs_0 WX0_g (n := 151) (by decide +kernel) ⟨by decide, by decide, by decide +kernel⟩) (by decide) (by decide) ?_
  refine R_iinc (ls2 := [(1, vI 6), (0, vA G 139)]) e_X0_init_5.2.2.2.2.2.2.2.2.1 0 rfl (by decide) rfl ?_
  refine R_goto 90 e_X0_init_5.2.2.2.2.2.2.2.2.2 (by decide) ?_
  refine R_iload_n e_X0_init_4.2.2.2.2.2.2.2.2.1 0 rfl ?_
  refine R_bipush e_X0_init_4.2.2.2.2.2.2.2.2.2 (by decide) ?_
  refine R_icmp_ge 115 e_X0_init_5.1 (by decide) (by decide) (by decide) (fun q => ?_) (fun q => absurd q (by decide))
  refine R_iconst e_X0_init_6.1 ?_
  refine R_istore_n (ls2 := [(1, vI 0), (0, vA G 139)]) e_X0_init_6.2.1 (by decide) rfl ?_
  refine R_iload_n e_X0_init_6.2.2.1 0 rfl ?_
  refine R_bipush e_X0_init_6.2.2.2.1 (by decide) ?_
  refine R_icmp_ge 142 e_X0_init_6.2.2.2.2.1 (by decide) (by decide) (by decide) (fun q => absurd q (by decide)) (fun q => ?_)
  refine R_aload_n e_X0_init_6.2.2.2.2.2.1 1 rfl ?_
  refine R_getA 0 11 143 e_X0_init_6.2.2.2.2.2.2.1 f_X0_51 (kIs_0 WX0_g (n := 151) (by decide +kernel) ⟨by decide, by decide, by decide +kernel⟩) (fun _ _ => rfl) (by decide +kernel) (by decide) ?_
  refine R_iload_n e_X0_init_6.2.2.2.2.2.2.2.1 0 rfl ?_
  refine R_new 151 2 13 71 WX0_g e_X0_init_6.2.2.2.2.2.2.2.2.1 ⟨by decide, cL_X0_49⟩ cI_X2 cN_X2 (by decide +kernel) ⟨by decide, by decide, by decide +kernel⟩ ⟨by decide, by decide⟩ ?_
  refine R_dup e_X0_init_6.2.2.2.2.2.2.2.2.2 rfl ?_
  refine R_callIN (mc := 13) (ms := 71) (mc' := 0) (ms' := 0) (M' := M_X2_init) (d' := 1) (as := []) (st := [vA G 151, vI 0, vA G 143]) 0 e_X0_init_7.1 m_X2_init kn_X0_62 (by decide) (by decide) rfl rfl (by show (3 : Nat) ≤ 8; decide) ?_
  refine Run.mono (I_X2 (kIs_s WX0_g (n := 152) (by decide +kernel) ⟨by decide, by decide, by decide +kernel⟩) (by decide)) (fun r s e => ?_)
  refine R_eqs (st2 := [vA G 151, vI 0, vA G 143]) (σ2 := (iX2 (kmk (kup (iX3 (kmk (kup (iX3 (kmk (kup (iX3 (kmk (kup (iX3 (kmk (kup (iX3 (kmk (kup (iX3 (kmk (kup (kmk (kup (kmk (kup (kmk (kup (kmk (kup (kmk (kup (kup (kup (kup (kup (kup (kup (kup mu39 139 0 0) 139 1 0) 139 2 6) 139 3 0) 139 4 0) 139 5 0) 139 6 0) 139 7 0) 140) 139 8 140) 141) 139 9 141) 142) 139 10 142) 143) 139 11 143) 144) 139 12 144) 145) 145) 142 0 145) 146) 146) 142 1 146) 147) 147) 142 2 147) 148) 148) 142 3 148) 149) 149) 142 4 149) 150) 150) 142 5 150) 151) 151)) rfl e ?_
  refine R_astq 28 2 8 WX0_g e_X0_init_7.2.1 (by decide) rfl (by decide) (kAr_0 WX0_g (n := 152) (by decide +kernel) ⟨by decide, by decide, by decide +kernel⟩ (by decide)) (kIs_0 WX0_g (n := 152) (by decide +kernel) ⟨by decide, by decide, by decide +kernel⟩) (by decide) (by decide) ?_
  refine R_iinc (ls2 := [(1, vI 1), (0, vA G 139)]) e_X0_init_7.2.2.1 0 rfl (by decide) rfl ?_
  refine R_goto 117 e_X0_init_7.2.2.2.1 (by decide) ?_
  refine R_iload_n e_X0_init_6.2.2.1 0 rfl ?_
  refine R_bipush e_X0_init_6.2.2.2.1 (by decide) ?_
  refine R_icmp_ge 142 e_X0_init_6.2.2.2.2.1 (by decide) (by decide) (by decide) (fun q => absurd q (by decide)) (fun q => ?_)
  refine R_aload_n e_X0_init_6.2.2.2.2.2.1 1 rfl ?_
  refine R_getA 0 11 143 e_X0_init_6.2.2.2.2.2.2.1 f_X0_51 (kIs_0 WX0_g (n := 152) (by decide +kernel) ⟨by decide, by decide, by decide +kernel⟩) (fun _ _ => rfl) (by decide +kernel) (by decide) ?_
  refine R_iload_n e_X0_init_6.2.2.2.2.2.2.2.1 0 rfl ?_
  refine R_new 152 2 12 66 WX0_g e_X0_init_6.2.2.2.2.2.2.2.2.1 ⟨by decide, cL_X0_49⟩ cI_X2 cN_X2 (by decide +kernel) ⟨by decide, by decide, by decide +kernel⟩ ⟨by decide, by decide⟩ ?_
  refine R_dup e_X0_init_6.2.2.2.2.2.2.2.2.2 rfl ?_
  refine R_callIN (mc := 12) (ms := 66) (mc' := 0) (ms' := 0) (M' := M_X2_init) (d' := 1) (as := []) (st := [vA G 152, vI 1, vA G 143]) 0 e_X0_init_7.1 m_X2_init kn_X0_62 (by decide) (by decide) rfl rfl (by show (3 : Nat) ≤ 8; decide) ?_
  refine Run.mono (I_X2 (kIs_s WX0_g (n := 153) (by decide +kernel) ⟨by decide, by decide, by decide +kernel⟩) (by decide)) (fun r s e => ?_)
  refine R_eqs (st2 := [vA G 152, vI 1, vA G 143]) (σ2 := (iX2 (kmk (kup (iX2 (kmk (kup (iX3 (kmk (kup (iX3 (kmk (kup (iX3 (kmk (kup (iX3 (kmk (kup (iX3 (kmk (kup (iX3 (kmk (kup (kmk (kup (kmk (kup (kmk (kup (kmk (kup (kmk (kup (kup (kup (kup (kup (kup (kup (kup mu39 139 0 0) 139 1 0) 139 2 6) 139 3 0) 139 4 0) 139 5 0) 139 6 0) 139 7 0) 140) 139 8 140) 141) 139 9 141) 142) 139 10 142) 143) 139 11 143) 144) 139 12 144) 145) 145) 142 0 145) 146) 146) 142 1 146) 147) 147) 142 2 147) 148) 148) 142 3 148) 149) 149) 142 4 149) 150) 150) 142 5 150) 151) 151) 143 0 151) 152) 152)) rfl e ?_
  refine R_astq 28 2 8 WX0_g e_X0_init_7.2.1 (by decide) rfl (by decide) (kAr_0 WX0_g (n := 153) (by decide +kernel) ⟨by decide, by decide, by decide +kernel⟩ (by decide)) (kIs_0 WX0_g (n := 153) (by decide +kernel) ⟨by decide, by decide, by decide +kernel⟩) (by decide) (by decide) ?_
  refine R_iinc (ls2 := [(1, vI 2), (0, vA G 139)]) e_X0_init_7.2.2.1 0 rfl (by decide) rfl ?_
  refine R_goto 117 e_X0_init_7.2.2.2.1 (by decide) ?_
  refine R_iload_n e_X0_init_6.2.2.1 0 rfl ?_
  refine R_bipush e_X0_init_6.2.2.2.1 (by decide) ?_
  refine R_icmp_ge 142 e_X0_init_6.2.2.2.2.1 (by decide) (by decide) (by decide) (fun q => absurd q (by decide)) (fun q => ?_)
  refine R_aload_n e_X0_init_6.2.2.2.2.2.1 1 rfl ?_
  refine R_getA 0 11 143 e_X0_init_6.2.2.2.2.2.2.1 f_X0_51 (kIs_0 WX0_g (n := 153) (by decide +kernel) ⟨by decide, by decide, by decide +kernel⟩) (fun _ _ => rfl) (by decide +kernel) (by decide) ?_
  refine R_iload_n e_X0_init_6.2.2.2.2.2.2.2.1 0 rfl ?_
  refine R_new 153 2 11 61 WX0_g e_X0_init_6.2.2.2.2.2.2.2.2.1 ⟨by decide, cL_X0_49⟩ cI_X2 cN_X2 (by decide +kernel) ⟨by decide, by decide, by decide +kernel⟩ ⟨by decide, by decide⟩ ?_
  refine R_dup e_X0_init_6.2.2.2.2.2.2.2.2.2 rfl ?_
  refine R_callIN (mc := 11) (ms := 61) (mc' := 0) (ms' := 0) (M' := M_X2_init) (d' := 1) (as := []) (st := [vA G 153, vI 2, vA G 143]) 0 e_X0_init_7.1 m_X2_init kn_X0_62 (by decide) (by decide) rfl rfl (by show (3 : Nat) ≤ 8; decide) ?_
  refine Run.mono (I_X2 (kIs_s WX0_g (n := 154) (by decide +kernel) ⟨by decide, by decide, by decide +kernel⟩) (by decide)) (fun r s e => ?_)
  refine R_eqs (st2 := [vA G 153, vI 2, vA G 143]) (σ2 := (iX2 (kmk (kup (iX2 (kmk (kup (iX2 (kmk (kup (iX3 (kmk (kup (iX3 (kmk (kup (iX3 (kmk (kup (iX3 (kmk (kup (iX3 (kmk (kup (iX3 (kmk (kup (kmk (kup (kmk (kup (kmk (kup (kmk (kup (kmk (kup (kup (kup (kup (kup (kup (kup (kup mu39 139 0 0) 139 1 0) 139 2 6) 139 3 0) 139 4 0) 139 5 0) 139 6 0) 139 7 0) 140) 139 8 140) 141) 139 9 141) 142) 139 10 142) 143) 139 11 143) 144) 139 12 144) 145) 145) 142 0 145) 146) 146) 142 1 146) 147) 147) 142 2 147) 148) 148) 142 3 148) 149) 149) 142 4 149) 150) 150) 142 5 150) 151) 151) 143 0 151) 152) 152) 143 1 152) 153) 153)) rfl e ?_
  refine R_astq 28 2 8 WX0_g e_X0_init_7.2.1 (by decide) rfl (by decide) (kAr_0 WX0_g (n := 154) (by decide +kernel) ⟨by decide, by decide, by decide +kernel⟩ (by decide)) (kIs_0 WX0_g (n := 154) (by decide +kernel) ⟨by decide, by decide, by decide +kernel⟩) (by decide) (by decide) ?_
  refine R_iinc (ls2 := [(1, vI 3), (0, vA G 139)]) e_X0_init_7.2.2.1 0 rfl (by decide) rfl ?_
  refine R_goto 117 e_X0_init_7.2.2.2.1 (by decide) ?_
  refine R_iload_n e_X0_init_6.2.2.1 0 rfl ?_
  refine R_bipush e_X0_init_6.2.2.2.1 (by decide) ?_
  refine R_icmp_ge 142 e_X0_init_6.2.2.2.2.1 (by decide) (by decide) (by decide) (fun q => absurd q (by decide)) (fun q => ?_)
  refine R_aload_n e_X0_init_6.2.2.2.2.2.1 1 rfl ?_
  refine R_getA 0 11 143 e_X0_init_6.2.2.2.2.2.2.1 f_X0_51 (kIs_0 WX0_g (n := 154) (by decide +kernel) ⟨by decide, by decide, by decide +kernel⟩) (fun _ _ => rfl) (by decide +kernel) (by decide) ?_
  refine R_iload_n e_X0_init_6.2.2.2.2.2.2.2.1 0 rfl ?_
  refine R_new 154 2 10 56 WX0_g e_X0_init_6.2.2.2.2.2.2.2.2.1 ⟨by decide, cL_X0_49⟩ cI_X2 cN_X2 (by decide +kernel) ⟨by decide, by decide, by decide +kernel⟩ ⟨by decide, by decide⟩ ?_
  refine R_dup e_X0_init_6.2.2.2.2.2.2.2.2.2 rfl ?_
  refine R_callIN (mc := 10) (ms := 56) (mc' := 0) (ms' := 0) (M' := M_X2_init) (d' := 1) (as := []) (st := [vA G 154, vI 3, vA G 143]) 0 e_X0_init_7.1 m_X2_init kn_X0_62 (by decide) (by decide) rfl rfl (by show (3 : Nat) ≤ 8; decide) ?_
  refine Run.mono (I_X2 (kIs_s WX0_g (n := 155) (by decide +kernel) ⟨by decide, by decide, by decide +kernel⟩) (by decide)) (fun r s e => ?_)
  refine R_eqs (st2 := [vA G 154, vI 3, vA G 143]) (σ2 := (iX2 (kmk (kup (iX2 (kmk (kup (iX2 (kmk (kup (iX2 (kmk (kup (iX3 (kmk (kup (iX3 (kmk (kup (iX3 (kmk (kup (iX3 (kmk (kup (iX3 (kmk (kup (iX3 (kmk (kup (kmk (kup (kmk (kup (kmk (kup (kmk (kup (kmk (kup (kup (kup (kup (kup (kup (kup (kup mu39 139 0 0) 139 1 0) 139 2 6) 139 3 0) 139 4 0) 139 5 0) 139 6 0) 139 7 0) 140) 139 8 140) 141) 139 9 141) 142) 139 10 142) 143) 139 11 143) 144) 139 12 144) 145) 145) 142 0 145) 146) 146) 142 1 146) 147) 147) 142 2 147) 148) 148) 142 3 148) 149) 149) 142 4 149) 150) 150) 142 5 150) 151) 151) 143 0 151) 152) 152) 143 1 152) 153) 153) 143 2 153) 154) 154)) rfl e ?_
  refine R_astq 28 2 8 WX0_g e_X0_init_7.2.1 (by decide) rfl (by decide) (kAr_0 WX0_g (n := 155) (by decide +kernel) ⟨by decide, by decide, by decide +kernel⟩ (by decide)) (kIs_0 WX0_g (n := 155) (by decide +kernel) ⟨by decide, by decide, by decide +kernel⟩) (by decide) (by decide) ?_
  refine R_iinc (ls2 := [(1, vI 4), (0, vA G 139)]) e_X0_init_7.2.2.1 0 rfl (by decide) rfl ?_
  refine R_goto 117 e_X0_init_7.2.2.2.1 (by decide) ?_
  refine R_iload_n e_X0_init_6.2.2.1 0 rfl ?_
  refine R_bipush e_X0_init_6.2.2.2.1 (by decide) ?_
  refine R_icmp_ge 142 e_X0_init_6.2.2.2.2.1 (by decide) (by decide) (by decide) (fun q => absurd q (by decide)) (fun q => ?_)
  refine R_aload_n e_X0_init_6.2.2.2.2.2.1 1 rfl ?_
  refine R_getA 0 11 143 e_X0_init_6.2.2.2.2.2.2.1 f_X0_51 (kIs_0 WX0_g (n := 155) (by decide +kernel) ⟨by decide, by decide, by decide +kernel⟩) (fun _ _ => rfl) (by decide +kernel) (by decide) ?_
  refine R_iload_n e_X0_init_6.2.2.2.2.2.2.2.1 0 rfl ?_
  refine R_new 155 2 9 51 WX0_g e_X0_init_6.2.2.2.2.2.2.2.2.1 ⟨by decide, cL_X0_49⟩ cI_X2 cN_X2 (by decide +kernel) ⟨by decide, by decide, by decide +kernel⟩ ⟨by decide, by decide⟩ ?_
  refine R_dup e_X0_init_6.2.2.2.2.2.2.2.2.2 rfl ?_
  refine R_callIN (mc := 9) (ms := 51) (mc' := 0) (ms' := 0) (M' := M_X2_init) (d' := 1) (as := []) (st := [vA G 155, vI 4, vA G 143]) 0 e_X0_init_7.1 m_X2_init kn_X0_62 (by decide) (by decide) rfl rfl (by show (3 : Nat) ≤ 8; decide) ?_
  refine Run.mono (I_X2 (kIs_s WX0_g (n := 156) (by decide +kernel) ⟨by decide, by decide, by decide +kernel⟩) (by decide)) (fun r s e => ?_)
  refine R_eqs (st2 := [vA G 155, vI 4, vA G 143]) (σ2 := (iX2 (kmk (kup (iX2 (kmk (kup (iX2 (kmk (kup (iX2 (kmk (kup (iX2 (kmk (kup (iX3 (kmk (kup (iX3 (kmk (kup (iX3 (kmk (kup (iX3 (kmk (kup (iX3 (kmk (kup (iX3 (kmk (kup (kmk (kup (kmk (kup (kmk (kup (kmk (kup (kmk (kup (kup (kup (kup (kup (kup (kup (kup mu39 139 0 0) 139 1 0) 139 2 6) 139 3 0) 139 4 0) 139 5 0) 139 6 0) 139 7 0) 140) 139 8 140) 141) 139 9 141) 142) 139 10 142) 143) 139 11 143) 144) 139 12 144) 145) 145) 142 0 145) 146) 146) 142 1 146) 147) 147) 142 2 147) 148) 148) 142 3 148) 149) 149) 142 4 149) 150) 150) 142 5 150) 151) 151) 143 0 151) 152) 152) 143 1 152) 153) 153) 143 2 153) 154) 154) 143 3 154) 155) 155)) rfl e ?_
  refine R_astq 28 2 8 WX0_g e_X0_init_7.2.1 (by decide) rfl (by decide) (kAr_0 WX0_g (n := 156) (by decide +kernel) ⟨by decide, by decide, by decide +kernel⟩ (by decide)) (kIs_0 WX0_g (n := 156) (by decide +kernel) ⟨by decide, by decide, by decide +kernel⟩) (by decide) (by decide) ?_
  refine R_iinc (ls2 := [(1, vI 5), (0, vA G 139)]) e_X0_init_7.2.2.1 0 rfl (by decide) rfl ?_
  refine R_goto 117 e_X0_init_7.2.2.2.1 (by decide) ?_
  refine R_iload_n e_X0_init_6.2.2.1 0 rfl ?_
  refine R_bipush e_X0_init_6.2.2.2.1 (by decide) ?_
  refine R_icmp_ge 142 e_X0_init_6.2.2.2.2.1 (by decide) (by decide) (by decide) (fun q => absurd q (by decide)) (fun q => ?_)
  refine R_aload_n e_X0_init_6.2.2.2.2.2.1 1 rfl ?_
  refine R_getA 0 11 143 e_X0_init_6.2.2.2.2.2.2.1 f_X0_51 (kIs_0 WX0_g (n := 156) (by decide +kernel) ⟨by decide, by decide, by decide +kernel⟩) (fun _ _ => rfl) (by decide +kernel) (by decide) ?_
  refine R_iload_n e_X0_init_6.2.2.2.2.2.2.2.1 0 rfl ?_
  refine R_new 156 2 8 46 WX0_g e_X0_init_6.2.2.2.2.2.2.2.2.1 ⟨by decide, cL_X0_49⟩ cI_X2 cN_X2 (by decide +kernel) ⟨by decide, by decide, by decide +kernel⟩ ⟨by decide, by decide⟩ ?_
  refine R_dup e_X0_init_6.2.2.2.2.2.2.2.2.2 rfl ?_
  refine R_callIN (mc := 8) (ms := 46) (mc' := 0) (ms' := 0) (M' := M_X2_init) (d' := 1) (as := []) (st := [vA G 156, vI 5, vA G 143]) 0 e_X0_init_7.1 m_X2_init kn_X0_62 (by decide) (by decide) rfl rfl (by show (3 : Nat) ≤ 8; decide) ?_
  refine Run.mono (I_X2 (kIs_s WX0_g (n := 157) (by decide +kernel) ⟨by decide, by decide, by decide +kernel⟩) (by decide)) (fun r s e => ?_)
  refine R_eqs (st2 := [vA G 156, vI 5, vA G 143]) (σ2 := (iX2 (kmk (kup (iX2 (kmk (kup (iX2 (kmk (kup (iX2 (kmk (kup (iX2 (kmk (kup (iX2 (kmk (kup (iX3 (kmk (kup (iX3 (kmk (kup (iX3 (kmk (kup (iX3 (kmk (kup (iX3 (kmk (kup (iX3 (kmk (kup (kmk (kup (kmk (kup (kmk (kup (kmk (kup (kmk (kup (kup (kup (kup (kup (kup (kup (kup mu39 139 0 0) 139 1 0) 139 2 6) 139 3 0) 139 4 0) 139 5 0) 139 6 0) 139 7 0) 140) 139 8 140) 141) 139 9 141) 142) 139 10 142) 143) 139 11 143) 144) 139 12 144) 145) 145) 142 0 145) 146) 146) 142 1 146) 147) 147) 142 2 147) 148) 148) 142 3 148) 149) 149) 142 4 149) 150) 150) 142 5 150) 151) 151) 143 0 151) 152) 152) 143 1 152) 153) 153) 143 2 153) 154) 154) 143 3 154) 155) 155) 143 4 155) 156) 156)) rfl e ?_
  refine R_astq 28 2 8 WX0_g e_X0_init_7.2.1 (by decide) rfl (by decide) (kAr_0 WX0_g (n := 157) (by decide +kernel) ⟨by decide, by decide, by decide +kernel⟩ (by decide)) (kIs_0 WX0_g (n := 157) (by decide +kernel) ⟨by decide, by decide, by decide +kernel⟩) (by decide) (by decide) ?_
  refine R_iinc (ls2 := [(1, vI 6), (0, vA G 139)]) e_X0_init_7.2.2.1 0 rfl (by decide) rfl ?_
  refine R_goto 117 e_X0_init_7.2.2.2.1 (by decide) ?_
  refine R_iload_n e_X0_init_6.2.2.1 0 rfl ?_
  refine R_bipush e_X0_init_6.2.2.2.1 (by decide) ?_
  refine R_icmp_ge 142 e_X0_init_6.2.2.2.2.1 (by decide) (by decide) (by decide) (fun q => absurd q (by decide)) (fun q => ?_)
  refine R_aload_n e_X0_init_6.2.2.2.2.2.1 1 rfl ?_
  refine R_getA 0 11 143 e_X0_init_6.2.2.2.2.2.2.1 f_X0_51 (kIs_0 WX0_g (n := 157) (by decide +kernel) ⟨by decide, by decide, by decide +kernel⟩) (fun _ _ => rfl) (by decide +kernel) (by decide) ?_
  refine R_iload_n e_X0_init_6.2.2.2.2.2.2.2.1 0 rfl ?_
  refine R_new 157 2 7 41 WX0_g e_X0_init_6.2.2.2.2.2.2.2.2.1 ⟨by decide, cL_X0_49⟩ cI_X2 cN_X2 (by decide +kernel) ⟨by decide, by decide, by decide +kernel⟩ ⟨by decide, by decide⟩ ?_
  refine R_dup e_X0_init_6.2.2.2.2.2.2.2.2.2 rfl ?_
  refine R_callIN (mc := 7) (ms := 41) (mc' := 0) (ms' := 0) (M' := M_X2_init) (d' := 1) (as := []) (st := [vA G 157, vI 6, vA G 143]) 0 e_X0_init_7.1 m_X2_init kn_X0_62 (by decide) (by decide) rfl rfl (by show (3 : Nat) ≤ 8; decide) ?_
  refine Run.mono (I_X2 (kIs_s WX0_g (n := 158) (by decide +kernel) ⟨by decide, by decide, by decide +kernel⟩) (by decide)) (fun r s e => ?_)
  refine R_eqs (st2 := [vA G 157, vI 6, vA G 143]) (σ2 := (iX2 (kmk (kup (iX2 (kmk (kup (iX2 (kmk (kup (iX2 (kmk (kup (iX2 (kmk (kup (iX2 (kmk (kup (iX2 (kmk (kup (iX3 (kmk (kup (iX3 (kmk (kup (iX3 (kmk (kup (iX3 (kmk (kup (iX3 (kmk (kup (iX3 (kmk (kup (kmk (kup (kmk (kup (kmk (kup (kmk (kup (kmk (kup (kup (kup (kup (kup (kup (kup (kup mu39 139 0 0) 139 1 0) 139 2 6) 139 3 0) 139 4 0) 139 5 0) 139 6 0) 139 7 0) 140) 139 8 140) 141) 139 9 141) 142) 139 10 142) 143) 139 11 143) 144) 139 12 144) 145) 145) 142 0 145) 146) 146) 142 1 146) 147) 147) 142 2 147) 148) 148) 142 3 148) 149) 149) 142 4 149) 150) 150) 142 5 150) 151) 151) 143 0 151) 152) 152) 143 1 152) 153) 153) 143 2 153) 154) 154) 143 3 154) 155) 155) 143 4 155) 156) 156) 143 5 156) 157) 157)) rfl e ?_
  refine R_astq 28 2 8 WX0_g e_X0_init_7.2.1 (by decide) rfl (by decide) (kAr_0 WX0_g (n := 158) (by decide +kernel) ⟨by decide, by decide, by decide +kernel⟩ (by decide)) (kIs_0 WX0_g (n := 158) (by decide +kernel) ⟨by decide, by decide, by decide +kernel⟩) (by decide) (by decide) ?_
  refine R_iinc (ls2 := [(1, vI 7), (0, vA G 139)]) e_X0_init_7.2.2.1 0 rfl (by decide) rfl ?_
  refine R_goto 117 e_X0_init_7.2.2.2.1 (by decide) ?_
  refine R_iload_n e_X0_init_6.2.2.1 0 rfl ?_
  refine R_bipush e_X0_init_6.2.2.2.1 (by decide) ?_
  refine R_icmp_ge 142 e_X0_init_6.2.2.2.2.1 (by decide) (by decide) (by decide) (fun q => absurd q (by decide)) (fun q => ?_)
  refine R_aload_n e_X0_init_6.2.2.2.2.2.1 1 rfl ?_
  refine R_getA 0 11 143 e_X0_init_6.2.2.2.2.2.2.1 f_X0_51 (kIs_0 WX0_g (n := 158) (by decide +kernel) ⟨by decide, by decide, by decide +kernel⟩) (fun _ _ => rfl) (by decide +kernel) (by decide) ?_
  refine R_iload_n e_X0_init_6.2.2.2.2.2.2.2.1 0 rfl ?_
  refine R_new 158 2 6 36 WX0_g e_X0_init_6.2.2.2.2.2.2.2.2.1 ⟨by decide, cL_X0_49⟩ cI_X2 cN_X2 (by decide +kernel) ⟨by decide, by decide, by decide +kernel⟩ ⟨by decide, by decide⟩ ?_
  refine R_dup e_X0_init_6.2.2.2.2.2.2.2.2.2 rfl ?_
  refine R_callIN (mc := 6) (ms := 36) (mc' := 0) (ms' := 0) (M' := M_X2_init) (d' := 1) (as := []) (st := [vA G 158, vI 7, vA G 143]) 0 e_X0_init_7.1 m_X2_init kn_X0_62 (by decide) (by decide) rfl rfl (by show (3 : Nat) ≤ 8; decide) ?_
  refine Run.mono (I_X2 (kIs_s WX0_g (n := 159) (by decide +kernel) ⟨by decide, by decide, by decide +kernel⟩) (by decide)) (fun r s e => ?_)
  refine R_eqs (st2 := [vA G 158, vI 7, vA G 143]) (σ2 := (iX2 (kmk (kup (iX2 (kmk (kup (iX2 (kmk (kup (iX2 (kmk (kup (iX2 (kmk (kup (iX2 (kmk (kup (iX2 (kmk (kup (iX2 (kmk (kup (iX3 (kmk (kup (iX3 (kmk (kup (iX3 (kmk (kup (iX3 (kmk (kup (iX3 (kmk (kup (iX3 (kmk (kup (kmk (kup (kmk (kup (kmk (kup (kmk (kup (kmk (kup (kup (kup (kup (kup (kup (kup (kup mu39 139 0 0) 139 1 0) 139 2 6) 139 3 0) 139 4 0) 139 5 0) 139 6 0) 139 7 0) 140) 139 8 140) 141) 139 9 141) 142) 139 10 142) 143) 139 11 143) 144) 139 12 144) 145) 145) 142 0 145) 146) 146) 142 1 146) 147) 147) 142 2 147) 148) 148) 142 3 148) 149) 149) 142 4 149) 150) 150) 142 5 150) 151) 151) 143 0 151) 152) 152) 143 1 152) 153) 153) 143 2 153) 154) 154) 143 3 154) 155) 155) 143 4 155) 156) 156) 143 5 156) 157) 157) 143 6 157) 158) 158)) rfl e ?_
  refine R_astq 28 2 8 WX0_g e_X0_init_7.2.1 (by decide) rfl (by decide) (kAr_0 WX0_g (n := 159) (by decide +kernel) ⟨by decide, by decide, by decide +kernel⟩ (by decide)) (kIs_0 WX0_g (n := 159) (by decide +kernel) ⟨by decide, by decide, by decide +kernel⟩) (by decide) (by decide) ?_
  refine R_iinc (ls2 := [(1, vI 8), (0, vA G 139)]) e_X0_init_7.2.2.1 0 rfl (by decide) rfl ?_
  refine R_goto 117 e_X0_init_7.2.2.2.1 (by decide) ?_
  refine R_iload_n e_X0_init_6.2.2.1 0 rfl ?_
  refine R_bipush e_X0_init_6.2.2.2.1 (by decide) ?_
  refine R_icmp_ge 142 e_X0_init_6.2.2.2.2.1 (by decide) (by decide) (by decide) (fun q => ?_) (fun q => absurd q (by decide))
  refine R_iconst e_X0_init_7.2.2.2.2.1 ?_
  refine R_istore_n (ls2 := [(1, vI 0), (0, vA G 139)]) e_X0_init_7.2.2.2.2.2.1 (by decide) rfl ?_
  refine R_iload_n e_X0_init_7.2.2.2.2.2.2.1 0 rfl ?_
  refine R_bipush e_X0_init_7.2.2.2.2.2.2.2.1 (by decide) ?_
  refine R_icmp_ge 169 e_X0_init_7.2.2.2.2.2.2.2.2.1 (by decide) (by decide) (by decide) (fun q => absurd q (by decide)) (fun q => ?_)
  refine R_aload_n e_X0_init_7.2.2.2.2.2.2.2.2.2 1 rfl ?_
  refine R_getA 0 12 144 e_X0_init_8.1 f_X0_57 (kIs_0 WX0_g (n := 159) (by decide +kernel) ⟨by decide, by decide, by decide +kernel⟩) (fun _ _ => rfl) (by decide +kernel) (by decide) ?_
  refine R_iload_n e_X0_init_8.2.1 0 rfl ?_
  refine R_new 159 9 5 30 WX0_g e_X0_init_8.2.2.1 ⟨by decide, cL_X0_55⟩ cI_X9 cN_X9 (by decide +kernel) ⟨by decide, by decide, by decide +kernel⟩ ⟨by decide, by decide⟩ ?_
  refine R_dup e_X0_init_8.2.2.2.1 rfl ?_
  refine R_callIN (mc := 5) (ms := 30) (mc' := 0) (ms' := 0) (M' := M_X9_init) (d' := 1) (as := []) (st := [vA G 159, vI 0, vA G 144]) 0 e_X0_init_8.2.2.2.2.1 m_X9_init kn_X0_63 (by decide) (by decide) rfl rfl (by show (3 : Nat) ≤ 8; decide) ?_
  refine Run.mono (I_X9 (kIs_s WX0_g (n := 160) (by decide +kernel) ⟨by decide, by decide, by decide +kernel⟩) (by decide)) (fun r s e => ?_)
  refine R_eqs (st2 := [vA G 159, vI 0, vA G 144]) (σ2 := (iX9 (kmk (kup (iX2 (kmk (kup (iX2 (kmk (kup (iX2 (kmk (kup (iX2 (kmk (kup (iX2 (kmk (kup (iX2 (kmk (kup (iX2 (kmk (kup (iX2 (kmk (kup (iX3 (kmk (kup (iX3 (kmk (kup (iX3 (kmk (kup (iX3 (kmk (kup (iX3 (kmk (kup (iX3 (kmk (kup (kmk (kup (kmk (kup (kmk (kup (kmk (kup (kmk (kup (kup (kup (kup (kup (kup (kup (kup mu39 139 0 0) 139 1 0) 139 2 6) 139 3 0) 139 4 0) 139 5 0) 139 6 0) 139 7 0) 140) 139 8 140) 141) 139 9 141) 142) 139 10 142) 143) 139 11 143) 144) 139 12 144) 145) 145) 142 0 145) 146) 146) 142 1 146) 147) 147) 142 2 147) 148) 148) 142 3 148) 149) 149) 142 4 149) 150) 150) 142 5 150) 151) 151) 143 0 151) 152) 152) 143 1 152) 153) 153) 143 2 153) 154) 154) 143 3 154) 155) 155) 143 4 155) 156) 156) 143 5 156) 157) 157) 143 6 157) 158) 158) 143 7 158) 159) 159)) rfl e ?_
  refine R_astq 29 9 6 WX0_g e_X0_init_8.2.2.2.2.2.1 (by decide) rfl (by decide) (kAr_0 WX0_g (n := 160) (by decide +kernel) ⟨by decide, by decide, by decide +kernel⟩ (by decide)) (kIs_0 WX0_g (n := 160) (by decide +kernel) ⟨by decide, by decide, by decide +kernel⟩) (by decide) (by decide) ?_
  refine R_iinc (ls2 := [(1, vI 1), (0, vA G 139)]) e_X0_init_8.2.2.2.2.2.2.1 0 rfl (by decide) rfl ?_
  refine R_goto 144 e_X0_init_8.2.2.2.2.2.2.2.1 (by decide) ?_
  refine R_iload_n e_X0_init_7.2.2.2.2.2.2.1 0 rfl ?_
  refine R_bipush e_X0_init_7.2.2.2.2.2.2.2.1 (by decide) ?_
  refine R_icmp_ge 169 e_X0_init_7.2.2.2.2.2.2.2.2.1 (by decide) (by decide) (by decide) (fun q => absurd q (by decide)) (fun q => ?_)
  refine R_aload_n e_X0_init_7.2.2.2.2.2.2.2.2.2 1 rfl ?_
  refine R_getA 0 12 144 e_X0_init_8.1 f_X0_57 (kIs_0 WX0_g (n := 160) (by decide +kernel) ⟨by decide, by decide, by decide +kernel⟩) (fun _ _ => rfl) (by decide +kernel) (by decide) ?_
  refine R_iload_n e_X0_init_8.2.1 0 rfl ?_
  refine R_new 160 9 4 24 WX0_g e_X0_init_8.2.2.1 ⟨by decide, cL_X0_55⟩ cI_X9 cN_X9 (by decide +kernel) ⟨by decide, by decide, by decide +kernel⟩ ⟨by decide, by decide⟩ ?_
  refine R_dup e_X0_init_8.2.2.2.1 rfl ?_
  refine R_callIN (mc := 4) (ms := 24) (mc' := 0) (ms' := 0) (M' := M_X9_init) (d' := 1) (as := []) (st := [vA G 160, vI 1, vA G 144]) 0 e_X0_init_8.2.2.2.2.1 m_X9_init kn_X0_63 (by decide) (by decide) rfl rfl (by show (3 : Nat) ≤ 8; decide) ?_
  refine Run.mono (I_X9 (kIs_s WX0_g (n := 161) (by decide +kernel) ⟨by decide, by decide, by decide +kernel⟩) (by decide)) (fun r s e => ?_)
  refine R_eqs (st2 := [vA G 160, vI 1, vA G 144]) (σ2 := (iX9 (kmk (kup (iX9 (kmk (kup (iX2 (kmk (kup (iX2 (kmk (kup (iX2 (kmk (kup (iX2 (kmk (kup (iX2 (kmk (kup (iX2 (kmk (kup (iX2 (kmk (kup (iX2 (kmk (kup (iX3 (kmk (kup (iX3 (kmk (kup (iX3 (kmk (kup (iX3 (kmk (kup (iX3 (kmk (kup (iX3 (kmk (kup (kmk (kup (kmk (kup (kmk (kup (kmk (kup (kmk (kup (kup (kup (kup (kup (kup (kup (kup mu39 139 0 0) 139 1 0) 139 2 6) 139 3 0) 139 4 0) 139 5 0) 139 6 0) 139 7 0) 140) 139 8 140) 141) 139 9 141) 142) 139 10 142) 143) 139 11 143) 144) 139 12 144) 145) 145) 142 0 145) 146) 146) 142 1 146) 147) 147) 142 2 147) 148) 148) 142 3 148) 149) 149) 142 4 149) 150) 150) 142 5 150) 151) 151) 143 0 151) 152) 152) 143 1 152) 153) 153) 143 2 153) 154) 154) 143 3 154) 155) 155) 143 4 155) 156) 156) 143 5 156) 157) 157) 143 6 157) 158) 158) 143 7 158) 159) 159) 144 0 159) 160) 160)) rfl e ?_
  refine R_astq 29 9 6 WX0_g e_X0_init_8.2.2.2.2.2.1 (by decide) rfl (by decide) (kAr_0 WX0_g (n := 161) (by decide +kernel) ⟨by decide, by decide, by decide +kernel⟩ (by decide)) (kIs_0 WX0_g (n := 161) (by decide +kernel) ⟨by decide, by decide, by decide +kernel⟩) (by decide) (by decide) ?_
  refine R_iinc (ls2 := [(1, vI 2), (0, vA G 139)]) e_X0_init_8.2.2.2.2.2.2.1 0 rfl (by decide) rfl ?_
  refine R_goto 144 e_X0_init_8.2.2.2.2.2.2.2.1 (by decide) ?_
  refine R_iload_n e_X0_init_7.2.2.2.2.2.2.1 0 rfl ?_
  refine R_bipush e_X0_init_7.2.2.2.2.2.2.2.1 (by decide) ?_
  refine R_icmp_ge 169 e_X0_init_7.2.2.2.2.2.2.2.2.1 (by decide) (by decide) (by decide) (fun q => absurd q (by decide)) (fun q => ?_)
  refine R_aload_n e_X0_init_7.2.2.2.2.2.2.2.2.2 1 rfl ?_
  refine R_getA 0 12 144 e_X0_init_8.1 f_X0_57 (kIs_0 WX0_g (n := 161) (by decide +kernel) ⟨by decide, by decide, by decide +kernel⟩) (fun _ _ => rfl) (by decide +kernel) (by decide) ?_
  refine R_iload_n e_X0_init_8.2.1 0 rfl ?_
  refine R_new 161 9 3 18 WX0_g e_X0_init_8.2.2.1 ⟨by decide, cL_X0_55⟩ cI_X9 cN_X9 (by decide +kernel) ⟨by decide, by decide, by decide +kernel⟩ ⟨by decide, by decide⟩ ?_
  refine R_dup e_X0_init_8.2.2.2.1 rfl ?_
  refine R_callIN (mc := 3) (ms := 18) (mc' := 0) (ms' := 0) (M' := M_X9_init) (d' := 1) (as := []) (st := [vA G 161, vI 2, vA G 144]) 0 e_X0_init_8.2.2.2.2.1 m_X9_init kn_X0_63 (by decide) (by decide) rfl rfl (by show (3 : Nat) ≤ 8; decide) ?_
  refine Run.mono (I_X9 (kIs_s WX0_g (n := 162) (by decide +kernel) ⟨by decide, by decide, by decide +kernel⟩) (by decide)) (fun r s e => ?_)
  refine R_eqs (st2 := [vA G 161, vI 2, vA G 144]) (σ2 := (iX9 (kmk (kup (iX9 (kmk (kup (iX9 (kmk (kup (iX2 (kmk (kup (iX2 (kmk (kup (iX2 (kmk (kup (iX2 (kmk (kup (iX2 (kmk (kup (iX2 (kmk (kup (iX2 (kmk (kup (iX2 (kmk (kup (iX3 (kmk (kup (iX3 (kmk (kup (iX3 (kmk (kup (iX3 (kmk (kup (iX3 (kmk (kup (iX3 (kmk (kup (kmk (kup (kmk (kup (kmk (kup (kmk (kup (kmk (kup (kup (kup (kup (kup (kup (kup (kup mu39 139 0 0) 139 1 0) 139 2 6) 139 3 0) 139 4 0) 139 5 0) 139 6 0) 139 7 0) 140) 139 8 140) 141) 139 9 141) 142) 139 10 142) 143) 139 11 143) 144) 139 12 144) 145) 145) 142 0 145) 146) 146) 142 1 146) 147) 147) 142 2 147) 148) 148) 142 3 148) 149) 149) 142 4 149) 150) 150) 142 5 150) 151) 151) 143 0 151) 152) 152) 143 1 152) 153) 153) 143 2 153) 154) 154) 143 3 154) 155) 155) 143 4 155) 156) 156) 143 5 156) 157) 157) 143 6 157) 158) 158) 143 7 158) 159) 159) 144 0 159) 160) 160) 144 1 160) 161) 161)) rfl e ?_
  refine R_astq 29 9 6 WX0_g e_X0_init_8.2.2.2.2.2.1 (by decide) rfl (by decide) (kAr_0 WX0_g (n := 162) (by decide +kernel) ⟨by decide, by decide, by decide +kernel⟩ (by decide)) (kIs_0 WX0_g (n := 162) (by decide +kernel) ⟨by decide, by decide, by decide +kernel⟩) (by decide) (by decide) ?_
  refine R_iinc (ls2 := [(1, vI 3), (0, vA G 139)]) e_X0_init_8.2.2.2.2.2.2.1 0 rfl (by decide) rfl ?_
  refine R_goto 144 e_X0_init_8.2.2.2.2.2.2.2.1 (by decide) ?_
  refine R_iload_n e_X0_init_7.2.2.2.2.2.2.1 0 rfl ?_
  refine R_bipush e_X0_init_7.2.2.2.2.2.2.2.1 (by decide) ?_
  refine R_icmp_ge 169 e_X0_init_7.2.2.2.2.2.2.2.2.1 (by decide) (by decide) (by decide) (fun q => absurd q (by decide)) (fun q => ?_)
  refine R_aload_n e_X0_init_7.2.2.2.2.2.2.2.2.2 1 rfl ?_
  refine R_getA 0 12 144 e_X0_init_8.1 f_X0_57 (kIs_0 WX0_g (n := 162) (by decide +kernel) ⟨by decide, by decide, by decide +kernel⟩) (fun _ _ => rfl) (by decide +kernel) (by decide) ?_
  refine R_iload_n e_X0_init_8.2.1 0 rfl ?_
  refine R_new 162 9 2 12 WX0_g e_X0_init_8.2.2.1 ⟨by decide, cL_X0_55⟩ cI_X9 cN_X9 (by decide +kernel) ⟨by decide, by decide, by decide +kernel⟩ ⟨by decide, by decide⟩ ?_
  refine R_dup e_X0_init_8.2.2.2.1 rfl ?_
  refine R_callIN (mc := 2) (ms := 12) (mc' := 0) (ms' := 0) (M' := M_X9_init) (d' := 1) (as := []) (st := [vA G 162, vI 3, vA G 144]) 0 e_X0_init_8.2.2.2.2.1 m_X9_init kn_X0_63 (by decide) (by decide) rfl rfl (by show (3 : Nat) ≤ 8; decide) ?_
  refine Run.mono (I_X9 (kIs_s WX0_g (n := 163) (by decide +kernel) ⟨by decide, by decide, by decide +kernel⟩) (by decide)) (fun r s e => ?_)
  refine R_eqs (st2 := [vA G 162, vI 3, vA G 144]) (σ2 := (iX9 (kmk (kup (iX9 (kmk (kup (iX9 (kmk (kup (iX9 (kmk (kup (iX2 (kmk (kup (iX2 (kmk (kup (iX2 (kmk (kup (iX2 (kmk (kup (iX2 (kmk (kup (iX2 (kmk (kup (iX2 (kmk (kup (iX2 (kmk (kup (iX3 (kmk (kup (iX3 (kmk (kup (iX3 (kmk (kup (iX3 (kmk (kup (iX3 (kmk (kup (iX3 (kmk (kup (kmk (kup (kmk (kup (kmk (kup (kmk (kup (kmk (kup (kup (kup (kup (kup (kup (kup (kup mu39 139 0 0) 139 1 0) 139 2 6) 139 3 0) 139 4 0) 139 5 0) 139 6 0) 139 7 0) 140) 139 8 140) 141) 139 9 141) 142) 139 10 142) 143) 139 11 143) 144) 139 12 144) 145) 145) 142 0 145) 146) 146) 142 1 146) 147) 147) 142 2 147) 148) 148) 142 3 148) 149) 149) 142 4 149) 150) 150) 142 5 150) 151) 151) 143 0 151) 152) 152) 143 1 152) 153) 153) 143 2 153) 154) 154) 143 3 154) 155) 155) 143 4 155) 156) 156) 143 5 156) 157) 157) 143 6 157) 158) 158) 143 7 158) 159) 159) 144 0 159) 160) 160) 144 1 160) 161) 161) 144 2 161) 162) 162)) rfl e ?_
  refine R_astq 29 9 6 WX0_g e_X0_init_8.2.2.2.2.2.1 (by decide) rfl (by decide) (kAr_0 WX0_g (n := 163) (by decide +kernel) ⟨by decide, by decide, by decide +kernel⟩ (by decide)) (kIs_0 WX0_g (n := 163) (by decide +kernel) ⟨by decide, by decide, by decide +kernel⟩) (by decide) (by decide) ?_
  refine R_iinc (ls2 := [(1, vI 4), (0, vA G 139)]) e_X0_init_8.2.2.2.2.2.2.1 0 rfl (by decide) rfl ?_
  refine R_goto 144 e_X0_init_8.2.2.2.2.2.2.2.1 (by decide) ?_
  refine R_iload_n e_X0_init_7.2.2.2.2.2.2.1 0 rfl ?_
  refine R_bipush e_X0_init_7.2.2.2.2.2.2.2.1 (by decide) ?_
  refine R_icmp_ge 169 e_X0_init_7.2.2.2.2.2.2.2.2.1 (by decide) (by decide) (by decide) (fun q => absurd q (by decide)) (fun q => ?_)
  refine R_aload_n e_X0_init_7.2.2.2.2.2.2.2.2.2 1 rfl ?_
  refine R_getA 0 12 144 e_X0_init_8.1 f_X0_57 (kIs_0 WX0_g (n := 163) (by decide +kernel) ⟨by decide, by decide, by decide +kernel⟩) (fun _ _ => rfl) (by decide +kernel) (by decide) ?_
  refine R_iload_n e_X0_init_8.2.1 0 rfl ?_
  refine R_new 163 9 1 6 WX0_g e_X0_init_8.2.2.1 ⟨by decide, cL_X0_55⟩ cI_X9 cN_X9 (by decide +kernel) ⟨by decide, by decide, by decide +kernel⟩ ⟨by decide, by decide⟩ ?_
  refine R_dup e_X0_init_8.2.2.2.1 rfl ?_
  refine R_callIN (mc := 1) (ms := 6) (mc' := 0) (ms' := 0) (M' := M_X9_init) (d' := 1) (as := []) (st := [vA G 163, vI 4, vA G 144]) 0 e_X0_init_8.2.2.2.2.1 m_X9_init kn_X0_63 (by decide) (by decide) rfl rfl (by show (3 : Nat) ≤ 8; decide) ?_
  refine Run.mono (I_X9 (kIs_s WX0_g (n := 164) (by decide +kernel) ⟨by decide, by decide, by decide +kernel⟩) (by decide)) (fun r s e => ?_)
  refine R_eqs (st2 := [vA G 163, vI 4, vA G 144]) (σ2 := (iX9 (kmk (kup (iX9 (kmk (kup (iX9 (kmk (kup (iX9 (kmk (kup (iX9 (kmk (kup (iX2 (kmk (kup (iX2 (kmk (kup (iX2 (kmk (kup (iX2 (kmk (kup (iX2 (kmk (kup (iX2 (kmk (kup (iX2 (kmk (kup (iX2 (kmk (kup (iX3 (kmk (kup (iX3 (kmk (kup (iX3 (kmk (kup (iX3 (kmk (kup (iX3 (kmk (kup (iX3 (kmk (kup (kmk (kup (kmk (kup (kmk (kup (kmk (kup (kmk (kup (kup (kup (kup (kup (kup (kup (kup mu39 139 0 0) 139 1 0) 139 2 6) 139 3 0) 139 4 0) 139 5 0) 139 6 0) 139 7 0) 140) 139 8 140) 141) 139 9 141) 142) 139 10 142) 143) 139 11 143) 144) 139 12 144) 145) 145) 142 0 145) 146) 146) 142 1 146) 147) 147) 142 2 147) 148) 148) 142 3 148) 149) 149) 142 4 149) 150) 150) 142 5 150) 151) 151) 143 0 151) 152) 152) 143 1 152) 153) 153) 143 2 153) 154) 154) 143 3 154) 155) 155) 143 4 155) 156) 156) 143 5 156) 157) 157) 143 6 157) 158) 158) 143 7 158) 159) 159) 144 0 159) 160) 160) 144 1 160) 161) 161) 144 2 161) 162) 162) 144 3 162) 163) 163)) rfl e ?_
  refine R_astq 29 9 6 WX0_g e_X0_init_8.2.2.2.2.2.1 (by decide) rfl (by decide) (kAr_0 WX0_g (n := 164) (by decide +kernel) ⟨by decide, by decide, by decide +kernel⟩ (by decide)) (kIs_0 WX0_g (n := 164) (by decide +kernel) ⟨by decide, by decide, by decide +kernel⟩) (by decide) (by decide) ?_
  refine R_iinc (ls2 := [(1, vI 5), (0, vA G 139)]) e_X0_init_8.2.2.2.2.2.2.1 0 rfl (by decide) rfl ?_
  refine R_goto 144 e_X0_init_8.2.2.2.2.2.2.2.1 (by decide) ?_
  refine R_iload_n e_X0_init_7.2.2.2.2.2.2.1 0 rfl ?_
  refine R_bipush e_X0_init_7.2.2.2.2.2.2.2.1 (by decide) ?_
  refine R_icmp_ge 169 e_X0_init_7.2.2.2.2.2.2.2.2.1 (by decide) (by decide) (by decide) (fun q => absurd q (by decide)) (fun q => ?_)
  refine R_aload_n e_X0_init_7.2.2.2.2.2.2.2.2.2 1 rfl ?_
  refine R_getA 0 12 144 e_X0_init_8.1 f_X0_57 (kIs_0 WX0_g (n := 164) (by decide +kernel) ⟨by decide, by decide, by decide +kernel⟩) (fun _ _ => rfl) (by decide +kernel) (by decide) ?_
  refine R_iload_n e_X0_init_8.2.1 0 rfl ?_
  refine R_new 164 9 0 0 WX0_g e_X0_init_8.2.2.1 ⟨by decide, cL_X0_55⟩ cI_X9 cN_X9 (by decide +kernel) ⟨by decide, by decide, by decide +kernel⟩ ⟨by decide, by decide⟩ ?_
  refine R_dup e_X0_init_8.2.2.2.1 rfl ?_
  refine R_callIN (mc := 0) (ms := 0) (mc' := 0) (ms' := 0) (M' := M_X9_init) (d' := 1) (as := []) (st := [vA G 164, vI 5, vA G 144]) 0 e_X0_init_8.2.2.2.2.1 m_X9_init kn_X0_63 (by decide) (by decide) rfl rfl (by show (3 : Nat) ≤ 8; decide) ?_
  refine Run.mono (I_X9 (kIs_s WX0_g (n := 165) (by decide +kernel) ⟨by decide, by decide, by decide +kernel⟩) (by decide)) (fun r s e => ?_)
  refine R_eqs (st2 := [vA G 164, vI 5, vA G 144]) (σ2 := (iX9 (kmk (kup (iX9 (kmk (kup (iX9 (kmk (kup (iX9 (kmk (kup (iX9 (kmk (kup (iX9 (kmk (kup (iX2 (kmk (kup (iX2 (kmk (kup (iX2 (kmk (kup (iX2 (kmk (kup (iX2 (kmk (kup (iX2 (kmk (kup (iX2 (kmk (kup (iX2 (kmk (kup (iX3 (kmk (kup (iX3 (kmk (kup (iX3 (kmk (kup (iX3 (kmk (kup (iX3 (kmk (kup (iX3 (kmk (kup (kmk (kup (kmk (kup (kmk (kup (kmk (kup (kmk (kup (kup (kup (kup (kup (kup (kup (kup mu39 139 0 0) 139 1 0) 139 2 6) 139 3 0) 139 4 0) 139 5 0) 139 6 0) 139 7 0) 140) 139 8 140) 141) 139 9 141) 142) 139 10 142) 143) 139 11 143) 144) 139 12 144) 145) 145) 142 0 145) 146) 146) 142 1 146) 147) 147) 142 2 147) 148) 148) 142 3 148) 149) 149) 142 4 149) 150) 150) 142 5 150) 151) 151) 143 0 151) 152) 152) 143 1 152) 153) 153) 143 2 153) 154) 154) 143 3 154) 155) 155) 143 4 155) 156) 156) 143 5 156) 157) 157) 143 6 157) 158) 158) 143 7 158) 159) 159) 144 0 159) 160) 160) 144 1 160) 161) 161) 144 2 161) 162) 162) 144 3 162) 163) 163) 144 4 163) 164) 164)) rfl e ?_
  refine R_astq 29 9 6 WX0_g e_X0_init_8.2.2.2.2.2.1 (by decide) rfl (by decide) (kAr_0 WX0_g (n := 165) (by decide +kernel) ⟨by decide, by decide, by decide +kernel⟩ (by decide)) (kIs_0 WX0_g (n := 165) (by decide +kernel) ⟨by decide, by decide, by decide +kernel⟩) (by decide) (by decide) ?_
  refine R_iinc (ls2 := [(1, vI 6), (0, vA G 139)]) e_X0_init_8.2.2.2.2.2.2.1 0 rfl (by decide) rfl ?_
  refine R_goto 144 e_X0_init_8.2.2.2.2.2.2.2.1 (by decide) ?_
  refine R_iload_n e_X0_init_7.2.2.2.2.2.2.1 0 rfl ?_
  refine R_bipush e_X0_init_7.2.2.2.2.2.2.2.1 (by decide) ?_
  refine R_icmp_ge 169 e_X0_init_7.2.2.2.2.2.2.2.2.1 (by decide) (by decide) (by decide) (fun q => ?_) (fun q => absurd q (by decide))
  refine R_aload_n e_X0_init_8.2.2.2.2.2.2.2.2.1 1 rfl ?_
  refine R_callV (mc := 0) (ms := 0) (mc' := 0) (ms' := 0) (M' := M_X0_clear) (d' := 0) (as := []) (st := []) 0 0 e_X0_init_8.2.2.2.2.2.2.2.2.2 (kCVof m_X0_clear l_X0_64) rfl (by decide) (kIs_0 WX0_g (n := 165) (by decide +kernel) ⟨by decide, by decide, by decide +kernel⟩) (by decide) (by decide) rfl rfl (by show (0 : Nat) ≤ 8; decide) ?_
  refine Run.mono I_mu41 (fun r s e => ?_)
  refine R_eqs (st2 := []) (σ2 := mu41) rfl e ?_
  exact R_return e_X0_init_9 rfl rfl
def mu43 : Kmem := (kmk (kup mu42 96 1 139) 165)
def mu44 : Kmem := (kup (kup (kmk (kup (kmk (kup (kmk (kup (kmk (kup (kmk (kup (kmk (kup (kup (kup mu43 165 0 0) 165 1 0) 165 2 0) 166) 165 3 166) 167) 165 4 167) 168) 165 5 168) 169) 165 6 169) 170) 165 7 170) 171) 165 8 171) 165 9 0)
theorem I_mu44 {G : Kg} : Run G WX0 M_X7_init 1 6 303 [vA G 165] mu43 (fun _ s => s = mu44) := by
  refine Run.of (by decide +kernel) (by show (1 : Nat) ≤ 1; decide) ?_
  show Ex G WX0 M_X7_init 1 6 303 0 [(0, vA G 165)] [] mu43 _
  refine R_aload_n e_X7_init_0.1 0 rfl ?_
  refine R_obj e_X7_init_0.2.1 oL_X7_3 oI_1 oI_2 (by decide) (by decide) ?_
  refine R_aload_n e_X7_init_0.2.2.1 0 rfl ?_
  refine R_iconst e_X7_init_0.2.2.2.1 ?_
  refine R_putZ 7 0 0 WX0_ok e_X7_init_0.2.2.2.2.1 f_X7_9 (kIs_0 WX0_g (n := 166) (by decide +kernel) ⟨by decide, by decide, by decide +kernel⟩) rfl rfl rfl (Or.inl rfl) ?_
  refine R_aload_n e_X7_init_0.2.2.2.2.2.1 0 rfl ?_
  refine R_iconst e_X7_init_0.2.2.2.2.2.2.1 ?_
  refine R_putI 7 1 1 WX0_ok e_X7_init_0.2.2.2.2.2.2.2.1 f_X7_15 (kIs_0 WX0_g (n := 166) (by decide +kernel) ⟨by decide, by decide, by decide +kernel⟩) rfl rfl rfl ?_
  refine R_aload_n e_X7_init_0.2.2.2.2.2.2.2.2.1 0 rfl ?_
  refine R_iconst e_X7_init_0.2.2.2.2.2.2.2.2.2 ?_
  refine R_putI 7 2 2 WX0_ok e_X7_init_1.1 f_X7_19 (kIs_0 WX0_g (n := 166) (by decide +kernel) ⟨by decide, by decide, by decide +kernel⟩) rfl rfl rfl ?_
  refine R_aload_n e_X7_init_1.2.1 0 rfl ?_
  refine R_bipush e_X7_init_1.2.2.1 (by decide) ?_
  refine R_newarr 166 20 60 5 243 WX0_g e_X7_init_1.2.2.2.1 rfl (by decide) aC_int (by decide +kernel) ⟨by decide, by decide, by decide +kernel⟩ (by decide) ⟨by decide, by decide⟩ ?_
  refine R_putA 7 3 3 e_X7_init_1.2.2.2.2.1 f_X7_22 (kIs_0 WX0_g (n := 167) (by decide +kernel) ⟨by decide, by decide, by decide +kernel⟩) (Or.inr ⟨rfl, rfl, rfl⟩) rfl (puts0 WX0_g (by decide) (by decide)) rfl ?_
  refine R_aload_n e_X7_init_1.2.2.2.2.2.1 0 rfl ?_
  refine R_bipush e_X7_init_1.2.2.2.2.2.2.1 (by decide) ?_
  refine R_newarr 167 20 60 4 183 WX0_g e_X7_init_1.2.2.2.2.2.2.2.1 rfl (by decide) aC_int (by decide +kernel) ⟨by decide, by decide, by decide +kernel⟩ (by decide) ⟨by decide, by decide⟩ ?_
  refine R_putA 7 4 4 e_X7_init_1.2.2.2.2.2.2.2.2.1 f_X7_26 (kIs_0 WX0_g (n := 168) (by decide +kernel) ⟨by decide, by decide, by decide +kernel⟩) (Or.inr ⟨rfl, rfl, rfl⟩) rfl (puts0 WX0_g (by decide) (by decide)) rfl ?_
  refine R_aload_n e_X7_init_1.2.2.2.2.2.2.2.2.2 0 rfl ?_
  refine R_bipush e_X7_init_2.1 (by decide) ?_
  refine R_newarr 168 20 60 3 123 WX0_g e_X7_init_2.2.1 rfl (by decide) aC_int (by decide +kernel) ⟨by decide, by decide, by decide +kernel⟩ (by decide) ⟨by decide, by decide⟩ ?_
  refine R_putA 7 5 5 e_X7_init_2.2.2.1 f_X7_29 (kIs_0 WX0_g (n := 169) (by decide +kernel) ⟨by decide, by decide, by decide +kernel⟩) (Or.inr ⟨rfl, rfl, rfl⟩) rfl (puts0 WX0_g (by decide) (by decide)) rfl ?_
  refine R_aload_n e_X7_init_2.2.2.2.1 0 rfl ?_
  refine R_bipush e_X7_init_2.2.2.2.2.1 (by decide) ?_
  refine R_newarr 169 20 60 2 63 WX0_g e_X7_init_2.2.2.2.2.2.1 rfl (by decide) aC_int (by decide +kernel) ⟨by decide, by decide, by decide +kernel⟩ (by decide) ⟨by decide, by decide⟩ ?_
  refine R_putA 7 6 6 e_X7_init_2.2.2.2.2.2.2.1 f_X7_32 (kIs_0 WX0_g (n := 170) (by decide +kernel) ⟨by decide, by decide, by decide +kernel⟩) (Or.inr ⟨rfl, rfl, rfl⟩) rfl (puts0 WX0_g (by decide) (by decide)) rfl ?_
  refine R_aload_n e_X7_init_2.2.2.2.2.2.2.2.1 0 rfl ?_
  refine R_bipush e_X7_init_2.2.2.2.2.2.2.2.2.1 (by decide) ?_
  refine R_newarr 170 20 60 1 3 WX0_g e_X7_init_2.2.2.2.2.2.2.2.2.2 rfl (by decide) aC_int (by decide +kernel) ⟨by decide, by decide, by decide +kernel⟩ (by decide) ⟨by decide, by decide⟩ ?_
  refine R_putA 7 7 7 e_X7_init_3.1 f_X7_35 (kIs_0 WX0_g (n := 171) (by decide +kernel) ⟨by decide, by decide, by decide +kernel⟩) (Or.inr ⟨rfl, rfl, rfl⟩) rfl (puts0 WX0_g (by decide) (by decide)) rfl ?_
  refine R_aload_n e_X7_init_3.2.1 0 rfl ?_
  refine R_iconst e_X7_init_3.2.2.1 ?_
  refine R_newarr 171 20 3 0 0 WX0_g e_X7_init_3.2.2.2.1 rfl (by decide) aC_int (by decide +kernel) ⟨by decide, by decide, by decide +kernel⟩ (by decide) ⟨by decide, by decide⟩ ?_
  refine R_putA 7 8 8 e_X7_init_3.2.2.2.2.1 f_X7_38 (kIs_0 WX0_g (n := 172) (by decide +kernel) ⟨by decide, by decide, by decide +kernel⟩) (Or.inr ⟨rfl, rfl, rfl⟩) rfl (puts0 WX0_g (by decide) (by decide)) rfl ?_
  refine R_aload_n e_X7_init_3.2.2.2.2.2.1 0 rfl ?_
  refine R_iconst e_X7_init_3.2.2.2.2.2.2.1 ?_
  refine R_putI 7 9 9 WX0_ok e_X7_init_3.2.2.2.2.2.2.2.1 f_X7_41 (kIs_0 WX0_g (n := 172) (by decide +kernel) ⟨by decide, by decide, by decide +kernel⟩) rfl rfl rfl ?_
  exact R_return e_X7_init_3.2.2.2.2.2.2.2.2 rfl rfl
def mu45 : Kmem := (kmk (kup mu44 97 1 165) 172)
def mu46 : Kmem := (kup (iX9 (kmk (kup (iX9 (kmk (kup (iX9 (kmk (kup (iX9 (kmk (kup (iX9 (kmk (kup (iX9 (kmk (kup (iX2 (kmk (kup (iX2 (kmk (kup (iX2 (kmk (kup (iX2 (kmk (kup (iX2 (kmk (kup (iX2 (kmk (kup (iX2 (kmk (kup (iX2 (kmk (kup (iX3 (kmk (kup (iX3 (kmk (kup (iX3 (kmk (kup (iX3 (kmk (kup (iX3 (kmk (kup (iX3 (kmk (kup (kmk (kup (kmk (kup (kmk (kup (kmk (kup (kmk (kup (kup (kup (kup (kup (kup (kup (kup mu45 172 0 0) 172 1 0) 172 2 6) 172 3 0) 172 4 0) 172 5 0) 172 6 0) 172 7 0) 173) 172 8 173) 174) 172 9 174) 175) 172 10 175) 176) 172 11 176) 177) 172 12 177) 178) 178) 175 0 178) 179) 179) 175 1 179) 180) 180) 175 2 180) 181) 181) 175 3 181) 182) 182) 175 4 182) 183) 183) 175 5 183) 184) 184) 176 0 184) 185) 185) 176 1 185) 186) 186) 176 2 186) 187) 187) 176 3 187) 188) 188) 176 4 188) 189) 189) 176 5 189) 190) 190) 176 6 190) 191) 191) 176 7 191) 192) 192) 177 0 192) 193) 193) 177 1 193) 194) 194) 177 2 194) 195) 195) 177 3 195) 196) 196) 177 4 196) 197) 197) 177 5 197)
def mu47 : Kmem := (kup (kup (kup (kup (kup (kup (kup (kup (kup (kup (kup (kup (kup (kup (kup (kup (kup (kup (kup (kup (kup (kup (kup (kup (kup (kup (kup (kup (kup (kup (kup (kup mu46 172 0 0) 172 1 0) 172 2 6) 172 3 0) 172 4 0) 172 5 0) 172 6 0) 172 7 0) 173 0 2) 174 0 2) 173 1 2) 174 1 2) 173 2 2) 174 2 2) 173 3 2) 174 3 2) 173 4 2) 174 4 2) 173 5 2) 174 5 2) 173 6 2) 174 6 2) 173 7 2) 174 7 2) 173 8 2) 174 8 2) 173 9 2) 174 9 2) 173 10 2) 174 10 2) 173 11 2) 174 11 2)
theorem I_mu47 {G : Kg} : Run G WX0 M_X0_clear 0 0 0 [vA G 172] mu46 (fun _ s => s = mu47) := by
  refine Run.of (by decide +kernel) (by show (1 : Nat) ≤ 2; decide) ?_
  show Ex G WX0 M_X0_clear 0 0 0 0 [(0, vA G 172)] [] mu46 _
  refine R_aload_n e_X0_clear_0.1 0 rfl ?_
  refine R_iconst e_X0_clear_0.2.1 ?_
  refine R_putI 0 0 0 WX0_ok e_X0_clear_0.2.2.1 f_X0_9 (kIs_0 WX0_g (n := 198) (by decide +kernel) ⟨by decide, by decide, by decide +kernel⟩) rfl rfl rfl ?_
  refine R_aload_n e_X0_clear_0.2.2.2.1 0 rfl ?_
  refine R_iconst e_X0_clear_0.2.2.2.2.1 ?_
  refine R_putI 0 1 1 WX0_ok e_X0_clear_0.2.2.2.2.2.1 f_X0_15 (kIs_0 WX0_g (n := 198) (by decide +kernel) ⟨by decide, by decide, by decide +kernel⟩) rfl rfl rfl ?_
  refine R_aload_n e_X0_clear_0.2.2.2.2.2.2.1 0 rfl ?_
  refine R_bipush e_X0_clear_0.2.2.2.2.2.2.2.1 (by decide) ?_
  refine R_putI 0 2 2 WX0_ok e_X0_clear_0.2.2.2.2.2.2.2.2.1 f_X0_18 (kIs_0 WX0_g (n := 198) (by decide +kernel) ⟨by decide, by decide, by decide +kernel⟩) rfl rfl rfl ?_
  refine R_aload_n e_X0_clear_0.2.2.2.2.2.2.2.2.2 0 rfl ?_
  refine R_iconst e_X0_clear_1.1 ?_
  refine R_putI 0 3 3 WX0_ok e_X0_clear_1.2.1 f_X0_21 (kIs_0 WX0_g (n := 198) (by decide +kernel) ⟨by decide, by decide, by decide +kernel⟩) rfl rfl rfl ?_
  refine R_aload_n e_X0_clear_1.2.2.1 0 rfl ?_
  refine R_iconst e_X0_clear_1.2.2.2.1 ?_
  refine R_putI 0 4 4 WX0_ok e_X0_clear_1.2.2.2.2.1 f_X0_24 (kIs_0 WX0_g (n := 198) (by decide +kernel) ⟨by decide, by decide, by decide +kernel⟩) rfl rfl rfl ?_
  refine R_aload_n e_X0_clear_1.2.2.2.2.2.1 0 rfl ?_
  refine R_iconst e_X0_clear_1.2.2.2.2.2.2.1 ?_
  refine R_putI 0 5 5 WX0_ok e_X0_clear_1.2.2.2.2.2.2.2.1 f_X0_27 (kIs_0 WX0_g (n := 198) (by decide +kernel) ⟨by decide, by decide, by decide +kernel⟩) rfl rfl rfl ?_
  refine R_aload_n e_X0_clear_1.2.2.2.2.2.2.2.2.1 0 rfl ?_
  refine R_iconst e_X0_clear_1.2.2.2.2.2.2.2.2.2 ?_
  refine R_putI 0 6 6 WX0_ok e_X0_clear_2.1 f_X0_30 (kIs_0 WX0_g (n := 198) (by decide +kernel) ⟨by decide, by decide, by decide +kernel⟩) rfl rfl rfl ?_
  refine R_aload_n e_X0_clear_2.2.1 0 rfl ?_
  refine R_iconst e_X0_clear_2.2.2.1 ?_
  refine R_putI 0 7 7 WX0_ok e_X0_clear_2.2.2.2.1 f_X0_33 (kIs_0 WX0_g (n := 198) (by decide +kernel) ⟨by decide, by decide, by decide +kernel⟩) rfl rfl rfl ?_
  refine R_iconst e_X0_clear_2.2.2.2.2.1 ?_
  refine R_istore_n (ls2 := [(1, vI 0), (0, vA G 172)]) e_X0_clear_2.2.2.2.2.2.1 (by decide) rfl ?_
  refine R_iload_n e_X0_clear_2.2.2.2.2.2.2.1 0 rfl ?_
  refine R_bipush e_X0_clear_2.2.2.2.2.2.2.2.1 (by decide) ?_
  refine R_icmp_ge 69 e_X0_clear_2.2.2.2.2.2.2.2.2.1 (by decide) (by decide) (by decide) (fun q => absurd q (by decide)) (fun q => ?_)
  refine R_aload_n e_X0_clear_2.2.2.2.2.2.2.2.2.2 1 rfl ?_
  refine R_getA 0 8 173 e_X0_clear_3.1 f_X0_36 (kIs_0 WX0_g (n := 198) (by decide +kernel) ⟨by decide, by decide, by decide +kernel⟩) (fun _ _ => rfl) (by decide +kernel) (by decide) ?_
  refine R_iload_n e_X0_clear_3.2.1 0 rfl ?_
  refine R_iconst e_X0_clear_3.2.2.1 ?_
  refine R_iast 12 WX0_ok e_X0_clear_3.2.2.2.1 (kAr_0 WX0_g (n := 198) (by decide +kernel) ⟨by decide, by decide, by decide +kernel⟩ (by decide)) (by decide) ?_
  refine R_aload_n e_X0_clear_3.2.2.2.2.1 1 rfl ?_
  refine R_getA 0 9 174 e_X0_clear_3.2.2.2.2.2.1 f_X0_40 (kIs_0 WX0_g (n := 198) (by decide +kernel) ⟨by decide, by decide, by decide +kernel⟩) (fun _ _ => rfl) (by decide +kernel) (by decide) ?_
  refine R_iload_n e_X0_clear_3.2.2.2.2.2.2.1 0 rfl ?_
  refine R_iconst e_X0_clear_3.2.2.2.2.2.2.2.1 ?_
  refine R_iast 12 WX0_ok e_X0_clear_3.2.2.2.2.2.2.2.2.1 (kAr_0 WX0_g (n := 198) (by decide +kernel) ⟨by decide, by decide, by decide +kernel⟩ (by decide)) (by decide) ?_
  refine R_iinc (ls2 := [(1, vI 1), (0, vA G 172)]) e_X0_clear_3.2.2.2.2.2.2.2.2.2 0 rfl (by decide) rfl ?_
  refine R_goto 43 e_X0_clear_4.1 (by decide) ?_
  refine R_iload_n e_X0_clear_2.2.2.2.2.2.2.1 0 rfl ?_
  refine R_bipush e_X0_clear_2.2.2.2.2.2.2.2.1 (by decide) ?_
  refine R_icmp_ge 69 e_X0_clear_2.2.2.2.2.2.2.2.2.1 (by decide) (by decide) (by decide) (fun q => absurd q (by decide)) (fun q => ?_)
  refine R_aload_n e_X0_clear_2.2.2.2.2.2.2.2.2.2 1 rfl ?_
  refine R_getA 0 8 173 e_X0_clear_3.1 f_X0_36 (kIs_0 WX0_g (n := 198) (by decide +kernel) ⟨by decide, by decide, by decide +kernel⟩) (fun _ _ => rfl) (by decide +kernel) (by decide) ?_
  refine R_iload_n e_X0_clear_3.2.1 0 rfl ?_
  refine R_iconst e_X0_clear_3.2.2.1 ?_
  refine R_iast 12 WX0_ok e_X0_clear_3.2.2.2.1 (kAr_0 WX0_g (n := 198) (by decide +kernel) ⟨by decide, by decide, by decide +kernel⟩ (by decide)) (by decide) ?_
  refine R_aload_n e_X0_clear_3.2.2.2.2.1 1 rfl ?_
  refine R_getA 0 9 174 e_X0_clear_3.2.2.2.2.2.1 f_X0_40 (kIs_0 WX0_g (n := 198) (by decide +kernel) ⟨by decide, by decide, by decide +kernel⟩) (fun _ _ => rfl) (by decide +kernel) (by decide) ?_
  refine R_iload_n e_X0_clear_3.2.2.2.2.2.2.1 0 rfl ?_
  refine R_iconst e_X0_clear_3.2.2.2.2.2.2.2.1 ?_
  refine R_iast 12 WX0_ok e_X0_clear_3.2.2.2.2.2.2.2.2.1 (kAr_0 WX0_g (n := 198) (by decide +kernel) ⟨by decide, by decide, by decide +kernel⟩ (by decide)) (by decide) ?_
  refine R_iinc (ls2 := [(1, vI 2), (0, vA G 172)]) e_X0_clear_3.2.2.2.2.2.2.2.2.2 0 rfl (by decide) rfl ?_
  refine R_goto 43 e_X0_clear_4.1 (by decide) ?_
  refine R_iload_n e_X0_clear_2.2.2.2.2.2.2.1 0 rfl ?_
  refine R_bipush e_X0_clear_2.2.2.2.2.2.2.2.1 (by decide) ?_
  refine R_icmp_ge 69 e_X0_clear_2.2.2.2.2.2.2.2.2.1 (by decide) (by decide) (by decide) (fun q => absurd q (by decide)) (fun q => ?_)
  refine R_aload_n e_X0_clear_2.2.2.2.2.2.2.2.2.2 1 rfl ?_
  refine R_getA 0 8 173 e_X0_clear_3.1 f_X0_36 (kIs_0 WX0_g (n := 198) (by decide +kernel) ⟨by decide, by decide, by decide +kernel⟩) (fun _ _ => rfl) (by decide +kernel) (by decide) ?_
  refine R_iload_n e_X0_clear_3.2.1 0 rfl ?_
  refine R_iconst e_X0_clear_3.2.2.1 ?_
  refine R_iast 12 WX0_ok e_X0_clear_3.2.2.2.1 (kAr_0 WX0_g (n := 198) (by decide +kernel) ⟨by decide, by decide, by decide +kernel⟩ (by decide)) (by decide) ?_
  refine R_aload_n e_X0_clear_3.2.2.2.2.1 1 rfl ?_
  refine R_getA 0 9 174 e_X0_clear_3.2.2.2.2.2.1 f_X0_40 (kIs_0 WX0_g (n := 198) (by decide +kernel) ⟨by decide, by decide, by decide +kernel⟩) (fun _ _ => rfl) (by decide +kernel) (by decide) ?_
  refine R_iload_n e_X0_clear_3.2.2.2.2.2.2.1 0 rfl ?_
  refine R_iconst e_X0_clear_3.2.2.2.2.2.2.2.1 ?_
  refine R_iast 12 WX0_ok e_X0_clear_3.2.2.2.2.2.2.2.2.1 (kAr_0 WX0_g (n := 198) (by decide +kernel) ⟨by decide, by decide, by decide +kernel⟩ (by decide)) (by decide) ?_
  refine R_iinc (ls2 := [(1, vI 3), (0, vA G 172)]) e_X0_clear_3.2.2.2.2.2.2.2.2.2 0 rfl (by decide) rfl ?_
  refine R_goto 43 e_X0_clear_4.1 (by decide) ?_
  refine R_iload_n e_X0_clear_2.2.2.2.2.2.2.1 0 rfl ?_
  refine R_bipush e_X0_clear_2.2.2.2.2.2.2.2.1 (by decide) ?_
  refine R_icmp_ge 69 e_X0_clear_2.2.2.2.2.2.2.2.2.1 (by decide) (by decide) (by decide) (fun q => absurd q (by decide)) (fun q => ?_)
  refine R_aload_n e_X0_clear_2.2.2.2.2.2.2.2.2.2 1 rfl ?_
  refine R_getA 0 8 173 e_X0_clear_3.1 f_X0_36 (kIs_0 WX0_g (n := 198) (by decide +kernel) ⟨by decide, by decide, by decide +kernel⟩) (fun _ _ => rfl) (by decide +kernel) (by decide) ?_
  refine R_iload_n e_X0_clear_3.2.1 0 rfl ?_
  refine R_iconst e_X0_clear_3.2.2.1 ?_
  refine R_iast 12 WX0_ok e_X0_clear_3.2.2.2.1 (kAr_0 WX0_g (n := 198) (by decide +kernel) ⟨by decide, by decide, by decide +kernel⟩ (by decide)) (by decide) ?_
  refine R_aload_n e_X0_clear_3.2.2.2.2.1 1 rfl ?_
  refine R_getA 0 9 174 e_X0_clear_3.2.2.2.2.2.1 f_X0_40 (kIs_0 WX0_g (n := 198) (by decide +kernel) ⟨by decide, by decide, by decide +kernel⟩) (fun _ _ => rfl) (by decide +kernel) (by decide) ?_
  refine R_iload_n e_X0_clear_3.2.2.2.2.2.2.1 0 rfl ?_
  refine R_iconst e_X0_clear_3.2.2.2.2.2.2.2.1 ?_
  refine R_iast 12 WX0_ok e_X0_clear_3.2.2.2.2.2.2.2.2.1 (kAr_0 WX0_g (n := 198) (by decide +kernel) ⟨by decide, by decide, by decide +kernel⟩ (by decide)) (by decide) ?_
  refine R_iinc (ls2 := [(1, vI 4), (0, vA G 172)]) e_X0_clear_3.2.2.2.2.2.2.2.2.2 0 rfl (by decide) rfl ?_
  refine R_goto 43 e_X0_clear_4.1 (by decide) ?_
  refine R_iload_n e_X0_clear_2.2.2.2.2.2.2.1 0 rfl ?_
  refine R_bipush e_X0_clear_2.2.2.2.2.2.2.2.1 (by decide) ?_
  refine R_icmp_ge 69 e_X0_clear_2.2.2.2.2.2.2.2.2.1 (by decide) (by decide) (by decide) (fun q => absurd q (by decide)) (fun q => ?_)
  refine R_aload_n e_X0_clear_2.2.2.2.2.2.2.2.2.2 1 rfl ?_
  refine R_getA 0 8 173 e_X0_clear_3.1 f_X0_36 (kIs_0 WX0_g (n := 198) (by decide +kernel) ⟨by decide, by decide, by decide +kernel⟩) (fun _ _ => rfl) (by decide +kernel) (by decide) ?_
  refine R_iload_n e_X0_clear_3.2.1 0 rfl ?_
  refine R_iconst e_X0_clear_3.2.2.1 ?_
  refine R_iast 12 WX0_ok e_X0_clear_3.2.2.2.1 (kAr_0 WX0_g (n := 198) (by decide +kernel) ⟨by decide, by decide, by decide +kernel⟩ (by decide)) (by decide) ?_
  refine R_aload_n e_X0_clear_3.2.2.2.2.1 1 rfl ?_
  refine R_getA 0 9 174 e_X0_clear_3.2.2.2.2.2.1 f_X0_40 (kIs_0 WX0_g (n := 198) (by decide +kernel) ⟨by decide, by decide, by decide +kernel⟩) (fun _ _ => rfl) (by decide +kernel) (by decide) ?_
  refine R_iload_n e_X0_clear_3.2.2.2.2.2.2.1 0 rfl ?_
  refine R_iconst e_X0_clear_3.2.2.2.2.2.2.2.1 ?_
  refine R_iast 12 WX0_ok e_X0_clear_3.2.2.2.2.2.2.2.2.1 (kAr_0 WX0_g (n := 198) (by decide +kernel) ⟨by decide, by decide, by decide +kernel⟩ (by decide)) (by decide) ?_
  refine R_iinc (ls2 := [(1, vI 5), (0, vA G 172)]) e_X0_clear_3.2.2.2.2.2.2.2.2.2 0 rfl (by decide) rfl ?_
  refine R_goto 43 e_X0_clear_4.1 (by decide) ?_
  refine R_iload_n e_X0_clear_2.2.2.2.2.2.2.1 0 rfl ?_
  refine R_bipush e_X0_clear_2.2.2.2.2.2.2.2.1 (by decide) ?_
  refine R_icmp_ge 69 e_X0_clear_2.2.2.2.2.2.2.2.2.1 (by decide) (by decide) (by decide) (fun q => absurd q (by decide)) (fun q => ?_)
  refine R_aload_n e_X0_clear_2.2.2.2.2.2.2.2.2.2 1 rfl ?_
  refine R_getA 0 8 173 e_X0_clear_3.1 f_X0_36 (kIs_0 WX0_g (n := 198) (by decide +kernel) ⟨by decide, by decide, by decide +kernel⟩) (fun _ _ => rfl) (by decide +kernel) (by decide) ?_
  refine R_iload_n e_X0_clear_3.2.1 0 rfl ?_
  refine R_iconst e_X0_clear_3.2.2.1 ?_
  refine R_iast 12 WX0_ok e_X0_clear_3.2.2.2.1 (kAr_0 WX0_g (n := 198) (by decide +kernel) ⟨by decide, by decide, by decide +kernel⟩ (by decide)) (by decide) ?_
  refine R_aload_n e_X0_clear_3.2.2.2.2.1 1 rfl ?_
  refine R_getA 0 9 174 e_X0_clear_3.2.2.2.2.2.1 f_X0_40 (kIs_0 WX0_g (n := 198) (by decide +kernel) ⟨by decide, by decide, by decide +kernel⟩) (fun _ _ => rfl) (by decide +kernel) (by decide) ?_
  refine R_iload_n e_X0_clear_3.2.2.2.2.2.2.1 0 rfl ?_
  refine R_iconst e_X0_clear_3.2.2.2.2.2.2.2.1 ?_
  refine R_iast 12 WX0_ok e_X0_clear_3.2.2.2.2.2.2.2.2.1 (kAr_0 WX0_g (n := 198) (by decide +kernel) ⟨by decide, by decide, by decide +kernel⟩ (by decide)) (by decide) ?_
  refine R_iinc (ls2 := [(1, vI 6), (0, vA G 172)]) e_X0_clear_3.2.2.2.2.2.2.2.2.2 0 rfl (by decide) rfl ?_
  refine R_goto 43 e_X0_clear_4.1 (by decide) ?_
  refine R_iload_n e_X0_clear_2.2.2.2.2.2.2.1 0 rfl ?_
  refine R_bipush e_X0_clear_2.2.2.2.2.2.2.2.1 (by decide) ?_
  refine R_icmp_ge 69 e_X0_clear_2.2.2.2.2.2.2.2.2.1 (by decide) (by decide) (by decide) (fun q => absurd q (by decide)) (fun q => ?_)
  refine R_aload_n e_X0_clear_2.2.2.2.2.2.2.2.2.2 1 rfl ?_
  refine R_getA 0 8 173 e_X0_clear_3.1 f_X0_36 (kIs_0 WX0_g (n := 198) (by decide +kernel) ⟨by decide, by decide, by decide +kernel⟩) (fun _ _ => rfl) (by decide +kernel) (by decide) ?_
  refine R_iload_n e_X0_clear_3.2.1 0 rfl ?_
  refine R_iconst e_X0_clear_3.2.2.1 ?_
  refine R_iast 12 WX0_ok e_X0_clear_3.2.2.2.1 (kAr_0 WX0_g (n := 198) (by decide +kernel) ⟨by decide, by decide, by decide +kernel⟩ (by decide)) (by decide) ?_
  refine R_aload_n e_X0_clear_3.2.2.2.2.1 1 rfl ?_
  refine R_getA 0 9 174 e_X0_clear_3.2.2.2.2.2.1 f_X0_40 (kIs_0 WX0_g (n := 198) (by decide +kernel) ⟨by decide, by decide, by decide +kernel⟩) (fun _ _ => rfl) (by decide +kernel) (by decide) ?_
  refine R_iload_n e_X0_clear_3.2.2.2.2.2.2.1 0 rfl ?_
  refine R_iconst e_X0_clear_3.2.2.2.2.2.2.2.1 ?_
  refine R_iast 12 WX0_ok e_X0_clear_3.2.2.2.2.2.2.2.2.1 (kAr_0 WX0_g (n := 198) (by decide +kernel) ⟨by decide, by decide, by decide +kernel⟩ (by decide)) (by decide) ?_
  refine R_iinc (ls2 := [(1, vI 7), (0, vA G 172)]) e_X0_clear_3.2.2.2.2.2.2.2.2.2 0 rfl (by decide) rfl ?_
  refine R_goto 43 e_X0_clear_4.1 (by decide) ?_
  refine R_iload_n e_X0_clear_2.2.2.2.2.2.2.1 0 rfl ?_
  refine R_bipush e_X0_clear_2.2.2.2.2.2.2.2.1 (by decide) ?_
  refine R_icmp_ge 69 e_X0_clear_2.2.2.2.2.2.2.2.2.1 (by decide) (by decide) (by decide) (fun q => absurd q (by decide)) (fun q => ?_)
  refine R_aload_n e_X0_clear_2.2.2.2.2.2.2.2.2.2 1 rfl ?_
  refine R_getA 0 8 173 e_X0_clear_3.1 f_X0_36 (kIs_0 WX0_g (n := 198) (by decide +kernel) ⟨by decide, by decide, by decide +kernel⟩) (fun _ _ => rfl) (by decide +kernel) (by decide) ?_
  refine R_iload_n e_X0_clear_3.2.1 0 rfl ?_
  refine R_iconst e_X0_clear_3.2.2.1 ?_
  refine R_iast 12 WX0_ok e_X0_clear_3.2.2.2.1 (kAr_0 WX0_g (n := 198) (by decide +kernel) ⟨by decide, by decide, by decide +kernel⟩ (by decide)) (by decide) ?_
  refine R_aload_n e_X0_clear_3.2.2.2.2.1 1 rfl ?_
  refine R_getA 0 9 174 e_X0_clear_3.2.2.2.2.2.1 f_X0_40 (kIs_0 WX0_g (n := 198) (by decide +kernel) ⟨by decide, by decide, by decide +kernel⟩) (fun _ _ => rfl) (by decide +kernel) (by decide) ?_
  refine R_iload_n e_X0_clear_3.2.2.2.2.2.2.1 0 rfl ?_
  refine R_iconst e_X0_clear_3.2.2.2.2.2.2.2.1 ?_
  refine R_iast 12 WX0_ok e_X0_clear_3.2.2.2.2.2.2.2.2.1 (kAr_0 WX0_g (n := 198) (by decide +kernel) ⟨by decide, by decide, by decide +kernel⟩ (by decide)) (by decide) ?_
  refine R_iinc (ls2 := [(1, vI 8), (0, vA G 172)]) e_X0_clear_3.2.2.2.2.2.2.2.2.2 0 rfl (by decide) rfl ?_
  refine R_goto 43 e_X0_clear_4.1 (by decide) ?_
  refine R_iload_n e_X0_clear_2.2.2.2.2.2.2.1 0 rfl ?_
  refine R_bipush e_X0_clear_2.2.2.2.2.2.2.2.1 (by decide) ?_
  refine R_icmp_ge 69 e_X0_clear_2.2.2.2.2.2.2.2.2.1 (by decide) (by decide) (by decide) (fun q => absurd q (by decide)) (fun q => ?_)
  refine R_aload_n e_X0_clear_2.2.2.2.2.2.2.2.2.2 1 rfl ?_
  refine R_getA 0 8 173 e_X0_clear_3.1 f_X0_36 (kIs_0 WX0_g (n := 198) (by decide +kernel) ⟨by decide, by decide, by decide +kernel⟩) (fun _ _ => rfl) (by decide +kernel) (by decide) ?_
  refine R_iload_n e_X0_clear_3.2.1 0 rfl ?_
  refine R_iconst e_X0_clear_3.2.2.1 ?_
  refine R_iast 12 WX0_ok e_X0_clear_3.2.2.2.1 (kAr_0 WX0_g (n := 198) (by decide +kernel) ⟨by decide, by decide, by decide +kernel⟩ (by decide)) (by decide) ?_
  refine R_aload_n e_X0_clear_3.2.2.2.2.1 1 rfl ?_
  refine R_getA 0 9 174 e_X0_clear_3.2.2.2.2.2.1 f_X0_40 (kIs_0 WX0_g (n := 198) (by decide +kernel) ⟨by decide, by decide, by decide +kernel⟩) (fun _ _ => rfl) (by decide +kernel) (by decide) ?_
  refine R_iload_n e_X0_clear_3.2.2.2.2.2.2.1 0 rfl ?_
  refine R_iconst e_X0_clear_3.2.2.2.2.2.2.2.1 ?_
  refine R_iast 12 WX0_ok e_X0_clear_3.2.2.2.2.2.2.2.2.1 (kAr_0 WX0_g (n := 198) (by decide +kernel) ⟨by decide, by decide, by decide +kernel⟩ (by decide)) (by decide) ?_
  refine R_iinc (ls2 := [(1, vI 9), (0, vA G 172)]) e_X0_clear_3.2.2.2.2.2.2.2.2.2 0 rfl (by decide) rfl ?_
  refine R_goto 43 e_X0_clear_4.1 (by decide) ?_
  refine R_iload_n e_X0_clear_2.2.2.2.2.2.2.1 0 rfl ?_
  refine R_bipush e_X0_clear_2.2.2.2.2.2.2.2.1 (by decide) ?_
  refine R_icmp_ge 69 e_X0_clear_2.2.2.2.2.2.2.2.2.1 (by decide) (by decide) (by decide) (fun q => absurd q (by decide)) (fun q => ?_)
  refine R_aload_n e_X0_clear_2.2.2.2.2.2.2.2.2.2 1 rfl ?_
  refine R_getA 0 8 173 e_X0_clear_3.1 f_X0_36 (kIs_0 WX0_g (n := 198) (by decide +kernel) ⟨by decide, by decide, by decide +kernel⟩) (fun _ _ => rfl) (by decide +kernel) (by decide) ?_
  refine R_iload_n e_X0_clear_3.2.1 0 rfl ?_
  refine R_iconst e_X0_clear_3.2.2.1 ?_
  refine R_iast 12 WX0_ok e_X0_clear_3.2.2.2.1 (kAr_0 WX0_g (n := 198) (by decide +kernel) ⟨by decide, by decide, by decide +kernel⟩ (by decide)) (by decide) ?_
  refine R_aload_n e_X0_clear_3.2.2.2.2.1 1 rfl ?_
  refine R_getA 0 9 174 e_X0_clear_3.2.2.2.2.2.1 f_X0_40 (kIs_0 WX0_g (n := 198) (by decide +kernel) ⟨by decide, by decide, by decide +kernel⟩) (fun _ _ => rfl) (by decide +kernel) (by decide) ?_
  refine R_iload_n e_X0_clear_3.2.2.2.2.2.2.1 0 rfl ?_
  refine R_iconst e_X0_clear_3.2.2.2.2.2.2.2.1 ?_
  refine R_iast 12 WX0_ok e_X0_clear_3.2.2.2.2.2.2.2.2.1 (kAr_0 WX0_g (n := 198) (by decide +kernel) ⟨by decide, by decide, by decide +kernel⟩ (by decide)) (by decide) ?_
  refine R_iinc (ls2 := [(1, vI 10), (0, vA G 172)]) e_X0_clear_3.2.2.2.2.2.2.2.2.2 0 rfl (by decide) rfl ?_
  refine R_goto 43 e_X0_clear_4.1 (by decide) ?_
  refine R_iload_n e_X0_clear_2.2.2.2.2.2.2.1 0 rfl ?_
  refine R_bipush e_X0_clear_2.2.2.2.2.2.2.2.1 (by decide) ?_
  refine R_icmp_ge 69 e_X0_clear_2.2.2.2.2.2.2.2.2.1 (by decide) (by decide) (by decide) (fun q => absurd q (by decide)) (fun q => ?_)
  refine R_aload_n e_X0_clear_2.2.2.2.2.2.2.2.2.2 1 rfl ?_
  refine R_getA 0 8 173 e_X0_clear_3.1 f_X0_36 (kIs_0 WX0_g (n := 198) (by decide +kernel) ⟨by decide, by decide, by decide +kernel⟩) (fun _ _ => rfl) (by decide +kernel) (by decide) ?_
  refine R_iload_n e_X0_clear_3.2.1 0 rfl ?_
  refine R_iconst e_X0_clear_3.2.2.1 ?_
  refine R_iast 12 WX0_ok e_X0_clear_3.2.2.2.1 (kAr_0 WX0_g (n := 198) (by decide +kernel) ⟨by decide, by decide, by decide +kernel⟩ (by decide)) (by decide) ?_
  refine R_aload_n e_X0_clear_3.2.2.2.2.1 1 rfl ?_
  refine R_getA 0 9 174 e_X0_clear_3.2.2.2.2.2.1 f_X0_40 (kIs_0 WX0_g (n := 198) (by decide +kernel) ⟨by decide, by decide, by decide +kernel⟩) (fun _ _ => rfl) (by decide +kernel) (by decide) ?_
  refine R_iload_n e_X0_clear_3.2.2.2.2.2.2.1 0 rfl ?_
  refine R_iconst e_X0_clear_3.2.2.2.2.2.2.2.1 ?_
  refine R_iast 12 WX0_ok e_X0_clear_3.2.2.2.2.2.2.2.2.1 (kAr_0 WX0_g (n := 198) (by decide +kernel) ⟨by decide, by decide, by decide +kernel⟩ (by decide)) (by decide) ?_
  refine R_iinc (ls2 := [(1, vI 11), (0, vA G 172)]) e_X0_clear_3.2.2.2.2.2.2.2.2.2 0 rfl (by decide) rfl ?_
  refine R_goto 43 e_X0_clear_4.1 (by decide) ?_
  refine R_iload_n e_X0_clear_2.2.2.2.2.2.2.1 0 rfl ?_
  refine R_bipush e_X0_clear_2.2.2.2.2.2.2.2.1 (by decide) ?_
  refine R_icmp_ge 69 e_X0_clear_2.2.2.2.2.2.2.2.2.1 (by decide) (by decide) (by decide) (fun q => absurd q (by decide)) (fun q => ?_)
  refine R_aload_n e_X0_clear_2.2.2.2.2.2.2.2.2.2 1 rfl ?_
  refine R_getA 0 8 173 e_X0_clear_3.1 f_X0_36 (kIs_0 WX0_g (n := 198) (by decide +kernel) ⟨by decide, by decide, by decide +kernel⟩) (fun _ _ => rfl) (by decide +kernel) (by decide) ?_
  refine R_iload_n e_X0_clear_3.2.1 0 rfl ?_
  refine R_iconst e_X0_clear_3.2.2.1 ?_
  refine R_iast 12 WX0_ok e_X0_clear_3.2.2.2.1 (kAr_0 WX0_g (n := 198) (by decide +kernel) ⟨by decide, by decide, by decide +kernel⟩ (by decide)) (by decide) ?_
  refine R_aload_n e_X0_clear_3.2.2.2.2.1 1 rfl ?_
  refine R_getA 0 9 174 e_X0_clear_3.2.2.2.2.2.1 f_X0_40 (kIs_0 WX0_g (n := 198) (by decide +kernel) ⟨by decide, by decide, by decide +kernel⟩) (fun _ _ => rfl) (by decide +kernel) (by decide) ?_
  refine R_iload_n e_X0_clear_3.2.2.2.2.2.2.1 0 rfl ?_
  refine R_iconst e_X0_clear_3.2.2.2.2.2.2.2.1 ?_
  refine R_iast 12 WX0_ok e_X0_clear_3.2.2.2.2.2.2.2.2.1 (kAr_0 WX0_g (n := 198) (by decide +kernel) ⟨by decide, by decide, by decide +kernel⟩ (by decide)) (by decide) ?_
  refine R_iinc (ls2 := [(1, vI 12), (0, vA G 172)]) e_X0_clear_3.2.2.2.2.2.2.2.2.2 0 rfl (by decide) rfl ?_
  refine R_goto 43 e_X0_clear_4.1 (by decide) ?_
  refine R_iload_n e_X0_clear_2.2.2.2.2.2.2.1 0 rfl ?_
  refine R_bipush e_X0_clear_2.2.2.2.2.2.2.2.1 (by decide) ?_
  refine R_icmp_ge 69 e_X0_clear_2.2.2.2.2.2.2.2.2.1 (by decide) (by decide) (by decide) (fun q => ?_) (fun q => absurd q (by decide))
  exact R_return e_X0_clear_4.2 rfl rfl
def mu48 : Kmem := mu47
theorem I_mu48 {G : Kg} : Run G WX0 M_X0_init 2 25 180 [vA G 172] mu45 (fun _ s => s = mu48) := by
  refine Run.of (by decide +kernel) (by show (1 : Nat) ≤ 2; decide) ?_
  show Ex G WX0 M_X0_init 2 25 180 0 [(0, vA G 172)] [] mu45 _
  refine R_aload_n e_X0_init_0.1 0 rfl ?_
  refine R_obj e_X0_init_0.2.1 oL_X0_3 oI_1 oI_2 (by decide) (by decide) ?_
  refine R_aload_n e_X0_init_0.2.2.1 0 rfl ?_
  refine R_iconst e_X0_init_0.2.2.2.1 ?_
  refine R_putI 0 0 0 WX0_ok e_X0_init_0.2.2.2.2.1 f_X0_9 (kIs_0 WX0_g (n := 173) (by decide +kernel) ⟨by decide, by decide, by decide +kernel⟩) rfl rfl rfl ?_
  refine R_aload_n e_X0_init_0.2.2.2.2.2.1 0 rfl ?_
  refine R_iconst e_X0_init_0.2.2.2.2.2.2.1 ?_
  refine R_putI 0 1 1 WX0_ok e_X0_init_0.2.2.2.2.2.2.2.1 f_X0_15 (kIs_0 WX0_g (n := 173) (by decide +kernel) ⟨by decide, by decide, by decide +kernel⟩) rfl rfl rfl ?_
  refine R_aload_n e_X0_init_0.2.2.2.2.2.2.2.2.1 0 rfl ?_
  refine R_bipush e_X0_init_0.2.2.2.2.2.2.2.2.2 (by decide) ?_
  refine R_putI 0 2 2 WX0_ok e_X0_init_1.1 f_X0_18 (kIs_0 WX0_g (n := 173) (by decide +kernel) ⟨by decide, by decide, by decide +kernel⟩) rfl rfl rfl ?_
  refine R_aload_n e_X0_init_1.2.1 0 rfl ?_
  refine R_iconst e_X0_init_1.2.2.1 ?_
  refine R_putI 0 3 3 WX0_ok e_X0_init_1.2.2.2.1 f_X0_21 (kIs_0 WX0_g (n := 173) (by decide +kernel) ⟨by decide, by decide, by decide +kernel⟩) rfl rfl rfl ?_
  refine R_aload_n e_X0_init_1.2.2.2.2.1 0 rfl ?_
  refine R_iconst e_X0_init_1.2.2.2.2.2.1 ?_
  refine R_putI 0 4 4 WX0_ok e_X0_init_1.2.2.2.2.2.2.1 f_X0_24 (kIs_0 WX0_g (n := 173) (by decide +kernel) ⟨by decide, by decide, by decide +kernel⟩) rfl rfl rfl ?_
  refine R_aload_n e_X0_init_1.2.2.2.2.2.2.2.1 0 rfl ?_
  refine R_iconst e_X0_init_1.2.2.2.2.2.2.2.2.1 ?_
  refine R_putI 0 5 5 WX0_ok e_X0_init_1.2.2.2.2.2.2.2.2.2 f_X0_27 (kIs_0 WX0_g (n := 173) (by decide +kernel) ⟨by decide, by decide, by decide +kernel⟩) rfl rfl rfl ?_
  refine R_aload_n e_X0_init_2.1 0 rfl ?_
  refine R_iconst e_X0_init_2.2.1 ?_
  refine R_putI 0 6 6 WX0_ok e_X0_init_2.2.2.1 f_X0_30 (kIs_0 WX0_g (n := 173) (by decide +kernel) ⟨by decide, by decide, by decide +kernel⟩) rfl rfl rfl ?_
  refine R_aload_n e_X0_init_2.2.2.2.1 0 rfl ?_
  refine R_iconst e_X0_init_2.2.2.2.2.1 ?_
  refine R_putI 0 7 7 WX0_ok e_X0_init_2.2.2.2.2.2.1 f_X0_33 (kIs_0 WX0_g (n := 173) (by decide +kernel) ⟨by decide, by decide, by decide +kernel⟩) rfl rfl rfl ?_
  refine R_aload_n e_X0_init_2.2.2.2.2.2.2.1 0 rfl ?_
  refine R_bipush e_X0_init_2.2.2.2.2.2.2.2.1 (by decide) ?_
  refine R_newarr 173 20 12 24 168 WX0_g e_X0_init_2.2.2.2.2.2.2.2.2.1 rfl (by decide) aC_int (by decide +kernel) ⟨by decide, by decide, by decide +kernel⟩ (by decide) ⟨by decide, by decide⟩ ?_
  refine R_putA 0 8 8 e_X0_init_2.2.2.2.2.2.2.2.2.2 f_X0_36 (kIs_0 WX0_g (n := 174) (by decide +kernel) ⟨by decide, by decide, by decide +kernel⟩) (Or.inr ⟨rfl, rfl, rfl⟩) rfl (puts0 WX0_g (by decide) (by decide)) rfl ?_
  refine R_aload_n e_X0_init_3.1 0 rfl ?_
  refine R_bipush e_X0_init_3.2.1 (by decide) ?_
  refine R_newarr 174 20 12 23 156 WX0_g e_X0_init_3.2.2.1 rfl (by decide) aC_int (by decide +kernel) ⟨by decide, by decide, by decide +kernel⟩ (by decide) ⟨by decide, by decide⟩ ?_
  refine R_putA 0 9 9 e_X0_init_3.2.2.2.1 f_X0_40 (kIs_0 WX0_g (n := 175) (by decide +kernel) ⟨by decide, by decide, by decide +kernel⟩) (Or.inr ⟨rfl, rfl, rfl⟩) rfl (puts0 WX0_g (by decide) (by decide)) rfl ?_
  refine R_aload_n e_X0_init_3.2.2.2.2.1 0 rfl ?_
  refine R_bipush e_X0_init_3.2.2.2.2.2.1 (by decide) ?_
  refine R_newq (C := RX3) 175 27 6 22 150 WX0_g e_X0_init_3.2.2.2.2.2.2.1 (by decide) rfl cL_X0_43 aO_X3 (by decide +kernel) ⟨by decide, by decide, by decide +kernel⟩ (by decide) ⟨by decide, by decide⟩ ?_
  refine R_putA 0 10 10 e_X0_init_3.2.2.2.2.2.2.2.1 f_X0_45 (kIs_0 WX0_g (n := 176) (by decide +kernel) ⟨by decide, by decide, by decide +kernel⟩) (Or.inr ⟨rfl, rfl, rfl⟩) rfl (puts0 WX0_g (by decide) (by decide)) rfl ?_
  refine R_aload_n e_X0_init_3.2.2.2.2.2.2.2.2.1 0 rfl ?_
  refine R_bipush e_X0_init_3.2.2.2.2.2.2.2.2.2 (by decide) ?_
  refine R_newq (C := RX2) 176 28 8 21 142 WX0_g e_X0_init_4.1 (by decide) rfl cL_X0_49 aO_X2 (by decide +kernel) ⟨by decide, by decide, by decide +kernel⟩ (by decide) ⟨by decide, by decide⟩ ?_
  refine R_putA 0 11 11 e_X0_init_4.2.1 f_X0_51 (kIs_0 WX0_g (n := 177) (by decide +kernel) ⟨by decide, by decide, by decide +kernel⟩) (Or.inr ⟨rfl, rfl, rfl⟩) rfl (puts0 WX0_g (by decide) (by decide)) rfl ?_
  refine R_aload_n e_X0_init_4.2.2.1 0 rfl ?_
  refine R_bipush e_X0_init_4.2.2.2.1 (by decide) ?_
  refine R_newq (C := RX9) 177 29 6 20 136 WX0_g e_X0_init_4.2.2.2.2.1 (by decide) rfl cL_X0_55 aO_X9 (by decide +kernel) ⟨by decide, by decide, by decide +kernel⟩ (by decide) ⟨by decide, by decide⟩ ?_
  refine R_putA 0 12 12 e_X0_init_4.2.2.2.2.2.1 f_X0_57 (kIs_0 WX0_g (n := 178) (by decide +kernel) ⟨by decide, by decide, by decide +kernel⟩) (Or.inr ⟨rfl, rfl, rfl⟩) rfl (puts0 WX0_g (by decide) (by decide)) rfl ?_
  refine R_iconst e_X0_init_4.2.2.2.2.2.2.1 ?_
  refine R_istore_n (ls2 := [(1, vI 0), (0, vA G 172)]) e_X0_init_4.2.2.2.2.2.2.2.1 (by decide) rfl ?_
  refine R_iload_n e_X0_init_4.2.2.2.2.2.2.2.2.1 0 rfl ?_
  refine R_bipush e_X0_init_4.2.2.2.2.2.2.2.2.2 (by decide) ?_
  refine R_icmp_ge 115 e_X0_init_5.1 (by decide) (by decide) (by decide) (fun q => absurd q (by decide)) (fun q => ?_)
  refine R_aload_n e_X0_init_5.2.1 1 rfl ?_
  refine R_getA 0 10 175 e_X0_init_5.2.2.1 f_X0_45 (kIs_0 WX0_g (n := 178) (by decide +kernel) ⟨by decide, by decide, by decide +kernel⟩) (fun _ _ => rfl) (by decide +kernel) (by decide) ?_
  refine R_iload_n e_X0_init_5.2.2.2.1 0 rfl ?_
  refine R_new 178 3 19 126 WX0_g e_X0_init_5.2.2.2.2.1 ⟨by decide, cL_X0_43⟩ cI_X3 cN_X3 (by decide +kernel) ⟨by decide, by decide, by decide +kernel⟩ ⟨by decide, by decide⟩ ?_
  refine R_dup e_X0_init_5.2.2.2.2.2.1 rfl ?_
  refine R_callIN (mc := 19) (ms := 126) (mc' := 0) (ms' := 0) (M' := M_X3_init) (d' := 1) (as := []) (st := [vA G 178, vI 0, vA G 175]) 0 e_X0_init_5.2.2.2.2.2.2.1 m_X3_init kn_X0_61 (by decide) (by decide) rfl rfl (by show (3 : Nat) ≤ 8; decide) ?_
  refine Run.mono (I_X3 (kIs_s WX0_g (n := 179) (by decide +kernel) ⟨by decide, by decide, by decide +kernel⟩) (by decide)) (fun r s e => ?_)
  refine R_eqs (st2 := [vA G 178, vI 0, vA G 175]) (σ2 := (iX3 (kmk (kup (kmk (kup (kmk (kup (kmk (kup (kmk (kup (kmk (kup (kup (kup (kup (kup (kup (kup (kup mu45 172 0 0) 172 1 0) 172 2 6) 172 3 0) 172 4 0) 172 5 0) 172 6 0) 172 7 0) 173) 172 8 173) 174) 172 9 174) 175) 172 10 175) 176) 172 11 176) 177) 172 12 177) 178) 178)) rfl e ?_
  refine R_astq 27 3 6 WX0_g e_X0_init_5.2.2.2.2.2.2.2.1 (by decide) rfl (by decide) (kAr_0 WX0_g (n := 179) (by decide +kernel) ⟨by decide, by decide, by decide +kernel⟩ (by decide)) (kIs_0 WX0_g (n := 179) (by decide +kernel) ⟨by decide, by decide, by decide +kernel⟩) (by decide) (by decide) ?_
  refine R_iinc (ls2 := [(1, vI 1), (0, vA G 172)]) e_X0_init_5.2.2.2.2.2.2.2.2.1 0 rfl (by decide) rfl ?_
  refine R_goto 90 e_X0_init_5.2.2.2.2.2.2.2.2.2 (by decide) ?_
  refine R_iload_n e_X0_init_4.2.2.2.2.2.2.2.2.1 0 rfl ?_
  refine R_bipush e_X0_init_4.2.2.2.2.2.2.2.2.2 (by decide) ?_
  refine R_icmp_ge 115 e_X0_init_5.1 (by decide) (by decide) (by decide) (fun q => absurd q (by decide)) (fun q => ?_)
  refine R_aload_n e_X0_init_5.2.1 1 rfl ?_
  refine R_getA 0 10 175 e_X0_init_5.2.2.1 f_X0_45 (kIs_0 WX0_g (n := 179) (by decide +kernel) ⟨by decide, by decide, by decide +kernel⟩) (fun _ _ => rfl) (by decide +kernel) (by decide) ?_
  refine R_iload_n e_X0_init_5.2.2.2.1 0 rfl ?_
  refine R_new 179 3 18 116 WX0_g e_X0_init_5.2.2.2.2.1 ⟨by decide, cL_X0_43⟩ cI_X3 cN_X3 (by decide +kernel) ⟨by decide, by decide, by decide +kernel⟩ ⟨by decide, by decide⟩ ?_
  refine R_dup e_X0_init_5.2.2.2.2.2.1 rfl ?_
  refine R_callIN (mc := 18) (ms := 116) (mc' := 0) (ms' := 0) (M' := M_X3_init) (d' := 1) (as := []) (st := [vA G 179, vI 1, vA G 175]) 0 e_X0_init_5.2.2.2.2.2.2.1 m_X3_init kn_X0_61 (by decide) (by decide) rfl rfl (by show (3 : Nat) ≤ 8; decide) ?_
  refine Run.mono (I_X3 (kIs_s WX0_g (n := 180) (by decide +kernel) ⟨by decide, by decide, by decide +kernel⟩) (by decide)) (fun r s e => ?_)
  refine R_eqs (st2 := [vA G 179, vI 1, vA G 175]) (σ2 := (iX3 (kmk (kup (iX3 (kmk (kup (kmk (kup (kmk (kup (kmk (kup (kmk (kup (kmk (kup (kup (kup (kup (kup (kup (kup (kup mu45 172 0 0) 172 1 0) 172 2 6) 172 3 0) 172 4 0) 172 5 0) 172 6 0) 172 7 0) 173) 172 8 173) 174) 172 9 174) 175) 172 10 175) 176) 172 11 176) 177) 172 12 177) 178) 178) 175 0 178) 179) 179)) rfl e ?_
  refine R_astq 27 3 6 WX0_g e_X0_init_5.2.2.2.2.2.2.2.1 (by decide) rfl (by decide) (kAr_0 WX0_g (n := 180) (by decide +kernel) ⟨by decide, by decide, by decide +kernel⟩ (by decide)) (kIs_0 WX0_g (n := 180) (by decide +kernel) ⟨by decide, by decide, by decide +kernel⟩) (by decide) (by decide) ?_
  refine R_iinc (ls2 := [(1, vI 2), (0, vA G 172)]) e_X0_init_5.2.2.2.2.2.2.2.2.1 0 rfl (by decide) rfl ?_
  refine R_goto 90 e_X0_init_5.2.2.2.2.2.2.2.2.2 (by decide) ?_
  refine R_iload_n e_X0_init_4.2.2.2.2.2.2.2.2.1 0 rfl ?_
  refine R_bipush e_X0_init_4.2.2.2.2.2.2.2.2.2 (by decide) ?_
  refine R_icmp_ge 115 e_X0_init_5.1 (by decide) (by decide) (by decide) (fun q => absurd q (by decide)) (fun q => ?_)
  refine R_aload_n e_X0_init_5.2.1 1 rfl ?_
  refine R_getA 0 10 175 e_X0_init_5.2.2.1 f_X0_45 (kIs_0 WX0_g (n := 180) (by decide +kernel) ⟨by decide, by decide, by decide +kernel⟩) (fun _ _ => rfl) (by decide +kernel) (by decide) ?_
  refine R_iload_n e_X0_init_5.2.2.2.1 0 rfl ?_
  refine R_new 180 3 17 106 WX0_g e_X0_init_5.2.2.2.2.1 ⟨by decide, cL_X0_43⟩ cI_X3 cN_X3 (by decide +kernel) ⟨by decide, by decide, by decide +kernel⟩ ⟨by decide, by decide⟩ ?_
  refine R_dup e_X0_init_5.2.2.2.2.2.1 rfl ?_
  refine R_callIN (mc := 17) (ms := 106) (mc' := 0) (ms' := 0) (M' := M_X3_init) (d' := 1) (as := []) (st := [vA G 180, vI 2, vA G 175]) 0 e_X0_init_5.2.2.2.2.2.2.1 m_X3_init kn_X0_61 (by decide) (by decide) rfl rfl (by show (3 : Nat) ≤ 8; decide) ?_
  refine Run.mono (I_X3 (kIs_s WX0_g (n := 181) (by decide +kernel) ⟨by decide, by decide, by decide +kernel⟩) (by decide)) (fun r s e => ?_)
  refine R_eqs (st2 := [vA G 180, vI 2, vA G 175]) (σ2 := (iX3 (kmk (kup (iX3 (kmk (kup (iX3 (kmk (kup (kmk (kup (kmk (kup (kmk (kup (kmk (kup (kmk (kup (kup (kup (kup (kup (kup (kup (kup mu45 172 0 0) 172 1 0) 172 2 6) 172 3 0) 172 4 0) 172 5 0) 172 6 0) 172 7 0) 173) 172 8 173) 174) 172 9 174) 175) 172 10 175) 176) 172 11 176) 177) 172 12 177) 178) 178) 175 0 178) 179) 179) 175 1 179) 180) 180)) rfl e ?_
  refine R_astq 27 3 6 WX0_g e_X0_init_5.2.2.2.2.2.2.2.1 (by decide) rfl (by decide) (kAr_0 WX0_g (n := 181) (by decide +kernel) ⟨by decide, by decide, by decide +kernel⟩ (by decide)) (kIs_0 WX0_g (n := 181) (by decide +kernel) ⟨by decide, by decide, by decide +kernel⟩) (by decide) (by decide) ?_
  refine R_iinc (ls2 := [(1, vI 3), (0, vA G 172)]) e_X0_init_5.2.2.2.2.2.2.2.2.1 0 rfl (by decide) rfl ?_
  refine R_goto 90 e_X0_init_5.2.2.2.2.2.2.2.2.2 (by decide) ?_
  refine R_iload_n e_X0_init_4.2.2.2.2.2.2.2.2.1 0 rfl ?_
  refine R_bipush e_X0_init_4.2.2.2.2.2.2.2.2.2 (by decide) ?_
  refine R_icmp_ge 115 e_X0_init_5.1 (by decide) (by decide) (by decide) (fun q => absurd q (by decide)) (fun q => ?_)
  refine R_aload_n e_X0_init_5.2.1 1 rfl ?_
  refine R_getA 0 10 175 e_X0_init_5.2.2.1 f_X0_45 (kIs_0 WX0_g (n := 181) (by decide +kernel) ⟨by decide, by decide, by decide +kernel⟩) (fun _ _ => rfl) (by decide +kernel) (by decide) ?_
  refine R_iload_n e_X0_init_5.2.2.2.1 0 rfl ?_
  refine R_new 181 3 16 96 WX0_g e_X0_init_5.2.2.2.2.1 ⟨by decide, cL_X0_43⟩ cI_X3 cN_X3 (by decide +kernel) ⟨by decide, by decide, by decide +kernel⟩ ⟨by decide, by decide⟩ ?_
  refine R_dup e_X0_init_5.2.2.2.2.2.1 rfl ?_
  refine R_callIN (mc := 16) (ms := 96) (mc' := 0) (ms' := 0) (M' := M_X3_init) (d' := 1) (as := []) (st := [vA G 181, vI 3, vA G 175]) 0 e_X0_init_5.2.2.2.2.2.2.1 m_X3_init kn_X0_61 (by decide) (by decide) rfl rfl (by show (3 : Nat) ≤ 8; decide) ?_
  refine Run.mono (I_X3 (kIs_s WX0_g (n := 182) (by decide +kernel) ⟨by decide, by decide, by decide +kernel⟩) (by decide)) (fun r s e => ?_)
  refine R_eqs (st2 := [vA G 181, vI 3, vA G 175]) (σ2 := (iX3 (kmk (kup (iX3 (kmk (kup (iX3 (kmk (kup (iX3 (kmk (kup (kmk (kup (kmk (kup (kmk (kup (kmk (kup (kmk (kup (kup (kup (kup (kup (kup (kup (kup mu45 172 0 0) 172 1 0) 172 2 6) 172 3 0) 172 4 0) 172 5 0) 172 6 0) 172 7 0) 173) 172 8 173) 174) 172 9 174) 175) 172 10 175) 176) 172 11 176) 177) 172 12 177) 178) 178) 175 0 178) 179) 179) 175 1 179) 180) 180) 175 2 180) 181) 181)) rfl e ?_
  refine R_astq 27 3 6 WX0_g e_X0_init_5.2.2.2.2.2.2.2.1 (by decide) rfl (by decide) (kAr_0 WX0_g (n := 182) (by decide +kernel) ⟨by decide, by decide, by decide +kernel⟩ (by decide)) (kIs_0 WX0_g (n := 182) (by decide +kernel) ⟨by decide, by decide, by decide +kernel⟩) (by decide) (by decide) ?_
  refine R_iinc (ls2 := [(1, vI 4), (0, vA G 172)]) e_X0_init_5.2.2.2.2.2.2.2.2.1 0 rfl (by decide) rfl ?_
  refine R_goto 90 e_X0_init_5.2.2.2.2.2.2.2.2.2 (by decide) ?_
  refine R_iload_n e_X0_init_4.2.2.2.2.2.2.2.2.1 0 rfl ?_
  refine R_bipush e_X0_init_4.2.2.2.2.2.2.2.2.2 (by decide) ?_
  refine R_icmp_ge 115 e_X0_init_5.1 (by decide) (by decide) (by decide) (fun q => absurd q (by decide)) (fun q => ?_)
  refine R_aload_n e_X0_init_5.2.1 1 rfl ?_
  refine R_getA 0 10 175 e_X0_init_5.2.2.1 f_X0_45 (kIs_0 WX0_g (n := 182) (by decide +kernel) ⟨by decide, by decide, by decide +kernel⟩) (fun _ _ => rfl) (by decide +kernel) (by decide) ?_
  refine R_iload_n e_X0_init_5.2.2.2.1 0 rfl ?_
  refine R_new 182 3 15 86 WX0_g e_X0_init_5.2.2.2.2.1 ⟨by decide, cL_X0_43⟩ cI_X3 cN_X3 (by decide +kernel) ⟨by decide, by decide, by decide +kernel⟩ ⟨by decide, by decide⟩ ?_
  refine R_dup e_X0_init_5.2.2.2.2.2.1 rfl ?_
  refine R_callIN (mc := 15) (ms := 86) (mc' := 0) (ms' := 0) (M' := M_X3_init) (d' := 1) (as := []) (st := [vA G 182, vI 4, vA G 175]) 0 e_X0_init_5.2.2.2.2.2.2.1 m_X3_init kn_X0_61 (by decide) (by decide) rfl rfl (by show (3 : Nat) ≤ 8; decide) ?_
  refine Run.mono (I_X3 (kIs_s WX0_g (n := 183) (by decide +kernel) ⟨by decide, by decide, by decide +kernel⟩) (by decide)) (fun r s e => ?_)
  refine R_eqs (st2 := [vA G 182, vI 4, vA G 175]) (σ2 := (iX3 (kmk (kup (iX3 (kmk (kup (iX3 (kmk (kup (iX3 (kmk (kup (iX3 (kmk (kup (kmk (kup (kmk (kup (kmk (kup (kmk (kup (kmk (kup (kup (kup (kup (kup (kup (kup (kup mu45 172 0 0) 172 1 0) 172 2 6) 172 3 0) 172 4 0) 172 5 0) 172 6 0) 172 7 0) 173) 172 8 173) 174) 172 9 174) 175) 172 10 175) 176) 172 11 176) 177) 172 12 177) 178) 178) 175 0 178) 179) 179) 175 1 179) 180) 180) 175 2 180) 181) 181) 175 3 181) 182) 182)) rfl e ?_
  refine R_astq 27 3 6 WX0_g e_X0_init_5.2.2.2.2.2.2.2.1 (by decide) rfl (by decide) (kAr_0 WX0_g (n := 183) (by decide +kernel) ⟨by decide, by decide, by decide +kernel⟩ (by decide)) (kIs_0 WX0_g (n := 183) (by decide +kernel) ⟨by decide, by decide, by decide +kernel⟩) (by decide) (by decide) ?_
  refine R_iinc (ls2 := [(1, vI 5), (0, vA G 172)]) e_X0_init_5.2.2.2.2.2.2.2.2.1 0 rfl (by decide) rfl ?_
  refine R_goto 90 e_X0_init_5.2.2.2.2.2.2.2.2.2 (by decide) ?_
  refine R_iload_n e_X0_init_4.2.2.2.2.2.2.2.2.1 0 rfl ?_
  refine R_bipush e_X0_init_4.2.2.2.2.2.2.2.2.2 (by decide) ?_
  refine R_icmp_ge 115 e_X0_init_5.1 (by decide) (by decide) (by decide) (fun q => absurd q (by decide)) (fun q => ?_)
  refine R_aload_n e_X0_init_5.2.1 1 rfl ?_
  refine R_getA 0 10 175 e_X0_init_5.2.2.1 f_X0_45 (kIs_0 WX0_g (n := 183) (by decide +kernel) ⟨by decide, by decide, by decide +kernel⟩) (fun _ _ => rfl) (by decide +kernel) (by decide) ?_
  refine R_iload_n e_X0_init_5.2.2.2.1 0 rfl ?_
  refine R_new 183 3 14 76 WX0_g e_X0_init_5.2.2.2.2.1 ⟨by decide, cL_X0_43⟩ cI_X3 cN_X3 (by decide +kernel) ⟨by decide, by decide, by decide +kernel⟩ ⟨by decide, by decide⟩ ?_
  refine R_dup e_X0_init_5.2.2.2.2.2.1 rfl ?_
  refine R_callIN (mc := 14) (ms := 76) (mc' := 0) (ms' := 0) (M' := M_X3_init) (d' := 1) (as := []) (st := [vA G 183, vI 5, vA G 175]) 0 e_X0_init_5.2.2.2.2.2.2.1 m_X3_init kn_X0_61 (by decide) (by decide) rfl rfl (by show (3 : Nat) ≤ 8; decide) ?_
  refine Run.mono (I_X3 (kIs_s WX0_g (n := 184) (by decide +kernel) ⟨by decide, by decide, by decide +kernel⟩) (by decide)) (fun r s e => ?_)
  refine R_eqs (st2 := [vA G 183, vI 5, vA G 175]) (σ2 := (iX3 (kmk (kup (iX3 (kmk (kup (iX3 (kmk (kup (iX3 (kmk (kup (iX3 (kmk (kup (iX3 (kmk (kup (kmk (kup (kmk (kup (kmk (kup (kmk (kup (kmk (kup (kup (kup (kup (kup (kup (kup (kup mu45 172 0 0) 172 1 0) 172 2 6) 172 3 0) 172 4 0) 172 5 0) 172 6 0) 172 7 0) 173) 172 8 173) 174) 172 9 174) 175) 172 10 175) 176) 172 11 176) 177) 172 12 177) 178) 178) 175 0 178) 179) 179) 175 1 179) 180) 180) 175 2 180) 181) 181) 175 3 181) 182) 182) 175 4 182) 183) 183)) rfl e ?_
  refine R_astq 27 3 6 WX0_g e_X0_init_5.2.2.2.2.2.2.2.1 (by decide) rfl (by decide) (kAr_0 WX0_g (n := 184) (by decide +kernel) ⟨by decide, by decide, by decide +kernel⟩ (by decide)) (kIs_0 WX0_g (n := 184) (by decide +kernel) ⟨by decide, by decide, by decide +kernel⟩) (by decide) (by decide) ?_
  refine R_iinc (ls2 := [(1, vI 6), (0, vA G 172)]) e_X0_init_5.2.2.2.2.2.2.2.2.1 0 rfl (by decide) rfl ?_
  refine R_goto 90 e_X0_init_5.2.2.2.2.2.2.2.2.2 (by decide) ?_
  refine R_iload_n e_X0_init_4.2.2.2.2.2.2.2.2.1 0 rfl ?_
  refine R_bipush e_X0_init_4.2.2.2.2.2.2.2.2.2 (by decide) ?_
  refine R_icmp_ge 115 e_X0_init_5.1 (by decide) (by decide) (by decide) (fun q => ?_) (fun q => absurd q (by decide))
  refine R_iconst e_X0_init_6.1 ?_
  refine R_istore_n (ls2 := [(1, vI 0), (0, vA G 172)]) e_X0_init_6.2.1 (by decide) rfl ?_
  refine R_iload_n e_X0_init_6.2.2.1 0 rfl ?_
  refine R_bipush e_X0_init_6.2.2.2.1 (by decide) ?_
  refine R_icmp_ge 142 e_X0_init_6.2.2.2.2.1 (by decide) (by decide) (by decide) (fun q => absurd q (by decide)) (fun q => ?_)
  refine R_aload_n e_X0_init_6.2.2.2.2.2.1 1 rfl ?_
  refine R_getA 0 11 176 e_X0_init_6.2.2.2.2.2.2.1 f_X0_51 (kIs_0 WX0_g (n := 184) (by decide +kernel) ⟨by decide, by decide, by decide +kernel⟩) (fun _ _ => rfl) (by decide +kernel) (by decide) ?_
  refine R_iload_n e_X0_init_6.2.2.2.2.2.2.2.1 0 rfl ?_
  refine R_new 184 2 13 71 WX0_g e_X0_init_6.2.2.2.2.2.2.2.2.1 ⟨by decide, cL_X0_49⟩ cI_X2 cN_X2 (by decide +kernel) ⟨by decide, by decide, by decide +kernel⟩ ⟨by decide, by decide⟩ ?_
  refine R_dup e_X0_init_6.2.2.2.2.2.2.2.2.2 rfl ?_
  refine R_callIN (mc := 13) (ms := 71) (mc' := 0) (ms' := 0) (M' := M_X2_init) (d' := 1) (as := []) (st := [vA G 184, vI 0, vA G 176]) 0 e_X0_init_7.1 m_X2_init kn_X0_62 (by decide) (by decide) rfl rfl (by show (3 : Nat) ≤ 8; decide) ?_
  refine Run.mono (I_X2 (kIs_s WX0_g (n := 185) (by decide +kernel) ⟨by decide, by decide, by decide +kernel⟩) (by decide)) (fun r s e => ?_)
  refine R_eqs (st2 := [vA G 184, vI 0, vA G 176]) (σ2 := (iX2 (kmk (kup (iX3 (kmk (kup (iX3 (kmk (kup (iX3 (kmk (kup (iX3 (kmk (kup (iX3 (kmk (kup (iX3 (kmk (kup (kmk (kup (kmk (kup (kmk (kup (kmk (kup (kmk (kup (kup (kup (kup (kup (kup (kup (kup mu45 172 0 0) 172 1 0) 172 2 6) 172 3 0) 172 4 0) 172 5 0) 172 6 0) 172 7 0) 173) 172 8 173) 174) 172 9 174) 175) 172 10 175) 176) 172 11 176) 177) 172 12 177) 178) 178) 175 0 178) 179) 179) 175 1 179) 180) 180) 175 2 180) 181) 181) 175 3 181) 182) 182) 175 4 182) 183) 183) 175 5 183) 184) 184)) rfl e ?_
  refine R_astq 28 2 8 WX0_g e_X0_init_7.2.1 (by decide) rfl (by decide) (kAr_0 WX0_g (n := 185) (by decide +kernel) ⟨by decide, by decide, by decide +kernel⟩ (by decide)) (kIs_0 WX0_g (n := 185) (by decide +kernel) ⟨by decide, by decide, by decide +kernel⟩) (by decide) (by decide) ?_
  refine R_iinc (ls2 := [(1, vI 1), (0, vA G 172)]) e_X0_init_7.2.2.1 0 rfl (by decide) rfl ?_
  refine R_goto 117 e_X0_init_7.2.2.2.1 (by decide) ?_
  refine R_iload_n e_X0_init_6.2.2.1 0 rfl ?_
  refine R_bipush e_X0_init_6.2.2.2.1 (by decide) ?_
  refine R_icmp_ge 142 e_X0_init_6.2.2.2.2.1 (by decide) (by decide) (by decide) (fun q => absurd q (by decide)) (fun q => ?_)
  refine R_aload_n e_X0_init_6.2.2.2.2.2.1 1 rfl ?_
  refine R_getA 0 11 176 e_X0_init_6.2.2.2.2.2.2.1 f_X0_51 (kIs_0 WX0_g (n := 185) (by decide +kernel) ⟨by decide, by decide, by decide +kernel⟩) (fun _ _ => rfl) (by decide +kernel) (by decide) ?_
  refine R_iload_n e_X0_init_6.2.2.2.2.2.2.2.1 0 rfl ?_
  refine R_new 185 2 12 66 WX0_g e_X0_init_6.2.2.2.2.2.2.2.2.1 ⟨by decide, cL_X0_49⟩ cI_X2 cN_X2 (by decide +kernel) ⟨by decide, by decide, by decide +kernel⟩ ⟨by decide, by decide⟩ ?_
  refine R_dup e_X0_init_6.2.2.2.2.2.2.2.2.2 rfl ?_
  refine R_callIN (mc := 12) (ms := 66) (mc' := 0) (ms' := 0) (M' := M_X2_init) (d' := 1) (as := []) (st := [vA G 185, vI 1, vA G 176]) 0 e_X0_init_7.1 m_X2_init kn_X0_62 (by decide) (by decide) rfl rfl (by show (3 : Nat) ≤ 8; decide) ?_
  refine Run.mono (I_X2 (kIs_s WX0_g (n := 186) (by decide +kernel) ⟨by decide, by decide, by decide +kernel⟩) (by decide)) (fun r s e => ?_)
  refine R_eqs (st2 := [vA G 185, vI 1, vA G 176]) (σ2 := (iX2 (kmk (kup (iX2 (kmk (kup (iX3 (kmk (kup (iX3 (kmk (kup (iX3 (kmk (kup (iX3 (kmk (kup (iX3 (kmk (kup (iX3 (kmk (kup (kmk (kup (kmk (kup (kmk (kup (kmk (kup (kmk (kup (kup (kup (kup (kup (kup (kup (kup mu45 172 0 0) 172 1 0) 172 2 6) 172 3 0) 172 4 0) 172 5 0) 172 6 0) 172 7 0) 173) 172 8 173) 174) 172 9 174) 175) 172 10 175) 176) 172 11 176) 177) 172 12 177) 178) 178) 175 0 178) 179) 179) 175 1 179) 180) 180) 175 2 180) 181) 181) 175 3 181) 182) 182) 175 4 182) 183) 183) 175 5 183) 184) 184) 176 0 184) 185) 185)) rfl e ?_
  refine R_astq 28 2 8 WX0_g e_X0_init_7.2.1 (by decide) rfl (by decide) (kAr_0 WX0_g (n := 186) (by decide +kernel) ⟨by decide, by decide, by decide +kernel⟩ (by decide)) (kIs_0 WX0_g (n := 186) (by decide +kernel) ⟨by decide, by decide, by decide +kernel⟩) (by decide) (by decide) ?_
  refine R_iinc (ls2 := [(1, vI 2), (0, vA G 172)]) e_X0_init_7.2.2.1 0 rfl (by decide) rfl ?_
  refine R_goto 117 e_X0_init_7.2.2.2.1 (by decide) ?_
  refine R_iload_n e_X0_init_6.2.2.1 0 rfl ?_
  refine R_bipush e_X0_init_6.2.2.2.1 (by decide) ?_
  refine R_icmp_ge 142 e_X0_init_6.2.2.2.2.1 (by decide) (by decide) (by decide) (fun q => absurd q (by decide)) (fun q => ?_)
  refine R_aload_n e_X0_init_6.2.2.2.2.2.1 1 rfl ?_
  refine R_getA 0 11 176 e_X0_init_6.2.2.2.2.2.2.1 f_X0_51 (kIs_0 WX0_g (n := 186) (by decide +kernel) ⟨by decide, by decide, by decide +kernel⟩) (fun _ _ => rfl) (by decide +kernel) (by decide) ?_
  refine R_iload_n e_X0_init_6.2.2.2.2.2.2.2.1 0 rfl ?_
  refine R_new 186 2 11 61 WX0_g e_X0_init_6.2.2.2.2.2.2.2.2.1 ⟨by decide, cL_X0_49⟩ cI_X2 cN_X2 (by decide +kernel) ⟨by decide, by decide, by decide +kernel⟩ ⟨by decide, by decide⟩ ?_
  refine R_dup e_X0_init_6.2.2.2.2.2.2.2.2.2 rfl ?_
  refine R_callIN (mc := 11) (ms := 61) (mc' := 0) (ms' := 0) (M' := M_X2_init) (d' := 1) (as := []) (st := [vA G 186, vI 2, vA G 176]) 0 e_X0_init_7.1 m_X2_init kn_X0_62 (by decide) (by decide) rfl rfl (by show (3 : Nat) ≤ 8; decide) ?_
  refine Run.mono (I_X2 (kIs_s WX0_g (n := 187) (by decide +kernel) ⟨by decide, by decide, by decide +kernel⟩) (by decide)) (fun r s e => ?_)
  refine R_eqs (st2 := [vA G 186, vI 2, vA G 176]) (σ2 := (iX2 (kmk (kup (iX2 (kmk (kup (iX2 (kmk (kup (iX3 (kmk (kup (iX3 (kmk (kup (iX3 (kmk (kup (iX3 (kmk (kup (iX3 (kmk (kup (iX3 (kmk (kup (kmk (kup (kmk (kup (kmk (kup (kmk (kup (kmk (kup (kup (kup (kup (kup (kup (kup (kup mu45 172 0 0) 172 1 0) 172 2 6) 172 3 0) 172 4 0) 172 5 0) 172 6 0) 172 7 0) 173) 172 8 173) 174) 172 9 174) 175) 172 10 175) 176) 172 11 176) 177) 172 12 177) 178) 178) 175 0 178) 179) 179) 175 1 179) 180) 180) 175 2 180) 181) 181) 175 3 181) 182) 182) 175 4 182) 183) 183) 175 5 183) 184) 184) 176 0 184) 185) 185) 176 1 185) 186) 186)) rfl e ?_
  refine R_astq 28 2 8 WX0_g e_X0_init_7.2.1 (by decide) rfl (by decide) (kAr_0 WX0_g (n := 187) (by decide +kernel) ⟨by decide, by decide, by decide +kernel⟩ (by decide)) (kIs_0 WX0_g (n := 187) (by decide +kernel) ⟨by decide, by decide, by decide +kernel⟩) (by decide) (by decide) ?_
  refine R_iinc (ls2 := [(1, vI 3), (0, vA G 172)]) e_X0_init_7.2.2.1 0 rfl (by decide) rfl ?_
  refine R_goto 117 e_X0_init_7.2.2.2.1 (by decide) ?_
  refine R_iload_n e_X0_init_6.2.2.1 0 rfl ?_
  refine R_bipush e_X0_init_6.2.2.2.1 (by decide) ?_
  refine R_icmp_ge 142 e_X0_init_6.2.2.2.2.1 (by decide) (by decide) (by decide) (fun q => absurd q (by decide)) (fun q => ?_)
  refine R_aload_n e_X0_init_6.2.2.2.2.2.1 1 rfl ?_
  refine R_getA 0 11 176 e_X0_init_6.2.2.2.2.2.2.1 f_X0_51 (kIs_0 WX0_g (n := 187) (by decide +kernel) ⟨by decide, by decide, by decide +kernel⟩) (fun _ _ => rfl) (by decide +kernel) (by decide) ?_
  refine R_iload_n e_X0_init_6.2.2.2.2.2.2.2.1 0 rfl ?_
  refine R_new 187 2 10 56 WX0_g e_X0_init_6.2.2.2.2.2.2.2.2.1 ⟨by decide, cL_X0_49⟩ cI_X2 cN_X2 (by decide +kernel) ⟨by decide, by decide, by decide +kernel⟩ ⟨by decide, by decide⟩ ?_
  refine R_dup e_X0_init_6.2.2.2.2.2.2.2.2.2 rfl ?_
  refine R_callIN (mc := 10) (ms := 56) (mc' := 0) (ms' := 0) (M' := M_X2_init) (d' := 1) (as := []) (st := [vA G 187, vI 3, vA G 176]) 0 e_X0_init_7.1 m_X2_init kn_X0_62 (by decide) (by decide) rfl rfl (by show (3 : Nat) ≤ 8; decide) ?_
  refine Run.mono (I_X2 (kIs_s WX0_g (n := 188) (by decide +kernel) ⟨by decide, by decide, by decide +kernel⟩) (by decide)) (fun r s e => ?_)
  refine R_eqs (st2 := [vA G 187, vI 3, vA G 176]) (σ2 := (iX2 (kmk (kup (iX2 (kmk (kup (iX2 (kmk (kup (iX2 (kmk (kup (iX3 (kmk (kup (iX3 (kmk (kup (iX3 (kmk (kup (iX3 (kmk (kup (iX3 (kmk (kup (iX3 (kmk (kup (kmk (kup (kmk (kup (kmk (kup (kmk (kup (kmk (kup (kup (kup (kup (kup (kup (kup (kup mu45 172 0 0) 172 1 0) 172 2 6) 172 3 0) 172 4 0) 172 5 0) 172 6 0) 172 7 0) 173) 172 8 173) 174) 172 9 174) 175) 172 10 175) 176) 172 11 176) 177) 172 12 177) 178) 178) 175 0 178) 179) 179) 175 1 179) 180) 180) 175 2 180) 181) 181) 175 3 181) 182) 182) 175 4 182) 183) 183) 175 5 183) 184) 184) 176 0 184) 185) 185) 176 1 185) 186) 186) 176 2 186) 187) 187)) rfl e ?_
  refine R_astq 28 2 8 WX0_g e_X0_init_7.2.1 (by decide) rfl (by decide) (kAr_0 WX0_g (n := 188) (by decide +kernel) ⟨by decide, by decide, by decide +kernel⟩ (by decide)) (kIs_0 WX0_g (n := 188) (by decide +kernel) ⟨by decide, by decide, by decide +kernel⟩) (by decide) (by decide) ?_
  refine R_iinc (ls2 := [(1, vI 4), (0, vA G 172)]) e_X0_init_7.2.2.1 0 rfl (by decide) rfl ?_
  refine R_goto 117 e_X0_init_7.2.2.2.1 (by decide) ?_
  refine R_iload_n e_X0_init_6.2.2.1 0 rfl ?_
  refine R_bipush e_X0_init_6.2.2.2.1 (by decide) ?_
  refine R_icmp_ge 142 e_X0_init_6.2.2.2.2.1 (by decide) (by decide) (by decide) (fun q => absurd q (by decide)) (fun q => ?_)
  refine R_aload_n e_X0_init_6.2.2.2.2.2.1 1 rfl ?_
  refine R_getA 0 11 176 e_X0_init_6.2.2.2.2.2.2.1 f_X0_51 (kIs_0 WX0_g (n := 188) (by decide +kernel) ⟨by decide, by decide, by decide +kernel⟩) (fun _ _ => rfl) (by decide +kernel) (by decide) ?_
  refine R_iload_n e_X0_init_6.2.2.2.2.2.2.2.1 0 rfl ?_
  refine R_new 188 2 9 51 WX0_g e_X0_init_6.2.2.2.2.2.2.2.2.1 ⟨by decide, cL_X0_49⟩ cI_X2 cN_X2 (by decide +kernel) ⟨by decide, by decide, by decide +kernel⟩ ⟨by decide, by decide⟩ ?_
  refine R_dup e_X0_init_6.2.2.2.2.2.2.2.2.2 rfl ?_
  refine R_callIN (mc := 9) (ms := 51) (mc' := 0) (ms' := 0) (M' := M_X2_init) (d' := 1) (as := []) (st := [vA G 188, vI 4, vA G 176]) 0 e_X0_init_7.1 m_X2_init kn_X0_62 (by decide) (by decide) rfl rfl (by show (3 : Nat) ≤ 8; decide) ?_
  refine Run.mono (I_X2 (kIs_s WX0_g (n := 189) (by decide +kernel) ⟨by decide, by decide, by decide +kernel⟩) (by decide)) (fun r s e => ?_)
  refine R_eqs (st2 := [vA G 188, vI 4, vA G 176]) (σ2 := (iX2 (kmk (kup (iX2 (kmk (kup (iX2 (kmk (kup (iX2 (kmk (kup (iX2 (kmk (kup (iX3 (kmk (kup (iX3 (kmk (kup (iX3 (kmk (kup (iX3 (kmk (kup (iX3 (kmk (kup (iX3 (kmk (kup (kmk (kup (kmk (kup (kmk (kup (kmk (kup (kmk (kup (kup (kup (kup (kup (kup (kup (kup mu45 172 0 0) 172 1 0) 172 2 6) 172 3 0) 172 4 0) 172 5 0) 172 6 0) 172 7 0) 173) 172 8 173) 174) 172 9 174) 175) 172 10 175) 176) 172 11 176) 177) 172 12 177) 178) 178) 175 0 178) 179) 179) 175 1 179) 180) 180) 175 2 180) 181) 181) 175 3 181) 182) 182) 175 4 182) 183) 183) 175 5 183) 184) 184) 176 0 184) 185) 185) 176 1 185) 186) 186) 176 2 186) 187) 187) 176 3 187) 188) 188)) rfl e ?_
  refine R_astq 28 2 8 WX0_g e_X0_init_7.2.1 (by decide) rfl (by decide) (kAr_0 WX0_g (n := 189) (by decide +kernel) ⟨by decide, by decide, by decide +kernel⟩ (by decide)) (kIs_0 WX0_g (n := 189) (by decide +kernel) ⟨by decide, by decide, by decide +kernel⟩) (by decide) (by decide) ?_
  refine R_iinc (ls2 := [(1, vI 5), (0, vA G 172)]) e_X0_init_7.2.2.1 0 rfl (by decide) rfl ?_
  refine R_goto 117 e_X0_init_7.2.2.2.1 (by decide) ?_
  refine R_iload_n e_X0_init_6.2.2.1 0 rfl ?_
  refine R_bipush e_X0_init_6.2.2.2.1 (by decide) ?_
  refine R_icmp_ge 142 e_X0_init_6.2.2.2.2.1 (by decide) (by decide) (by decide) (fun q => absurd q (by decide)) (fun q => ?_)
  refine R_aload_n e_X0_init_6.2.2.2.2.2.1 1 rfl ?_
  refine R_getA 0 11 176 e_X0_init_6.2.2.2.2.2.2.1 f_X0_51 (kIs_0 WX0_g (n := 189) (by decide +kernel) ⟨by decide, by decide, by decide +kernel⟩) (fun _ _ => rfl) (by decide +kernel) (by decide) ?_
  refine R_iload_n e_X0_init_6.2.2.2.2.2.2.2.1 0 rfl ?_
  refine R_new 189 2 8 46 WX0_g e_X0_init_6.2.2.2.2.2.2.2.2.1 ⟨by decide, cL_X0_49⟩ cI_X2 cN_X2 (by decide +kernel) ⟨by decide, by decide, by decide +kernel⟩ ⟨by decide, by decide⟩ ?_
  refine R_dup e_X0_init_6.2.2.2.2.2.2.2.2.2 rfl ?_
  refine R_callIN (mc := 8) (ms := 46) (mc' := 0) (ms' := 0) (M' := M_X2_init) (d' := 1) (as := []) (st := [vA G 189, vI 5, vA G 176]) 0 e_X0_init_7.1 m_X2_init kn_X0_62 (by decide) (by decide) rfl rfl (by show (3 : Nat) ≤ 8; decide) ?_
  refine Run.mono (I_X2 (kIs_s WX0_g (n := 190) (by decide +kernel) ⟨by decide, by decide, by decide +kernel⟩) (by decide)) (fun r s e => ?_)
  refine R_eqs (st2 := [vA G 189, vI 5, vA G 176]) (σ2 := (iX2 (kmk (kup (iX2 (kmk (kup (iX2 (kmk (kup (iX2 (kmk (kup (iX2 (kmk (kup (iX2 (kmk (kup (iX3 (kmk (kup (iX3 (kmk (kup (iX3 (kmk (kup (iX3 (kmk (kup (iX3 (kmk (kup (iX3 (kmk (kup (kmk (kup (kmk (kup (kmk (kup (kmk (kup (kmk (kup (kup (kup (kup (kup (kup (kup (kup mu45 172 0 0) 172 1 0) 172 2 6) 172 3 0) 172 4 0) 172 5 0) 172 6 0) 172 7 0) 173) 172 8 173) 174) 172 9 174) 175) 172 10 175) 176) 172 11 176) 177) 172 12 177) 178) 178) 175 0 178) 179) 179) 175 1 179) 180) 180) 175 2 180) 181) 181) 175 3 181) 182) 182) 175 4 182) 183) 183) 175 5 183) 184) 184) 176 0 184) 185) 185) 176 1 185) 186) 186) 176 2 186) 187) 187) 176 3 187) 188) 188) 176 4 188) 189) 189)) rfl e ?_
  refine R_astq 28 2 8 WX0_g e_X0_init_7.2.1 (by decide) rfl (by decide) (kAr_0 WX0_g (n := 190) (by decide +kernel) ⟨by decide, by decide, by decide +kernel⟩ (by decide)) (kIs_0 WX0_g (n := 190) (by decide +kernel) ⟨by decide, by decide, by decide +kernel⟩) (by decide) (by decide) ?_
  refine R_iinc (ls2 := [(1, vI 6), (0, vA G 172)]) e_X0_init_7.2.2.1 0 rfl (by decide) rfl ?_
  refine R_goto 117 e_X0_init_7.2.2.2.1 (by decide) ?_
  refine R_iload_n e_X0_init_6.2.2.1 0 rfl ?_
  refine R_bipush e_X0_init_6.2.2.2.1 (by decide) ?_
  refine R_icmp_ge 142 e_X0_init_6.2.2.2.2.1 (by decide) (by decide) (by decide) (fun q => absurd q (by decide)) (fun q => ?_)
  refine R_aload_n e_X0_init_6.2.2.2.2.2.1 1 rfl ?_
  refine R_getA 0 11 176 e_X0_init_6.2.2.2.2.2.2.1 f_X0_51 (kIs_0 WX0_g (n := 190) (by decide +kernel) ⟨by decide, by decide, by decide +kernel⟩) (fun _ _ => rfl) (by decide +kernel) (by decide) ?_
  refine R_iload_n e_X0_init_6.2.2.2.2.2.2.2.1 0 rfl ?_
  refine R_new 190 2 7 41 WX0_g e_X0_init_6.2.2.2.2.2.2.2.2.1 ⟨by decide, cL_X0_49⟩ cI_X2 cN_X2 (by decide +kernel) ⟨by decide, by decide, by decide +kernel⟩ ⟨by decide, by decide⟩ ?_
  refine R_dup e_X0_init_6.2.2.2.2.2.2.2.2.2 rfl ?_
  refine R_callIN (mc := 7) (ms := 41) (mc' := 0) (ms' := 0) (M' := M_X2_init) (d' := 1) (as := []) (st := [vA G 190, vI 6, vA G 176]) 0 e_X0_init_7.1 m_X2_init kn_X0_62 (by decide) (by decide) rfl rfl (by show (3 : Nat) ≤ 8; decide) ?_
  refine Run.mono (I_X2 (kIs_s WX0_g (n := 191) (by decide +kernel) ⟨by decide, by decide, by decide +kernel⟩) (by decide)) (fun r s e => ?_)
  refine R_eqs (st2 := [vA G 190, vI 6, vA G 176]) (σ2 := (iX2 (kmk (kup (iX2 (kmk (kup (iX2 (kmk (kup (iX2 (kmk (kup (iX2 (kmk (kup (iX2 (kmk (kup (iX2 (kmk (kup (iX3 (kmk (kup (iX3 (kmk (kup (iX3 (kmk (kup (iX3 (kmk (kup (iX3 (kmk (kup (iX3 (kmk (kup (kmk (kup (kmk (kup (kmk (kup (kmk (kup (kmk (kup (kup (kup (kup (kup (kup (kup (kup mu45 172 0 0) 172 1 0) 172 2 6) 172 3 0) 172 4 0) 172 5 0) 172 6 0) 172 7 0) 173) 172 8 173) 174) 172 9 174) 175) 172 10 175) 176) 172 11 176) 177) 172 12 177) 178) 178) 175 0 178) 179) 179) 175 1 179) 180) 180) 175 2 180) 181) 181) 175 3 181) 182) 182) 175 4 182) 183) 183) 175 5 183) 184) 184) 176 0 184) 185) 185) 176 1 185) 186) 186) 176 2 186) 187) 187) 176 3 187) 188) 188) 176 4 188) 189) 189) 176 5 189) 190) 190)) rfl e ?_
  refine R_astq 28 2 8 WX0_g e_X0_init_7.2.1 (by decide) rfl (by decide) (kAr_0 WX0_g (n := 191) (by decide +kernel) ⟨by decide, by decide, by decide +kernel⟩ (by decide)) (kIs_0 WX0_g (n := 191) (by decide +kernel) ⟨by decide, by decide, by decide +kernel⟩) (by decide) (by decide) ?_
  refine R_iinc (ls2 := [(1, vI 7), (0, vA G 172)]) e_X0_init_7.2.2.1 0 rfl (by decide) rfl ?_
  refine R_goto 117 e_X0_init_7.2.2.2.1 (by decide) ?_
  refine R_iload_n e_X0_init_6.2.2.1 0 rfl ?_
  refine R_bipush e_X0_init_6.2.2.2.1 (by decide) ?_
  refine R_icmp_ge 142 e_X0_init_6.2.2.2.2.1 (by decide) (by decide) (by decide) (fun q => absurd q (by decide)) (fun q => ?_)
  refine R_aload_n e_X0_init_6.2.2.2.2.2.1 1 rfl ?_
  refine R_getA 0 11 176 e_X0_init_6.2.2.2.2.2.2.1 f_X0_51 (kIs_0 WX0_g (n := 191) (by decide +kernel) ⟨by decide, by decide, by decide +kernel⟩) (fun _ _ => rfl) (by decide +kernel) (by decide) ?_
  refine R_iload_n e_X0_init_6.2.2.2.2.2.2.2.1 0 rfl ?_
  refine R_new 191 2 6 36 WX0_g e_X0_init_6.2.2.2.2.2.2.2.2.1 ⟨by decide, cL_X0_49⟩ cI_X2 cN_X2 (by decide +kernel) ⟨by decide, by decide, by decide +kernel⟩ ⟨by decide, by decide⟩ ?_
  refine R_dup e_X0_init_6.2.2.2.2.2.2.2.2.2 rfl ?_
  refine R_callIN (mc := 6) (ms := 36) (mc' := 0) (ms' := 0) (M' := M_X2_init) (d' := 1) (as := []) (st := [vA G 191, vI 7, vA G 176]) 0 e_X0_init_7.1 m_X2_init kn_X0_62 (by decide) (by decide) rfl rfl (by show (3 : Nat) ≤ 8; decide) ?_
  refine Run.mono (I_X2 (kIs_s WX0_g (n := 192) (by decide +kernel) ⟨by decide, by decide, by decide +kernel⟩) (by decide)) (fun r s e => ?_)
  refine R_eqs (st2 := [vA G 191, vI 7, vA G 176]) (σ2 := (iX2 (kmk (kup (iX2 (kmk (kup (iX2 (kmk (kup (iX2 (kmk (kup (iX2 (kmk (kup (iX2 (kmk (kup (iX2 (kmk (kup (iX2 (kmk (kup (iX3 (kmk (kup (iX3 (kmk (kup (iX3 (kmk (kup (iX3 (kmk (kup (iX3 (kmk (kup (iX3 (kmk (kup (kmk (kup (kmk (kup (kmk (kup (kmk (kup (kmk (kup (kup (kup (kup (kup (kup (kup (kup mu45 172 0 0) 172 1 0) 172 2 6) 172 3 0) 172 4 0) 172 5 0) 172 6 0) 172 7 0) 173) 172 8 173) 174) 172 9 174) 175) 172 10 175) 176) 172 11 176) 177) 172 12 177) 178) 178) 175 0 178) 179) 179) 175 1 179) 180) 180) 175 2 180) 181) 181) 175 3 181) 182) 182) 175 4 182) 183) 183) 175 5 183) 184) 184) 176 0 184) 185) 185) 176 1 185) 186) 186) 176 2 186) 187) 187) 176 3 187) 188) 188) 176 4 188) 189) 189) 176 5 189) 190) 190) 176 6 190) 191) 191)) rfl e ?_
  refine R_astq 28 2 8 WX0_g e_X0_init_7.2.1 (by decide) rfl (by decide) (kAr_0 WX0_g (n := 192) (by decide +kernel) ⟨by decide, by decide, by decide +kernel⟩ (by decide)) (kIs_0 WX0_g (n := 192) (by decide +kernel) ⟨by decide, by decide, by decide +kernel⟩) (by decide) (by decide) ?_
  refine R_iinc (ls2 := [(1, vI 8), (0, vA G 172)]) e_X0_init_7.2.2.1 0 rfl (by decide) rfl ?_
  refine R_goto 117 e_X0_init_7.2.2.2.1 (by decide) ?_
  refine R_iload_n e_X0_init_6.2.2.1 0 rfl ?_
  refine R_bipush e_X0_init_6.2.2.2.1 (by decide) ?_
  refine R_icmp_ge 142 e_X0_init_6.2.2.2.2.1 (by decide) (by decide) (by decide) (fun q => ?_) (fun q => absurd q (by decide))
  refine R_iconst e_X0_init_7.2.2.2.2.1 ?_
  refine R_istore_n (ls2 := [(1, vI 0), (0, vA G 172)]) e_X0_init_7.2.2.2.2.2.1 (by decide) rfl ?_
  refine R_iload_n e_X0_init_7.2.2.2.2.2.2.1 0 rfl ?_
  refine R_bipush e_X0_init_7.2.2.2.2.2.2.2.1 (by decide) ?_
  refine R_icmp_ge 169 e_X0_init_7.2.2.2.2.2.2.2.2.1 (by decide) (by decide) (by decide) (fun q => absurd q (by decide)) (fun q => ?_)
  refine R_aload_n e_X0_init_7.2.2.2.2.2.2.2.2.2 1 rfl ?_
  refine R_getA 0 12 177 e_X0_init_8.1 f_X0_57 (kIs_0 WX0_g (n := 192) (by decide +kernel) ⟨by decide, by decide, by decide +kernel⟩) (fun _ _ => rfl) (by decide +kernel) (by decide) ?_
  refine R_iload_n e_X0_init_8.2.1 0 rfl ?_
  refine R_new 192 9 5 30 WX0_g e_X0_init_8.2.2.1 ⟨by decide, cL_X0_55⟩ cI_X9 cN_X9 (by decide +kernel) ⟨by decide, by decide, by decide +kernel⟩ ⟨by decide, by decide⟩ ?_
  refine R_dup e_X0_init_8.2.2.2.1 rfl ?_
  refine R_callIN (mc := 5) (ms := 30) (mc' := 0) (ms' := 0) (M' := M_X9_init) (d' := 1) (as := []) (st := [vA G 192, vI 0, vA G 177]) 0 e_X0_init_8.2.2.2.2.1 m_X9_init kn_X0_63 (by decide) (by decide) rfl rfl (by show (3 : Nat) ≤ 8; decide) ?_
  refine Run.mono (I_X9 (kIs_s WX0_g (n := 193) (by decide +kernel) ⟨by decide, by decide, by decide +kernel⟩) (by decide)) (fun r s e => ?_)
  refine R_eqs (st2 := [vA G 192, vI 0, vA G 177]) (σ2 := (iX9 (kmk (kup (iX2 (kmk (kup (iX2 (kmk (kup (iX2 (kmk (kup (iX2 (kmk (kup (iX2 (kmk (kup (iX2 (kmk (kup (iX2 (kmk (kup (iX2 (kmk (kup (iX3 (kmk (kup (iX3 (kmk (kup (iX3 (kmk (kup (iX3 (kmk (kup (iX3 (kmk (kup (iX3 (kmk (kup (kmk (kup (kmk (kup (kmk (kup (kmk (kup (kmk (kup (kup (kup (kup (kup (kup (kup (kup mu45 172 0 0) 172 1 0) 172 2 6) 172 3 0) 172 4 0) 172 5 0) 172 6 0) 172 7 0) 173) 172 8 173) 174) 172 9 174) 175) 172 10 175) 176) 172 11 176) 177) 172 12 177) 178) 178) 175 0 178) 179) 179) 175 1 179) 180) 180) 175 2 180) 181) 181) 175 3 181) 182) 182) 175 4 182) 183) 183) 175 5 183) 184) 184) 176 0 184) 185) 185) 176 1 185) 186) 186) 176 2 186) 187) 187) 176 3 187) 188) 188) 176 4 188) 189) 189) 176 5 189) 190) 190) 176 6 190) 191) 191) 176 7 191) 192) 192)) rfl e ?_
  refine R_astq 29 9 6 WX0_g e_X0_init_8.2.2.2.2.2.1 (by decide) rfl (by decide) (kAr_0 WX0_g (n := 193) (by decide +kernel) ⟨by decide, by decide, by decide +kernel⟩ (by decide)) (kIs_0 WX0_g (n := 193) (by decide +kernel) ⟨by decide, by decide, by decide +kernel⟩) (by decide) (by decide) ?_
  refine R_iinc (ls2 := [(1, vI 1), (0, vA G 172)]) e_X0_init_8.2.2.2.2.2.2.1 0 rfl (by decide) rfl ?_
  refine R_goto 144 e_X0_init_8.2.2.2.2.2.2.2.1 (by decide) ?_
  refine R_iload_n e_X0_init_7.2.2.2.2.2.2.1 0 rfl ?_
  refine R_bipush e_X0_init_7.2.2.2.2.2.2.2.1 (by decide) ?_
  refine R_icmp_ge 169 e_X0_init_7.2.2.2.2.2.2.2.2.1 (by decide) (by decide) (by decide) (fun q => absurd q (by decide)) (fun q => ?_)
  refine R_aload_n e_X0_init_7.2.2.2.2.2.2.2.2.2 1 rfl ?_
  refine R_getA 0 12 177 e_X0_init_8.1 f_X0_57 (kIs_0 WX0_g (n := 193) (by decide +kernel) ⟨by decide, by decide, by decide +kernel⟩) (fun _ _ => rfl) (by decide +kernel) (by decide) ?_
  refine R_iload_n e_X0_init_8.2.1 0 rfl ?_
  refine R_new 193 9 4 24 WX0_g e_X0_init_8.2.2.1 ⟨by decide, cL_X0_55⟩ cI_X9 cN_X9 (by decide +kernel) ⟨by decide, by decide, by decide +kernel⟩ ⟨by decide, by decide⟩ ?_
  refine R_dup e_X0_init_8.2.2.2.1 rfl ?_
  refine R_callIN (mc := 4) (ms := 24) (mc' := 0) (ms' := 0) (M' := M_X9_init) (d' := 1) (as := []) (st := [vA G 193, vI 1, vA G 177]) 0 e_X0_init_8.2.2.2.2.1 m_X9_init kn_X0_63 (by decide) (by decide) rfl rfl (by show (3 : Nat) ≤ 8; decide) ?_
  refine Run.mono (I_X9 (kIs_s WX0_g (n := 194) (by decide +kernel) ⟨by decide, by decide, by decide +kernel⟩) (by decide)) (fun r s e => ?_)
  refine R_eqs (st2 := [vA G 193, vI 1, vA G 177]) (σ2 := (iX9 (kmk (kup (iX9 (kmk (kup (iX2 (kmk (kup (iX2 (kmk (kup (iX2 (kmk (kup (iX2 (kmk (kup (iX2 (kmk (kup (iX2 (kmk (kup (iX2 (kmk (kup (iX2 (kmk (kup (iX3 (kmk (kup (iX3 (kmk (kup (iX3 (kmk (kup (iX3 (kmk (kup (iX3 (kmk (kup (iX3 (kmk (kup (kmk (kup (kmk (kup (kmk (kup (kmk (kup (kmk (kup (kup (kup (kup (kup (kup (kup (kup mu45 172 0 0) 172 1 0) 172 2 6) 172 3 0) 172 4 0) 172 5 0) 172 6 0) 172 7 0) 173) 172 8 173) 174) 172 9 174) 175) 172 10 175) 176) 172 11 176) 177) 172 12 177) 178) 178) 175 0 178) 179) 179) 175 1 179) 180) 180) 175 2 180) 181) 181) 175 3 181) 182) 182) 175 4 182) 183) 183) 175 5 183) 184) 184) 176 0 184) 185) 185) 176 1 185) 186) 186) 176 2 186) 187) 187) 176 3 187) 188) 188) 176 4 188) 189) 189) 176 5 189) 190) 190) 176 6 190) 191) 191) 176 7 191) 192) 192) 177 0 192) 193) 193)) rfl e ?_
  refine R_astq 29 9 6 WX0_g e_X0_init_8.2.2.2.2.2.1 (by decide) rfl (by decide) (kAr_0 WX0_g (n := 194) (by decide +kernel) ⟨by decide, by decide, by decide +kernel⟩ (by decide)) (kIs_0 WX0_g (n := 194) (by decide +kernel) ⟨by decide, by decide, by decide +kernel⟩) (by decide) (by decide) ?_
  refine R_iinc (ls2 := [(1, vI 2), (0, vA G 172)]) e_X0_init_8.2.2.2.2.2.2.1 0 rfl (by decide) rfl ?_
  refine R_goto 144 e_X0_init_8.2.2.2.2.2.2.2.1 (by decide) ?_
  refine R_iload_n e_X0_init_7.2.2.2.2.2.2.1 0 rfl ?_
  refine R_bipush e_X0_init_7.2.2.2.2.2.2.2.1 (by decide) ?_
  refine R_icmp_ge 169 e_X0_init_7.2.2.2.2.2.2.2.2.1 (by decide) (by decide) (by decide) (fun q => absurd q (by decide)) (fun q => ?_)
  refine R_aload_n e_X0_init_7.2.2.2.2.2.2.2.2.2 1 rfl ?_
  refine R_getA 0 12 177 e_X0_init_8.1 f_X0_57 (kIs_0 WX0_g (n := 194) (by decide +kernel) ⟨by decide, by decide, by decide +kernel⟩) (fun _ _ => rfl) (by decide +kernel) (by decide) ?_
  refine R_iload_n e_X0_init_8.2.1 0 rfl ?_
  refine R_new 194 9 3 18 WX0_g e_X0_init_8.2.2.1 ⟨by decide, cL_X0_55⟩ cI_X9 cN_X9 (by decide +kernel) ⟨by decide, by decide, by decide +kernel⟩ ⟨by decide, by decide⟩ ?_
  refine R_dup e_X0_init_8.2.2.2.1 rfl ?_
  refine R_callIN (mc := 3) (ms := 18) (mc' := 0) (ms' := 0) (M' := M_X9_init) (d' := 1) (as := []) (st := [vA G 194, vI 2, vA G 177]) 0 e_X0_init_8.2.2.2.2.1 m_X9_init kn_X0_63 (by decide) (by decide) rfl rfl (by show (3 : Nat) ≤ 8; decide) ?_
  refine Run.mono (I_X9 (kIs_s WX0_g (n := 195) (by decide +kernel) ⟨by decide, by decide, by decide +kernel⟩) (by decide)) (fun r s e => ?_)
  refine R_eqs (st2 := [vA G 194, vI 2, vA G 177]) (σ2 := (iX9 (kmk (kup (iX9 (kmk (kup (iX9 (kmk (kup (iX2 (kmk (kup (iX2 (kmk (kup (iX2 (kmk (kup (iX2 (kmk (kup (iX2 (kmk (kup (iX2 (kmk (kup (iX2 (kmk (kup (iX2 (kmk (kup (iX3 (kmk (kup (iX3 (kmk (kup (iX3 (kmk (kup (iX3 (kmk (kup (iX3 (kmk (kup (iX3 (kmk (kup (kmk (kup (kmk (kup (kmk (kup (kmk (kup (kmk (kup (kup (kup (kup (kup (kup (kup (kup mu45 172 0 0) 172 1 0) 172 2 6) 172 3 0) 172 4 0) 172 5 0) 172 6 0) 172 7 0) 173) 172 8 173) 174) 172 9 174) 175) 172 10 175) 176) 172 11 176) 177) 172 12 177) 178) 178) 175 0 178) 179) 179) 175 1 179) 180) 180) 175 2 180) 181) 181) 175 3 181) 182) 182) 175 4 182) 183) 183) 175 5 183) 184) 184) 176 0 184) 185) 185) 176 1 185) 186) 186) 176 2 186) 187) 187) 176 3 187) 188) 188) 176 4 188) 189) 189) 176 5 189) 190) 190) 176 6 190) 191) 191) 176 7 191) 192) 192) 177 0 192) 193) 193) 177 1 193) 194) 194)) rfl e ?_
  refine R_astq 29 9 6 WX0_g e_X0_init_8.2.2.2.2.2.1 (by decide) rfl (by decide) (kAr_0 WX0_g (n := 195) (by decide +kernel) ⟨by decide, by decide, by decide +kernel⟩ (by decide)) (kIs_0 WX0_g (n := 195) (by decide +kernel) ⟨by decide, by decide, by decide +kernel⟩) (by decide) (by decide) ?_
  refine R_iinc (ls2 := [(1, vI 3), (0, vA G 172)]) e_X0_init_8.2.2.2.2.2.2.1 0 rfl (by decide) rfl ?_
  refine R_goto 144 e_X0_init_8.2.2.2.2.2.2.2.1 (by decide) ?_
  refine R_iload_n e_X0_init_7.2.2.2.2.2.2.1 0 rfl ?_
  refine R_bipush e_X0_init_7.2.2.2.2.2.2.2.1 (by decide) ?_
  refine R_icmp_ge 169 e_X0_init_7.2.2.2.2.2.2.2.2.1 (by decide) (by decide) (by decide) (fun q => absurd q (by decide)) (fun q => ?_)
  refine R_aload_n e_X0_init_7.2.2.2.2.2.2.2.2.2 1 rfl ?_
  refine R_getA 0 12 177 e_X0_init_8.1 f_X0_57 (kIs_0 WX0_g (n := 195) (by decide +kernel) ⟨by decide, by decide, by decide +kernel⟩) (fun _ _ => rfl) (by decide +kernel) (by decide) ?_
  refine R_iload_n e_X0_init_8.2.1 0 rfl ?_
  refine R_new 195 9 2 12 WX0_g e_X0_init_8.2.2.1 ⟨by decide, cL_X0_55⟩ cI_X9 cN_X9 (by decide +kernel) ⟨by decide, by decide, by decide +kernel⟩ ⟨by decide, by decide⟩ ?_
  refine R_dup e_X0_init_8.2.2.2.1 rfl ?_
  refine R_callIN (mc := 2) (ms := 12) (mc' := 0) (ms' := 0) (M' := M_X9_init) (d' := 1) (as := []) (st := [vA G 195, vI 3, vA G 177]) 0 e_X0_init_8.2.2.2.2.1 m_X9_init kn_X0_63 (by decide) (by decide) rfl rfl (by show (3 : Nat) ≤ 8; decide) ?_
  refine Run.mono (I_X9 (kIs_s WX0_g (n := 196) (by decide +kernel) ⟨by decide, by decide, by decide +kernel⟩) (by decide)) (fun r s e => ?_)
  refine R_eqs (st2 := [vA G 195, vI 3, vA G 177]) (σ2 := (iX9 (kmk (kup (iX9 (kmk (kup (iX9 (kmk (kup (iX9 (kmk (kup (iX2 (kmk (kup (iX2 (kmk (kup (iX2 (kmk (kup (iX2 (kmk (kup (iX2 (kmk (kup (iX2 (kmk (kup (iX2 (kmk (kup (iX2 (kmk (kup (iX3 (kmk (kup (iX3 (kmk (kup (iX3 (kmk (kup (iX3 (kmk (kup (iX3 (kmk (kup (iX3 (kmk (kup (kmk (kup (kmk (kup (kmk (kup (kmk (kup (kmk (kup (kup (kup (kup (kup (kup (kup (kup mu45 172 0 0) 172 1 0) 172 2 6) 172 3 0) 172 4 0) 172 5 0) 172 6 0) 172 7 0) 173) 172 8 173) 174) 172 9 174) 175) 172 10 175) 176) 172 11 176) 177) 172 12 177) 178) 178) 175 0 178) 179) 179) 175 1 179) 180) 180) 175 2 180) 181) 181) 175 3 181) 182) 182) 175 4 182) 183) 183) 175 5 183) 184) 184) 176 0 184) 185) 185) 176 1 185) 186) 186) 176 2 186) 187) 187) 176 3 187) 188) 188) 176 4 188) 189) 189) 176 5 189) 190) 190) 176 6 190) 191) 191) 176 7 191) 192) 192) 177 0 192) 193) 193) 177 1 193) 194) 194) 177 2 194) 195) 195)) rfl e ?_
  refine R_astq 29 9 6 WX0_g e_X0_init_8.2.2.2.2.2.1 (by decide) rfl (by decide) (kAr_0 WX0_g (n := 196) (by decide +kernel) ⟨by decide, by decide, by decide +kernel⟩ (by decide)) (kIs_0 WX0_g (n := 196) (by decide +kernel) ⟨by decide, by decide, by decide +kernel⟩) (by decide) (by decide) ?_
  refine R_iinc (ls2 := [(1, vI 4), (0, vA G 172)]) e_X0_init_8.2.2.2.2.2.2.1 0 rfl (by decide) rfl ?_
  refine R_goto 144 e_X0_init_8.2.2.2.2.2.2.2.1 (by decide) ?_
  refine R_iload_n e_X0_init_7.2.2.2.2.2.2.1 0 rfl ?_
  refine R_bipush e_X0_init_7.2.2.2.2.2.2.2.1 (by decide) ?_
  refine R_icmp_ge 169 e_X0_init_7.2.2.2.2.2.2.2.2.1 (by decide) (by decide) (by decide) (fun q => absurd q (by decide)) (fun q => ?_)
  refine R_aload_n e_X0_init_7.2.2.2.2.2.2.2.2.2 1 rfl ?_
  refine R_getA 0 12 177 e_X0_init_8.1 f_X0_57 (kIs_0 WX0_g (n := 196) (by decide +kernel) ⟨by decide, by decide, by decide +kernel⟩) (fun _ _ => rfl) (by decide +kernel) (by decide) ?_
  refine R_iload_n e_X0_init_8.2.1 0 rfl ?_
  refine R_new 196 9 1 6 WX0_g e_X0_init_8.2.2.1 ⟨by decide, cL_X0_55⟩ cI_X9 cN_X9 (by decide +kernel) ⟨by decide, by decide, by decide +kernel⟩ ⟨by decide, by decide⟩ ?_
  refine R_dup e_X0_init_8.2.2.2.1 rfl ?_
  refine R_callIN (mc := 1) (ms := 6) (mc' := 0) (ms' := 0) (M' := M_X9_init) (d' := 1) (as := []) (st := [vA G 196, vI 4, vA G 177]) 0 e_X0_init_8.2.2.2.2.1 m_X9_init kn_X0_63 (by decide) (by decide) rfl rfl (by show (3 : Nat) ≤ 8; decide) ?_
  refine Run.mono (I_X9 (kIs_s WX0_g (n := 197) (by decide +kernel) ⟨by decide, by decide, by decide +kernel⟩) (by decide)) (fun r s e => ?_)
  refine R_eqs (st2 := [vA G 196, vI 4, vA G 177]) (σ2 := (iX9 (kmk (kup (iX9 (kmk (kup (iX9 (kmk (kup (iX9 (kmk (kup (iX9 (kmk (kup (iX2 (kmk (kup (iX2 (kmk (kup (iX2 (kmk (kup (iX2 (kmk (kup (iX2 (kmk (kup (iX2 (kmk (kup (iX2 (kmk (kup (iX2 (kmk (kup (iX3 (kmk (kup (iX3 (kmk (kup (iX3 (kmk (kup (iX3 (kmk (kup (iX3 (kmk (kup (iX3 (kmk (kup (kmk (kup (kmk (kup (kmk (kup (kmk (kup (kmk (kup (kup (kup (kup (kup (kup (kup (kup mu45 172 0 0) 172 1 0) 172 2 6) 172 3 0) 172 4 0) 172 5 0) 172 6 0) 172 7 0) 173) 172 8 173) 174) 172 9 174) 175) 172 10 175) 176) 172 11 176) 177) 172 12 177) 178) 178) 175 0 178) 179) 179) 175 1 179) 180) 180) 175 2 180) 181) 181) 175 3 181) 182) 182) 175 4 182) 183) 183) 175 5 183) 184) 184) 176 0 184) 185) 185) 176 1 185) 186) 186) 176 2 186) 187) 187) 176 3 187) 188) 188) 176 4 188) 189) 189) 176 5 189) 190) 190) 176 6 190) 191) 191) 176 7 191) 192) 192) 177 0 192) 193) 193) 177 1 193) 194) 194) 177 2 194) 195) 195) 177 3 195) 196) 196)) rfl e ?_
  refine R_astq 29 9 6 WX0_g e_X0_init_8.2.2.2.2.2.1 (by decide) rfl (by decide) (kAr_0 WX0_g (n := 197) (by decide +kernel) ⟨by decide, by decide, by decide +kernel⟩ (by decide)) (kIs_0 WX0_g (n := 197) (by decide +kernel) ⟨by decide, by decide, by decide +kernel⟩) (by decide) (by decide) ?_
  refine R_iinc (ls2 := [(1, vI 5), (0, vA G 172)]) e_X0_init_8.2.2.2.2.2.2.1 0 rfl (by decide) rfl ?_
  refine R_goto 144 e_X0_init_8.2.2.2.2.2.2.2.1 (by decide) ?_
  refine R_iload_n e_X0_init_7.2.2.2.2.2.2.1 0 rfl ?_
  refine R_bipush e_X0_init_7.2.2.2.2.2.2.2.1 (by decide) ?_
  refine R_icmp_ge 169 e_X0_init_7.2.2.2.2.2.2.2.2.1 (by decide) (by decide) (by decide) (fun q => absurd q (by decide)) (fun q => ?_)
  refine R_aload_n e_X0_init_7.2.2.2.2.2.2.2.2.2 1 rfl ?_
  refine R_getA 0 12 177 e_X0_init_8.1 f_X0_57 (kIs_0 WX0_g (n := 197) (by decide +kernel) ⟨by decide, by decide, by decide +kernel⟩) (fun _ _ => rfl) (by decide +kernel) (by decide) ?_
  refine R_iload_n e_X0_init_8.2.1 0 rfl ?_
  refine R_new 197 9 0 0 WX0_g e_X0_init_8.2.2.1 ⟨by decide, cL_X0_55⟩ cI_X9 cN_X9 (by decide +kernel) ⟨by decide, by decide, by decide +kernel⟩ ⟨by decide, by decide⟩ ?_
  refine R_dup e_X0_init_8.2.2.2.1 rfl ?_
  refine R_callIN (mc := 0) (ms := 0) (mc' := 0) (ms' := 0) (M' := M_X9_init) (d' := 1) (as := []) (st := [vA G 197, vI 5, vA G 177]) 0 e_X0_init_8.2.2.2.2.1 m_X9_init kn_X0_63 (by decide) (by decide) rfl rfl (by show (3 : Nat) ≤ 8; decide) ?_
  refine Run.mono (I_X9 (kIs_s WX0_g (n := 198) (by decide +kernel) ⟨by decide, by decide, by decide +kernel⟩) (by decide)) (fun r s e => ?_)
  refine R_eqs (st2 := [vA G 197, vI 5, vA G 177]) (σ2 := (iX9 (kmk (kup (iX9 (kmk (kup (iX9 (kmk (kup (iX9 (kmk (kup (iX9 (kmk (kup (iX9 (kmk (kup (iX2 (kmk (kup (iX2 (kmk (kup (iX2 (kmk (kup (iX2 (kmk (kup (iX2 (kmk (kup (iX2 (kmk (kup (iX2 (kmk (kup (iX2 (kmk (kup (iX3 (kmk (kup (iX3 (kmk (kup (iX3 (kmk (kup (iX3 (kmk (kup (iX3 (kmk (kup (iX3 (kmk (kup (kmk (kup (kmk (kup (kmk (kup (kmk (kup (kmk (kup (kup (kup (kup (kup (kup (kup (kup mu45 172 0 0) 172 1 0) 172 2 6) 172 3 0) 172 4 0) 172 5 0) 172 6 0) 172 7 0) 173) 172 8 173) 174) 172 9 174) 175) 172 10 175) 176) 172 11 176) 177) 172 12 177) 178) 178) 175 0 178) 179) 179) 175 1 179) 180) 180) 175 2 180) 181) 181) 175 3 181) 182) 182) 175 4 182) 183) 183) 175 5 183) 184) 184) 176 0 184) 185) 185) 176 1 185) 186) 186) 176 2 186) 187) 187) 176 3 187) 188) 188) 176 4 188) 189) 189) 176 5 189) 190) 190) 176 6 190) 191) 191) 176 7 191) 192) 192) 177 0 192) 193) 193) 177 1 193) 194) 194) 177 2 194) 195) 195) 177 3 195) 196) 196) 177 4 196) 197) 197)) rfl e ?_
  refine R_astq 29 9 6 WX0_g e_X0_init_8.2.2.2.2.2.1 (by decide) rfl (by decide) (kAr_0 WX0_g (n := 198) (by decide +kernel) ⟨by decide, by decide, by decide +kernel⟩ (by decide)) (kIs_0 WX0_g (n := 198) (by decide +kernel) ⟨by decide, by decide, by decide +kernel⟩) (by decide) (by decide) ?_
  refine R_iinc (ls2 := [(1, vI 6), (0, vA G 172)]) e_X0_init_8.2.2.2.2.2.2.1 0 rfl (by decide) rfl ?_
  refine R_goto 144 e_X0_init_8.2.2.2.2.2.2.2.1 (by decide) ?_
  refine R_iload_n e_X0_init_7.2.2.2.2.2.2.1 0 rfl ?_
  refine R_bipush e_X0_init_7.2.2.2.2.2.2.2.1 (by decide) ?_
  refine R_icmp_ge 169 e_X0_init_7.2.2.2.2.2.2.2.2.1 (by decide) (by decide) (by decide) (fun q => ?_) (fun q => absurd q (by decide))
  refine R_aload_n e_X0_init_8.2.2.2.2.2.2.2.2.1 1 rfl ?_
  refine R_callV (mc := 0) (ms := 0) (mc' := 0) (ms' := 0) (M' := M_X0_clear) (d' := 0) (as := []) (st := []) 0 0 e_X0_init_8.2.2.2.2.2.2.2.2.2 (kCVof m_X0_clear l_X0_64) rfl (by decide) (kIs_0 WX0_g (n := 198) (by decide +kernel) ⟨by decide, by decide, by decide +kernel⟩) (by decide) (by decide) rfl rfl (by show (0 : Nat) ≤ 8; decide) ?_
  refine Run.mono I_mu47 (fun r s e => ?_)
  refine R_eqs (st2 := []) (σ2 := mu47) rfl e ?_
  exact R_return e_X0_init_9 rfl rfl
