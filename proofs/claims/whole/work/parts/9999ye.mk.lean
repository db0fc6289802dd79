/-! THE CLASS, MADE (5) -/
def mu49 : Kmem := (kmk (kup mu48 96 2 172) 198)
def mu50 : Kmem := (kup (kup (kmk (kup (kmk (kup (kmk (kup (kmk (kup (kmk (kup (kmk (kup (kup (kup mu49 198 0 0) 198 1 0) 198 2 0) 199) 198 3 199) 200) 198 4 200) 201) 198 5 201) 202) 198 6 202) 203) 198 7 203) 204) 198 8 204) 198 9 0)
theorem I_mu50 {G : Kg} : Run G WX0 M_X7_init 1 6 303 [vA G 198] mu49 (fun _ s => s = mu50) := by
  refine Run.of (by decide +kernel) (by show (1 : Nat) ≤ 1; decide) ?_
  show Ex G WX0 M_X7_init 1 6 303 0 [(0, vA G 198)] [] mu49 _
  refine R_aload_n e_X7_init_0.1 0 rfl ?_
  refine R_obj e_X7_init_0.2.1 oL_X7_3 oI_1 oI_2 (by decide) (by decide) ?_
  refine R_aload_n e_X7_init_0.2.2.1 0 rfl ?_
  refine R_iconst e_X7_init_0.2.2.2.1 ?_
  refine R_putZ 7 0 0 WX0_ok e_X7_init_0.2.2.2.2.1 f_X7_9 (kIs_0 WX0_g (n := 199) (by decide +kernel) ⟨by decide, by decide, by decide +kernel⟩) rfl rfl rfl (Or.inl rfl) ?_
  refine R_aload_n e_X7_init_0.2.2.2.2.2.1 0 rfl ?_
  refine R_iconst e_X7_init_0.2.2.2.2.2.2.1 ?_
  refine R_putI 7 1 1 WX0_ok e_X7_init_0.2.2.2.2.2.2.2.1 f_X7_15 (kIs_0 WX0_g (n := 199) (by decide +kernel) ⟨by decide, by decide, by decide +kernel⟩) rfl rfl rfl ?_
  refine R_aload_n e_X7_init_0.2.2.2.2.2.2.2.2.1 0 rfl ?_
  refine R_iconst e_X7_init_0.2.2.2.2.2.2.2.2.2 ?_
  refine R_putI 7 2 2 WX0_ok e_X7_init_1.1 f_X7_19 (kIs_0 WX0_g (n := 199) (by decide +kernel) ⟨by decide, by decide, by decide +kernel⟩) rfl rfl rfl ?_
  refine R_aload_n e_X7_init_1.2.1 0 rfl ?_
  refine R_bipush e_X7_init_1.2.2.1 (by decide) ?_
  refine R_newarr 199 20 60 5 243 WX0_g e_X7_init_1.2.2.2.1 rfl (by decide) aC_int (by decide +kernel) ⟨by decide, by decide, by decide +kernel⟩ (by decide) ⟨by decide, by decide⟩ ?_
  refine R_putA 7 3 3 e_X7_init_1.2.2.2.2.1 f_X7_22 (kIs_0 WX0_g (n := 200) (by decide +kernel) ⟨by decide, by decide, by decide +kernel⟩) (Or.inr ⟨rfl, rfl, rfl⟩) rfl (puts0 WX0_g (by decide) (by decide)) rfl ?_
  refine R_aload_n e_X7_init_1.2.2.2.2.2.1 0 rfl ?_
  refine R_bipush e_X7_init_1.2.2.2.2.2.2.1 (by decide) ?_
  refine R_newarr 200 20 60 4 183 WX0_g e_X7_init_1.2.2.2.2.2.2.2.1 rfl (by decide) aC_int (by decide +kernel) ⟨by decide, by decide, by decide +kernel⟩ (by decide) ⟨by decide, by decide⟩ ?_
  refine R_putA 7 4 4 e_X7_init_1.2.2.2.2.2.2.2.2.1 f_X7_26 (kIs_0 WX0_g (n := 201) (by decide +kernel) ⟨by decide, by decide, by decide +kernel⟩) (Or.inr ⟨rfl, rfl, rfl⟩) rfl (puts0 WX0_g (by decide) (by decide)) rfl ?_
  refine R_aload_n e_X7_init_1.2.2.2.2.2.2.2.2.2 0 rfl ?_
  refine R_bipush e_X7_init_2.1 (by decide) ?_
  refine R_newarr 201 20 60 3 123 WX0_g e_X7_init_2.2.1 rfl (by decide) aC_int (by decide +kernel) ⟨by decide, by decide, by decide +kernel⟩ (by decide) ⟨by decide, by decide⟩ ?_
  refine R_putA 7 5 5 e_X7_init_2.2.2.1 f_X7_29 (kIs_0 WX0_g (n := 202) (by decide +kernel) ⟨by decide, by decide, by decide +kernel⟩) (Or.inr ⟨rfl, rfl, rfl⟩) rfl (puts0 WX0_g (by decide) (by decide)) rfl ?_
  refine R_aload_n e_X7_init_2.2.2.2.1 0 rfl ?_
  refine R_bipush e_X7_init_2.2.2.2.2.1 (by decide) ?_
  refine R_newarr 202 20 60 2 63 WX0_g e_X7_init_2.2.2.2.2.2.1 rfl (by decide) aC_int (by decide +kernel) ⟨by decide, by decide, by decide +kernel⟩ (by decide) ⟨by decide, by decide⟩ ?_
  refine R_putA 7 6 6 e_X7_init_2.2.2.2.2.2.2.1 f_X7_32 (kIs_0 WX0_g (n := 203) (by decide +kernel) ⟨by decide, by decide, by decide +kernel⟩) (Or.inr ⟨rfl, rfl, rfl⟩) rfl (puts0 WX0_g (by decide) (by decide)) rfl ?_
  refine R_aload_n e_X7_init_2.2.2.2.2.2.2.2.1 0 rfl ?_
  refine R_bipush e_X7_init_2.2.2.2.2.2.2.2.2.1 (by decide) ?_
  refine R_newarr 203 20 60 1 3 WX0_g e_X7_init_2.2.2.2.2.2.2.2.2.2 rfl (by decide) aC_int (by decide +kernel) ⟨by decide, by decide, by decide +kernel⟩ (by decide) ⟨by decide, by decide⟩ ?_
  refine R_putA 7 7 7 e_X7_init_3.1 f_X7_35 (kIs_0 WX0_g (n := 204) (by decide +kernel) ⟨by decide, by decide, by decide +kernel⟩) (Or.inr ⟨rfl, rfl, rfl⟩) rfl (puts0 WX0_g (by decide) (by decide)) rfl ?_
  refine R_aload_n e_X7_init_3.2.1 0 rfl ?_
  refine R_iconst e_X7_init_3.2.2.1 ?_
  refine R_newarr 204 20 3 0 0 WX0_g e_X7_init_3.2.2.2.1 rfl (by decide) aC_int (by decide +kernel) ⟨by decide, by decide, by decide +kernel⟩ (by decide) ⟨by decide, by decide⟩ ?_
  refine R_putA 7 8 8 e_X7_init_3.2.2.2.2.1 f_X7_38 (kIs_0 WX0_g (n := 205) (by decide +kernel) ⟨by decide, by decide, by decide +kernel⟩) (Or.inr ⟨rfl, rfl, rfl⟩) rfl (puts0 WX0_g (by decide) (by decide)) rfl ?_
  refine R_aload_n e_X7_init_3.2.2.2.2.2.1 0 rfl ?_
  refine R_iconst e_X7_init_3.2.2.2.2.2.2.1 ?_
  refine R_putI 7 9 9 WX0_ok e_X7_init_3.2.2.2.2.2.2.2.1 f_X7_41 (kIs_0 WX0_g (n := 205) (by decide +kernel) ⟨by decide, by decide, by decide +kernel⟩) rfl rfl rfl ?_
  exact R_return e_X7_init_3.2.2.2.2.2.2.2.2 rfl rfl
def mu51 : Kmem := (kup mu50 97 2 198)
theorem I_mu51 {G : Kg} : Run G WX0 M_X11_init 3 204 5142 [vA G 0] mu0 (fun _ s => s = mu51) := by
  refine Run.of (by decide +kernel) (by show (1 : Nat) ≤ 2; decide) ?_
  show Ex G WX0 M_X11_init 3 204 5142 0 [(0, vA G 0)] [] mu0 _
  refine R_aload_n e_X11_init_0.1 0 rfl ?_
  refine R_obj e_X11_init_0.2.1 oL_X11_1 oI_1 oI_2 (by decide) (by decide) ?_
  refine R_aload_n e_X11_init_0.2.2.1 0 rfl ?_
  refine R_iconst e_X11_init_0.2.2.2.1 ?_
  refine R_putI 11 0 0 WX0_ok e_X11_init_0.2.2.2.2.1 f_X11_9 (kIs_0 WX0_g (n := 1) (by decide +kernel) ⟨by decide, by decide, by decide +kernel⟩) rfl rfl rfl ?_
  refine R_aload_n e_X11_init_0.2.2.2.2.2.1 0 rfl ?_
  refine R_lconst 0 e_X11_init_0.2.2.2.2.2.2.1 (by decide) ?_
  refine R_putL 11 1 1 WX0_ok e_X11_init_0.2.2.2.2.2.2.2.1 f_X11_13 (kIs_0 WX0_g (n := 1) (by decide +kernel) ⟨by decide, by decide, by decide +kernel⟩) rfl rfl rfl ?_
  refine R_aload_n e_X11_init_0.2.2.2.2.2.2.2.2.1 0 rfl ?_
  refine R_lconst 1 e_X11_init_0.2.2.2.2.2.2.2.2.2 (by decide) ?_
  refine R_putL 11 2 2 WX0_ok e_X11_init_1.1 f_X11_17 (kIs_0 WX0_g (n := 1) (by decide +kernel) ⟨by decide, by decide, by decide +kernel⟩) rfl rfl rfl ?_
  refine R_aload_n e_X11_init_1.2.1 0 rfl ?_
  refine R_iconst e_X11_init_1.2.2.1 ?_
  refine R_newq (C := RX10) 1 24 4 203 5138 WX0_g e_X11_init_1.2.2.2.1 (by decide) rfl cL_X11_20 aO_X10 (by decide +kernel) ⟨by decide, by decide, by decide +kernel⟩ (by decide) ⟨by decide, by decide⟩ ?_
  refine R_putA 11 3 3 e_X11_init_1.2.2.2.2.1 f_X11_22 (kIs_0 WX0_g (n := 2) (by decide +kernel) ⟨by decide, by decide, by decide +kernel⟩) (Or.inr ⟨rfl, rfl, rfl⟩) rfl (puts0 WX0_g (by decide) (by decide)) rfl ?_
  refine R_aload_n e_X11_init_1.2.2.2.2.2.1 0 rfl ?_
  refine R_sipush e_X11_init_1.2.2.2.2.2.2.1 (by decide) ?_
  refine R_newarr 2 22 900 202 4238 WX0_g e_X11_init_1.2.2.2.2.2.2.2.1 rfl (by decide) aC_byte (by decide +kernel) ⟨by decide, by decide, by decide +kernel⟩ (by decide) ⟨by decide, by decide⟩ ?_
  refine R_putA 11 4 4 e_X11_init_1.2.2.2.2.2.2.2.2.1 f_X11_26 (kIs_0 WX0_g (n := 3) (by decide +kernel) ⟨by decide, by decide, by decide +kernel⟩) (Or.inr ⟨rfl, rfl, rfl⟩) rfl (puts0 WX0_g (by decide) (by decide)) rfl ?_
  refine R_aload_n e_X11_init_1.2.2.2.2.2.2.2.2.2 0 rfl ?_
  refine R_iconst e_X11_init_2.1 ?_
  refine R_putI 11 5 5 WX0_ok e_X11_init_2.2.1 f_X11_30 (kIs_0 WX0_g (n := 3) (by decide +kernel) ⟨by decide, by decide, by decide +kernel⟩) rfl rfl rfl ?_
  refine R_aload_n e_X11_init_2.2.2.1 0 rfl ?_
  refine R_new 3 6 201 4228 WX0_g e_X11_init_2.2.2.2.1 ⟨by decide, cL_X11_33⟩ cI_X6 cN_X6 (by decide +kernel) ⟨by decide, by decide, by decide +kernel⟩ ⟨by decide, by decide⟩ ?_
  refine R_dup e_X11_init_2.2.2.2.2.1 rfl ?_
  refine R_callIN (mc := 200) (ms := 3328) (mc' := 1) (ms' := 900) (M' := M_X6_init) (d' := 1) (as := []) (st := [vA G 3, vA G 0]) 0 e_X11_init_2.2.2.2.2.2.1 m_X6_init kn_X11_35 (by decide) (by decide) rfl rfl (by show (2 : Nat) ≤ 8; decide) ?_
  refine Run.mono I_mu2 (fun r s e => ?_)
  refine R_eqs (st2 := [vA G 3, vA G 0]) (σ2 := mu2) rfl e ?_
  refine R_putA 11 6 6 e_X11_init_2.2.2.2.2.2.2.1 f_X11_36 (kIs_0 WX0_g (n := 5) (by decide +kernel) ⟨by decide, by decide, by decide +kernel⟩) (Or.inr ⟨rfl, rfl, rfl⟩) rfl (puts0 WX0_g (by decide) (by decide)) rfl ?_
  refine R_aload_n e_X11_init_2.2.2.2.2.2.2.2.1 0 rfl ?_
  refine R_new 5 0 199 3315 WX0_g e_X11_init_2.2.2.2.2.2.2.2.2.1 ⟨by decide, cL_X11_40⟩ cI_X0 cN_X0 (by decide +kernel) ⟨by decide, by decide, by decide +kernel⟩ ⟨by decide, by decide⟩ ?_
  refine R_dup e_X11_init_2.2.2.2.2.2.2.2.2.2 rfl ?_
  refine R_callI (mc := 174) (ms := 3135) (mc' := 25) (ms' := 180) (M' := M_X0_init) (d' := 2) (as := []) (st := [vA G 5, vA G 0]) 0 e_X11_init_3.1 (kCIof m_X0_init l_X11_42) (by decide) (by decide) rfl rfl (by show (2 : Nat) ≤ 8; decide) ?_
  refine Run.mono I_mu6 (fun r s e => ?_)
  refine R_eqs (st2 := [vA G 5, vA G 0]) (σ2 := mu6) rfl e ?_
  refine R_putA 11 7 7 e_X11_init_3.2.1 f_X11_43 (kIs_0 WX0_g (n := 31) (by decide +kernel) ⟨by decide, by decide, by decide +kernel⟩) (Or.inr ⟨rfl, rfl, rfl⟩) rfl (puts0 WX0_g (by decide) (by decide)) rfl ?_
  refine R_aload_n e_X11_init_3.2.2.1 0 rfl ?_
  refine R_new 31 0 173 3122 WX0_g e_X11_init_3.2.2.2.1 ⟨by decide, cL_X11_40⟩ cI_X0 cN_X0 (by decide +kernel) ⟨by decide, by decide, by decide +kernel⟩ ⟨by decide, by decide⟩ ?_
  refine R_dup e_X11_init_3.2.2.2.2.1 rfl ?_
  refine R_callI (mc := 148) (ms := 2942) (mc' := 25) (ms' := 180) (M' := M_X0_init) (d' := 2) (as := []) (st := [vA G 31, vA G 0]) 0 e_X11_init_3.2.2.2.2.2.1 (kCIof m_X0_init l_X11_42) (by decide) (by decide) rfl rfl (by show (2 : Nat) ≤ 8; decide) ?_
  refine Run.mono I_mu10 (fun r s e => ?_)
  refine R_eqs (st2 := [vA G 31, vA G 0]) (σ2 := mu10) rfl e ?_
  refine R_putA 11 8 8 e_X11_init_3.2.2.2.2.2.2.1 f_X11_47 (kIs_0 WX0_g (n := 57) (by decide +kernel) ⟨by decide, by decide, by decide +kernel⟩) (Or.inr ⟨rfl, rfl, rfl⟩) rfl (puts0 WX0_g (by decide) (by decide)) rfl ?_
  refine R_aload_n e_X11_init_3.2.2.2.2.2.2.2.1 0 rfl ?_
  refine R_new 57 1 147 2935 WX0_g e_X11_init_3.2.2.2.2.2.2.2.2.1 ⟨by decide, cL_X11_50⟩ cI_X1 cN_X1 (by decide +kernel) ⟨by decide, by decide, by decide +kernel⟩ ⟨by decide, by decide⟩ ?_
  refine R_dup e_X11_init_3.2.2.2.2.2.2.2.2.2 rfl ?_
  refine R_aload_n e_X11_init_4.1 0 rfl ?_
  refine R_getA 11 6 3 e_X11_init_4.2.1 f_X11_36 (kIs_0 WX0_g (n := 58) (by decide +kernel) ⟨by decide, by decide, by decide +kernel⟩) (fun _ _ => rfl) (by decide +kernel) (by decide) ?_
  refine R_aload_n e_X11_init_4.2.2.1 0 rfl ?_
  refine R_getA 11 8 31 e_X11_init_4.2.2.2.1 f_X11_47 (kIs_0 WX0_g (n := 58) (by decide +kernel) ⟨by decide, by decide, by decide +kernel⟩) (fun _ _ => rfl) (by decide +kernel) (by decide) ?_
  refine R_callI (mc := 147) (ms := 2935) (mc' := 0) (ms' := 0) (M' := M_X1_init) (d' := 1) (as := [vA G 3, vA G 31]) (st := [vA G 57, vA G 0]) 2 e_X11_init_4.2.2.2.2.1 (kCIof m_X1_init l_X11_52) (by decide) (by decide) rfl rfl (by show (2 : Nat) ≤ 8; decide) ?_
  refine Run.mono I_mu12 (fun r s e => ?_)
  refine R_eqs (st2 := [vA G 57, vA G 0]) (σ2 := mu12) rfl e ?_
  refine R_putA 11 9 9 e_X11_init_4.2.2.2.2.2.1 f_X11_55 (kIs_0 WX0_g (n := 58) (by decide +kernel) ⟨by decide, by decide, by decide +kernel⟩) (Or.inr ⟨rfl, rfl, rfl⟩) rfl (puts0 WX0_g (by decide) (by decide)) rfl ?_
  refine R_aload_n e_X11_init_4.2.2.2.2.2.2.1 0 rfl ?_
  refine R_new 58 8 146 2928 WX0_g e_X11_init_4.2.2.2.2.2.2.2.1 ⟨by decide, cL_X11_59⟩ cI_X8 cN_X8 (by decide +kernel) ⟨by decide, by decide, by decide +kernel⟩ ⟨by decide, by decide⟩ ?_
  refine R_dup e_X11_init_4.2.2.2.2.2.2.2.2.1 rfl ?_
  refine R_aload_n e_X11_init_4.2.2.2.2.2.2.2.2.2 0 rfl ?_
  refine R_getA 11 7 5 e_X11_init_5.1 f_X11_43 (kIs_0 WX0_g (n := 59) (by decide +kernel) ⟨by decide, by decide, by decide +kernel⟩) (fun _ _ => rfl) (by decide +kernel) (by decide) ?_
  refine R_callI (mc := 141) (ms := 2784) (mc' := 5) (ms' := 144) (M' := M_X8_init) (d' := 1) (as := [vA G 5]) (st := [vA G 58, vA G 0]) 1 e_X11_init_5.2.1 (kCIof m_X8_init l_X11_61) (by decide) (by decide) rfl rfl (by show (2 : Nat) ≤ 8; decide) ?_
  refine Run.mono I_mu14 (fun r s e => ?_)
  refine R_eqs (st2 := [vA G 58, vA G 0]) (σ2 := mu14) rfl e ?_
  refine R_putA 11 10 10 e_X11_init_5.2.2.1 f_X11_64 (kIs_0 WX0_g (n := 64) (by decide +kernel) ⟨by decide, by decide, by decide +kernel⟩) (Or.inr ⟨rfl, rfl, rfl⟩) rfl (puts0 WX0_g (by decide) (by decide)) rfl ?_
  refine R_aload_n e_X11_init_5.2.2.2.1 0 rfl ?_
  refine R_new 64 7 140 2774 WX0_g e_X11_init_5.2.2.2.2.1 ⟨by decide, cL_X11_68⟩ cI_X7 cN_X7 (by decide +kernel) ⟨by decide, by decide, by decide +kernel⟩ ⟨by decide, by decide⟩ ?_
  refine R_dup e_X11_init_5.2.2.2.2.2.1 rfl ?_
  refine R_callIN (mc := 134) (ms := 2471) (mc' := 6) (ms' := 303) (M' := M_X7_init) (d' := 1) (as := []) (st := [vA G 64, vA G 0]) 0 e_X11_init_5.2.2.2.2.2.2.1 m_X7_init kn_X11_70 (by decide) (by decide) rfl rfl (by show (2 : Nat) ≤ 8; decide) ?_
  refine Run.mono I_mu16 (fun r s e => ?_)
  refine R_eqs (st2 := [vA G 64, vA G 0]) (σ2 := mu16) rfl e ?_
  refine R_putA 11 11 11 e_X11_init_5.2.2.2.2.2.2.2.1 f_X11_71 (kIs_0 WX0_g (n := 71) (by decide +kernel) ⟨by decide, by decide, by decide +kernel⟩) (Or.inr ⟨rfl, rfl, rfl⟩) rfl (puts0 WX0_g (by decide) (by decide)) rfl ?_
  refine R_aload_n e_X11_init_5.2.2.2.2.2.2.2.2.1 0 rfl ?_
  refine R_new 71 7 133 2461 WX0_g e_X11_init_5.2.2.2.2.2.2.2.2.2 ⟨by decide, cL_X11_68⟩ cI_X7 cN_X7 (by decide +kernel) ⟨by decide, by decide, by decide +kernel⟩ ⟨by decide, by decide⟩ ?_
  refine R_dup e_X11_init_6.1 rfl ?_
  refine R_callIN (mc := 127) (ms := 2158) (mc' := 6) (ms' := 303) (M' := M_X7_init) (d' := 1) (as := []) (st := [vA G 71, vA G 0]) 0 e_X11_init_6.2.1 m_X7_init kn_X11_70 (by decide) (by decide) rfl rfl (by show (2 : Nat) ≤ 8; decide) ?_
  refine Run.mono I_mu18 (fun r s e => ?_)
  refine R_eqs (st2 := [vA G 71, vA G 0]) (σ2 := mu18) rfl e ?_
  refine R_putA 11 12 12 e_X11_init_6.2.2.1 f_X11_75 (kIs_0 WX0_g (n := 78) (by decide +kernel) ⟨by decide, by decide, by decide +kernel⟩) (Or.inr ⟨rfl, rfl, rfl⟩) rfl (puts0 WX0_g (by decide) (by decide)) rfl ?_
  refine R_aload_n e_X11_init_6.2.2.2.1 0 rfl ?_
  refine R_new 78 4 126 2149 WX0_g e_X11_init_6.2.2.2.2.1 ⟨by decide, cL_X11_78⟩ cI_X4 cN_X4 (by decide +kernel) ⟨by decide, by decide, by decide +kernel⟩ ⟨by decide, by decide⟩ ?_
  refine R_dup e_X11_init_6.2.2.2.2.2.1 rfl ?_
  refine R_callIN (mc := 125) (ms := 2089) (mc' := 1) (ms' := 60) (M' := M_X4_init) (d' := 1) (as := []) (st := [vA G 78, vA G 0]) 0 e_X11_init_6.2.2.2.2.2.2.1 m_X4_init kn_X11_80 (by decide) (by decide) rfl rfl (by show (2 : Nat) ≤ 8; decide) ?_
  refine Run.mono I_mu20 (fun r s e => ?_)
  refine R_eqs (st2 := [vA G 78, vA G 0]) (σ2 := mu20) rfl e ?_
  refine R_putA 11 13 13 e_X11_init_6.2.2.2.2.2.2.2.1 f_X11_81 (kIs_0 WX0_g (n := 80) (by decide +kernel) ⟨by decide, by decide, by decide +kernel⟩) (Or.inr ⟨rfl, rfl, rfl⟩) rfl (puts0 WX0_g (by decide) (by decide)) rfl ?_
  refine R_aload_n e_X11_init_6.2.2.2.2.2.2.2.2.1 0 rfl ?_
  refine R_new 80 4 124 2080 WX0_g e_X11_init_6.2.2.2.2.2.2.2.2.2 ⟨by decide, cL_X11_78⟩ cI_X4 cN_X4 (by decide +kernel) ⟨by decide, by decide, by decide +kernel⟩ ⟨by decide, by decide⟩ ?_
  refine R_dup e_X11_init_7.1 rfl ?_
  refine R_callIN (mc := 123) (ms := 2020) (mc' := 1) (ms' := 60) (M' := M_X4_init) (d' := 1) (as := []) (st := [vA G 80, vA G 0]) 0 e_X11_init_7.2.1 m_X4_init kn_X11_80 (by decide) (by decide) rfl rfl (by show (2 : Nat) ≤ 8; decide) ?_
  refine Run.mono I_mu22 (fun r s e => ?_)
  refine R_eqs (st2 := [vA G 80, vA G 0]) (σ2 := mu22) rfl e ?_
  refine R_putA 11 14 14 e_X11_init_7.2.2.1 f_X11_85 (kIs_0 WX0_g (n := 82) (by decide +kernel) ⟨by decide, by decide, by decide +kernel⟩) (Or.inr ⟨rfl, rfl, rfl⟩) rfl (puts0 WX0_g (by decide) (by decide)) rfl ?_
  refine R_aload_n e_X11_init_7.2.2.2.1 0 rfl ?_
  refine R_new 82 5 122 2002 WX0_g e_X11_init_7.2.2.2.2.1 ⟨by decide, cL_X11_88⟩ cI_X5 cN_X5 (by decide +kernel) ⟨by decide, by decide, by decide +kernel⟩ ⟨by decide, by decide⟩ ?_
  refine R_dup e_X11_init_7.2.2.2.2.2.1 rfl ?_
  refine R_aload_n e_X11_init_7.2.2.2.2.2.2.1 0 rfl ?_
  refine R_getA 11 8 31 e_X11_init_7.2.2.2.2.2.2.2.1 f_X11_47 (kIs_0 WX0_g (n := 83) (by decide +kernel) ⟨by decide, by decide, by decide +kernel⟩) (fun _ _ => rfl) (by decide +kernel) (by decide) ?_
  refine R_aload_n e_X11_init_7.2.2.2.2.2.2.2.2.1 0 rfl ?_
  refine R_getA 11 10 58 e_X11_init_7.2.2.2.2.2.2.2.2.2 f_X11_64 (kIs_0 WX0_g (n := 83) (by decide +kernel) ⟨by decide, by decide, by decide +kernel⟩) (fun _ _ => rfl) (by decide +kernel) (by decide) ?_
  refine R_callI (mc := 109) (ms := 1780) (mc' := 13) (ms' := 222) (M' := M_X5_init) (d' := 1) (as := [vA G 31, vA G 58]) (st := [vA G 82, vA G 0]) 2 e_X11_init_8.1 (kCIof m_X5_init l_X11_90) (by decide) (by decide) rfl rfl (by show (2 : Nat) ≤ 8; decide) ?_
  refine Run.mono I_mu24 (fun r s e => ?_)
  refine R_eqs (st2 := [vA G 82, vA G 0]) (σ2 := mu24) rfl e ?_
  refine R_putA 11 15 15 e_X11_init_8.2.1 f_X11_93 (kIs_0 WX0_g (n := 96) (by decide +kernel) ⟨by decide, by decide, by decide +kernel⟩) (Or.inr ⟨rfl, rfl, rfl⟩) rfl (puts0 WX0_g (by decide) (by decide)) rfl ?_
  refine R_aload_n e_X11_init_8.2.2.1 0 rfl ?_
  refine R_iconst e_X11_init_8.2.2.2.1 ?_
  refine R_newq (C := RX0) 96 25 3 108 1777 WX0_g e_X11_init_8.2.2.2.2.1 (by decide) rfl cL_X11_40 aO_X0 (by decide +kernel) ⟨by decide, by decide, by decide +kernel⟩ (by decide) ⟨by decide, by decide⟩ ?_
  refine R_putA 11 16 16 e_X11_init_8.2.2.2.2.2.1 f_X11_97 (kIs_0 WX0_g (n := 97) (by decide +kernel) ⟨by decide, by decide, by decide +kernel⟩) (Or.inr ⟨rfl, rfl, rfl⟩) rfl (puts0 WX0_g (by decide) (by decide)) rfl ?_
  refine R_aload_n e_X11_init_8.2.2.2.2.2.2.1 0 rfl ?_
  refine R_iconst e_X11_init_8.2.2.2.2.2.2.2.1 ?_
  refine R_newq (C := RX7) 97 26 3 107 1774 WX0_g e_X11_init_8.2.2.2.2.2.2.2.2.1 (by decide) rfl cL_X11_68 aO_X7 (by decide +kernel) ⟨by decide, by decide, by decide +kernel⟩ (by decide) ⟨by decide, by decide⟩ ?_
  refine R_putA 11 17 17 e_X11_init_8.2.2.2.2.2.2.2.2.2 f_X11_101 (kIs_0 WX0_g (n := 98) (by decide +kernel) ⟨by decide, by decide, by decide +kernel⟩) (Or.inr ⟨rfl, rfl, rfl⟩) rfl (puts0 WX0_g (by decide) (by decide)) rfl ?_
  refine R_aload_n e_X11_init_9.1 0 rfl ?_
  refine R_iconst e_X11_init_9.2.1 ?_
  refine R_putI 11 18 18 WX0_ok e_X11_init_9.2.2.1 f_X11_105 (kIs_0 WX0_g (n := 98) (by decide +kernel) ⟨by decide, by decide, by decide +kernel⟩) rfl rfl rfl ?_
  refine R_iconst e_X11_init_9.2.2.2.1 ?_
  refine R_istore_n (ls2 := [(1, vI 0), (0, vA G 0)]) e_X11_init_9.2.2.2.2.1 (by decide) rfl ?_
  refine R_iload_n e_X11_init_9.2.2.2.2.2.1 0 rfl ?_
  refine R_iconst e_X11_init_9.2.2.2.2.2.2.1 ?_
  refine R_icmp_ge 218 e_X11_init_9.2.2.2.2.2.2.2.1 (by decide) (by decide) (by decide) (fun q => absurd q (by decide)) (fun q => ?_)
  refine R_aload_n e_X11_init_9.2.2.2.2.2.2.2.2.1 1 rfl ?_
  refine R_getA 11 3 1 e_X11_init_9.2.2.2.2.2.2.2.2.2 f_X11_22 (kIs_0 WX0_g (n := 98) (by decide +kernel) ⟨by decide, by decide, by decide +kernel⟩) (fun _ _ => rfl) (by decide +kernel) (by decide) ?_
  refine R_iload_n e_X11_init_10.1 0 rfl ?_
  refine R_new 98 10 106 1770 WX0_g e_X11_init_10.2.1 ⟨by decide, cL_X11_20⟩ cI_X10 cN_X10 (by decide +kernel) ⟨by decide, by decide, by decide +kernel⟩ ⟨by decide, by decide⟩ ?_
  refine R_dup e_X11_init_10.2.2.1 rfl ?_
  refine R_callIN (mc := 105) (ms := 1710) (mc' := 1) (ms' := 60) (M' := M_X10_init) (d' := 1) (as := []) (st := [vA G 98, vI 0, vA G 1]) 0 e_X11_init_10.2.2.2.1 m_X10_init kn_X11_108 (by decide) (by decide) rfl rfl (by show (3 : Nat) ≤ 8; decide) ?_
  refine Run.mono I_mu26 (fun r s e => ?_)
  refine R_eqs (st2 := [vA G 98, vI 0, vA G 1]) (σ2 := mu26) rfl e ?_
  refine R_astq 24 10 4 WX0_g e_X11_init_10.2.2.2.2.1 (by decide) rfl (by decide) (kAr_0 WX0_g (n := 100) (by decide +kernel) ⟨by decide, by decide, by decide +kernel⟩ (by decide)) (kIs_0 WX0_g (n := 100) (by decide +kernel) ⟨by decide, by decide, by decide +kernel⟩) (by decide) (by decide) ?_
  refine R_iinc (ls2 := [(1, vI 1), (0, vA G 0)]) e_X11_init_10.2.2.2.2.2.1 0 rfl (by decide) rfl ?_
  refine R_goto 194 e_X11_init_10.2.2.2.2.2.2.1 (by decide) ?_
  refine R_iload_n e_X11_init_9.2.2.2.2.2.1 0 rfl ?_
  refine R_iconst e_X11_init_9.2.2.2.2.2.2.1 ?_
  refine R_icmp_ge 218 e_X11_init_9.2.2.2.2.2.2.2.1 (by decide) (by decide) (by decide) (fun q => absurd q (by decide)) (fun q => ?_)
  refine R_aload_n e_X11_init_9.2.2.2.2.2.2.2.2.1 1 rfl ?_
  refine R_getA 11 3 1 e_X11_init_9.2.2.2.2.2.2.2.2.2 f_X11_22 (kIs_0 WX0_g (n := 100) (by decide +kernel) ⟨by decide, by decide, by decide +kernel⟩) (fun _ _ => rfl) (by decide +kernel) (by decide) ?_
  refine R_iload_n e_X11_init_10.1 0 rfl ?_
  refine R_new 100 10 104 1706 WX0_g e_X11_init_10.2.1 ⟨by decide, cL_X11_20⟩ cI_X10 cN_X10 (by decide +kernel) ⟨by decide, by decide, by decide +kernel⟩ ⟨by decide, by decide⟩ ?_
  refine R_dup e_X11_init_10.2.2.1 rfl ?_
  refine R_callIN (mc := 103) (ms := 1646) (mc' := 1) (ms' := 60) (M' := M_X10_init) (d' := 1) (as := []) (st := [vA G 100, vI 1, vA G 1]) 0 e_X11_init_10.2.2.2.1 m_X10_init kn_X11_108 (by decide) (by decide) rfl rfl (by show (3 : Nat) ≤ 8; decide) ?_
  refine Run.mono I_mu28 (fun r s e => ?_)
  refine R_eqs (st2 := [vA G 100, vI 1, vA G 1]) (σ2 := mu28) rfl e ?_
  refine R_astq 24 10 4 WX0_g e_X11_init_10.2.2.2.2.1 (by decide) rfl (by decide) (kAr_0 WX0_g (n := 102) (by decide +kernel) ⟨by decide, by decide, by decide +kernel⟩ (by decide)) (kIs_0 WX0_g (n := 102) (by decide +kernel) ⟨by decide, by decide, by decide +kernel⟩) (by decide) (by decide) ?_
  refine R_iinc (ls2 := [(1, vI 2), (0, vA G 0)]) e_X11_init_10.2.2.2.2.2.1 0 rfl (by decide) rfl ?_
  refine R_goto 194 e_X11_init_10.2.2.2.2.2.2.1 (by decide) ?_
  refine R_iload_n e_X11_init_9.2.2.2.2.2.1 0 rfl ?_
  refine R_iconst e_X11_init_9.2.2.2.2.2.2.1 ?_
  refine R_icmp_ge 218 e_X11_init_9.2.2.2.2.2.2.2.1 (by decide) (by decide) (by decide) (fun q => absurd q (by decide)) (fun q => ?_)
  refine R_aload_n e_X11_init_9.2.2.2.2.2.2.2.2.1 1 rfl ?_
  refine R_getA 11 3 1 e_X11_init_9.2.2.2.2.2.2.2.2.2 f_X11_22 (kIs_0 WX0_g (n := 102) (by decide +kernel) ⟨by decide, by decide, by decide +kernel⟩) (fun _ _ => rfl) (by decide +kernel) (by decide) ?_
  refine R_iload_n e_X11_init_10.1 0 rfl ?_
  refine R_new 102 10 102 1642 WX0_g e_X11_init_10.2.1 ⟨by decide, cL_X11_20⟩ cI_X10 cN_X10 (by decide +kernel) ⟨by decide, by decide, by decide +kernel⟩ ⟨by decide, by decide⟩ ?_
  refine R_dup e_X11_init_10.2.2.1 rfl ?_
  refine R_callIN (mc := 101) (ms := 1582) (mc' := 1) (ms' := 60) (M' := M_X10_init) (d' := 1) (as := []) (st := [vA G 102, vI 2, vA G 1]) 0 e_X11_init_10.2.2.2.1 m_X10_init kn_X11_108 (by decide) (by decide) rfl rfl (by show (3 : Nat) ≤ 8; decide) ?_
  refine Run.mono I_mu30 (fun r s e => ?_)
  refine R_eqs (st2 := [vA G 102, vI 2, vA G 1]) (σ2 := mu30) rfl e ?_
  refine R_astq 24 10 4 WX0_g e_X11_init_10.2.2.2.2.1 (by decide) rfl (by decide) (kAr_0 WX0_g (n := 104) (by decide +kernel) ⟨by decide, by decide, by decide +kernel⟩ (by decide)) (kIs_0 WX0_g (n := 104) (by decide +kernel) ⟨by decide, by decide, by decide +kernel⟩) (by decide) (by decide) ?_
  refine R_iinc (ls2 := [(1, vI 3), (0, vA G 0)]) e_X11_init_10.2.2.2.2.2.1 0 rfl (by decide) rfl ?_
  refine R_goto 194 e_X11_init_10.2.2.2.2.2.2.1 (by decide) ?_
  refine R_iload_n e_X11_init_9.2.2.2.2.2.1 0 rfl ?_
  refine R_iconst e_X11_init_9.2.2.2.2.2.2.1 ?_
  refine R_icmp_ge 218 e_X11_init_9.2.2.2.2.2.2.2.1 (by decide) (by decide) (by decide) (fun q => absurd q (by decide)) (fun q => ?_)
  refine R_aload_n e_X11_init_9.2.2.2.2.2.2.2.2.1 1 rfl ?_
  refine R_getA 11 3 1 e_X11_init_9.2.2.2.2.2.2.2.2.2 f_X11_22 (kIs_0 WX0_g (n := 104) (by decide +kernel) ⟨by decide, by decide, by decide +kernel⟩) (fun _ _ => rfl) (by decide +kernel) (by decide) ?_
  refine R_iload_n e_X11_init_10.1 0 rfl ?_
  refine R_new 104 10 100 1578 WX0_g e_X11_init_10.2.1 ⟨by decide, cL_X11_20⟩ cI_X10 cN_X10 (by decide +kernel) ⟨by decide, by decide, by decide +kernel⟩ ⟨by decide, by decide⟩ ?_
  refine R_dup e_X11_init_10.2.2.1 rfl ?_
  refine R_callIN (mc := 99) (ms := 1518) (mc' := 1) (ms' := 60) (M' := M_X10_init) (d' := 1) (as := []) (st := [vA G 104, vI 3, vA G 1]) 0 e_X11_init_10.2.2.2.1 m_X10_init kn_X11_108 (by decide) (by decide) rfl rfl (by show (3 : Nat) ≤ 8; decide) ?_
  refine Run.mono I_mu32 (fun r s e => ?_)
  refine R_eqs (st2 := [vA G 104, vI 3, vA G 1]) (σ2 := mu32) rfl e ?_
  refine R_astq 24 10 4 WX0_g e_X11_init_10.2.2.2.2.1 (by decide) rfl (by decide) (kAr_0 WX0_g (n := 106) (by decide +kernel) ⟨by decide, by decide, by decide +kernel⟩ (by decide)) (kIs_0 WX0_g (n := 106) (by decide +kernel) ⟨by decide, by decide, by decide +kernel⟩) (by decide) (by decide) ?_
  refine R_iinc (ls2 := [(1, vI 4), (0, vA G 0)]) e_X11_init_10.2.2.2.2.2.1 0 rfl (by decide) rfl ?_
  refine R_goto 194 e_X11_init_10.2.2.2.2.2.2.1 (by decide) ?_
  refine R_iload_n e_X11_init_9.2.2.2.2.2.1 0 rfl ?_
  refine R_iconst e_X11_init_9.2.2.2.2.2.2.1 ?_
  refine R_icmp_ge 218 e_X11_init_9.2.2.2.2.2.2.2.1 (by decide) (by decide) (by decide) (fun q => ?_) (fun q => absurd q (by decide))
  refine R_iconst e_X11_init_10.2.2.2.2.2.2.2.1 ?_
  refine R_istore_n (ls2 := [(1, vI 0), (0, vA G 0)]) e_X11_init_10.2.2.2.2.2.2.2.2.1 (by decide) rfl ?_
  refine R_iload_n e_X11_init_10.2.2.2.2.2.2.2.2.2 0 rfl ?_
  refine R_iconst e_X11_init_11.1 ?_
  refine R_icmp_ge 257 e_X11_init_11.2.1 (by decide) (by decide) (by decide) (fun q => absurd q (by decide)) (fun q => ?_)
  refine R_aload_n e_X11_init_11.2.2.1 1 rfl ?_
  refine R_getA 11 16 96 e_X11_init_11.2.2.2.1 f_X11_97 (kIs_0 WX0_g (n := 106) (by decide +kernel) ⟨by decide, by decide, by decide +kernel⟩) (fun _ _ => rfl) (by decide +kernel) (by decide) ?_
  refine R_iload_n e_X11_init_11.2.2.2.2.1 0 rfl ?_
  refine R_new 106 0 98 1505 WX0_g e_X11_init_11.2.2.2.2.2.1 ⟨by decide, cL_X11_40⟩ cI_X0 cN_X0 (by decide +kernel) ⟨by decide, by decide, by decide +kernel⟩ ⟨by decide, by decide⟩ ?_
  refine R_dup e_X11_init_11.2.2.2.2.2.2.1 rfl ?_
  refine R_callI (mc := 73) (ms := 1325) (mc' := 25) (ms' := 180) (M' := M_X0_init) (d' := 2) (as := []) (st := [vA G 106, vI 0, vA G 96]) 0 e_X11_init_11.2.2.2.2.2.2.2.1 (kCIof m_X0_init l_X11_42) (by decide) (by decide) rfl rfl (by show (3 : Nat) ≤ 8; decide) ?_
  refine Run.mono I_mu36 (fun r s e => ?_)
  refine R_eqs (st2 := [vA G 106, vI 0, vA G 96]) (σ2 := mu36) rfl e ?_
  refine R_astq 25 0 3 WX0_g e_X11_init_11.2.2.2.2.2.2.2.2.1 (by decide) rfl (by decide) (kAr_0 WX0_g (n := 132) (by decide +kernel) ⟨by decide, by decide, by decide +kernel⟩ (by decide)) (kIs_0 WX0_g (n := 132) (by decide +kernel) ⟨by decide, by decide, by decide +kernel⟩) (by decide) (by decide) ?_
  refine R_aload_n e_X11_init_11.2.2.2.2.2.2.2.2.2 1 rfl ?_
  refine R_getA 11 17 97 e_X11_init_12.1 f_X11_101 (kIs_0 WX0_g (n := 132) (by decide +kernel) ⟨by decide, by decide, by decide +kernel⟩) (fun _ _ => rfl) (by decide +kernel) (by decide) ?_
  refine R_iload_n e_X11_init_12.2.1 0 rfl ?_
  refine R_new 132 7 72 1315 WX0_g e_X11_init_12.2.2.1 ⟨by decide, cL_X11_68⟩ cI_X7 cN_X7 (by decide +kernel) ⟨by decide, by decide, by decide +kernel⟩ ⟨by decide, by decide⟩ ?_
  refine R_dup e_X11_init_12.2.2.2.1 rfl ?_
  refine R_callIN (mc := 66) (ms := 1012) (mc' := 6) (ms' := 303) (M' := M_X7_init) (d' := 1) (as := []) (st := [vA G 132, vI 0, vA G 97]) 0 e_X11_init_12.2.2.2.2.1 m_X7_init kn_X11_70 (by decide) (by decide) rfl rfl (by show (3 : Nat) ≤ 8; decide) ?_
  refine Run.mono I_mu38 (fun r s e => ?_)
  refine R_eqs (st2 := [vA G 132, vI 0, vA G 97]) (σ2 := mu38) rfl e ?_
  refine R_astq 26 7 3 WX0_g e_X11_init_12.2.2.2.2.2.1 (by decide) rfl (by decide) (kAr_0 WX0_g (n := 139) (by decide +kernel) ⟨by decide, by decide, by decide +kernel⟩ (by decide)) (kIs_0 WX0_g (n := 139) (by decide +kernel) ⟨by decide, by decide, by decide +kernel⟩) (by decide) (by decide) ?_
  refine R_iinc (ls2 := [(1, vI 1), (0, vA G 0)]) e_X11_init_12.2.2.2.2.2.2.1 0 rfl (by decide) rfl ?_
  refine R_goto 220 e_X11_init_12.2.2.2.2.2.2.2.1 (by decide) ?_
  refine R_iload_n e_X11_init_10.2.2.2.2.2.2.2.2.2 0 rfl ?_
  refine R_iconst e_X11_init_11.1 ?_
  refine R_icmp_ge 257 e_X11_init_11.2.1 (by decide) (by decide) (by decide) (fun q => absurd q (by decide)) (fun q => ?_)
  refine R_aload_n e_X11_init_11.2.2.1 1 rfl ?_
  refine R_getA 11 16 96 e_X11_init_11.2.2.2.1 f_X11_97 (kIs_0 WX0_g (n := 139) (by decide +kernel) ⟨by decide, by decide, by decide +kernel⟩) (fun _ _ => rfl) (by decide +kernel) (by decide) ?_
  refine R_iload_n e_X11_init_11.2.2.2.2.1 0 rfl ?_
  refine R_new 139 0 65 999 WX0_g e_X11_init_11.2.2.2.2.2.1 ⟨by decide, cL_X11_40⟩ cI_X0 cN_X0 (by decide +kernel) ⟨by decide, by decide, by decide +kernel⟩ ⟨by decide, by decide⟩ ?_
  refine R_dup e_X11_init_11.2.2.2.2.2.2.1 rfl ?_
  refine R_callI (mc := 40) (ms := 819) (mc' := 25) (ms' := 180) (M' := M_X0_init) (d' := 2) (as := []) (st := [vA G 139, vI 1, vA G 96]) 0 e_X11_init_11.2.2.2.2.2.2.2.1 (kCIof m_X0_init l_X11_42) (by decide) (by decide) rfl rfl (by show (3 : Nat) ≤ 8; decide) ?_
  refine Run.mono I_mu42 (fun r s e => ?_)
  refine R_eqs (st2 := [vA G 139, vI 1, vA G 96]) (σ2 := mu42) rfl e ?_
  refine R_astq 25 0 3 WX0_g e_X11_init_11.2.2.2.2.2.2.2.2.1 (by decide) rfl (by decide) (kAr_0 WX0_g (n := 165) (by decide +kernel) ⟨by decide, by decide, by decide +kernel⟩ (by decide)) (kIs_0 WX0_g (n := 165) (by decide +kernel) ⟨by decide, by decide, by decide +kernel⟩) (by decide) (by decide) ?_
  refine R_aload_n e_X11_init_11.2.2.2.2.2.2.2.2.2 1 rfl ?_
  refine R_getA 11 17 97 e_X11_init_12.1 f_X11_101 (kIs_0 WX0_g (n := 165) (by decide +kernel) ⟨by decide, by decide, by decide +kernel⟩) (fun _ _ => rfl) (by decide +kernel) (by decide) ?_
  refine R_iload_n e_X11_init_12.2.1 0 rfl ?_
  refine R_new 165 7 39 809 WX0_g e_X11_init_12.2.2.1 ⟨by decide, cL_X11_68⟩ cI_X7 cN_X7 (by decide +kernel) ⟨by decide, by decide, by decide +kernel⟩ ⟨by decide, by decide⟩ ?_
  refine R_dup e_X11_init_12.2.2.2.1 rfl ?_
  refine R_callIN (mc := 33) (ms := 506) (mc' := 6) (ms' := 303) (M' := M_X7_init) (d' := 1) (as := []) (st := [vA G 165, vI 1, vA G 97]) 0 e_X11_init_12.2.2.2.2.1 m_X7_init kn_X11_70 (by decide) (by decide) rfl rfl (by show (3 : Nat) ≤ 8; decide) ?_
  refine Run.mono I_mu44 (fun r s e => ?_)
  refine R_eqs (st2 := [vA G 165, vI 1, vA G 97]) (σ2 := mu44) rfl e ?_
  refine R_astq 26 7 3 WX0_g e_X11_init_12.2.2.2.2.2.1 (by decide) rfl (by decide) (kAr_0 WX0_g (n := 172) (by decide +kernel) ⟨by decide, by decide, by decide +kernel⟩ (by decide)) (kIs_0 WX0_g (n := 172) (by decide +kernel) ⟨by decide, by decide, by decide +kernel⟩) (by decide) (by decide) ?_
  refine R_iinc (ls2 := [(1, vI 2), (0, vA G 0)]) e_X11_init_12.2.2.2.2.2.2.1 0 rfl (by decide) rfl ?_
  refine R_goto 220 e_X11_init_12.2.2.2.2.2.2.2.1 (by decide) ?_
  refine R_iload_n e_X11_init_10.2.2.2.2.2.2.2.2.2 0 rfl ?_
  refine R_iconst e_X11_init_11.1 ?_
  refine R_icmp_ge 257 e_X11_init_11.2.1 (by decide) (by decide) (by decide) (fun q => absurd q (by decide)) (fun q => ?_)
  refine R_aload_n e_X11_init_11.2.2.1 1 rfl ?_
  refine R_getA 11 16 96 e_X11_init_11.2.2.2.1 f_X11_97 (kIs_0 WX0_g (n := 172) (by decide +kernel) ⟨by decide, by decide, by decide +kernel⟩) (fun _ _ => rfl) (by decide +kernel) (by decide) ?_
  refine R_iload_n e_X11_init_11.2.2.2.2.1 0 rfl ?_
  refine R_new 172 0 32 493 WX0_g e_X11_init_11.2.2.2.2.2.1 ⟨by decide, cL_X11_40⟩ cI_X0 cN_X0 (by decide +kernel) ⟨by decide, by decide, by decide +kernel⟩ ⟨by decide, by decide⟩ ?_
  refine R_dup e_X11_init_11.2.2.2.2.2.2.1 rfl ?_
  refine R_callI (mc := 7) (ms := 313) (mc' := 25) (ms' := 180) (M' := M_X0_init) (d' := 2) (as := []) (st := [vA G 172, vI 2, vA G 96]) 0 e_X11_init_11.2.2.2.2.2.2.2.1 (kCIof m_X0_init l_X11_42) (by decide) (by decide) rfl rfl (by show (3 : Nat) ≤ 8; decide) ?_
  refine Run.mono I_mu48 (fun r s e => ?_)
  refine R_eqs (st2 := [vA G 172, vI 2, vA G 96]) (σ2 := mu48) rfl e ?_
  refine R_astq 25 0 3 WX0_g e_X11_init_11.2.2.2.2.2.2.2.2.1 (by decide) rfl (by decide) (kAr_0 WX0_g (n := 198) (by decide +kernel) ⟨by decide, by decide, by decide +kernel⟩ (by decide)) (kIs_0 WX0_g (n := 198) (by decide +kernel) ⟨by decide, by decide, by decide +kernel⟩) (by decide) (by decide) ?_
  refine R_aload_n e_X11_init_11.2.2.2.2.2.2.2.2.2 1 rfl ?_
  refine R_getA 11 17 97 e_X11_init_12.1 f_X11_101 (kIs_0 WX0_g (n := 198) (by decide +kernel) ⟨by decide, by decide, by decide +kernel⟩) (fun _ _ => rfl) (by decide +kernel) (by decide) ?_
  refine R_iload_n e_X11_init_12.2.1 0 rfl ?_
  refine R_new 198 7 6 303 WX0_g e_X11_init_12.2.2.1 ⟨by decide, cL_X11_68⟩ cI_X7 cN_X7 (by decide +kernel) ⟨by decide, by decide, by decide +kernel⟩ ⟨by decide, by decide⟩ ?_
  refine R_dup e_X11_init_12.2.2.2.1 rfl ?_
  refine R_callIN (mc := 0) (ms := 0) (mc' := 6) (ms' := 303) (M' := M_X7_init) (d' := 1) (as := []) (st := [vA G 198, vI 2, vA G 97]) 0 e_X11_init_12.2.2.2.2.1 m_X7_init kn_X11_70 (by decide) (by decide) rfl rfl (by show (3 : Nat) ≤ 8; decide) ?_
  refine Run.mono I_mu50 (fun r s e => ?_)
  refine R_eqs (st2 := [vA G 198, vI 2, vA G 97]) (σ2 := mu50) rfl e ?_
  refine R_astq 26 7 3 WX0_g e_X11_init_12.2.2.2.2.2.1 (by decide) rfl (by decide) (kAr_0 WX0_g (n := 205) (by decide +kernel) ⟨by decide, by decide, by decide +kernel⟩ (by decide)) (kIs_0 WX0_g (n := 205) (by decide +kernel) ⟨by decide, by decide, by decide +kernel⟩) (by decide) (by decide) ?_
  refine R_iinc (ls2 := [(1, vI 3), (0, vA G 0)]) e_X11_init_12.2.2.2.2.2.2.1 0 rfl (by decide) rfl ?_
  refine R_goto 220 e_X11_init_12.2.2.2.2.2.2.2.1 (by decide) ?_
  refine R_iload_n e_X11_init_10.2.2.2.2.2.2.2.2.2 0 rfl ?_
  refine R_iconst e_X11_init_11.1 ?_
  refine R_icmp_ge 257 e_X11_init_11.2.1 (by decide) (by decide) (by decide) (fun q => ?_) (fun q => absurd q (by decide))
  exact R_return e_X11_init_12.2.2.2.2.2.2.2.2 rfl rfl
