/-! THE CLASS, MADE (1) -/
def mu0 : Kmem := kmk mZ 0
def mu1 : Kmem := (kmk (kup (kup (kmk (kup (kmk (kup (kup (kup mu0 0 0 0) 0 1 0) 0 2 1) 1) 0 3 1) 2) 0 4 2) 0 5 0) 3)
def mu2 : Kmem := (kup (kup (kup (kup (kup (kup (kup (kup (kup (kup (kmk mu1 4) 3 0 4) 3 1 0) 3 2 0) 3 3 0) 3 4 0) 3 5 0) 3 6 0) 3 7 0) 3 8 (-1)) 3 9 (-1))
theorem I_mu2 {G : Kg} : Run G WX0 M_X6_init 1 1 900 [vA G 3] mu1 (fun _ s => s = mu2) := by
  refine Run.of (by decide +kernel) (by show (1 : Nat) ≤ 1; decide) ?_
  show Ex G WX0 M_X6_init 1 1 900 0 [(0, vA G 3)] [] mu1 _
  refine R_aload_n e_X6_init_0.1 0 rfl ?_
  refine R_obj e_X6_init_0.2.1 oL_X6_3 oI_1 oI_2 (by decide) (by decide) ?_
  refine R_aload_n e_X6_init_0.2.2.1 0 rfl ?_
  refine R_sipush e_X6_init_0.2.2.2.1 (by decide) ?_
  refine R_newarr 4 22 900 0 0 WX0_g e_X6_init_0.2.2.2.2.1 rfl (by decide) aC_byte (by decide +kernel) ⟨by decide, by decide, by decide +kernel⟩ (by decide) ⟨by decide, by decide⟩ ?_
  refine R_putA 6 0 0 e_X6_init_0.2.2.2.2.2.1 f_X6_9 (kIs_0 WX0_g (n := 5) (by decide +kernel) ⟨by decide, by decide, by decide +kernel⟩) (Or.inr ⟨rfl, rfl, rfl⟩) rfl (puts0 WX0_g (by decide) (by decide)) rfl ?_
  refine R_aload_n e_X6_init_0.2.2.2.2.2.2.1 0 rfl ?_
  refine R_iconst e_X6_init_0.2.2.2.2.2.2.2.1 ?_
  refine R_putI 6 1 1 WX0_ok e_X6_init_0.2.2.2.2.2.2.2.2.1 f_X6_15 (kIs_0 WX0_g (n := 5) (by decide +kernel) ⟨by decide, by decide, by decide +kernel⟩) rfl rfl rfl ?_
  refine R_aload_n e_X6_init_0.2.2.2.2.2.2.2.2.2 0 rfl ?_
  refine R_iconst e_X6_init_1.1 ?_
  refine R_putI 6 2 2 WX0_ok e_X6_init_1.2.1 f_X6_19 (kIs_0 WX0_g (n := 5) (by decide +kernel) ⟨by decide, by decide, by decide +kernel⟩) rfl rfl rfl ?_
  refine R_aload_n e_X6_init_1.2.2.1 0 rfl ?_
  refine R_iconst e_X6_init_1.2.2.2.1 ?_
  refine R_putI 6 3 3 WX0_ok e_X6_init_1.2.2.2.2.1 f_X6_22 (kIs_0 WX0_g (n := 5) (by decide +kernel) ⟨by decide, by decide, by decide +kernel⟩) rfl rfl rfl ?_
  refine R_aload_n e_X6_init_1.2.2.2.2.2.1 0 rfl ?_
  refine R_iconst e_X6_init_1.2.2.2.2.2.2.1 ?_
  refine R_putI 6 4 4 WX0_ok e_X6_init_1.2.2.2.2.2.2.2.1 f_X6_25 (kIs_0 WX0_g (n := 5) (by decide +kernel) ⟨by decide, by decide, by decide +kernel⟩) rfl rfl rfl ?_
  refine R_aload_n e_X6_init_1.2.2.2.2.2.2.2.2.1 0 rfl ?_
  refine R_iconst e_X6_init_1.2.2.2.2.2.2.2.2.2 ?_
  refine R_putI 6 5 5 WX0_ok e_X6_init_2.1 f_X6_28 (kIs_0 WX0_g (n := 5) (by decide +kernel) ⟨by decide, by decide, by decide +kernel⟩) rfl rfl rfl ?_
  refine R_aload_n e_X6_init_2.2.1 0 rfl ?_
  refine R_lconst 0 e_X6_init_2.2.2.1 (by decide) ?_
  refine R_putL 6 6 6 WX0_ok e_X6_init_2.2.2.2.1 f_X6_31 (kIs_0 WX0_g (n := 5) (by decide +kernel) ⟨by decide, by decide, by decide +kernel⟩) rfl rfl rfl ?_
  refine R_aload_n e_X6_init_2.2.2.2.2.1 0 rfl ?_
  refine R_iconst e_X6_init_2.2.2.2.2.2.1 ?_
  refine R_putI 6 7 7 WX0_ok e_X6_init_2.2.2.2.2.2.2.1 f_X6_35 (kIs_0 WX0_g (n := 5) (by decide +kernel) ⟨by decide, by decide, by decide +kernel⟩) rfl rfl rfl ?_
  refine R_aload_n e_X6_init_2.2.2.2.2.2.2.2.1 0 rfl ?_
  refine R_iconst e_X6_init_2.2.2.2.2.2.2.2.2.1 ?_
  refine R_putI 6 8 8 WX0_ok e_X6_init_2.2.2.2.2.2.2.2.2.2 f_X6_38 (kIs_0 WX0_g (n := 5) (by decide +kernel) ⟨by decide, by decide, by decide +kernel⟩) rfl rfl rfl ?_
  refine R_aload_n e_X6_init_3.1 0 rfl ?_
  refine R_iconst e_X6_init_3.2.1 ?_
  refine R_putI 6 9 9 WX0_ok e_X6_init_3.2.2.1 f_X6_41 (kIs_0 WX0_g (n := 5) (by decide +kernel) ⟨by decide, by decide, by decide +kernel⟩) rfl rfl rfl ?_
  exact R_return e_X6_init_3.2.2.2 rfl rfl
def mu3 : Kmem := (kmk (kup mu2 0 6 3) 5)
def iX3 (σ : Kmem) (a : Int) : Kmem := (kup (kup (kup (kup (kup (kup (kup (kup (kup (kup σ a 0 0) a 1 0) a 2 0) a 3 1) a 4 3) a 5 1) a 6 0) a 7 0) a 8 0) a 9 0)
theorem I_X3 {G : Kg} {σ : Kmem} {a : Int} (h : ∀ σ' : Kmem, σ' (-7) 0 = σ (-7) 0 → kIs WX0 σ' a 3) (ha : 0 ≤ a) : Run G WX0 M_X3_init 1 0 0 [vA G a] σ (fun _ s => s = iX3 σ a) := by
  refine Run.of (by decide +kernel) (by show (1 : Nat) ≤ 1; decide) ?_
  show Ex G WX0 M_X3_init 1 0 0 0 [(0, vA G a)] [] σ _
  refine R_aload_n e_X3_init_0.1 0 rfl ?_
  refine R_obj e_X3_init_0.2.1 oL_X3_3 oI_1 oI_2 (by decide) (by decide) ?_
  refine R_aload_n e_X3_init_0.2.2.1 0 rfl ?_
  refine R_lconst 0 e_X3_init_0.2.2.2.1 (by decide) ?_
  refine R_putL 3 0 0 WX0_ok e_X3_init_0.2.2.2.2.1 f_X3_9 (h _ (by simp only [kup_c ha])) rfl rfl rfl ?_
  refine R_aload_n e_X3_init_0.2.2.2.2.2.1 0 rfl ?_
  refine R_iconst e_X3_init_0.2.2.2.2.2.2.1 ?_
  refine R_putI 3 1 1 WX0_ok e_X3_init_0.2.2.2.2.2.2.2.1 f_X3_15 (h _ (by simp only [kup_c ha])) rfl rfl rfl ?_
  refine R_aload_n e_X3_init_0.2.2.2.2.2.2.2.2.1 0 rfl ?_
  refine R_iconst e_X3_init_0.2.2.2.2.2.2.2.2.2 ?_
  refine R_putI 3 2 2 WX0_ok e_X3_init_1.1 f_X3_19 (h _ (by simp only [kup_c ha])) rfl rfl rfl ?_
  refine R_aload_n e_X3_init_1.2.1 0 rfl ?_
  refine R_iconst e_X3_init_1.2.2.1 ?_
  refine R_putI 3 3 3 WX0_ok e_X3_init_1.2.2.2.1 f_X3_22 (h _ (by simp only [kup_c ha])) rfl rfl rfl ?_
  refine R_aload_n e_X3_init_1.2.2.2.2.1 0 rfl ?_
  refine R_iconst e_X3_init_1.2.2.2.2.2.1 ?_
  refine R_putI 3 4 4 WX0_ok e_X3_init_1.2.2.2.2.2.2.1 f_X3_25 (h _ (by simp only [kup_c ha])) rfl rfl rfl ?_
  refine R_aload_n e_X3_init_1.2.2.2.2.2.2.2.1 0 rfl ?_
  refine R_iconst e_X3_init_1.2.2.2.2.2.2.2.2.1 ?_
  refine R_putI 3 5 5 WX0_ok e_X3_init_1.2.2.2.2.2.2.2.2.2 f_X3_28 (h _ (by simp only [kup_c ha])) rfl rfl rfl ?_
  refine R_aload_n e_X3_init_2.1 0 rfl ?_
  refine R_iconst e_X3_init_2.2.1 ?_
  refine R_putI 3 6 6 WX0_ok e_X3_init_2.2.2.1 f_X3_31 (h _ (by simp only [kup_c ha])) rfl rfl rfl ?_
  refine R_aload_n e_X3_init_2.2.2.2.1 0 rfl ?_
  refine R_iconst e_X3_init_2.2.2.2.2.1 ?_
  refine R_putI 3 7 7 WX0_ok e_X3_init_2.2.2.2.2.2.1 f_X3_34 (h _ (by simp only [kup_c ha])) rfl rfl rfl ?_
  refine R_aload_n e_X3_init_2.2.2.2.2.2.2.1 0 rfl ?_
  refine R_iconst e_X3_init_2.2.2.2.2.2.2.2.1 ?_
  refine R_putI 3 8 8 WX0_ok e_X3_init_2.2.2.2.2.2.2.2.2.1 f_X3_37 (h _ (by simp only [kup_c ha])) rfl rfl rfl ?_
  refine R_aload_n e_X3_init_2.2.2.2.2.2.2.2.2.2 0 rfl ?_
  refine R_iconst e_X3_init_3.1 ?_
  refine R_putZ 3 9 9 WX0_ok e_X3_init_3.2.1 f_X3_40 (h _ (by simp only [kup_c ha])) rfl rfl rfl (Or.inl rfl) ?_
  exact R_return e_X3_init_3.2.2 rfl rfl
def iX2 (σ : Kmem) (a : Int) : Kmem := (kup (kup (kup (kup (kup σ a 0 0) a 1 0) a 2 0) a 3 1) a 4 0)
theorem I_X2 {G : Kg} {σ : Kmem} {a : Int} (h : ∀ σ' : Kmem, σ' (-7) 0 = σ (-7) 0 → kIs WX0 σ' a 2) (ha : 0 ≤ a) : Run G WX0 M_X2_init 1 0 0 [vA G a] σ (fun _ s => s = iX2 σ a) := by
  refine Run.of (by decide +kernel) (by show (1 : Nat) ≤ 1; decide) ?_
  show Ex G WX0 M_X2_init 1 0 0 0 [(0, vA G a)] [] σ _
  refine R_aload_n e_X2_init_0.1 0 rfl ?_
  refine R_obj e_X2_init_0.2.1 oL_X2_3 oI_1 oI_2 (by decide) (by decide) ?_
  refine R_aload_n e_X2_init_0.2.2.1 0 rfl ?_
  refine R_lconst 0 e_X2_init_0.2.2.2.1 (by decide) ?_
  refine R_putL 2 0 0 WX0_ok e_X2_init_0.2.2.2.2.1 f_X2_9 (h _ (by simp only [kup_c ha])) rfl rfl rfl ?_
  refine R_aload_n e_X2_init_0.2.2.2.2.2.1 0 rfl ?_
  refine R_iconst e_X2_init_0.2.2.2.2.2.2.1 ?_
  refine R_putI 2 1 1 WX0_ok e_X2_init_0.2.2.2.2.2.2.2.1 f_X2_15 (h _ (by simp only [kup_c ha])) rfl rfl rfl ?_
  refine R_aload_n e_X2_init_0.2.2.2.2.2.2.2.2.1 0 rfl ?_
  refine R_iconst e_X2_init_0.2.2.2.2.2.2.2.2.2 ?_
  refine R_putI 2 2 2 WX0_ok e_X2_init_1.1 f_X2_19 (h _ (by simp only [kup_c ha])) rfl rfl rfl ?_
  refine R_aload_n e_X2_init_1.2.1 0 rfl ?_
  refine R_iconst e_X2_init_1.2.2.1 ?_
  refine R_putI 2 3 3 WX0_ok e_X2_init_1.2.2.2.1 f_X2_22 (h _ (by simp only [kup_c ha])) rfl rfl rfl ?_
  refine R_aload_n e_X2_init_1.2.2.2.2.1 0 rfl ?_
  refine R_iconst e_X2_init_1.2.2.2.2.2.1 ?_
  refine R_putI 2 4 4 WX0_ok e_X2_init_1.2.2.2.2.2.2.1 f_X2_25 (h _ (by simp only [kup_c ha])) rfl rfl rfl ?_
  exact R_return e_X2_init_1.2.2.2.2.2.2.2 rfl rfl
def iX9 (σ : Kmem) (a : Int) : Kmem := (kup (kup (kup (kup (kup (kup σ a 0 0) a 1 0) a 2 0) a 3 0) a 4 0) a 5 0)
theorem I_X9 {G : Kg} {σ : Kmem} {a : Int} (h : ∀ σ' : Kmem, σ' (-7) 0 = σ (-7) 0 → kIs WX0 σ' a 9) (ha : 0 ≤ a) : Run G WX0 M_X9_init 1 0 0 [vA G a] σ (fun _ s => s = iX9 σ a) := by
  refine Run.of (by decide +kernel) (by show (1 : Nat) ≤ 1; decide) ?_
  show Ex G WX0 M_X9_init 1 0 0 0 [(0, vA G a)] [] σ _
  refine R_aload_n e_X9_init_0.1 0 rfl ?_
  refine R_obj e_X9_init_0.2.1 oL_X9_1 oI_1 oI_2 (by decide) (by decide) ?_
  refine R_aload_n e_X9_init_0.2.2.1 0 rfl ?_
  refine R_lconst 0 e_X9_init_0.2.2.2.1 (by decide) ?_
  refine R_putL 9 0 0 WX0_ok e_X9_init_0.2.2.2.2.1 f_X9_7 (h _ (by simp only [kup_c ha])) rfl rfl rfl ?_
  refine R_aload_n e_X9_init_0.2.2.2.2.2.1 0 rfl ?_
  refine R_iconst e_X9_init_0.2.2.2.2.2.2.1 ?_
  refine R_putI 9 1 1 WX0_ok e_X9_init_0.2.2.2.2.2.2.2.1 f_X9_13 (h _ (by simp only [kup_c ha])) rfl rfl rfl ?_
  refine R_aload_n e_X9_init_0.2.2.2.2.2.2.2.2.1 0 rfl ?_
  refine R_iconst e_X9_init_0.2.2.2.2.2.2.2.2.2 ?_
  refine R_putI 9 2 2 WX0_ok e_X9_init_1.1 f_X9_17 (h _ (by simp only [kup_c ha])) rfl rfl rfl ?_
  refine R_aload_n e_X9_init_1.2.1 0 rfl ?_
  refine R_iconst e_X9_init_1.2.2.1 ?_
  refine R_putI 9 3 3 WX0_ok e_X9_init_1.2.2.2.1 f_X9_20 (h _ (by simp only [kup_c ha])) rfl rfl rfl ?_
  refine R_aload_n e_X9_init_1.2.2.2.2.1 0 rfl ?_
  refine R_iconst e_X9_init_1.2.2.2.2.2.1 ?_
  refine R_putI 9 4 4 WX0_ok e_X9_init_1.2.2.2.2.2.2.1 f_X9_23 (h _ (by simp only [kup_c ha])) rfl rfl rfl ?_
  refine R_aload_n e_X9_init_1.2.2.2.2.2.2.2.1 0 rfl ?_
  refine R_iconst e_X9_init_1.2.2.2.2.2.2.2.2.1 ?_
  refine R_putI 9 5 5 WX0_ok e_X9_init_1.2.2.2.2.2.2.2.2.2 f_X9_26 (h _ (by simp only [kup_c ha])) rfl rfl rfl ?_
  exact R_return e_X9_init_2 rfl rfl
def mu4 : Kmem := (kup (iX9 (kmk (kup (iX9 (kmk (kup (iX9 (kmk (kup (iX9 (kmk (kup (iX9 (kmk (kup (iX9 (kmk (kup (iX2 (kmk (kup (iX2 (kmk (kup (iX2 (kmk (kup (iX2 (kmk (kup (iX2 (kmk (kup (iX2 (kmk (kup (iX2 (kmk (kup (iX2 (kmk (kup (iX3 (kmk (kup (iX3 (kmk (kup (iX3 (kmk (kup (iX3 (kmk (kup (iX3 (kmk (kup (iX3 (kmk (kup (kmk (kup (kmk (kup (kmk (kup (kmk (kup (kmk (kup (kup (kup (kup (kup (kup (kup (kup mu3 5 0 0) 5 1 0) 5 2 6) 5 3 0) 5 4 0) 5 5 0) 5 6 0) 5 7 0) 6) 5 8 6) 7) 5 9 7) 8) 5 10 8) 9) 5 11 9) 10) 5 12 10) 11) 11) 8 0 11) 12) 12) 8 1 12) 13) 13) 8 2 13) 14) 14) 8 3 14) 15) 15) 8 4 15) 16) 16) 8 5 16) 17) 17) 9 0 17) 18) 18) 9 1 18) 19) 19) 9 2 19) 20) 20) 9 3 20) 21) 21) 9 4 21) 22) 22) 9 5 22) 23) 23) 9 6 23) 24) 24) 9 7 24) 25) 25) 10 0 25) 26) 26) 10 1 26) 27) 27) 10 2 27) 28) 28) 10 3 28) 29) 29) 10 4 29) 30) 30) 10 5 30)
def mu5 : Kmem := (kup (kup (kup (kup (kup (kup (kup (kup (kup (kup (kup (kup (kup (kup (kup (kup (kup (kup (kup (kup (kup (kup (kup (kup (kup (kup (kup (kup (kup (kup (kup (kup mu4 5 0 0) 5 1 0) 5 2 6) 5 3 0) 5 4 0) 5 5 0) 5 6 0) 5 7 0) 6 0 2) 7 0 2) 6 1 2) 7 1 2) 6 2 2) 7 2 2) 6 3 2) 7 3 2) 6 4 2) 7 4 2) 6 5 2) 7 5 2) 6 6 2) 7 6 2) 6 7 2) 7 7 2) 6 8 2) 7 8 2) 6 9 2) 7 9 2) 6 10 2) 7 10 2) 6 11 2) 7 11 2)
theorem I_mu5 {G : Kg} : Run G WX0 M_X0_clear 0 0 0 [vA G 5] mu4 (fun _ s => s = mu5) := by
  refine Run.of (by decide +kernel) (by show (1 : Nat) ≤ 2; decide) ?_
  show Ex G WX0 M_X0_clear 0 0 0 0 [(0, vA G 5)] [] mu4 _
  refine R_aload_n e_X0_clear_0.1 0 rfl ?_
  refine R_iconst e_X0_clear_0.2.1 ?_
  refine R_putI 0 0 0 WX0_ok e_X0_clear_0.2.2.1 f_X0_9 (kIs_0 WX0_g (n := 31) (by decide +kernel) ⟨by decide, by decide, by decide +kernel⟩) rfl rfl rfl ?_
  refine R_aload_n e_X0_clear_0.2.2.2.1 0 rfl ?_
  refine R_iconst e_X0_clear_0.2.2.2.2.1 ?_
  refine R_putI 0 1 1 WX0_ok e_X0_clear_0.2.2.2.2.2.1 f_X0_15 (kIs_0 WX0_g (n := 31) (by decide +kernel) ⟨by decide, by decide, by decide +kernel⟩) rfl rfl rfl ?_
  refine R_aload_n e_X0_clear_0.2.2.2.2.2.2.1 0 rfl ?_
  refine R_bipush e_X0_clear_0.2.2.2.2.2.2.2.1 (by decide) ?_
  refine R_putI 0 2 2 WX0_ok e_X0_clear_0.2.2.2.2.2.2.2.2.1 f_X0_18 (kIs_0 WX0_g (n := 31) (by decide +kernel) ⟨by decide, by decide, by decide +kernel⟩) rfl rfl rfl ?_
  refine R_aload_n e_X0_clear_0.2.2.2.2.2.2.2.2.2 0 rfl ?_
  refine R_iconst e_X0_clear_1.1 ?_
  refine R_putI 0 3 3 WX0_ok e_X0_clear_1.2.1 f_X0_21 (kIs_0 WX0_g (n := 31) (by decide +kernel) ⟨by decide, by decide, by decide +kernel⟩) rfl rfl rfl ?_
  refine R_aload_n e_X0_clear_1.2.2.1 0 rfl ?_
  refine R_iconst e_X0_clear_1.2.2.2.1 ?_
  refine R_putI 0 4 4 WX0_ok e_X0_clear_1.2.2.2.2.1 f_X0_24 (kIs_0 WX0_g (n := 31) (by decide +kernel) ⟨by decide, by decide, by decide +kernel⟩) rfl rfl rfl ?_
  refine R_aload_n e_X0_clear_1.2.2.2.2.2.1 0 rfl ?_
  refine R_iconst e_X0_clear_1.2.2.2.2.2.2.1 ?_
  refine R_putI 0 5 5 WX0_ok e_X0_clear_1.2.2.2.2.2.2.2.1 f_X0_27 (kIs_0 WX0_g (n := 31) (by decide +kernel) ⟨by decide, by decide, by decide +kernel⟩) rfl rfl rfl ?_
  refine R_aload_n e_X0_clear_1.2.2.2.2.2.2.2.2.1 0 rfl ?_
  refine R_iconst e_X0_clear_1.2.2.2.2.2.2.2.2.2 ?_
  refine R_putI 0 6 6 WX0_ok e_X0_clear_2.1 f_X0_30 (kIs_0 WX0_g (n := 31) (by decide +kernel) ⟨by decide, by decide, by decide +kernel⟩) rfl rfl rfl ?_
  refine R_aload_n e_X0_clear_2.2.1 0 rfl ?_
  refine R_iconst e_X0_clear_2.2.2.1 ?_
  refine R_putI 0 7 7 WX0_ok e_X0_clear_2.2.2.2.1 f_X0_33 (kIs_0 WX0_g (n := 31) (by decide +kernel) ⟨by decide, by decide, by decide +kernel⟩) rfl rfl rfl ?_
  refine R_iconst e_X0_clear_2.2.2.2.2.1 ?_
  refine R_istore_n (ls2 := [(1, vI 0), (0, vA G 5)]) e_X0_clear_2.2.2.2.2.2.1 (by decide) rfl ?_
  refine R_iload_n e_X0_clear_2.2.2.2.2.2.2.1 0 rfl ?_
  refine R_bipush e_X0_clear_2.2.2.2.2.2.2.2.1 (by decide) ?_
  refine R_icmp_ge 69 e_X0_clear_2.2.2.2.2.2.2.2.2.1 (by decide) (by decide) (by decide) (fun q => absurd q (by decide)) (fun q => ?_)
  refine R_aload_n e_X0_clear_2.2.2.2.2.2.2.2.2.2 1 rfl ?_
  refine R_getA 0 8 6 e_X0_clear_3.1 f_X0_36 (kIs_0 WX0_g (n := 31) (by decide +kernel) ⟨by decide, by decide, by decide +kernel⟩) (fun _ _ => rfl) (by decide +kernel) (by decide) ?_
  refine R_iload_n e_X0_clear_3.2.1 0 rfl ?_
  refine R_iconst e_X0_clear_3.2.2.1 ?_
  refine R_iast 12 WX0_ok e_X0_clear_3.2.2.2.1 (kAr_0 WX0_g (n := 31) (by decide +kernel) ⟨by decide, by decide, by decide +kernel⟩ (by decide)) (by decide) ?_
  refine R_aload_n e_X0_clear_3.2.2.2.2.1 1 rfl ?_
  refine R_getA 0 9 7 e_X0_clear_3.2.2.2.2.2.1 f_X0_40 (kIs_0 WX0_g (n := 31) (by decide +kernel) ⟨by decide, by decide, by decide +kernel⟩) (fun _ _ => rfl) (by decide +kernel) (by decide) ?_
  refine R_iload_n e_X0_clear_3.2.2.2.2.2.2.1 0 rfl ?_
  refine R_iconst e_X0_clear_3.2.2.2.2.2.2.2.1 ?_
  refine R_iast 12 WX0_ok e_X0_clear_3.2.2.2.2.2.2.2.2.1 (kAr_0 WX0_g (n := 31) (by decide +kernel) ⟨by decide, by decide, by decide +kernel⟩ (by decide)) (by decide) ?_
  refine R_iinc (ls2 := [(1, vI 1), (0, vA G 5)]) e_X0_clear_3.2.2.2.2.2.2.2.2.2 0 rfl (by decide) rfl ?_
  refine R_goto 43 e_X0_clear_4.1 (by decide) ?_
  refine R_iload_n e_X0_clear_2.2.2.2.2.2.2.1 0 rfl ?_
  refine R_bipush e_X0_clear_2.2.2.2.2.2.2.2.1 (by decide) ?_
  refine R_icmp_ge 69 e_X0_clear_2.2.2.2.2.2.2.2.2.1 (by decide) (by decide) (by decide) (fun q => absurd q (by decide)) (fun q => ?_)
  refine R_aload_n e_X0_clear_2.2.2.2.2.2.2.2.2.2 1 rfl ?_
  refine R_getA 0 8 6 e_X0_clear_3.1 f_X0_36 (kIs_0 WX0_g (n := 31) (by decide +kernel) ⟨by decide, by decide, by decide +kernel⟩) (fun _ _ => rfl) (by decide +kernel) (by decide) ?_
  refine R_iload_n e_X0_clear_3.2.1 0 rfl ?_
  refine R_iconst e_X0_clear_3.2.2.1 ?_
  refine R_iast 12 WX0_ok e_X0_clear_3.2.2.2.1 (kAr_0 WX0_g (n := 31) (by decide +kernel) ⟨by decide, by decide, by decide +kernel⟩ (by decide)) (by decide) ?_
  refine R_aload_n e_X0_clear_3.2.2.2.2.1 1 rfl ?_
  refine R_getA 0 9 7 e_X0_clear_3.2.2.2.2.2.1 f_X0_40 (kIs_0 WX0_g (n := 31) (by decide +kernel) ⟨by decide, by decide, by decide +kernel⟩) (fun _ _ => rfl) (by decide +kernel) (by decide) ?_
  refine R_iload_n e_X0_clear_3.2.2.2.2.2.2.1 0 rfl ?_
  refine R_iconst e_X0_clear_3.2.2.2.2.2.2.2.1 ?_
  refine R_iast 12 WX0_ok e_X0_clear_3.2.2.2.2.2.2.2.2.1 (kAr_0 WX0_g (n := 31) (by decide +kernel) ⟨by decide, by decide, by decide +kernel⟩ (by decide)) (by decide) ?_
  refine R_iinc (ls2 := [(1, vI 2), (0, vA G 5)]) e_X0_clear_3.2.2.2.2.2.2.2.2.2 0 rfl (by decide) rfl ?_
  refine R_goto 43 e_X0_clear_4.1 (by decide) ?_
  refine R_iload_n e_X0_clear_2.2.2.2.2.2.2.1 0 rfl ?_
  refine R_bipush e_X0_clear_2.2.2.2.2.2.2.2.1 (by decide) ?_
  refine R_icmp_ge 69 e_X0_clear_2.2.2.2.2.2.2.2.2.1 (by decide) (by decide) (by decide) (fun q => absurd q (by decide)) (fun q => ?_)
  refine R_aload_n e_X0_clear_2.2.2.2.2.2.2.2.2.2 1 rfl ?_
  refine R_getA 0 8 6 e_X0_clear_3.1 f_X0_36 (kIs_0 WX0_g (n := 31) (by decide +kernel) ⟨by decide, by decide, by decide +kernel⟩) (fun _ _ => rfl) (by decide +kernel) (by decide) ?_
  refine R_iload_n e_X0_clear_3.2.1 0 rfl ?_
  refine R_iconst e_X0_clear_3.2.2.1 ?_
  refine R_iast 12 WX0_ok e_X0_clear_3.2.2.2.1 (kAr_0 WX0_g (n := 31) (by decide +kernel) ⟨by decide, by decide, by decide +kernel⟩ (by decide)) (by decide) ?_
  refine R_aload_n e_X0_clear_3.2.2.2.2.1 1 rfl ?_
  refine R_getA 0 9 7 e_X0_clear_3.2.2.2.2.2.1 f_X0_40 (kIs_0 WX0_g (n := 31) (by decide +kernel) ⟨by decide, by decide, by decide +kernel⟩) (fun _ _ => rfl) (by decide +kernel) (by decide) ?_
  refine R_iload_n e_X0_clear_3.2.2.2.2.2.2.1 0 rfl ?_
  refine R_iconst e_X0_clear_3.2.2.2.2.2.2.2.1 ?_
  refine R_iast 12 WX0_ok e_X0_clear_3.2.2.2.2.2.2.2.2.1 (kAr_0 WX0_g (n := 31) (by decide +kernel) ⟨by decide, by decide, by decide +kernel⟩ (by decide)) (by decide) ?_
  refine R_iinc (ls2 := [(1, vI 3), (0, vA G 5)]) e_X0_clear_3.2.2.2.2.2.2.2.2.2 0 rfl (by decide) rfl ?_
  refine R_goto 43 e_X0_clear_4.1 (by decide) ?_
  refine R_iload_n e_X0_clear_2.2.2.2.2.2.2.1 0 rfl ?_
  refine R_bipush e_X0_clear_2.2.2.2.2.2.2.2.1 (by decide) ?_
  refine R_icmp_ge 69 e_X0_clear_2.2.2.2.2.2.2.2.2.1 (by decide) (by decide) (by decide) (fun q => absurd q (by decide)) (fun q => ?_)
  refine R_aload_n e_X0_clear_2.2.2.2.2.2.2.2.2.2 1 rfl ?_
  refine R_getA 0 8 6 e_X0_clear_3.1 f_X0_36 (kIs_0 WX0_g (n := 31) (by decide +kernel) ⟨by decide, by decide, by decide +kernel⟩) (fun _ _ => rfl) (by decide +kernel) (by decide) ?_
  refine R_iload_n e_X0_clear_3.2.1 0 rfl ?_
  refine R_iconst e_X0_clear_3.2.2.1 ?_
  refine R_iast 12 WX0_ok e_X0_clear_3.2.2.2.1 (kAr_0 WX0_g (n := 31) (by decide +kernel) ⟨by decide, by decide, by decide +kernel⟩ (by decide)) (by decide) ?_
  refine R_aload_n e_X0_clear_3.2.2.2.2.1 1 rfl ?_
  refine R_getA 0 9 7 e_X0_clear_3.2.2.2.2.2.1 f_X0_40 (kIs_0 WX0_g (n := 31) (by decide +kernel) ⟨by decide, by decide, by decide +kernel⟩) (fun _ _ => rfl) (by decide +kernel) (by decide) ?_
  refine R_iload_n e_X0_clear_3.2.2.2.2.2.2.1 0 rfl ?_
  refine R_iconst e_X0_clear_3.2.2.2.2.2.2.2.1 ?_
  refine R_iast 12 WX0_ok e_X0_clear_3.2.2.2.2.2.2.2.2.1 (kAr_0 WX0_g (n := 31) (by decide +kernel) ⟨by decide, by decide, by decide +kernel⟩ (by decide)) (by decide) ?_
  refine R_iinc (ls2 := [(1, vI 4), (0, vA G 5)]) e_X0_clear_3.2.2.2.2.2.2.2.2.2 0 rfl (by decide) rfl ?_
  refine R_goto 43 e_X0_clear_4.1 (by decide) ?_
  refine R_iload_n e_X0_clear_2.2.2.2.2.2.2.1 0 rfl ?_
  refine R_bipush e_X0_clear_2.2.2.2.2.2.2.2.1 (by decide) ?_
  refine R_icmp_ge 69 e_X0_clear_2.2.2.2.2.2.2.2.2.1 (by decide) (by decide) (by decide) (fun q => absurd q (by decide)) (fun q => ?_)
  refine R_aload_n e_X0_clear_2.2.2.2.2.2.2.2.2.2 1 rfl ?_
  refine R_getA 0 8 6 e_X0_clear_3.1 f_X0_36 (kIs_0 WX0_g (n := 31) (by decide +kernel) ⟨by decide, by decide, by decide +kernel⟩) (fun _ _ => rfl) (by decide +kernel) (by decide) ?_
  refine R_iload_n e_X0_clear_3.2.1 0 rfl ?_
  refine R_iconst e_X0_clear_3.2.2.1 ?_
  refine R_iast 12 WX0_ok e_X0_clear_3.2.2.2.1 (kAr_0 WX0_g (n := 31) (by decide +kernel) ⟨by decide, by decide, by decide +kernel⟩ (by decide)) (by decide) ?_
  refine R_aload_n e_X0_clear_3.2.2.2.2.1 1 rfl ?_
  refine R_getA 0 9 7 e_X0_clear_3.2.2.2.2.2.1 f_X0_40 (kIs_0 WX0_g (n := 31) (by decide +kernel) ⟨by decide, by decide, by decide +kernel⟩) (fun _ _ => rfl) (by decide +kernel) (by decide) ?_
  refine R_iload_n e_X0_clear_3.2.2.2.2.2.2.1 0 rfl ?_
  refine R_iconst e_X0_clear_3.2.2.2.2.2.2.2.1 ?_
  refine R_iast 12 WX0_ok e_X0_clear_3.2.2.2.2.2.2.2.2.1 (kAr_0 WX0_g (n := 31) (by decide +kernel) ⟨by decide, by decide, by decide +kernel⟩ (by decide)) (by decide) ?_
  refine R_iinc (ls2 := [(1, vI 5), (0, vA G 5)]) e_X0_clear_3.2.2.2.2.2.2.2.2.2 0 rfl (by decide) rfl ?_
  refine R_goto 43 e_X0_clear_4.1 (by decide) ?_
  refine R_iload_n e_X0_clear_2.2.2.2.2.2.2.1 0 rfl ?_
  refine R_bipush e_X0_clear_2.2.2.2.2.2.2.2.1 (by decide) ?_
  refine R_icmp_ge 69 e_X0_clear_2.2.2.2.2.2.2.2.2.1 (by decide) (by decide) (by decide) (fun q => absurd q (by decide)) (fun q => ?_)
  refine R_aload_n e_X0_clear_2.2.2.2.2.2.2.2.2.2 1 rfl ?_
  refine R_getA 0 8 6 e_X0_clear_3.1 f_X0_36 (kIs_0 WX0_g (n := 31) (by decide +kernel) ⟨by decide, by decide, by decide +kernel⟩) (fun _ _ => rfl) (by decide +kernel) (by decide) ?_
  refine R_iload_n e_X0_clear_3.2.1 0 rfl ?_
  refine R_iconst e_X0_clear_3.2.2.1 ?_
  refine R_iast 12 WX0_ok e_X0_clear_3.2.2.2.1 (kAr_0 WX0_g (n := 31) (by decide +kernel) ⟨by decide, by decide, by decide +kernel⟩ (by decide)) (by decide) ?_
  refine R_aload_n e_X0_clear_3.2.2.2.2.1 1 rfl ?_
  refine R_getA 0 9 7 e_X0_clear_3.2.2.2.2.2.1 f_X0_40 (kIs_0 WX0_g (n := 31) (by decide +kernel) ⟨by decide, by decide, by decide +kernel⟩) (fun _ _ => rfl) (by decide +kernel) (by decide) ?_
  refine R_iload_n e_X0_clear_3.2.2.2.2.2.2.1 0 rfl ?_
  refine R_iconst e_X0_clear_3.2.2.2.2.2.2.2.1 ?_
  refine R_iast 12 WX0_ok e_X0_clear_3.2.2.2.2.2.2.2.2.1 (kAr_0 WX0_g (n := 31) (by decide +kernel) ⟨by decide, by decide, by decide +kernel⟩ (by decide)) (by decide) ?_
  refine R_iinc (ls2 := [(1, vI 6), (0, vA G 5)]) e_X0_clear_3.2.2.2.2.2.2.2.2.2 0 rfl (by decide) rfl ?_
  refine R_goto 43 e_X0_clear_4.1 (by decide) ?_
  refine R_iload_n e_X0_clear_2.2.2.2.2.2.2.1 0 rfl ?_
  refine R_bipush e_X0_clear_2.2.2.2.2.2.2.2.1 (by decide) ?_
  refine R_icmp_ge 69 e_X0_clear_2.2.2.2.2.2.2.2.2.1 (by decide) (by decide) (by decide) (fun q => absurd q (by decide)) (fun q => ?_)
  refine R_aload_n e_X0_clear_2.2.2.2.2.2.2.2.2.2 1 rfl ?_
  refine R_getA 0 8 6 e_X0_clear_3.1 f_X0_36 (kIs_0 WX0_g (n := 31) (by decide +kernel) ⟨by decide, by decide, by decide +kernel⟩) (fun _ _ => rfl) (by decide +kernel) (by decide) ?_
  refine R_iload_n e_X0_clear_3.2.1 0 rfl ?_
  refine R_iconst e_X0_clear_3.2.2.1 ?_
  refine R_iast 12 WX0_ok e_X0_clear_3.2.2.2.1 (kAr_0 WX0_g (n := 31) (by decide +kernel) ⟨by decide, by decide, by decide +kernel⟩ (by decide)) (by decide) ?_
  refine R_aload_n e_X0_clear_3.2.2.2.2.1 1 rfl ?_
  refine R_getA 0 9 7 e_X0_clear_3.2.2.2.2.2.1 f_X0_40 (kIs_0 WX0_g (n := 31) (by decide +kernel) ⟨by decide, by decide, by decide +kernel⟩) (fun _ _ => rfl) (by decide +kernel) (by decide) ?_
  refine R_iload_n e_X0_clear_3.2.2.2.2.2.2.1 0 rfl ?_
  refine R_iconst e_X0_clear_3.2.2.2.2.2.2.2.1 ?_
  refine R_iast 12 WX0_ok e_X0_clear_3.2.2.2.2.2.2.2.2.1 (kAr_0 WX0_g (n := 31) (by decide +kernel) ⟨by decide, by decide, by decide +kernel⟩ (by decide)) (by decide) ?_
  refine R_iinc (ls2 := [(1, vI 7), (0, vA G 5)]) e_X0_clear_3.2.2.2.2.2.2.2.2.2 0 rfl (by decide) rfl ?_
  refine R_goto 43 e_X0_clear_4.1 (by decide) ?_
  refine R_iload_n e_X0_clear_2.2.2.2.2.2.2.1 0 rfl ?_
  refine R_bipush e_X0_clear_2.2.2.2.2.2.2.2.1 (by decide) ?_
  refine R_icmp_ge 69 e_X0_clear_2.2.2.2.2.2.2.2.2.1 (by decide) (by decide) (by decide) (fun q => absurd q (by decide)) (fun q => ?_)
  refine R_aload_n e_X0_clear_2.2.2.2.2.2.2.2.2.2 1 rfl ?_
  refine R_getA 0 8 6 e_X0_clear_3.1 f_X0_36 (kIs_0 WX0_g (n := 31) (by decide +kernel) ⟨by decide, by decide, by decide +kernel⟩) (fun _ _ => rfl) (by decide +kernel) (by decide) ?_
  refine R_iload_n e_X0_clear_3.2.1 0 rfl ?_
  refine R_iconst e_X0_clear_3.2.2.1 ?_
  refine R_iast 12 WX0_ok e_X0_clear_3.2.2.2.1 (kAr_0 WX0_g (n := 31) (by decide +kernel) ⟨by decide, by decide, by decide +kernel⟩ (by decide)) (by decide) ?_
  refine R_aload_n e_X0_clear_3.2.2.2.2.1 1 rfl ?_
  refine R_getA 0 9 7 e_X0_clear_3.2.2.2.2.2.1 f_X0_40 (kIs_0 WX0_g (n := 31) (by decide +kernel) ⟨by decide, by decide, by decide +kernel⟩) (fun _ _ => rfl) (by decide +kernel) (by decide) ?_
  refine R_iload_n e_X0_clear_3.2.2.2.2.2.2.1 0 rfl ?_
  refine R_iconst e_X0_clear_3.2.2.2.2.2.2.2.1 ?_
  refine R_iast 12 WX0_ok e_X0_clear_3.2.2.2.2.2.2.2.2.1 (kAr_0 WX0_g (n := 31) (by decide +kernel) ⟨by decide, by decide, by decide +kernel⟩ (by decide)) (by decide) ?_
  refine R_iinc (ls2 := [(1, vI 8), (0, vA G 5)]) e_X0_clear_3.2.2.2.2.2.2.2.2.2 0 rfl (by decide) rfl ?_
  refine R_goto 43 e_X0_clear_4.1 (by decide) ?_
  refine R_iload_n e_X0_clear_2.2.2.2.2.2.2.1 0 rfl ?_
  refine R_bipush e_X0_clear_2.2.2.2.2.2.2.2.1 (by decide) ?_
  refine R_icmp_ge 69 e_X0_clear_2.2.2.2.2.2.2.2.2.1 (by decide) (by decide) (by decide) (fun q => absurd q (by decide)) (fun q => ?_)
  refine R_aload_n e_X0_clear_2.2.2.2.2.2.2.2.2.2 1 rfl ?_
  refine R_getA 0 8 6 e_X0_clear_3.1 f_X0_36 (kIs_0 WX0_g (n := 31) (by decide +kernel) ⟨by decide, by decide, by decide +kernel⟩) (fun _ _ => rfl) (by decide +kernel) (by decide) ?_
  refine R_iload_n e_X0_clear_3.2.1 0 rfl ?_
  refine R_iconst e_X0_clear_3.2.2.1 ?_
  refine R_iast 12 WX0_ok e_X0_clear_3.2.2.2.1 (kAr_0 WX0_g (n := 31) (by decide +kernel) ⟨by decide, by decide, by decide +kernel⟩ (by decide)) (by decide) ?_
  refine R_aload_n e_X0_clear_3.2.2.2.2.1 1 rfl ?_
  refine R_getA 0 9 7 e_X0_clear_3.2.2.2.2.2.1 f_X0_40 (kIs_0 WX0_g (n := 31) (by decide +kernel) ⟨by decide, by decide, by decide +kernel⟩) (fun _ _ => rfl) (by decide +kernel) (by decide) ?_
  refine R_iload_n e_X0_clear_3.2.2.2.2.2.2.1 0 rfl ?_
  refine R_iconst e_X0_clear_3.2.2.2.2.2.2.2.1 ?_
  refine R_iast 12 WX0_ok e_X0_clear_3.2.2.2.2.2.2.2.2.1 (kAr_0 WX0_g (n := 31) (by decide +kernel) ⟨by decide, by decide, by decide +kernel⟩ (by decide)) (by decide) ?_
  refine R_iinc (ls2 := [(1, vI 9), (0, vA G 5)]) e_X0_clear_3.2.2.2.2.2.2.2.2.2 0 rfl (by decide) rfl ?_
  refine R_goto 43 e_X0_clear_4.1 (by decide) ?_
  refine R_iload_n e_X0_clear_2.2.2.2.2.2.2.1 0 rfl ?_
  refine R_bipush e_X0_clear_2.2.2.2.2.2.2.2.1 (by decide) ?_
  refine R_icmp_ge 69 e_X0_clear_2.2.2.2.2.2.2.2.2.1 (by decide) (by decide) (by decide) (fun q => absurd q (by decide)) (fun q => ?_)
  refine R_aload_n e_X0_clear_2.2.2.2.2.2.2.2.2.2 1 rfl ?_
  refine R_getA 0 8 6 e_X0_clear_3.1 f_X0_36 (kIs_0 WX0_g (n := 31) (by decide +kernel) ⟨by decide, by decide, by decide +kernel⟩) (fun _ _ => rfl) (by decide +kernel) (by decide) ?_
  refine R_iload_n e_X0_clear_3.2.1 0 rfl ?_
  refine R_iconst e_X0_clear_3.2.2.1 ?_
  refine R_iast 12 WX0_ok e_X0_clear_3.2.2.2.1 (kAr_0 WX0_g (n := 31) (by decide +kernel) ⟨by decide, by decide, by decide +kernel⟩ (by decide)) (by decide) ?_
  refine R_aload_n e_X0_clear_3.2.2.2.2.1 1 rfl ?_
  refine R_getA 0 9 7 e_X0_clear_3.2.2.2.2.2.1 f_X0_40 (kIs_0 WX0_g (n := 31) (by decide +kernel) ⟨by decide, by decide, by decide +kernel⟩) (fun _ _ => rfl) (by decide +kernel) (by decide) ?_
  refine R_iload_n e_X0_clear_3.2.2.2.2.2.2.1 0 rfl ?_
  refine R_iconst e_X0_clear_3.2.2.2.2.2.2.2.1 ?_
  refine R_iast 12 WX0_ok e_X0_clear_3.2.2.2.2.2.2.2.2.1 (kAr_0 WX0_g (n := 31) (by decide +kernel) ⟨by decide, by decide, by decide +kernel⟩ (by decide)) (by decide) ?_
  refine R_iinc (ls2 := [(1, vI 10), (0, vA G 5)]) e_X0_clear_3.2.2.2.2.2.2.2.2.2 0 rfl (by decide) rfl ?_
  refine R_goto 43 e_X0_clear_4.1 (by decide) ?_
  refine R_iload_n e_X0_clear_2.2.2.2.2.2.2.1 0 rfl ?_
  refine R_bipush e_X0_clear_2.2.2.2.2.2.2.2.1 (by decide) ?_
  refine R_icmp_ge 69 e_X0_clear_2.2.2.2.2.2.2.2.2.1 (by decide) (by decide) (by decide) (fun q => absurd q (by decide)) (fun q => ?_)
  refine R_aload_n e_X0_clear_2.2.2.2.2.2.2.2.2.2 1 rfl ?_
  refine R_getA 0 8 6 e_X0_clear_3.1 f_X0_36 (kIs_0 WX0_g (n := 31) (by decide +kernel) ⟨by decide, by decide, by decide +kernel⟩) (fun _ _ => rfl) (by decide +kernel) (by decide) ?_
  refine R_iload_n e_X0_clear_3.2.1 0 rfl ?_
  refine R_iconst e_X0_clear_3.2.2.1 ?_
  refine R_iast 12 WX0_ok e_X0_clear_3.2.2.2.1 (kAr_0 WX0_g (n := 31) (by decide +kernel) ⟨by decide, by decide, by decide +kernel⟩ (by decide)) (by decide) ?_
  refine R_aload_n e_X0_clear_3.2.2.2.2.1 1 rfl ?_
  refine R_getA 0 9 7 e_X0_clear_3.2.2.2.2.2.1 f_X0_40 (kIs_0 WX0_g (n := 31) (by decide +kernel) ⟨by decide, by decide, by decide +kernel⟩) (fun _ _ => rfl) (by decide +kernel) (by decide) ?_
  refine R_iload_n e_X0_clear_3.2.2.2.2.2.2.1 0 rfl ?_
  refine R_iconst e_X0_clear_3.2.2.2.2.2.2.2.1 ?_
  refine R_iast 12 WX0_ok e_X0_clear_3.2.2.2.2.2.2.2.2.1 (kAr_0 WX0_g (n := 31) (by decide +kernel) ⟨by decide, by decide, by decide +kernel⟩ (by decide)) (by decide) ?_
  refine R_iinc (ls2 := [(1, vI 11), (0, vA G 5)]) e_X0_clear_3.2.2.2.2.2.2.2.2.2 0 rfl (by decide) rfl ?_
  refine R_goto 43 e_X0_clear_4.1 (by decide) ?_
  refine R_iload_n e_X0_clear_2.2.2.2.2.2.2.1 0 rfl ?_
  refine R_bipush e_X0_clear_2.2.2.2.2.2.2.2.1 (by decide) ?_
  refine R_icmp_ge 69 e_X0_clear_2.2.2.2.2.2.2.2.2.1 (by decide) (by decide) (by decide) (fun q => absurd q (by decide)) (fun q => ?_)
  refine R_aload_n e_X0_clear_2.2.2.2.2.2.2.2.2.2 1 rfl ?_
  refine R_getA 0 8 6 e_X0_clear_3.1 f_X0_36 (kIs_0 WX0_g (n := 31) (by decide +kernel) ⟨by decide, by decide, by decide +kernel⟩) (fun _ _ => rfl) (by decide +kernel) (by decide) ?_
  refine R_iload_n e_X0_clear_3.2.1 0 rfl ?_
  refine R_iconst e_X0_clear_3.2.2.1 ?_
  refine R_iast 12 WX0_ok e_X0_clear_3.2.2.2.1 (kAr_0 WX0_g (n := 31) (by decide +kernel) ⟨by decide, by decide, by decide +kernel⟩ (by decide)) (by decide) ?_
  refine R_aload_n e_X0_clear_3.2.2.2.2.1 1 rfl ?_
  refine R_getA 0 9 7 e_X0_clear_3.2.2.2.2.2.1 f_X0_40 (kIs_0 WX0_g (n := 31) (by decide +kernel) ⟨by decide, by decide, by decide +kernel⟩) (fun _ _ => rfl) (by decide +kernel) (by decide) ?_
  refine R_iload_n e_X0_clear_3.2.2.2.2.2.2.1 0 rfl ?_
  refine R_iconst e_X0_clear_3.2.2.2.2.2.2.2.1 ?_
  refine R_iast 12 WX0_ok e_X0_clear_3.2.2.2.2.2.2.2.2.1 (kAr_0 WX0_g (n := 31) (by decide +kernel) ⟨by decide, by decide, by decide +kernel⟩ (by decide)) (by decide) ?_
  refine R_iinc (ls2 := [(1, vI 12), (0, vA G 5)]) e_X0_clear_3.2.2.2.2.2.2.2.2.2 0 rfl (by decide) rfl ?_
  refine R_goto 43 e_X0_clear_4.1 (by decide) ?_
  refine R_iload_n e_X0_clear_2.2.2.2.2.2.2.1 0 rfl ?_
  refine R_bipush e_X0_clear_2.2.2.2.2.2.2.2.1 (by decide) ?_
  refine R_icmp_ge 69 e_X0_clear_2.2.2.2.2.2.2.2.2.1 (by decide) (by decide) (by decide) (fun q => ?_) (fun q => absurd q (by decide))
  exact R_return e_X0_clear_4.2 rfl rfl
def mu6 : Kmem := mu5
theorem I_mu6 {G : Kg} : Run G WX0 M_X0_init 2 25 180 [vA G 5] mu3 (fun _ s => s = mu6) := by
  refine Run.of (by decide +kernel) (by show (1 : Nat) ≤ 2; decide) ?_
  show Ex G WX0 M_X0_init 2 25 180 0 [(0, vA G 5)] [] mu3 _
  refine R_aload_n e_X0_init_0.1 0 rfl ?_
  refine R_obj e_X0_init_0.2.1 oL_X0_3 oI_1 oI_2 (by decide) (by decide) ?_
  refine R_aload_n e_X0_init_0.2.2.1 0 rfl ?_
  refine R_iconst e_X0_init_0.2.2.2.1 ?_
  refine R_putI 0 0 0 WX0_ok e_X0_init_0.2.2.2.2.1 f_X0_9 (kIs_0 WX0_g (n := 6) (by decide +kernel) ⟨by decide, by decide, by decide +kernel⟩) rfl rfl rfl ?_
  refine R_aload_n e_X0_init_0.2.2.2.2.2.1 0 rfl ?_
  refine R_iconst e_X0_init_0.2.2.2.2.2.2.1 ?_
  refine R_putI 0 1 1 WX0_ok e_X0_init_0.2.2.2.2.2.2.2.1 f_X0_15 (kIs_0 WX0_g (n := 6) (by decide +kernel) ⟨by decide, by decide, by decide +kernel⟩) rfl rfl rfl ?_
  refine R_aload_n e_X0_init_0.2.2.2.2.2.2.2.2.1 0 rfl ?_
  refine R_bipush e_X0_init_0.2.2.2.2.2.2.2.2.2 (by decide) ?_
  refine R_putI 0 2 2 WX0_ok e_X0_init_1.1 f_X0_18 (kIs_0 WX0_g (n := 6) (by decide +kernel) ⟨by decide, by decide, by decide +kernel⟩) rfl rfl rfl ?_
  refine R_aload_n e_X0_init_1.2.1 0 rfl ?_
  refine R_iconst e_X0_init_1.2.2.1 ?_
  refine R_putI 0 3 3 WX0_ok e_X0_init_1.2.2.2.1 f_X0_21 (kIs_0 WX0_g (n := 6) (by decide +kernel) ⟨by decide, by decide, by decide +kernel⟩) rfl rfl rfl ?_
  refine R_aload_n e_X0_init_1.2.2.2.2.1 0 rfl ?_
  refine R_iconst e_X0_init_1.2.2.2.2.2.1 ?_
  refine R_putI 0 4 4 WX0_ok e_X0_init_1.2.2.2.2.2.2.1 f_X0_24 (kIs_0 WX0_g (n := 6) (by decide +kernel) ⟨by decide, by decide, by decide +kernel⟩) rfl rfl rfl ?_
  refine R_aload_n e_X0_init_1.2.2.2.2.2.2.2.1 0 rfl ?_
  refine R_iconst e_X0_init_1.2.2.2.2.2.2.2.2.1 ?_
  refine R_putI 0 5 5 WX0_ok e_X0_init_1.2.2.2.2.2.2.2.2.2 f_X0_27 (kIs_0 WX0_g (n := 6) (by decide +kernel) ⟨by decide, by decide, by decide +kernel⟩) rfl rfl rfl ?_
  refine R_aload_n e_X0_init_2.1 0 rfl ?_
  refine R_iconst e_X0_init_2.2.1 ?_
  refine R_putI 0 6 6 WX0_ok e_X0_init_2.2.2.1 f_X0_30 (kIs_0 WX0_g (n := 6) (by decide +kernel) ⟨by decide, by decide, by decide +kernel⟩) rfl rfl rfl ?_
  refine R_aload_n e_X0_init_2.2.2.2.1 0 rfl ?_
  refine R_iconst e_X0_init_2.2.2.2.2.1 ?_
  refine R_putI 0 7 7 WX0_ok e_X0_init_2.2.2.2.2.2.1 f_X0_33 (kIs_0 WX0_g (n := 6) (by decide +kernel) ⟨by decide, by decide, by decide +kernel⟩) rfl rfl rfl ?_
  refine R_aload_n e_X0_init_2.2.2.2.2.2.2.1 0 rfl ?_
  refine R_bipush e_X0_init_2.2.2.2.2.2.2.2.1 (by decide) ?_
  refine R_newarr 6 20 12 24 168 WX0_g e_X0_init_2.2.2.2.2.2.2.2.2.1 rfl (by decide) aC_int (by decide +kernel) ⟨by decide, by decide, by decide +kernel⟩ (by decide) ⟨by decide, by decide⟩ ?_
  refine R_putA 0 8 8 e_X0_init_2.2.2.2.2.2.2.2.2.2 f_X0_36 (kIs_0 WX0_g (n := 7) (by decide +kernel) ⟨by decide, by decide, by decide +kernel⟩) (Or.inr ⟨rfl, rfl, rfl⟩) rfl (puts0 WX0_g (by decide) (by decide)) rfl ?_
  refine R_aload_n e_X0_init_3.1 0 rfl ?_
  refine R_bipush e_X0_init_3.2.1 (by decide) ?_
  refine R_newarr 7 20 12 23 156 WX0_g e_X0_init_3.2.2.1 rfl (by decide) aC_int (by decide +kernel) ⟨by decide, by decide, by decide +kernel⟩ (by decide) ⟨by decide, by decide⟩ ?_
  refine R_putA 0 9 9 e_X0_init_3.2.2.2.1 f_X0_40 (kIs_0 WX0_g (n := 8) (by decide +kernel) ⟨by decide, by decide, by decide +kernel⟩) (Or.inr ⟨rfl, rfl, rfl⟩) rfl (puts0 WX0_g (by decide) (by decide)) rfl ?_
  refine R_aload_n e_X0_init_3.2.2.2.2.1 0 rfl ?_
  refine R_bipush e_X0_init_3.2.2.2.2.2.1 (by decide) ?_
  refine R_newq (C := RX3) 8 27 6 22 150 WX0_g e_X0_init_3.2.2.2.2.2.2.1 (by decide) rfl cL_X0_43 aO_X3 (by decide +kernel) ⟨by decide, by decide, by decide +kernel⟩ (by decide) ⟨by decide, by decide⟩ ?_
  refine R_putA 0 10 10 e_X0_init_3.2.2.2.2.2.2.2.1 f_X0_45 (kIs_0 WX0_g (n := 9) (by decide +kernel) ⟨by decide, by decide, by decide +kernel⟩) (Or.inr ⟨rfl, rfl, rfl⟩) rfl (puts0 WX0_g (by decide) (by decide)) rfl ?_
  refine R_aload_n e_X0_init_3.2.2.2.2.2.2.2.2.1 0 rfl ?_
  refine R_bipush e_X0_init_3.2.2.2.2.2.2.2.2.2 (by decide) ?_
  refine R_newq (C := RX2) 9 28 8 21 142 WX0_g e_X0_init_4.1 (by decide) rfl cL_X0_49 aO_X2 (by decide +kernel) ⟨by decide, by decide, by decide +kernel⟩ (by decide) ⟨by decide, by decide⟩ ?_
  refine R_putA 0 11 11 e_X0_init_4.2.1 f_X0_51 (kIs_0 WX0_g (n := 10) (by decide +kernel) ⟨by decide, by decide, by decide +kernel⟩) (Or.inr ⟨rfl, rfl, rfl⟩) rfl (puts0 WX0_g (by decide) (by decide)) rfl ?_
  refine R_aload_n e_X0_init_4.2.2.1 0 rfl ?_
  refine R_bipush e_X0_init_4.2.2.2.1 (by decide) ?_
  refine R_newq (C := RX9) 10 29 6 20 136 WX0_g e_X0_init_4.2.2.2.2.1 (by decide) rfl cL_X0_55 aO_X9 (by decide +kernel) ⟨by decide, by decide, by decide +kernel⟩ (by decide) ⟨by decide, by decide⟩ ?_
  refine R_putA 0 12 12 e_X0_init_4.2.2.2.2.2.1 f_X0_57 (kIs_0 WX0_g (n := 11) (by decide +kernel) ⟨by decide, by decide, by decide +kernel⟩) (Or.inr ⟨rfl, rfl, rfl⟩) rfl (puts0 WX0_g (by decide) (by decide)) rfl ?_
  refine R_iconst e_X0_init_4.2.2.2.2.2.2.1 ?_
  refine R_istore_n (ls2 := [(1, vI 0), (0, vA G 5)]) e_X0_init_4.2.2.2.2.2.2.2.1 (by decide) rfl ?_
  refine R_iload_n e_X0_init_4.2.2.2.2.2.2.2.2.1 0 rfl ?_
  refine R_bipush e_X0_init_4.2.2.2.2.2.2.2.2.2 (by decide) ?_
  refine R_icmp_ge 115 e_X0_init_5.1 (by decide) (by decide) (by decide) (fun q => absurd q (by decide)) (fun q => ?_)
  refine R_aload_n e_X0_init_5.2.1 1 rfl ?_
  refine R_getA 0 10 8 e_X0_init_5.2.2.1 f_X0_45 (kIs_0 WX0_g (n := 11) (by decide +kernel) ⟨by decide, by decide, by decide +kernel⟩) (fun _ _ => rfl) (by decide +kernel) (by decide) ?_
  refine R_iload_n e_X0_init_5.2.2.2.1 0 rfl ?_
  refine R_new 11 3 19 126 WX0_g e_X0_init_5.2.2.2.2.1 ⟨by decide, cL_X0_43⟩ cI_X3 cN_X3 (by decide +kernel) ⟨by decide, by decide, by decide +kernel⟩ ⟨by decide, by decide⟩ ?_
  refine R_dup e_X0_init_5.2.2.2.2.2.1 rfl ?_
  refine R_callIN (mc := 19) (ms := 126) (mc' := 0) (ms' := 0) (M' := M_X3_init) (d' := 1) (as := []) (st := [vA G 11, vI 0, vA G 8]) 0 e_X0_init_5.2.2.2.2.2.2.1 m_X3_init kn_X0_61 (by decide) (by decide) rfl rfl (by show (3 : Nat) ≤ 8; decide) ?_
  refine Run.mono (I_X3 (kIs_s WX0_g (n := 12) (by decide +kernel) ⟨by decide, by decide, by decide +kernel⟩) (by decide)) (fun r s e => ?_)
  refine R_eqs (st2 := [vA G 11, vI 0, vA G 8]) (σ2 := (iX3 (kmk (kup (kmk (kup (kmk (kup (kmk (kup (kmk (kup (kmk (kup (kup (kup (kup (kup (kup (kup (kup mu3 5 0 0) 5 1 0) 5 2 6) 5 3 0) 5 4 0) 5 5 0) 5 6 0) 5 7 0) 6) 5 8 6) 7) 5 9 7) 8) 5 10 8) 9) 5 11 9) 10) 5 12 10) 11) 11)) rfl e ?_
  refine R_astq 27 3 6 WX0_g e_X0_init_5.2.2.2.2.2.2.2.1 (by decide) rfl (by decide) (kAr_0 WX0_g (n := 12) (by decide +kernel) ⟨by decide, by decide, by decide +kernel⟩ (by decide)) (kIs_0 WX0_g (n := 12) (by decide +kernel) ⟨by decide, by decide, by decide +kernel⟩) (by decide) (by decide) ?_
  refine R_iinc (ls2 := [(1, vI 1), (0, vA G 5)]) e_X0_init_5.2.2.2.2.2.2.2.2.1 0 rfl (by decide) rfl ?_
  refine R_goto 90 e_X0_init_5.2.2.2.2.2.2.2.2.2 (by decide) ?_
  refine R_iload_n e_X0_init_4.2.2.2.2.2.2.2.2.1 0 rfl ?_
  refine R_bipush e_X0_init_4.2.2.2.2.2.2.2.2.2 (by decide) ?_
  refine R_icmp_ge 115 e_X0_init_5.1 (by decide) (by decide) (by decide) (fun q => absurd q (by decide)) (fun q => ?_)
  refine R_aload_n e_X0_init_5.2.1 1 rfl ?_
  refine R_getA 0 10 8 e_X0_init_5.2.2.1 f_X0_45 (kIs_0 WX0_g (n := 12) (by decide +kernel) ⟨by decide, by decide, by decide +kernel⟩) (fun _ _ => rfl) (by decide +kernel) (by decide) ?_
  refine R_iload_n e_X0_init_5.2.2.2.1 0 rfl ?_
  refine R_new 12 3 18 116 WX0_g e_X0_init_5.2.2.2.2.1 ⟨by decide, cL_X0_43⟩ cI_X3 cN_X3 (by decide +kernel) ⟨by decide, by decide, by decide +kernel⟩ ⟨by decide, by decide⟩ ?_
  refine R_dup e_X0_init_5.2.2.2.2.2.1 rfl ?_
  refine R_callIN (mc := 18) (ms := 116) (mc' := 0) (ms' := 0) (M' := M_X3_init) (d' := 1) (as := []) (st := [vA G 12, vI 1, vA G 8]) 0 e_X0_init_5.2.2.2.2.2.2.1 m_X3_init kn_X0_61 (by decide) (by decide) rfl rfl (by show (3 : Nat) ≤ 8; decide) ?_
  refine Run.mono (I_X3 (kIs_s WX0_g (n := 13) (by decide +kernel) ⟨by decide, by decide, by decide +kernel⟩) (by decide)) (fun r s e => ?_)
  refine R_eqs (st2 := [vA G 12, vI 1, vA G 8]) (σ2 := (iX3 (kmk (kup (iX3 (kmk (kup (kmk (kup (kmk (kup (kmk (kup (kmk (kup (kmk (kup (kup (kup (kup (kup (kup (kup (kup mu3 5 0 0) 5 1 0) 5 2 6) 5 3 0) 5 4 0) 5 5 0) 5 6 0) 5 7 0) 6) 5 8 6) 7) 5 9 7) 8) 5 10 8) 9) 5 11 9) 10) 5 12 10) 11) 11) 8 0 11) 12) 12)) rfl e ?_
  refine R_astq 27 3 6 WX0_g e_X0_init_5.2.2.2.2.2.2.2.1 (by decide) rfl (by decide) (kAr_0 WX0_g (n := 13) (by decide +kernel) ⟨by decide, by decide, by decide +kernel⟩ (by decide)) (kIs_0 WX0_g (n := 13) (by decide +kernel) ⟨by decide, by decide, by decide +kernel⟩) (by decide) (by decide) ?_
  refine R_iinc (ls2 := [(1, vI 2), (0, vA G 5)]) e_X0_init_5.2.2.2.2.2.2.2.2.1 0 rfl (by decide) rfl ?_
  refine R_goto 90 e_X0_init_5.2.2.2.2.2.2.2.2.2 (by decide) ?_
  refine R_iload_n e_X0_init_4.2.2.2.2.2.2.2.2.1 0 rfl ?_
  refine R_bipush e_X0_init_4.2.2.2.2.2.2.2.2.2 (by decide) ?_
  refine R_icmp_ge 115 e_X0_init_5.1 (by decide) (by decide) (by decide) (fun q => absurd q (by decide)) (fun q => ?_)
  refine R_aload_n e_X0_init_5.2.1 1 rfl ?_
  refine R_getA 0 10 8 e_X0_init_5.2.2.1 f_X0_45 (kIs_0 WX0_g (n := 13) (by decide +kernel) ⟨by decide, by decide, by decide +kernel⟩) (fun _ _ => rfl) (by decide +kernel) (by decide) ?_
  refine R_iload_n e_X0_init_5.2.2.2.1 0 rfl ?_
  refine R_new 13 3 17 106 WX0_g e_X0_init_5.2.2.2.2.1 ⟨by decide, cL_X0_43⟩ cI_X3 cN_X3 (by decide +kernel) ⟨by decide, by decide, by decide +kernel⟩ ⟨by decide, by decide⟩ ?_
  refine R_dup e_X0_init_5.2.2.2.2.2.1 rfl ?_
  refine R_callIN (mc := 17) (ms := 106) (mc' := 0) (ms' := 0) (M' := M_X3_init) (d' := 1) (as := []) (st := [vA G 13, vI 2, vA G 8]) 0 e_X0_init_5.2.2.2.2.2.2.1 m_X3_init kn_X0_61 (by decide) (by decide) rfl rfl (by show (3 : Nat) ≤ 8; decide) ?_
  refine Run.mono (I_X3 (kIs_s WX0_g (n := 14) (by decide +kernel) ⟨by decide, by decide, by decide +kernel⟩) (by decide)) (fun r s e => ?_)
  refine R_eqs (st2 := [vA G 13, vI 2, vA G 8]) (σ2 := (iX3 (kmk (kup (iX3 (kmk (kup (iX3 (kmk (kup (kmk (kup (kmk (kup (kmk (kup (kmk (kup (kmk (kup (kup (kup (kup (kup (kup (kup (kup mu3 5 0 0) 5 1 0) 5 2 6) 5 3 0) 5 4 0) 5 5 0) 5 6 0) 5 7 0) 6) 5 8 6) 7) 5 9 7) 8) 5 10 8) 9) 5 11 9) 10) 5 12 10) 11) 11) 8 0 11) 12) 12) 8 1 12) 13) 13)) rfl e ?_
  refine R_astq 27 3 6 WX0_g e_X0_init_5.2.2.2.2.2.2.2.1 (by decide) rfl (by decide) (kAr_0 WX0_g (n := 14) (by decide +kernel) ⟨by decide, by decide, by decide +kernel⟩ (by decide)) (kIs_0 WX0_g (n := 14) (by decide +kernel) ⟨by decide, by decide, by decide +kernel⟩) (by decide) (by decide) ?_
  refine R_iinc (ls2 := [(1, vI 3), (0, vA G 5)]) e_X0_init_5.2.2.2.2.2.2.2.2.1 0 rfl (by decide) rfl ?_
  refine R_goto 90 e_X0_init_5.2.2.2.2.2.2.2.2.2 (by decide) ?_
  refine R_iload_n e_X0_init_4.2.2.2.2.2.2.2.2.1 0 rfl ?_
  refine R_bipush e_X0_init_4.2.2.2.2.2.2.2.2.2 (by decide) ?_
  refine R_icmp_ge 115 e_X0_init_5.1 (by decide) (by decide) (by decide) (fun q => absurd q (by decide)) (fun q => ?_)
  refine R_aload_n e_X0_init_5.2.1 1 rfl ?_
  refine R_getA 0 10 8 e_X0_init_5.2.2.1 f_X0_45 (kIs_0 WX0_g (n := 14) (by decide +kernel) ⟨by decide, by decide, by decide +kernel⟩) (fun _ _ => rfl) (by decide +kernel) (by decide) ?_
  refine R_iload_n e_X0_init_5.2.2.2.1 0 rfl ?_
  refine R_new 14 3 16 96 WX0_g e_X0_init_5.2.2.2.2.1 ⟨by decide, cL_X0_43⟩ cI_X3 cN_X3 (by decide +kernel) ⟨by decide, by decide, by decide +kernel⟩ ⟨by decide, by decide⟩ ?_
  refine R_dup e_X0_init_5.2.2.2.2.2.1 rfl ?_
  refine R_callIN (mc := 16) (ms := 96) (mc' := 0) (ms' := 0) (M' := M_X3_init) (d' := 1) (as := []) (st := [vA G 14, vI 3, vA G 8]) 0 e_X0_init_5.2.2.2.2.2.2.1 m_X3_init kn_X0_61 (by decide) (by decide) rfl rfl (by show (3 : Nat) ≤ 8; decide) ?_
  refine Run.mono (I_X3 (kIs_s WX0_g (n := 15) (by decide +kernel) ⟨by decide, by decide, by decide +kernel⟩) (by decide)) (fun r s e => ?_)
  refine R_eqs (st2 := [vA G 14, vI 3, vA G 8]) (σ2 := (iX3 (kmk (kup (iX3 (kmk (kup (iX3 (kmk (kup (iX3 (kmk (kup (kmk (kup (kmk (kup (kmk (kup (kmk (kup (kmk (kup (kup (kup (kup (kup (kup (kup (kup mu3 5 0 0) 5 1 0) 5 2 6) 5 3 0) 5 4 0) 5 5 0) 5 6 0) 5 7 0) 6) 5 8 6) 7) 5 9 7) 8) 5 10 8) 9) 5 11 9) 10) 5 12 10) 11) 11) 8 0 11) 12) 12) 8 1 12) 13) 13) 8 2 13) 14) 14)) rfl e ?_
  refine R_astq 27 3 6 WX0_g e_X0_init_5.2.2.2.2.2.2.2.1 (by decide) rfl (by decide) (kAr_0 WX0_g (n := 15) (by decide +kernel) ⟨by decide, by decide, by decide +kernel⟩ (by decide)) (kIs_0 WX0_g (n := 15) (by decide +kernel) ⟨by decide, by decide, by decide +kernel⟩) (by decide) (by decide) ?_
  refine R_iinc (ls2 := [(1, vI 4), (0, vA G 5)]) e_X0_init_5.2.2.2.2.2.2.2.2.1 0 rfl (by decide) rfl ?_
  refine R_goto 90 e_X0_init_5.2.2.2.2.2.2.2.2.2 (by decide) ?_
  refine R_iload_n e_X0_init_4.2.2.2.2.2.2.2.2.1 0 rfl ?_
  refine R_bipush e_X0_init_4.2.2.2.2.2.2.2.2.2 (by decide) ?_
  refine R_icmp_ge 115 e_X0_init_5.1 (by decide) (by decide) (by decide) (fun q => absurd q (by decide)) (fun q => ?_)
  refine R_aload_n e_X0_init_5.2.1 1 rfl ?_
  refine R_getA 0 10 8 e_X0_init_5.2.2.1 f_X0_45 (kIs_0 WX0_g (n := 15) (by decide +kernel) ⟨by decide, by decide, by decide +kernel⟩) (fun _ _ => rfl) (by decide +kernel) (by decide) ?_
  refine R_iload_n e_X0_init_5.2.2.2.1 0 rfl ?_
  refine R_new 15 3 15 86 WX0_g e_X0_init_5.2.2.2.2.1 ⟨by decide, cL_X0_43⟩ cI_X3 cN_X3 (by decide +kernel) ⟨by decide, by decide, by decide +kernel⟩ ⟨by decide, by decide⟩ ?_
  refine R_dup e_X0_init_5.2.2.2.2.2.1 rfl ?_
  refine R_callIN (mc := 15) (ms := 86) (mc' := 0) (ms' := 0) (M' := M_X3_init) (d' := 1) (as := []) (st := [vA G 15, vI 4, vA G 8]) 0 e_X0_init_5.2.2.2.2.2.2.1 m_X3_init kn_X0_61 (by decide) (by decide) rfl rfl (by show (3 : Nat) ≤ 8; decide) ?_
  refine Run.mono (I_X3 (kIs_s WX0_g (n := 16) (by decide +kernel) ⟨by decide, by decide, by decide +kernel⟩) (by decide)) (fun r s e => ?_)
  refine R_eqs (st2 := [vA G 15, vI 4, vA G 8]) (σ2 := (iX3 (kmk (kup (iX3 (kmk (kup (iX3 (kmk (kup (iX3 (kmk (kup (iX3 (kmk (kup (kmk (kup (kmk (kup (kmk (kup (kmk (kup (kmk (kup (kup (kup (kup (kup (kup (kup (kup mu3 5 0 0) 5 1 0) 5 2 6) 5 3 0) 5 4 0) 5 5 0) 5 6 0) 5 7 0) 6) 5 8 6) 7) 5 9 7) 8) 5 10 8) 9) 5 11 9) 10) 5 12 10) 11) 11) 8 0 11) 12) 12) 8 1 12) 13) 13) 8 2 13) 14) 14) 8 3 14) 15) 15)) rfl e ?_
  refine R_astq 27 3 6 WX0_g e_X0_init_5.2.2.2.2.2.2.2.1 (by decide) rfl (by decide) (kAr_0 WX0_g (n := 16) (by decide +kernel) ⟨by decide, by decide, by decide +kernel⟩ (by decide)) (kIs_0 WX0_g (n := 16) (by decide +kernel) ⟨by decide, by decide, by decide +kernel⟩) (by decide) (by decide) ?_
  refine R_iinc (ls2 := [(1, vI 5), (0, vA G 5)]) e_X0_init_5.2.2.2.2.2.2.2.2.1 0 rfl (by decide) rfl ?_
  refine R_goto 90 e_X0_init_5.2.2.2.2.2.2.2.2.2 (by decide) ?_
  refine R_iload_n e_X0_init_4.2.2.2.2.2.2.2.2.1 0 rfl ?_
  refine R_bipush e_X0_init_4.2.2.2.2.2.2.2.2.2 (by decide) ?_
  refine R_icmp_ge 115 e_X0_init_5.1 (by decide) (by decide) (by decide) (fun q => absurd q (by decide)) (fun q => ?_)
  refine R_aload_n e_X0_init_5.2.1 1 rfl ?_
  refine R_getA 0 10 8 e_X0_init_5.2.2.1 f_X0_45 (kIs_0 WX0_g (n := 16) (by decide +kernel) ⟨by decide, by decide, by decide +kernel⟩) (fun _ _ => rfl) (by decide +kernel) (by decide) ?_
  refine R_iload_n e_X0_init_5.2.2.2.1 0 rfl ?_
  refine R_new 16 3 14 76 WX0_g e_X0_init_5.2.2.2.2.1 ⟨by decide, cL_X0_43⟩ cI_X3 cN_X3 (by decide +kernel) ⟨by decide, by decide, by decide +kernel⟩ ⟨by decide, by decide⟩ ?_
  refine R_dup e_X0_init_5.2.2.2.2.2.1 rfl ?_
  refine R_callIN (mc := 14) (ms := 76) (mc' := 0) (ms' := 0) (M' := M_X3_init) (d' := 1) (as := []) (st := [vA G 16, vI 5, vA G 8]) 0 e_X0_init_5.2.2.2.2.2.2.1 m_X3_init kn_X0_61 (by decide) (by decide) rfl rfl (by show (3 : Nat) ≤ 8; decide) ?_
  refine Run.mono (I_X3 (kIs_s WX0_g (n := 17) (by decide +kernel) ⟨by decide, by decide, by decide +kernel⟩) (by decide)) (fun r s e => ?_)
  refine R_eqs (st2 := [vA G 16, vI 5, vA G 8]) (σ2 := (iX3 (kmk (kup (iX3 (kmk (kup (iX3 (kmk (kup (iX3 (kmk (kup (iX3 (kmk (kup (iX3 (kmk (kup (kmk (kup (kmk (kup (kmk (kup (kmk (kup (kmk (kup (kup (kup (kup (kup (kup (kup (kup mu3 5 0 0) 5 1 0) 5 2 6) 5 3 0) 5 4 0) 5 5 0) 5 6 0) 5 7 0) 6) 5 8 6) 7) 5 9 7) 8) 5 10 8) 9) 5 11 9) 10) 5 12 10) 11) 11) 8 0 11) 12) 12) 8 1 12) 13) 13) 8 2 13) 14) 14) 8 3 14) 15) 15) 8 4 15) 16) 16)) rfl e ?_
  refine R_astq 27 3 6 WX0_g e_X0_init_5.2.2.2.2.2.2.2.1 (by decide) rfl (by decide) (kAr_0 WX0_g (n := 17) (by decide +kernel) ⟨by decide, by decide, by decide +kernel⟩ (by decide)) (kIs_0 WX0_g (n := 17) (by decide +kernel) ⟨by decide, by decide, by decide +kernel⟩) (by decide) (by decide) ?_
  refine R_iinc (ls2 := [(1, vI 6), (0, vA G 5)]) e_X0_init_5.2.2.2.2.2.2.2.2.1 0 rfl (by decide) rfl ?_
  refine R_goto 90 e_X0_init_5.2.2.2.2.2.2.2.2.2 (by decide) ?_
  refine R_iload_n e_X0_init_4.2.2.2.2.2.2.2.2.1 0 rfl ?_
  refine R_bipush e_X0_init_4.2.2.2.2.2.2.2.2.2 (by decide) ?_
  refine R_icmp_ge 115 e_X0_init_5.1 (by decide) (by decide) (by decide) (fun q => ?_) (fun q => absurd q (by decide))
  refine R_iconst e_X0_init_6.1 ?_
  refine R_istore_n (ls2 := [(1, vI 0), (0, vA G 5)]) e_X0_init_6.2.1 (by decide) rfl ?_
  refine R_iload_n e_X0_init_6.2.2.1 0 rfl ?_
  refine R_bipush e_X0_init_6.2.2.2.1 (by decide) ?_
  refine R_icmp_ge 142 e_X0_init_6.2.2.2.2.1 (by decide) (by decide) (by decide) (fun q => absurd q (by decide)) (fun q => ?_)
  refine R_aload_n e_X0_init_6.2.2.2.2.2.1 1 rfl ?_
  refine R_getA 0 11 9 e_X0_init_6.2.2.2.2.2.2.1 f_X0_51 (kIs_0 WX0_g (n := 17) (by decide +kernel) ⟨by decide, by decide, by decide +kernel⟩) (fun _ _ => rfl) (by decide +kernel) (by decide) ?_
  refine R_iload_n e_X0_init_6.2.2.2.2.2.2.2.1 0 rfl ?_
  refine R_new 17 2 13 71 WX0_g e_X0_init_6.2.2.2.2.2.2.2.2.1 ⟨by decide, cL_X0_49⟩ cI_X2 cN_X2 (by decide +kernel) ⟨by decide, by decide, by decide +kernel⟩ ⟨by decide, by decide⟩ ?_
  refine R_dup e_X0_init_6.2.2.2.2.2.2.2.2.2 rfl ?_
  refine R_callIN (mc := 13) (ms := 71) (mc' := 0) (ms' := 0) (M' := M_X2_init) (d' := 1) (as := []) (st := [vA G 17, vI 0, vA G 9]) 0 e_X0_init_7.1 m_X2_init kn_X0_62 (by decide) (by decide) rfl rfl (by show (3 : Nat) ≤ 8; decide) ?_
  refine Run.mono (I_X2 (kIs_s WX0_g (n := 18) (by decide +kernel) ⟨by decide, by decide, by decide +kernel⟩) (by decide)) (fun r s e => ?_)
  refine R_eqs (st2 := [vA G 17, vI 0, vA G 9]) (σ2 := (iX2 (kmk (kup (iX3 (kmk (kup (iX3 (kmk (kup (iX3 (kmk (kup (iX3 (kmk (kup (iX3 (kmk (kup (iX3 (kmk (kup (kmk (kup (kmk (kup (kmk (kup (kmk (kup (kmk (kup (kup (kup (kup (kup (kup (kup (kup mu3 5 0 0) 5 1 0) 5 2 6) 5 3 0) 5 4 0) 5 5 0) 5 6 0) 5 7 0) 6) 5 8 6) 7) 5 9 7) 8) 5 10 8) 9) 5 11 9) 10) 5 12 10) 11) 11) 8 0 11) 12) 12) 8 1 12) 13) 13) 8 2 13) 14) 14) 8 3 14) 15) 15) 8 4 15) 16) 16) 8 5 16) 17) 17)) rfl e ?_
  refine R_astq 28 2 8 WX0_g e_X0_init_7.2.1 (by decide) rfl (by decide) (kAr_0 WX0_g (n := 18) (by decide +kernel) ⟨by decide, by decide, by decide +kernel⟩ (by decide)) (kIs_0 WX0_g (n := 18) (by decide +kernel) ⟨by decide, by decide, by decide +kernel⟩) (by decide) (by decide) ?_
  refine R_iinc (ls2 := [(1, vI 1), (0, vA G 5)]) e_X0_init_7.2.2.1 0 rfl (by decide) rfl ?_
  refine R_goto 117 e_X0_init_7.2.2.2.1 (by decide) ?_
  refine R_iload_n e_X0_init_6.2.2.1 0 rfl ?_
  refine R_bipush e_X0_init_6.2.2.2.1 (by decide) ?_
  refine R_icmp_ge 142 e_X0_init_6.2.2.2.2.1 (by decide) (by decide) (by decide) (fun q => absurd q (by decide)) (fun q => ?_)
  refine R_aload_n e_X0_init_6.2.2.2.2.2.1 1 rfl ?_
  refine R_getA 0 11 9 e_X0_init_6.2.2.2.2.2.2.1 f_X0_51 (kIs_0 WX0_g (n := 18) (by decide +kernel) ⟨by decide, by decide, by decide +kernel⟩) (fun _ _ => rfl) (by decide +kernel) (by decide) ?_
  refine R_iload_n e_X0_init_6.2.2.2.2.2.2.2.1 0 rfl ?_
  refine R_new 18 2 12 66 WX0_g e_X0_init_6.2.2.2.2.2.2.2.2.1 ⟨by decide, cL_X0_49⟩ cI_X2 cN_X2 (by decide +kernel) ⟨by decide, by decide, by decide +kernel⟩ ⟨by decide, by decide⟩ ?_
  refine R_dup e_X0_init_6.2.2.2.2.2.2.2.2.2 rfl ?_
  refine R_callIN (mc := 12) (ms := 66) (mc' := 0) (ms' := 0) (M' := M_X2_init) (d' := 1) (as := []) (st := [vA G 18, vI 1, vA G 9]) 0 e_X0_init_7.1 m_X2_init kn_X0_62 (by decide) (by decide) rfl rfl (by show (3 : Nat) ≤ 8; decide) ?_
  refine Run.mono (I_X2 (kIs_s WX0_g (n := 19) (by decide +kernel) ⟨by decide, by decide, by decide +kernel⟩) (by decide)) (fun r s e => ?_)
  refine R_eqs (st2 := [vA G 18, vI 1, vA G 9]) (σ2 := (iX2 (kmk (kup (iX2 (kmk (kup (iX3 (kmk (kup (iX3 (kmk (kup (iX3 (kmk (kup (iX3 (kmk (kup (iX3 (kmk (kup (iX3 (kmk (kup (kmk (kup (kmk (kup (kmk (kup (kmk (kup (kmk (kup (kup (kup (kup (kup (kup (kup (kup mu3 5 0 0) 5 1 0) 5 2 6) 5 3 0) 5 4 0) 5 5 0) 5 6 0) 5 7 0) 6) 5 8 6) 7) 5 9 7) 8) 5 10 8) 9) 5 11 9) 10) 5 12 10) 11) 11) 8 0 11) 12) 12) 8 1 12) 13) 13) 8 2 13) 14) 14) 8 3 14) 15) 15) 8 4 15) 16) 16) 8 5 16) 17) 17) 9 0 17) 18) 18)) rfl e ?_
  refine R_astq 28 2 8 WX0_g e_X0_init_7.2.1 (by decide) rfl (by decide) (kAr_0 WX0_g (n := 19) (by decide +kernel) ⟨by decide, by decide, by decide +kernel⟩ (by decide)) (kIs_0 WX0_g (n := 19) (by decide +kernel) ⟨by decide, by decide, by decide +kernel⟩) (by decide) (by decide) ?_
  refine R_iinc (ls2 := [(1, vI 2), (0, vA G 5)]) e_X0_init_7.2.2.1 0 rfl (by decide) rfl ?_
  refine R_goto 117 e_X0_init_7.2.2.2.1 (by decide) ?_
  refine R_iload_n e_X0_init_6.2.2.1 0 rfl ?_
  refine R_bipush e_X0_init_6.2.2.2.1 (by decide) ?_
  refine R_icmp_ge 142 e_X0_init_6.2.2.2.2.1 (by decide) (by decide) (by decide) (fun q => absurd q (by decide)) (fun q => ?_)
  refine R_aload_n e_X0_init_6.2.2.2.2.2.1 1 rfl ?_
  refine R_getA 0 11 9 e_X0_init_6.2.2.2.2.2.2.1 f_X0_51 (kIs_0 WX0_g (n := 19) (by decide +kernel) ⟨by decide, by decide, by decide +kernel⟩) (fun _ _ => rfl) (by decide +kernel) (by decide) ?_
  refine R_iload_n e_X0_init_6.2.2.2.2.2.2.2.1 0 rfl ?_
  refine R_new 19 2 11 61 WX0_g e_X0_init_6.2.2.2.2.2.2.2.2.1 ⟨by decide, cL_X0_49⟩ cI_X2 cN_X2 (by decide +kernel) ⟨by decide, by decide, by decide +kernel⟩ ⟨by decide, by decide⟩ ?_
  refine R_dup e_X0_init_6.2.2.2.2.2.2.2.2.2 rfl ?_
  refine R_callIN (mc := 11) (ms := 61) (mc' := 0) (ms' := 0) (M' := M_X2_init) (d' := 1) (as := []) (st := [vA G 19, vI 2, vA G 9]) 0 e_X0_init_7.1 m_X2_init kn_X0_62 (by decide) (by decide) rfl rfl (by show (3 : Nat) ≤ 8; decide) ?_
  refine Run.mono (I_X2 (kIs_s WX0_g (n := 20) (by decide +kernel) ⟨by decide, by decide, by decide +kernel⟩) (by decide)) (fun r s e => ?_)
  refine R_eqs (st2 := [vA G 19, vI 2, vA G 9]) (σ2 := (iX2 (kmk (kup (iX2 (kmk (kup (iX2 (kmk (kup (iX3 (kmk (kup (iX3 (kmk (kup (iX3 (kmk (kup (iX3 (kmk (kup (iX3 (kmk (kup (iX3 (kmk (kup (kmk (kup (kmk (kup (kmk (kup (kmk (kup (kmk (kup (kup (kup (kup (kup (kup (kup (kup mu3 5 0 0) 5 1 0) 5 2 6) 5 3 0) 5 4 0) 5 5 0) 5 6 0) 5 7 0) 6) 5 8 6) 7) 5 9 7) 8) 5 10 8) 9) 5 11 9) 10) 5 12 10) 11) 11) 8 0 11) 12) 12) 8 1 12) 13) 13) 8 2 13) 14) 14) 8 3 14) 15) 15) 8 4 15) 16) 16) 8 5 16) 17) 17) 9 0 17) 18) 18) 9 1 18) 19) 19)) rfl e ?_
  refine R_astq 28 2 8 WX0_g e_X0_init_7.2.1 (by decide) rfl (by decide) (kAr_0 WX0_g (n := 20) (by decide +kernel) ⟨by decide, by decide, by decide +kernel⟩ (by decide)) (kIs_0 WX0_g (n := 20) (by decide +kernel) ⟨by decide, by decide, by decide +kernel⟩) (by decide) (by decide) ?_
  refine R_iinc (ls2 := [(1, vI 3), (0, vA G 5)]) e_X0_init_7.2.2.1 0 rfl (by decide) rfl ?_
  refine R_goto 117 e_X0_init_7.2.2.2.1 (by decide) ?_
  refine R_iload_n e_X0_init_6.2.2.1 0 rfl ?_
  refine R_bipush e_X0_init_6.2.2.2.1 (by decide) ?_
  refine R_icmp_ge 142 e_X0_init_6.2.2.2.2.1 (by decide) (by decide) (by decide) (fun q => absurd q (by decide)) (fun q => ?_)
  refine R_aload_n e_X0_init_6.2.2.2.2.2.1 1 rfl ?_
  refine R_getA 0 11 9 e_X0_init_6.2.2.2.2.2.2.1 f_X0_51 (kIs_0 WX0_g (n := 20) (by decide +kernel) ⟨by decide, by decide, by decide +kernel⟩) (fun _ _ => rfl) (by decide +kernel) (by decide) ?_
  refine R_iload_n e_X0_init_6.2.2.2.2.2.2.2.1 0 rfl ?_
  refine R_new 20 2 10 56 WX0_g e_X0_init_6.2.2.2.2.2.2.2.2.1 ⟨by decide, cL_X0_49⟩ cI_X2 cN_X2 (by decide +kernel) ⟨by decide, by decide, by decide +kernel⟩ ⟨by decide, by decide⟩ ?_
  refine R_dup e_X0_init_6.2.2.2.2.2.2.2.2.2 rfl ?_
  refine R_callIN (mc := 10) (ms := 56) (mc' := 0) (ms' := 0) (M' := M_X2_init) (d' := 1) (as := []) (st := [vA G 20, vI 3, vA G 9]) 0 e_X0_init_7.1 m_X2_init kn_X0_62 (by decide) (by decide) rfl rfl (by show (3 : Nat) ≤ 8; decide) ?_
  refine Run.mono (I_X2 (kIs_s WX0_g (n := 21) (by decide +kernel) ⟨by decide, by decide, by decide +kernel⟩) (by decide)) (fun r s e => ?_)
  refine R_eqs (st2 := [vA G 20, vI 3, vA G 9]) (σ2 := (iX2 (kmk (kup (iX2 (kmk (kup (iX2 (kmk (kup (iX2 (kmk (kup (iX3 (kmk (kup (iX3 (kmk (kup (iX3 (kmk (kup (iX3 (kmk (kup (iX3 (kmk (kup (iX3 (kmk (kup (kmk (kup (kmk (kup (kmk (kup (kmk (kup (kmk (kup (kup (kup (kup (kup (kup (kup (kup mu3 5 0 0) 5 1 0) 5 2 6) 5 3 0) 5 4 0) 5 5 0) 5 6 0) 5 7 0) 6) 5 8 6) 7) 5 9 7) 8) 5 10 8) 9) 5 11 9) 10) 5 12 10) 11) 11) 8 0 11) 12) 12) 8 1 12) 13) 13) 8 2 13) 14) 14) 8 3 14) 15) 15) 8 4 15) 16) 16) 8 5 16) 17) 17) 9 0 17) 18) 18) 9 1 18) 19) 19) 9 2 19) 20) 20)) rfl e ?_
  refine R_astq 28 2 8 WX0_g e_X0_init_7.2.1 (by decide) rfl (by decide) (kAr_0 WX0_g (n := 21) (by decide +kernel) ⟨by decide, by decide, by decide +kernel⟩ (by decide)) (kIs_0 WX0_g (n := 21) (by decide +kernel) ⟨by decide, by decide, by decide +kernel⟩) (by decide) (by decide) ?_
  refine R_iinc (ls2 := [(1, vI 4), (0, vA G 5)]) e_X0_init_7.2.2.1 0 rfl (by decide) rfl ?_
  refine R_goto 117 e_X0_init_7.2.2.2.1 (by decide) ?_
  refine R_iload_n e_X0_init_6.2.2.1 0 rfl ?_
  refine R_bipush e_X0_init_6.2.2.2.1 (by decide) ?_
  refine R_icmp_ge 142 e_X0_init_6.2.2.2.2.1 (by decide) (by decide) (by decide) (fun q => absurd q (by decide)) (fun q => ?_)
  refine R_aload_n e_X0_init_6.2.2.2.2.2.1 1 rfl ?_
  refine R_getA 0 11 9 e_X0_init_6.2.2.2.2.2.2.1 f_X0_51 (kIs_0 WX0_g (n := 21) (by decide +kernel) ⟨by decide, by decide, by decide +kernel⟩) (fun _ _ => rfl) (by decide +kernel) (by decide) ?_
  refine R_iload_n e_X0_init_6.2.2.2.2.2.2.2.1 0 rfl ?_
  refine R_new 21 2 9 51 WX0_g e_X0_init_6.2.2.2.2.2.2.2.2.1 ⟨by decide, cL_X0_49⟩ cI_X2 cN_X2 (by decide +kernel) ⟨by decide, by decide, by decide +kernel⟩ ⟨by decide, by decide⟩ ?_
  refine R_dup e_X0_init_6.2.2.2.2.2.2.2.2.2 rfl ?_
  refine R_callIN (mc := 9) (ms := 51) (mc' := 0) (ms' := 0) (M' := M_X2_init) (d' := 1) (as := []) (st := [vA G 21, vI 4, vA G 9]) 0 e_X0_init_7.1 m_X2_init kn_X0_62 (by decide) (by decide) rfl rfl (by show (3 : Nat) ≤ 8; decide) ?_
  refine Run.mono (I_X2 (kIs_s WX0_g (n := 22) (by decide +kernel) ⟨by decide, by decide, by decide +kernel⟩) (by decide)) (fun r s e => ?_)
  refine R_eqs (st2 := [vA G 21, vI 4, vA G 9]) (σ2 := (iX2 (kmk (kup (iX2 (kmk (kup (iX2 (kmk (kup (iX2 (kmk (kup (iX2 (kmk (kup (iX3 (kmk (kup (iX3 (kmk (kup (iX3 (kmk (kup (iX3 (kmk (kup (iX3 (kmk (kup (iX3 (kmk (kup (kmk (kup (kmk (kup (kmk (kup (kmk (kup (kmk (kup (kup (kup (kup (kup (kup (kup (kup mu3 5 0 0) 5 1 0) 5 2 6) 5 3 0) 5 4 0) 5 5 0) 5 6 0) 5 7 0) 6) 5 8 6) 7) 5 9 7) 8) 5 10 8) 9) 5 11 9) 10) 5 12 10) 11) 11) 8 0 11) 12) 12) 8 1 12) 13) 13) 8 2 13) 14) 14) 8 3 14) 15) 15) 8 4 15) 16) 16) 8 5 16) 17) 17) 9 0 17) 18) 18) 9 1 18) 19) 19) 9 2 19) 20) 20) 9 3 20) 21) 21)) rfl e ?_
  refine R_astq 28 2 8 WX0_g e_X0_init_7.2.1 (by decide) rfl (by decide) (kAr_0 WX0_g (n := 22) (by decide +kernel) ⟨by decide, by decide, by decide +kernel⟩ (by decide)) (kIs_0 WX0_g (n := 22) (by decide +kernel) ⟨by decide, by decide, by decide +kernel⟩) (by decide) (by decide) ?_
  refine R_iinc (ls2 := [(1, vI 5), (0, vA G 5)]) e_X0_init_7.2.2.1 0 rfl (by decide) rfl ?_
  refine R_goto 117 e_X0_init_7.2.2.2.1 (by decide) ?_
  refine R_iload_n e_X0_init_6.2.2.1 0 rfl ?_
  refine R_bipush e_X0_init_6.2.2.2.1 (by decide) ?_
  refine R_icmp_ge 142 e_X0_init_6.2.2.2.2.1 (by decide) (by decide) (by decide) (fun q => absurd q (by decide)) (fun q => ?_)
  refine R_aload_n e_X0_init_6.2.2.2.2.2.1 1 rfl ?_
  refine R_getA 0 11 9 e_X0_init_6.2.2.2.2.2.2.1 f_X0_51 (kIs_0 WX0_g (n := 22) (by decide +kernel) ⟨by decide, by decide, by decide +kernel⟩) (fun _ _ => rfl) (by decide +kernel) (by decide) ?_
  refine R_iload_n e_X0_init_6.2.2.2.2.2.2.2.1 0 rfl ?_
  refine R_new 22 2 8 46 WX0_g e_X0_init_6.2.2.2.2.2.2.2.2.1 ⟨by decide, cL_X0_49⟩ cI_X2 cN_X2 (by decide +kernel) ⟨by decide, by decide, by decide +kernel⟩ ⟨by decide, by decide⟩ ?_
  refine R_dup e_X0_init_6.2.2.2.2.2.2.2.2.2 rfl ?_
  refine R_callIN (mc := 8) (ms := 46) (mc' := 0) (ms' := 0) (M' := M_X2_init) (d' := 1) (as := []) (st := [vA G 22, vI 5, vA G 9]) 0 e_X0_init_7.1 m_X2_init kn_X0_62 (by decide) (by decide) rfl rfl (by show (3 : Nat) ≤ 8; decide) ?_
  refine Run.mono (I_X2 (kIs_s WX0_g (n := 23) (by decide +kernel) ⟨by decide, by decide, by decide +kernel⟩) (by decide)) (fun r s e => ?_)
  refine R_eqs (st2 := [vA G 22, vI 5, vA G 9]) (σ2 := (iX2 (kmk (kup (iX2 (kmk (kup (iX2 (kmk (kup (iX2 (kmk (kup (iX2 (kmk (kup (iX2 (kmk (kup (iX3 (kmk (kup (iX3 (kmk (kup (iX3 (kmk (kup (iX3 (kmk (kup (iX3 (kmk (kup (iX3 (kmk (kup (kmk (kup (kmk (kup (kmk (kup (kmk (kup (kmk (kup (kup (kup (kup (kup (kup (kup (kup mu3 5 0 0) 5 1 0) 5 2 6) 5 3 0) 5 4 0) 5 5 0) 5 6 0) 5 7 0) 6) 5 8 6) 7) 5 9 7) 8) 5 10 8) 9) 5 11 9) 10) 5 12 10) 11) 11) 8 0 11) 12) 12) 8 1 12) 13) 13) 8 2 13) 14) 14) 8 3 14) 15) 15) 8 4 15) 16) 16) 8 5 16) 17) 17) 9 0 17) 18) 18) 9 1 18) 19) 19) 9 2 19) 20) 20) 9 3 20) 21) 21) 9 4 21) 22) 22)) rfl e ?_
  refine R_astq 28 2 8 WX0_g e_X0_init_7.2.1 (by decide) rfl (by decide) (kAr_0 WX0_g (n := 23) (by decide +kernel) ⟨by decide, by decide, by decide +kernel⟩ (by decide)) (kIs_0 WX0_g (n := 23) (by decide +kernel) ⟨by decide, by decide, by decide +kernel⟩) (by decide) (by decide) ?_
  refine R_iinc (ls2 := [(1, vI 6), (0, vA G 5)]) e_X0_init_7.2.2.1 0 rfl (by decide) rfl ?_
  refine R_goto 117 e_X0_init_7.2.2.2.1 (by decide) ?_
  refine R_iload_n e_X0_init_6.2.2.1 0 rfl ?_
  refine R_bipush e_X0_init_6.2.2.2.1 (by decide) ?_
  refine R_icmp_ge 142 e_X0_init_6.2.2.2.2.1 (by decide) (by decide) (by decide) (fun q => absurd q (by decide)) (fun q => ?_)
  refine R_aload_n e_X0_init_6.2.2.2.2.2.1 1 rfl ?_
  refine R_getA 0 11 9 e_X0_init_6.2.2.2.2.2.2.1 f_X0_51 (kIs_0 WX0_g (n := 23) (by decide +kernel) ⟨by decide, by decide, by decide +kernel⟩) (fun _ _ => rfl) (by decide +kernel) (by decide) ?_
  refine R_iload_n e_X0_init_6.2.2.2.2.2.2.2.1 0 rfl ?_
  refine R_new 23 2 7 41 WX0_g e_X0_init_6.2.2.2.2.2.2.2.2.1 ⟨by decide, cL_X0_49⟩ cI_X2 cN_X2 (by decide +kernel) ⟨by decide, by decide, by decide +kernel⟩ ⟨by decide, by decide⟩ ?_
  refine R_dup e_X0_init_6.2.2.2.2.2.2.2.2.2 rfl ?_
  refine R_callIN (mc := 7) (ms := 41) (mc' := 0) (ms' := 0) (M' := M_X2_init) (d' := 1) (as := []) (st := [vA G 23, vI 6, vA G 9]) 0 e_X0_init_7.1 m_X2_init kn_X0_62 (by decide) (by decide) rfl rfl (by show (3 : Nat) ≤ 8; decide) ?_
  refine Run.mono (I_X2 (kIs_s WX0_g (n := 24) (by decide +kernel) ⟨by decide, by decide, by decide +kernel⟩) (by decide)) (fun r s e => ?_)
  refine R_eqs (st2 := [vA G 23, vI 6, vA G 9]) (σ2 := (iX2 (kmk (kup (iX2 (kmk (kup (iX2 (kmk (kup (iX2 (kmk (kup (iX2 (kmk (kup (iX2 (kmk (kup (iX2 (kmk (kup (iX3 (kmk (kup (iX3 (kmk (kup (iX3 (kmk (kup (iX3 (kmk (kup (iX3 (kmk (kup (iX3 (kmk (kup (kmk (kup (kmk (kup (kmk (kup (kmk (kup (kmk (kup (kup (kup (kup (kup (kup (kup (kup mu3 5 0 0) 5 1 0) 5 2 6) 5 3 0) 5 4 0) 5 5 0) 5 6 0) 5 7 0) 6) 5 8 6) 7) 5 9 7) 8) 5 10 8) 9) 5 11 9) 10) 5 12 10) 11) 11) 8 0 11) 12) 12) 8 1 12) 13) 13) 8 2 13) 14) 14) 8 3 14) 15) 15) 8 4 15) 16) 16) 8 5 16) 17) 17) 9 0 17) 18) 18) 9 1 18) 19) 19) 9 2 19) 20) 20) 9 3 20) 21) 21) 9 4 21) 22) 22) 9 5 22) 23) 23)) rfl e ?_
  refine R_astq 28 2 8 WX0_g e_X0_init_7.2.1 (by decide) rfl (by decide) (kAr_0 WX0_g (n := 24) (by decide +kernel) ⟨by decide, by decide, by decide +kernel⟩ (by decide)) (kIs_0 WX0_g (n := 24) (by decide +kernel) ⟨by decide, by decide, by decide +kernel⟩) (by decide) (by decide) ?_
  refine R_iinc (ls2 := [(1, vI 7), (0, vA G 5)]) e_X0_init_7.2.2.1 0 rfl (by decide) rfl ?_
  refine R_goto 117 e_X0_init_7.2.2.2.1 (by decide) ?_
  refine R_iload_n e_X0_init_6.2.2.1 0 rfl ?_
  refine R_bipush e_X0_init_6.2.2.2.1 (by decide) ?_
  refine R_icmp_ge 142 e_X0_init_6.2.2.2.2.1 (by decide) (by decide) (by decide) (fun q => absurd q (by decide)) (fun q => ?_)
  refine R_aload_n e_X0_init_6.2.2.2.2.2.1 1 rfl ?_
  refine R_getA 0 11 9 e_X0_init_6.2.2.2.2.2.2.1 f_X0_51 (kIs_0 WX0_g (n := 24) (by decide +kernel) ⟨by decide, by decide, by decide +kernel⟩) (fun _ _ => rfl) (by decide +kernel) (by decide) ?_
  refine R_iload_n e_X0_init_6.2.2.2.2.2.2.2.1 0 rfl ?_
  refine R_new 24 2 6 36 WX0_g e_X0_init_6.2.2.2.2.2.2.2.2.1 ⟨by decide, cL_X0_49⟩ cI_X2 cN_X2 (by decide +kernel) ⟨by decide, by decide, by decide +kernel⟩ ⟨by decide, by decide⟩ ?_
  refine R_dup e_X0_init_6.2.2.2.2.2.2.2.2.2 rfl ?_
  refine R_callIN (mc := 6) (ms := 36) (mc' := 0) (ms' := 0) (M' := M_X2_init) (d' := 1) (as := []) (st := [vA G 24, vI 7, vA G 9]) 0 e_X0_init_7.1 m_X2_init kn_X0_62 (by decide) (by decide) rfl rfl (by show (3 : Nat) ≤ 8; decide) ?_
  refine Run.mono (I_X2 (kIs_s WX0_g (n := 25) (by decide +kernel) ⟨by decide, by decide, by decide +kernel⟩) (by decide)) (fun r s e => ?_)
  refine R_eqs (st2 := [vA G 24, vI 7, vA G 9]) (σ2 := (iX2 (kmk (kup (iX2 (kmk (kup (iX2 (kmk (kup (iX2 (kmk (kup (iX2 (kmk (kup (iX2 (kmk (kup (iX2 (kmk (kup (iX2 (kmk (kup (iX3 (kmk (kup (iX3 (kmk (kup (iX3 (kmk (kup (iX3 (kmk (kup (iX3 (kmk (kup (iX3 (kmk (kup (kmk (kup (kmk (kup (kmk (kup (kmk (kup (kmk (kup (kup (kup (kup (kup (kup (kup (kup mu3 5 0 0) 5 1 0) 5 2 6) 5 3 0) 5 4 0) 5 5 0) 5 6 0) 5 7 0) 6) 5 8 6) 7) 5 9 7) 8) 5 10 8) 9) 5 11 9) 10) 5 12 10) 11) 11) 8 0 11) 12) 12) 8 1 12) 13) 13) 8 2 13) 14) 14) 8 3 14) 15) 15) 8 4 15) 16) 16) 8 5 16) 17) 17) 9 0 17) 18) 18) 9 1 18) 19) 19) 9 2 19) 20) 20) 9 3 20) 21) 21) 9 4 21) 22) 22) 9 5 22) 23) 23) 9 6 23) 24) 24)) rfl e ?_
  refine R_astq 28 2 8 WX0_g e_X0_init_7.2.1 (by decide) rfl (by decide) (kAr_0 WX0_g (n := 25) (by decide +kernel) ⟨by decide, by decide, by decide +kernel⟩ (by decide)) (kIs_0 WX0_g (n := 25) (by decide +kernel) ⟨by decide, by decide, by decide +kernel⟩) (by decide) (by decide) ?_
  refine R_iinc (ls2 := [(1, vI 8), (0, vA G 5)]) e_X0_init_7.2.2.1 0 rfl (by decide) rfl ?_
  refine R_goto 117 e_X0_init_7.2.2.2.1 (by decide) ?_
  refine R_iload_n e_X0_init_6.2.2.1 0 rfl ?_
  refine R_bipush e_X0_init_6.2.2.2.1 (by decide) ?_
  refine R_icmp_ge 142 e_X0_init_6.2.2.2.2.1 (by decide) (by decide) (by decide) (fun q => ?_) (fun q => absurd q (by decide))
  refine R_iconst e_X0_init_7.2.2.2.2.1 ?_
  refine R_istore_n (ls2 := [(1, vI 0), (0, vA G 5)]) e_X0_init_7.2.2.2.2.2.1 (by decide) rfl ?_
  refine R_iload_n e_X0_init_7.2.2.2.2.2.2.1 0 rfl ?_
  refine R_bipush e_X0_init_7.2.2.2.2.2.2.2.1 (by decide) ?_
  refine R_icmp_ge 169 e_X0_init_7.2.2.2.2.2.2.2.2.1 (by decide) (by decide) (by decide) (fun q => absurd q (by decide)) (fun q => ?_)
  refine R_aload_n e_X0_init_7.2.2.2.2.2.2.2.2.2 1 rfl ?_
  refine R_getA 0 12 10 e_X0_init_8.1 f_X0_57 (kIs_0 WX0_g (n := 25) (by decide +kernel) ⟨by decide, by decide, by decide +kernel⟩) (fun _ _ => rfl) (by decide +kernel) (by decide) ?_
  refine R_iload_n e_X0_init_8.2.1 0 rfl ?_
  refine R_new 25 9 5 30 WX0_g e_X0_init_8.2.2.1 ⟨by decide, cL_X0_55⟩ cI_X9 cN_X9 (by decide +kernel) ⟨by decide, by decide, by decide +kernel⟩ ⟨by decide, by decide⟩ ?_
  refine R_dup e_X0_init_8.2.2.2.1 rfl ?_
  refine R_callIN (mc := 5) (ms := 30) (mc' := 0) (ms' := 0) (M' := M_X9_init) (d' := 1) (as := []) (st := [vA G 25, vI 0, vA G 10]) 0 e_X0_init_8.2.2.2.2.1 m_X9_init kn_X0_63 (by decide) (by decide) rfl rfl (by show (3 : Nat) ≤ 8; decide) ?_
  refine Run.mono (I_X9 (kIs_s WX0_g (n := 26) (by decide +kernel) ⟨by decide, by decide, by decide +kernel⟩) (by decide)) (fun r s e => ?_)
  refine R_eqs (st2 := [vA G 25, vI 0, vA G 10]) (σ2 := (iX9 (kmk (kup (iX2 (kmk (kup (iX2 (kmk (kup (iX2 (kmk (kup (iX2 (kmk (kup (iX2 (kmk (kup (iX2 (kmk (kup (iX2 (kmk (kup (iX2 (kmk (kup (iX3 (kmk (kup (iX3 (kmk (kup (iX3 (kmk (kup (iX3 (kmk (kup (iX3 (kmk (kup (iX3 (kmk (kup (kmk (kup (kmk (kup (kmk (kup (kmk (kup (kmk (kup (kup (kup (kup (kup (kup (kup (kup mu3 5 0 0) 5 1 0) 5 2 6) 5 3 0) 5 4 0) 5 5 0) 5 6 0) 5 7 0) 6) 5 8 6) 7) 5 9 7) 8) 5 10 8) 9) 5 11 9) 10) 5 12 10) 11) 11) 8 0 11) 12) 12) 8 1 12) 13) 13) 8 2 13) 14) 14) 8 3 14) 15) 15) 8 4 15) 16) 16) 8 5 16) 17) 17) 9 0 17) 18) 18) 9 1 18) 19) 19) 9 2 19) 20) 20) 9 3 20) 21) 21) 9 4 21) 22) 22) 9 5 22) 23) 23) 9 6 23) 24) 24) 9 7 24) 25) 25)) rfl e ?_
  refine R_astq 29 9 6 WX0_g e_X0_init_8.2.2.2.2.2.1 (by decide) rfl (by decide) (kAr_0 WX0_g (n := 26) (by decide +kernel) ⟨by decide, by decide, by decide +kernel⟩ (by decide)) (kIs_0 WX0_g (n := 26) (by decide +kernel) ⟨by decide, by decide, by decide +kernel⟩) (by decide) (by decide) ?_
  refine R_iinc (ls2 := [(1, vI 1), (0, vA G 5)]) e_X0_init_8.2.2.2.2.2.2.1 0 rfl (by decide) rfl ?_
  refine R_goto 144 e_X0_init_8.2.2.2.2.2.2.2.1 (by decide) ?_
  refine R_iload_n e_X0_init_7.2.2.2.2.2.2.1 0 rfl ?_
  refine R_bipush e_X0_init_7.2.2.2.2.2.2.2.1 (by decide) ?_
  refine R_icmp_ge 169 e_X0_init_7.2.2.2.2.2.2.2.2.1 (by decide) (by decide) (by decide) (fun q => absurd q (by decide)) (fun q => ?_)
  refine R_aload_n e_X0_init_7.2.2.2.2.2.2.2.2.2 1 rfl ?_
  refine R_getA 0 12 10 e_X0_init_8.1 f_X0_57 (kIs_0 WX0_g (n := 26) (by decide +kernel) ⟨by decide, by decide, by decide +kernel⟩) (fun _ _ => rfl) (by decide +kernel) (by decide) ?_
  refine R_iload_n e_X0_init_8.2.1 0 rfl ?_
  refine R_new 26 9 4 24 WX0_g e_X0_init_8.2.2.1 ⟨by decide, cL_X0_55⟩ cI_X9 cN_X9 (by decide +kernel) ⟨by decide, by decide, by decide +kernel⟩ ⟨by decide, by decide⟩ ?_
  refine R_dup e_X0_init_8.2.2.2.1 rfl ?_
  refine R_callIN (mc := 4) (ms := 24) (mc' := 0) (ms' := 0) (M' := M_X9_init) (d' := 1) (as := []) (st := [vA G 26, vI 1, vA G 10]) 0 e_X0_init_8.2.2.2.2.1 m_X9_init kn_X0_63 (by decide) (by decide) rfl rfl (by show (3 : Nat) ≤ 8; decide) ?_
  refine Run.mono (I_X9 (kIs_s WX0_g (n := 27) (by decide +kernel) ⟨by decide, by decide, by decide +kernel⟩) (by decide)) (fun r s e => ?_)
  refine R_eqs (st2 := [vA G 26, vI 1, vA G 10]) (σ2 := (iX9 (kmk (kup (iX9 (kmk (kup (iX2 (kmk (kup (iX2 (kmk (kup (iX2 (kmk (kup (iX2 (kmk (kup (iX2 (kmk (kup (iX2 (kmk (kup (iX2 (kmk (kup (iX2 (kmk (kup (iX3 (kmk (kup (iX3 (kmk (kup (iX3 (kmk (kup (iX3 (kmk (kup (iX3 (kmk (kup (iX3 (kmk (kup (kmk (kup (kmk (kup (kmk (kup (kmk (kup (kmk (kup (kup (kup (kup (kup (kup (kup (kup mu3 5 0 0) 5 1 0) 5 2 6) 5 3 0) 5 4 0) 5 5 0) 5 6 0) 5 7 0) 6) 5 8 6) 7) 5 9 7) 8) 5 10 8) 9) 5 11 9) 10) 5 12 10) 11) 11) 8 0 11) 12) 12) 8 1 12) 13) 13) 8 2 13) 14) 14) 8 3 14) 15) 15) 8 4 15) 16) 16) 8 5 16) 17) 17) 9 0 17) 18) 18) 9 1 18) 19) 19) 9 2 19) 20) 20) 9 3 20) 21) 21) 9 4 21) 22) 22) 9 5 22) 23) 23) 9 6 23) 24) 24) 9 7 24) 25) 25) 10 0 25) 26) 26)) rfl e ?_
  refine R_astq 29 9 6 WX0_g e_X0_init_8.2.2.2.2.2.1 (by decide) rfl (by decide) (kAr_0 WX0_g (n := 27) (by decide +kernel) ⟨by decide, by decide, by decide +kernel⟩ (by decide)) (kIs_0 WX0_g (n := 27) (by decide +kernel) ⟨by decide, by decide, by decide +kernel⟩) (by decide) (by decide) ?_
  refine R_iinc (ls2 := [(1, vI 2), (0, vA G 5)]) e_X0_init_8.2.2.2.2.2.2.1 0 rfl (by decide) rfl ?_
  refine R_goto 144 e_X0_init_8.2.2.2.2.2.2.2.1 (by decide) ?_
  refine R_iload_n e_X0_init_7.2.2.2.2.2.2.1 0 rfl ?_
  refine R_bipush e_X0_init_7.2.2.2.2.2.2.2.1 (by decide) ?_
  refine R_icmp_ge 169 e_X0_init_7.2.2.2.2.2.2.2.2.1 (by decide) (by decide) (by decide) (fun q => absurd q (by decide)) (fun q => ?_)
  refine R_aload_n e_X0_init_7.2.2.2.2.2.2.2.2.2 1 rfl ?_
  refine R_getA 0 12 10 e_X0_init_8.1 f_X0_57 (kIs_0 WX0_g (n := 27) (by decide +kernel) ⟨by decide, by decide, by decide +kernel⟩) (fun _ _ => rfl) (by decide +kernel) (by decide) ?_
  refine R_iload_n e_X0_init_8.2.1 0 rfl ?_
  refine R_new 27 9 3 18 WX0_g e_X0_init_8.2.2.1 ⟨by decide, cL_X0_55⟩ cI_X9 cN_X9 (by decide +kernel) ⟨by decide, by decide, by decide +kernel⟩ ⟨by decide, by decide⟩ ?_
  refine R_dup e_X0_init_8.2.2.2.1 rfl ?_
  refine R_callIN (mc := 3) (ms := 18) (mc' := 0) (ms' := 0) (M' := M_X9_init) (d' := 1) (as := []) (st := [vA G 27, vI 2, vA G 10]) 0 e_X0_init_8.2.2.2.2.1 m_X9_init kn_X0_63 (by decide) (by decide) rfl rfl (by show (3 : Nat) ≤ 8; decide) ?_
  refine Run.mono (I_X9 (kIs_s WX0_g (n := 28) (by decide +kernel) ⟨by decide, by decide, by decide +kernel⟩) (by decide)) (fun r s e => ?_)
  refine R_eqs (st2 := [vA G 27, vI 2, vA G 10]) (σ2 := (iX9 (kmk (kup (iX9 (kmk (kup (iX9 (kmk (kup (iX2 (kmk (kup (iX2 (kmk (kup (iX2 (kmk (kup (iX2 (kmk (kup (iX2 (kmk (kup (iX2 (kmk (kup (iX2 (kmk (kup (iX2 (kmk (kup (iX3 (kmk (kup (iX3 (kmk (kup (iX3 (kmk (kup (iX3 (kmk (kup (iX3 (kmk (kup (iX3 (kmk (kup (kmk (kup (kmk (kup (kmk (kup (kmk (kup (kmk (kup (kup (kup (kup (kup (kup (kup (kup mu3 5 0 0) 5 1 0) 5 2 6) 5 3 0) 5 4 0) 5 5 0) 5 6 0) 5 7 0) 6) 5 8 6) 7) 5 9 7) 8) 5 10 8) 9) 5 11 9) 10) 5 12 10) 11) 11) 8 0 11) 12) 12) 8 1 12) 13) 13) 8 2 13) 14) 14) 8 3 14) 15) 15) 8 4 15) 16) 16) 8 5 16) 17) 17) 9 0 17) 18) 18) 9 1 18) 19) 19) 9 2 19) 20) 20) 9 3 20) 21) 21) 9 4 21) 22) 22) 9 5 22) 23) 23) 9 6 23) 24) 24) 9 7 24) 25) 25) 10 0 25) 26) 26) 10 1 26) 27) 27)) rfl e ?_
  refine R_astq 29 9 6 WX0_g e_X0_init_8.2.2.2.2.2.1 (by decide) rfl (by decide) (kAr_0 WX0_g (n := 28) (by decide +kernel) ⟨by decide, by decide, by decide +kernel⟩ (by decide)) (kIs_0 WX0_g (n := 28) (by decide +kernel) ⟨by decide, by decide, by decide +kernel⟩) (by decide) (by decide) ?_
  refine R_iinc (ls2 := [(1, vI 3), (0, vA G 5)]) e_X0_init_8.2.2.2.2.2.2.1 0 rfl (by decide) rfl ?_
  refine R_goto 144 e_X0_init_8.2.2.2.2.2.2.2.1 (by decide) ?_
  refine R_iload_n e_X0_init_7.2.2.2.2.2.2.1 0 rfl ?_
  refine R_bipush e_X0_init_7.2.2.2.2.2.2.2.1 (by decide) ?_
  refine R_icmp_ge 169 e_X0_init_7.2.2.2.2.2.2.2.2.1 (by decide) (by decide) (by decide) (fun q => absurd q (by decide)) (fun q => ?_)
  refine R_aload_n e_X0_init_7.2.2.2.2.2.2.2.2.2 1 rfl ?_
  refine R_getA 0 12 10 e_X0_init_8.1 f_X0_57 (kIs_0 WX0_g (n := 28) (by decide +kernel) ⟨by decide, by decide, by decide +kernel⟩) (fun _ _ => rfl) (by decide +kernel) (by decide) ?_
  refine R_iload_n e_X0_init_8.2.1 0 rfl ?_
  refine R_new 28 9 2 12 WX0_g e_X0_init_8.2.2.1 ⟨by decide, cL_X0_55⟩ cI_X9 cN_X9 (by decide +kernel) ⟨by decide, by decide, by decide +kernel⟩ ⟨by decide, by decide⟩ ?_
  refine R_dup e_X0_init_8.2.2.2.1 rfl ?_
  refine R_callIN (mc := 2) (ms := 12) (mc' := 0) (ms' := 0) (M' := M_X9_init) (d' := 1) (as := []) (st := [vA G 28, vI 3, vA G 10]) 0 e_X0_init_8.2.2.2.2.1 m_X9_init kn_X0_63 (by decide) (by decide) rfl rfl (by show (3 : Nat) ≤ 8; decide) ?_
  refine Run.mono (I_X9 (kIs_s WX0_g (n := 29) (by decide +kernel) ⟨by decide, by decide, by decide +kernel⟩) (by decide)) (fun r s e => ?_)
  refine R_eqs (st2 := [vA G 28, vI 3, vA G 10]) (σ2 := (iX9 (kmk (kup (iX9 (kmk (kup (iX9 (kmk (kup (iX9 (kmk (kup (iX2 (kmk (kup (iX2 (kmk (kup (iX2 (kmk (kup (iX2 (kmk (kup (iX2 (kmk (kup (iX2 (kmk (kup (iX2 (kmk (kup (iX2 (kmk (kup (iX3 (kmk (kup (iX3 (kmk (kup (iX3 (kmk (kup (iX3 (kmk (kup (iX3 (kmk (kup (iX3 (kmk (kup (kmk (kup (kmk (kup (kmk (kup (kmk (kup (kmk (kup (kup (kup (kup (kup (kup (kup (kup mu3 5 0 0) 5 1 0) 5 2 6) 5 3 0) 5 4 0) 5 5 0) 5 6 0) 5 7 0) 6) 5 8 6) 7) 5 9 7) 8) 5 10 8) 9) 5 11 9) 10) 5 12 10) 11) 11) 8 0 11) 12) 12) 8 1 12) 13) 13) 8 2 13) 14) 14) 8 3 14) 15) 15) 8 4 15) 16) 16) 8 5 16) 17) 17) 9 0 17) 18) 18) 9 1 18) 19) 19) 9 2 19) 20) 20) 9 3 20) 21) 21) 9 4 21) 22) 22) 9 5 22) 23) 23) 9 6 23) 24) 24) 9 7 24) 25) 25) 10 0 25) 26) 26) 10 1 26) 27) 27) 10 2 27) 28) 28)) rfl e ?_
  refine R_astq 29 9 6 WX0_g e_X0_init_8.2.2.2.2.2.1 (by decide) rfl (by decide) (kAr_0 WX0_g (n := 29) (by decide +kernel) ⟨by decide, by decide, by decide +kernel⟩ (by decide)) (kIs_0 WX0_g (n := 29) (by decide +kernel) ⟨by decide, by decide, by decide +kernel⟩) (by decide) (by decide) ?_
  refine R_iinc (ls2 := [(1, vI 4), (0, vA G 5)]) e_X0_init_8.2.2.2.2.2.2.1 0 rfl (by decide) rfl ?_
  refine R_goto 144 e_X0_init_8.2.2.2.2.2.2.2.1 (by decide) ?_
  refine R_iload_n e_X0_init_7.2.2.2.2.2.2.1 0 rfl ?_
  refine R_bipush e_X0_init_7.2.2.2.2.2.2.2.1 (by decide) ?_
  refine R_icmp_ge 169 e_X0_init_7.2.2.2.2.2.2.2.2.1 (by decide) (by decide) (by decide) (fun q => absurd q (by decide)) (fun q => ?_)
  refine R_aload_n e_X0_init_7.2.2.2.2.2.2.2.2.2 1 rfl ?_
  refine R_getA 0 12 10 e_X0_init_8.1 f_X0_57 (kIs_0 WX0_g (n := 29) (by decide +kernel) ⟨by decide, by decide, by decide +kernel⟩) (fun _ _ => rfl) (by decide +kernel) (by decide) ?_
  refine R_iload_n e_X0_init_8.2.1 0 rfl ?_
  refine R_new 29 9 1 6 WX0_g e_X0_init_8.2.2.1 ⟨by decide, cL_X0_55⟩ cI_X9 cN_X9 (by decide +kernel) ⟨by decide, by decide, by decide +kernel⟩ ⟨by decide, by decide⟩ ?_
  refine R_dup e_X0_init_8.2.2.2.1 rfl ?_
  refine R_callIN (mc := 1) (ms := 6) (mc' := 0) (ms' := 0) (M' := M_X9_init) (d' := 1) (as := []) (st := [vA G 29, vI 4, vA G 10]) 0 e_X0_init_8.2.2.2.2.1 m_X9_init kn_X0_63 (by decide) (by decide) rfl rfl (by show (3 : Nat) ≤ 8; decide) ?_
  refine Run.mono (I_X9 (kIs_s WX0_g (n := 30) (by decide +kernel) ⟨by decide, by decide, by decide +kernel⟩) (by decide)) (fun r s e => ?_)
  refine R_eqs (st2 := [vA G 29, vI 4, vA G 10]) (σ2 := (iX9 (kmk (kup (iX9 (kmk (kup (iX9 (kmk (kup (iX9 (kmk (kup (iX9 (kmk (kup (iX2 (kmk (kup (iX2 (kmk (kup (iX2 (kmk (kup (iX2 (kmk (kup (iX2 (kmk (kup (iX2 (kmk (kup (iX2 (kmk (kup (iX2 (kmk (kup (iX3 (kmk (kup (iX3 (kmk (kup (iX3 (kmk (kup (iX3 (kmk (kup (iX3 (kmk (kup (iX3 (kmk (kup (kmk (kup (kmk (kup (kmk (kup (kmk (kup (kmk (kup (kup (kup (kup (kup (kup (kup (kup mu3 5 0 0) 5 1 0) 5 2 6) 5 3 0) 5 4 0) 5 5 0) 5 6 0) 5 7 0) 6) 5 8 6) 7) 5 9 7) 8) 5 10 8) 9) 5 11 9) 10) 5 12 10) 11) 11) 8 0 11) 12) 12) 8 1 12) 13) 13) 8 2 13) 14) 14) 8 3 14) 15) 15) 8 4 15) 16) 16) 8 5 16) 17) 17) 9 0 17) 18) 18) 9 1 18) 19) 19) 9 2 19) 20) 20) 9 3 20) 21) 21) 9 4 21) 22) 22) 9 5 22) 23) 23) 9 6 23) 24) 24) 9 7 24) 25) 25) 10 0 25) 26) 26) 10 1 26) 27) 27) 10 2 27) 28) 28) 10 3 28) 29) 29)) rfl e ?_
  refine R_astq 29 9 6 WX0_g e_X0_init_8.2.2.2.2.2.1 (by decide) rfl (by decide) (kAr_0 WX0_g (n := 30) (by decide +kernel) ⟨by decide, by decide, by decide +kernel⟩ (by decide)) (kIs_0 WX0_g (n := 30) (by decide +kernel) ⟨by decide, by decide, by decide +kernel⟩) (by decide) (by decide) ?_
  refine R_iinc (ls2 := [(1, vI 5), (0, vA G 5)]) e_X0_init_8.2.2.2.2.2.2.1 0 rfl (by decide) rfl ?_
  refine R_goto 144 e_X0_init_8.2.2.2.2.2.2.2.1 (by decide) ?_
  refine R_iload_n e_X0_init_7.2.2.2.2.2.2.1 0 rfl ?_
  refine R_bipush e_X0_init_7.2.2.2.2.2.2.2.1 (by decide) ?_
  refine R_icmp_ge 169 e_X0_init_7.2.2.2.2.2.2.2.2.1 (by decide) (by decide) (by decide) (fun q => absurd q (by decide)) (fun q => ?_)
  refine R_aload_n e_X0_init_7.2.2.2.2.2.2.2.2.2 1 rfl ?_
  refine R_getA 0 12 10 e_X0_init_8.1 f_X0_57 (kIs_0 WX0_g (n := 30) (by decide +kernel) ⟨by decide, by decide, by decide +kernel⟩) (fun _ _ => rfl) (by decide +kernel) (by decide) ?_
  refine R_iload_n e_X0_init_8.2.1 0 rfl ?_
  refine R_new 30 9 0 0 WX0_g e_X0_init_8.2.2.1 ⟨by decide, cL_X0_55⟩ cI_X9 cN_X9 (by decide +kernel) ⟨by decide, by decide, by decide +kernel⟩ ⟨by decide, by decide⟩ ?_
  refine R_dup e_X0_init_8.2.2.2.1 rfl ?_
  refine R_callIN (mc := 0) (ms := 0) (mc' := 0) (ms' := 0) (M' := M_X9_init) (d' := 1) (as := []) (st := [vA G 30, vI 5, vA G 10]) 0 e_X0_init_8.2.2.2.2.1 m_X9_init kn_X0_63 (by decide) (by decide) rfl rfl (by show (3 : Nat) ≤ 8; decide) ?_
  refine Run.mono (I_X9 (kIs_s WX0_g (n := 31) (by decide +kernel) ⟨by decide, by decide, by decide +kernel⟩) (by decide)) (fun r s e => ?_)
  refine R_eqs (st2 := [vA G 30, vI 5, vA G 10]) (σ2 := (iX9 (kmk (kup (iX9 (kmk (kup (iX9 (kmk (kup (iX9 (kmk (kup (iX9 (kmk (kup (iX9 (kmk (kup (iX2 (kmk (kup (iX2 (kmk (kup (iX2 (kmk (kup (iX2 (kmk (kup (iX2 (kmk (kup (iX2 (kmk (kup (iX2 (kmk (kup (iX2 (kmk (kup (iX3 (kmk (kup (iX3 (kmk (kup (iX3 (kmk (kup (iX3 (kmk (kup (iX3 (kmk (kup (iX3 (kmk (kup (kmk (kup (kmk (kup (kmk (kup (kmk (kup (kmk (kup (kup (kup (kup (kup (kup (kup (kup mu3 5 0 0) 5 1 0) 5 2 6) 5 3 0) 5 4 0) 5 5 0) 5 6 0) 5 7 0) 6) 5 8 6) 7) 5 9 7) 8) 5 10 8) 9) 5 11 9) 10) 5 12 10) 11) 11) 8 0 11) 12) 12) 8 1 12) 13) 13) 8 2 13) 14) 14) 8 3 14) 15) 15) 8 4 15) 16) 16) 8 5 16) 17) 17) 9 0 17) 18) 18) 9 1 18) 19) 19) 9 2 19) 20) 20) 9 3 20) 21) 21) 9 4 21) 22) 22) 9 5 22) 23) 23) 9 6 23) 24) 24) 9 7 24) 25) 25) 10 0 25) 26) 26) 10 1 26) 27) 27) 10 2 27) 28) 28) 10 3 28) 29) 29) 10 4 29) 30) 30)) rfl e ?_
  refine R_astq 29 9 6 WX0_g e_X0_init_8.2.2.2.2.2.1 (by decide) rfl (by decide) (kAr_0 WX0_g (n := 31) (by decide +kernel) ⟨by decide, by decide, by decide +kernel⟩ (by decide)) (kIs_0 WX0_g (n := 31) (by decide +kernel) ⟨by decide, by decide, by decide +kernel⟩) (by decide) (by decide) ?_
  refine R_iinc (ls2 := [(1, vI 6), (0, vA G 5)]) e_X0_init_8.2.2.2.2.2.2.1 0 rfl (by decide) rfl ?_
  refine R_goto 144 e_X0_init_8.2.2.2.2.2.2.2.1 (by decide) ?_
  refine R_iload_n e_X0_init_7.2.2.2.2.2.2.1 0 rfl ?_
  refine R_bipush e_X0_init_7.2.2.2.2.2.2.2.1 (by decide) ?_
  refine R_icmp_ge 169 e_X0_init_7.2.2.2.2.2.2.2.2.1 (by decide) (by decide) (by decide) (fun q => ?_) (fun q => absurd q (by decide))
  refine R_aload_n e_X0_init_8.2.2.2.2.2.2.2.2.1 1 rfl ?_
  refine R_callV (mc := 0) (ms := 0) (mc' := 0) (ms' := 0) (M' := M_X0_clear) (d' := 0) (as := []) (st := []) 0 0 e_X0_init_8.2.2.2.2.2.2.2.2.2 (kCVof m_X0_clear l_X0_64) rfl (by decide) (kIs_0 WX0_g (n := 31) (by decide +kernel) ⟨by decide, by decide, by decide +kernel⟩) (by decide) (by decide) rfl rfl (by show (0 : Nat) ≤ 8; decide) ?_
  refine Run.mono I_mu5 (fun r s e => ?_)
  refine R_eqs (st2 := []) (σ2 := mu5) rfl e ?_
  exact R_return e_X0_init_9 rfl rfl
def mu7 : Kmem := (kmk (kup mu6 0 7 5) 31)
def mu8 : Kmem := (kup (iX9 (kmk (kup (iX9 (kmk (kup (iX9 (kmk (kup (iX9 (kmk (kup (iX9 (kmk (kup (iX9 (kmk (kup (iX2 (kmk (kup (iX2 (kmk (kup (iX2 (kmk (kup (iX2 (kmk (kup (iX2 (kmk (kup (iX2 (kmk (kup (iX2 (kmk (kup (iX2 (kmk (kup (iX3 (kmk (kup (iX3 (kmk (kup (iX3 (kmk (kup (iX3 (kmk (kup (iX3 (kmk (kup (iX3 (kmk (kup (kmk (kup (kmk (kup (kmk (kup (kmk (kup (kmk (kup (kup (kup (kup (kup (kup (kup (kup mu7 31 0 0) 31 1 0) 31 2 6) 31 3 0) 31 4 0) 31 5 0) 31 6 0) 31 7 0) 32) 31 8 32) 33) 31 9 33) 34) 31 10 34) 35) 31 11 35) 36) 31 12 36) 37) 37) 34 0 37) 38) 38) 34 1 38) 39) 39) 34 2 39) 40) 40) 34 3 40) 41) 41) 34 4 41) 42) 42) 34 5 42) 43) 43) 35 0 43) 44) 44) 35 1 44) 45) 45) 35 2 45) 46) 46) 35 3 46) 47) 47) 35 4 47) 48) 48) 35 5 48) 49) 49) 35 6 49) 50) 50) 35 7 50) 51) 51) 36 0 51) 52) 52) 36 1 52) 53) 53) 36 2 53) 54) 54) 36 3 54) 55) 55) 36 4 55) 56) 56) 36 5 56)
def mu9 : Kmem := (kup (kup (kup (kup (kup (kup (kup (kup (kup (kup (kup (kup (kup (kup (kup (kup (kup (kup (kup (kup (kup (kup (kup (kup (kup (kup (kup (kup (kup (kup (kup (kup mu8 31 0 0) 31 1 0) 31 2 6) 31 3 0) 31 4 0) 31 5 0) 31 6 0) 31 7 0) 32 0 2) 33 0 2) 32 1 2) 33 1 2) 32 2 2) 33 2 2) 32 3 2) 33 3 2) 32 4 2) 33 4 2) 32 5 2) 33 5 2) 32 6 2) 33 6 2) 32 7 2) 33 7 2) 32 8 2) 33 8 2) 32 9 2) 33 9 2) 32 10 2) 33 10 2) 32 11 2) 33 11 2)
theorem I_mu9 {G : Kg} : Run G WX0 M_X0_clear 0 0 0 [vA G 31] mu8 (fun _ s => s = mu9) := by
  refine Run.of (by decide +kernel) (by show (1 : Nat) ≤ 2; decide) ?_
  show Ex G WX0 M_X0_clear 0 0 0 0 [(0, vA G 31)] [] mu8 _
  refine R_aload_n e_X0_clear_0.1 0 rfl ?_
  refine R_iconst e_X0_clear_0.2.1 ?_
  refine R_putI 0 0 0 WX0_ok e_X0_clear_0.2.2.1 f_X0_9 (kIs_0 WX0_g (n := 57) (by decide +kernel) ⟨by decide, by decide, by decide +kernel⟩) rfl rfl rfl ?_
  refine R_aload_n e_X0_clear_0.2.2.2.1 0 rfl ?_
  refine R_iconst e_X0_clear_0.2.2.2.2.1 ?_
  refine R_putI 0 1 1 WX0_ok e_X0_clear_0.2.2.2.2.2.1 f_X0_15 (kIs_0 WX0_g (n := 57) (by decide +kernel) ⟨by decide, by decide, by decide +kernel⟩) rfl rfl rfl ?_
  refine R_aload_n e_X0_clear_0.2.2.2.2.2.2.1 0 rfl ?_
  refine R_bipush e_X0_clear_0.2.2.2.2.2.2.2.1 (by decide) ?_
  refine R_putI 0 2 2 WX0_ok e_X0_clear_0.2.2.2.2.2.2.2.2.1 f_X0_18 (kIs_0 WX0_g (n := 57) (by decide +kernel) ⟨by decide, by decide, by decide +kernel⟩) rfl rfl rfl ?_
  refine R_aload_n e_X0_clear_0.2.2.2.2.2.2.2.2.2 0 rfl ?_
  refine R_iconst e_X0_clear_1.1 ?_
  refine R_putI 0 3 3 WX0_ok e_X0_clear_1.2.1 f_X0_21 (kIs_0 WX0_g (n := 57) (by decide +kernel) ⟨by decide, by decide, by decide +kernel⟩) rfl rfl rfl ?_
  refine R_aload_n e_X0_clear_1.2.2.1 0 rfl ?_
  refine R_iconst e_X0_clear_1.2.2.2.1 ?_
  refine R_putI 0 4 4 WX0_ok e_X0_clear_1.2.2.2.2.1 f_X0_24 (kIs_0 WX0_g (n := 57) (by decide +kernel) ⟨by decide, by decide, by decide +kernel⟩) rfl rfl rfl ?_
  refine R_aload_n e_X0_clear_1.2.2.2.2.2.1 0 rfl ?_
  refine R_iconst e_X0_clear_1.2.2.2.2.2.2.1 ?_
  refine R_putI 0 5 5 WX0_ok e_X0_clear_1.2.2.2.2.2.2.2.1 f_X0_27 (kIs_0 WX0_g (n := 57) (by decide +kernel) ⟨by decide, by decide, by decide +kernel⟩) rfl rfl rfl ?_
  refine R_aload_n e_X0_clear_1.2.2.2.2.2.2.2.2.1 0 rfl ?_
  refine R_iconst e_X0_clear_1.2.2.2.2.2.2.2.2.2 ?_
  refine R_putI 0 6 6 WX0_ok e_X0_clear_2.1 f_X0_30 (kIs_0 WX0_g (n := 57) (by decide +kernel) ⟨by decide, by decide, by decide +kernel⟩) rfl rfl rfl ?_
  refine R_aload_n e_X0_clear_2.2.1 0 rfl ?_
  refine R_iconst e_X0_clear_2.2.2.1 ?_
  refine R_putI 0 7 7 WX0_ok e_X0_clear_2.2.2.2.1 f_X0_33 (kIs_0 WX0_g (n := 57) (by decide +kernel) ⟨by decide, by decide, by decide +kernel⟩) rfl rfl rfl ?_
  refine R_iconst e_X0_clear_2.2.2.2.2.1 ?_
  refine R_istore_n (ls2 := [(1, vI 0), (0, vA G 31)]) e_X0_clear_2.2.2.2.2.2.1 (by decide) rfl ?_
  refine R_iload_n e_X0_clear_2.2.2.2.2.2.2.1 0 rfl ?_
  refine R_bipush e_X0_clear_2.2.2.2.2.2.2.2.1 (by decide) ?_
  refine R_icmp_ge 69 e_X0_clear_2.2.2.2.2.2.2.2.2.1 (by decide) (by decide) (by decide) (fun q => absurd q (by decide)) (fun q => ?_)
  refine R_aload_n e_X0_clear_2.2.2.2.2.2.2.2.2.2 1 rfl ?_
  refine R_getA 0 8 32 e_X0_clear_3.1 f_X0_36 (kIs_0 WX0_g (n := 57) (by decide +kernel) ⟨by decide, by decide, by decide +kernel⟩) (fun _ _ => rfl) (by decide +kernel) (by decide) ?_
  refine R_iload_n e_X0_clear_3.2.1 0 rfl ?_
  refine R_iconst e_X0_clear_3.2.2.1 ?_
  refine R_iast 12 WX0_ok e_X0_clear_3.2.2.2.1 (kAr_0 WX0_g (n := 57) (by decide +kernel) ⟨by decide, by decide, by decide +kernel⟩ (by decide)) (by decide) ?_
  refine R_aload_n e_X0_clear_3.2.2.2.2.1 1 rfl ?_
  refine R_getA 0 9 33 e_X0_clear_3.2.2.2.2.2.1 f_X0_40 (kIs_0 WX0_g (n := 57) (by decide +kernel) ⟨by decide, by decide, by decide +kernel⟩) (fun _ _ => rfl) (by decide +kernel) (by decide) ?_
  refine R_iload_n e_X0_clear_3.2.2.2.2.2.2.1 0 rfl ?_
  refine R_iconst e_X0_clear_3.2.2.2.2.2.2.2.1 ?_
  refine R_iast 12 WX0_ok e_X0_clear_3.2.2.2.2.2.2.2.2.1 (kAr_0 WX0_g (n := 57) (by decide +kernel) ⟨by decide, by decide, by decide +kernel⟩ (by decide)) (by decide) ?_
  refine R_iinc (ls2 := [(1, vI 1), (0, vA G 31)]) e_X0_clear_3.2.2.2.2.2.2.2.2.2 0 rfl (by decide) rfl ?_
  refine R_goto 43 e_X0_clear_4.1 (by decide) ?_
  refine R_iload_n e_X0_clear_2.2.2.2.2.2.2.1 0 rfl ?_
  refine R_bipush e_X0_clear_2.2.2.2.2.2.2.2.1 (by decide) ?_
  refine R_icmp_ge 69 e_X0_clear_2.2.2.2.2.2.2.2.2.1 (by decide) (by decide) (by decide) (fun q => absurd q (by decide)) (fun q => ?_)
  refine R_aload_n e_X0_clear_2.2.2.2.2.2.2.2.2.2 1 rfl ?_
  refine R_getA 0 8 32 e_X0_clear_3.1 f_X0_36 (kIs_0 WX0_g (n := 57) (by decide +kernel) ⟨by decide, by decide, by decide +kernel⟩) (fun _ _ => rfl) (by decide +kernel) (by decide) ?_
  refine R_iload_n e_X0_clear_3.2.1 0 rfl ?_
  refine R_iconst e_X0_clear_3.2.2.1 ?_
  refine R_iast 12 WX0_ok e_X0_clear_3.2.2.2.1 (kAr_0 WX0_g (n := 57) (by decide +kernel) ⟨by decide, by decide, by decide +kernel⟩ (by decide)) (by decide) ?_
  refine R_aload_n e_X0_clear_3.2.2.2.2.1 1 rfl ?_
  refine R_getA 0 9 33 e_X0_clear_3.2.2.2.2.2.1 f_X0_40 (kIs_0 WX0_g (n := 57) (by decide +kernel) ⟨by decide, by decide, by decide +kernel⟩) (fun _ _ => rfl) (by decide +kernel) (by decide) ?_
  refine R_iload_n e_X0_clear_3.2.2.2.2.2.2.1 0 rfl ?_
  refine R_iconst e_X0_clear_3.2.2.2.2.2.2.2.1 ?_
  refine R_iast 12 WX0_ok e_X0_clear_3.2.2.2.2.2.2.2.2.1 (kAr_0 WX0_g (n := 57) (by decide +kernel) ⟨by decide, by decide, by decide +kernel⟩ (by decide)) (by decide) ?_
  refine R_iinc (ls2 := [(1, vI 2), (0, vA G 31)]) e_X0_clear_3.2.2.2.2.2.2.2.2.2 0 rfl (by decide) rfl ?_
  refine R_goto 43 e_X0_clear_4.1 (by decide) ?_
  refine R_iload_n e_X0_clear_2.2.2.2.2.2.2.1 0 rfl ?_
  refine R_bipush e_X0_clear_2.2.2.2.2.2.2.2.1 (by decide) ?_
  refine R_icmp_ge 69 e_X0_clear_2.2.2.2.2.2.2.2.2.1 (by decide) (by decide) (by decide) (fun q => absurd q (by decide)) (fun q => ?_)
  refine R_aload_n e_X0_clear_2.2.2.2.2.2.2.2.2.2 1 rfl ?_
  refine R_getA 0 8 32 e_X0_clear_3.1 f_X0_36 (kIs_0 WX0_g (n := 57) (by decide +kernel) ⟨by decide, by decide, by decide +kernel⟩) (fun _ _ => rfl) (by decide +kernel) (by decide) ?_
  refine R_iload_n e_X0_clear_3.2.1 0 rfl ?_
  refine R_iconst e_X0_clear_3.2.2.1 ?_
  refine R_iast 12 WX0_ok e_X0_clear_3.2.2.2.1 (kAr_0 WX0_g (n := 57) (by decide +kernel) ⟨by decide, by decide, by decide +kernel⟩ (by decide)) (by decide) ?_
  refine R_aload_n e_X0_clear_3.2.2.2.2.1 1 rfl ?_
  refine R_getA 0 9 33 e_X0_clear_3.2.2.2.2.2.1 f_X0_40 (kIs_0 WX0_g (n := 57) (by decide +kernel) ⟨by decide, by decide, by decide +kernel⟩) (fun _ _ => rfl) (by decide +kernel) (by decide) ?_
  refine R_iload_n e_X0_clear_3.2.2.2.2.2.2.1 0 rfl ?_
  refine R_iconst e_X0_clear_3.2.2.2.2.2.2.2.1 ?_
  refine R_iast 12 WX0_ok e_X0_clear_3.2.2.2.2.2.2.2.2.1 (kAr_0 WX0_g (n := 57) (by decide +kernel) ⟨by decide, by decide, by decide +kernel⟩ (by decide)) (by decide) ?_
  refine R_iinc (ls2 := [(1, vI 3), (0, vA G 31)]) e_X0_clear_3.2.2.2.2.2.2.2.2.2 0 rfl (by decide) rfl ?_
  refine R_goto 43 e_X0_clear_4.1 (by decide) ?_
  refine R_iload_n e_X0_clear_2.2.2.2.2.2.2.1 0 rfl ?_
  refine R_bipush e_X0_clear_2.2.2.2.2.2.2.2.1 (by decide) ?_
  refine R_icmp_ge 69 e_X0_clear_2.2.2.2.2.2.2.2.2.1 (by decide) (by decide) (by decide) (fun q => absurd q (by decide)) (fun q => ?_)
  refine R_aload_n e_X0_clear_2.2.2.2.2.2.2.2.2.2 1 rfl ?_
  refine R_getA 0 8 32 e_X0_clear_3.1 f_X0_36 (kIs_0 WX0_g (n := 57) (by decide +kernel) ⟨by decide, by decide, by decide +kernel⟩) (fun _ _ => rfl) (by decide +kernel) (by decide) ?_
  refine R_iload_n e_X0_clear_3.2.1 0 rfl ?_
  refine R_iconst e_X0_clear_3.2.2.1 ?_
  refine R_iast 12 WX0_ok e_X0_clear_3.2.2.2.1 (kAr_0 WX0_g (n := 57) (by decide +kernel) ⟨by decide, by decide, by decide +kernel⟩ (by decide)) (by decide) ?_
  refine R_aload_n e_X0_clear_3.2.2.2.2.1 1 rfl ?_
  refine R_getA 0 9 33 e_X0_clear_3.2.2.2.2.2.1 f_X0_40 (kIs_0 WX0_g (n := 57) (by decide +kernel) ⟨by decide, by decide, by decide +kernel⟩) (fun _ _ => rfl) (by decide +kernel) (by decide) ?_
  refine R_iload_n e_X0_clear_3.2.2.2.2.2.2.1 0 rfl ?_
  refine R_iconst e_X0_clear_3.2.2.2.2.2.2.2.1 ?_
  refine R_iast 12 WX0_ok e_X0_clear_3.2.2.2.2.2.2.2.2.1 (kAr_0 WX0_g (n := 57) (by decide +kernel) ⟨by decide, by decide, by decide +kernel⟩ (by decide)) (by decide) ?_
  refine R_iinc (ls2 := [(1, vI 4), (0, vA G 31)]) e_X0_clear_3.2.2.2.2.2.2.2.2.2 0 rfl (by decide) rfl ?_
  refine R_goto 43 e_X0_clear_4.1 (by decide) ?_
  refine R_iload_n e_X0_clear_2.2.2.2.2.2.2.1 0 rfl ?_
  refine R_bipush e_X0_clear_2.2.2.2.2.2.2.2.1 (by decide) ?_
  refine R_icmp_ge 69 e_X0_clear_2.2.2.2.2.2.2.2.2.1 (by decide) (by decide) (by decide) (fun q => absurd q (by decide)) (fun q => ?_)
  refine R_aload_n e_X0_clear_2.2.2.2.2.2.2.2.2.2 1 rfl ?_
  refine R_getA 0 8 32 e_X0_clear_3.1 f_X0_36 (kIs_0 WX0_g (n := 57) (by decide +kernel) ⟨by decide, by decide, by decide +kernel⟩) (fun _ _ => rfl) (by decide +kernel) (by decide) ?_
  refine R_iload_n e_X0_clear_3.2.1 0 rfl ?_
  refine R_iconst e_X0_clear_3.2.2.1 ?_
  refine R_iast 12 WX0_ok e_X0_clear_3.2.2.2.1 (kAr_0 WX0_g (n := 57) (by decide +kernel) ⟨by decide, by decide, by decide +kernel⟩ (by decide)) (by decide) ?_
  refine R_aload_n e_X0_clear_3.2.2.2.2.1 1 rfl ?_
  refine R_getA 0 9 33 e_X0_clear_3.2.2.2.2.2.1 f_X0_40 (kIs_0 WX0_g (n := 57) (by decide +kernel) ⟨by decide, by decide, by decide +kernel⟩) (fun _ _ => rfl) (by decide +kernel) (by decide) ?_
  refine R_iload_n e_X0_clear_3.2.2.2.2.2.2.1 0 rfl ?_
  refine R_iconst e_X0_clear_3.2.2.2.2.2.2.2.1 ?_
  refine R_iast 12 WX0_ok e_X0_clear_3.2.2.2.2.2.2.2.2.1 (kAr_0 WX0_g (n := 57) (by decide +kernel) ⟨by decide, by decide, by decide +kernel⟩ (by decide)) (by decide) ?_
  refine R_iinc (ls2 := [(1, vI 5), (0, vA G 31)]) e_X0_clear_3.2.2.2.2.2.2.2.2.2 0 rfl (by decide) rfl ?_
  refine R_goto 43 e_X0_clear_4.1 (by decide) ?_
  refine R_iload_n e_X0_clear_2.2.2.2.2.2.2.1 0 rfl ?_
  refine R_bipush e_X0_clear_2.2.2.2.2.2.2.2.1 (by decide) ?_
  refine R_icmp_ge 69 e_X0_clear_2.2.2.2.2.2.2.2.2.1 (by decide) (by decide) (by decide) (fun q => absurd q (by decide)) (fun q => ?_)
  refine R_aload_n e_X0_clear_2.2.2.2.2.2.2.2.2.2 1 rfl ?_
  refine R_getA 0 8 32 e_X0_clear_3.1 f_X0_36 (kIs_0 WX0_g (n := 57) (by decide +kernel) ⟨by decide, by decide, by decide +kernel⟩) (fun _ _ => rfl) (by decide +kernel) (by decide) ?_
  refine R_iload_n e_X0_clear_3.2.1 0 rfl ?_
  refine R_iconst e_X0_clear_3.2.2.1 ?_
  refine R_iast 12 WX0_ok e_X0_clear_3.2.2.2.1 (kAr_0 WX0_g (n := 57) (by decide +kernel) ⟨by decide, by decide, by decide +kernel⟩ (by decide)) (by decide) ?_
  refine R_aload_n e_X0_clear_3.2.2.2.2.1 1 rfl ?_
  refine R_getA 0 9 33 e_X0_clear_3.2.2.2.2.2.1 f_X0_40 (kIs_0 WX0_g (n := 57) (by decide +kernel) ⟨by decide, by decide, by decide +kernel⟩) (fun _ _ => rfl) (by decide +kernel) (by decide) ?_
  refine R_iload_n e_X0_clear_3.2.2.2.2.2.2.1 0 rfl ?_
  refine R_iconst e_X0_clear_3.2.2.2.2.2.2.2.1 ?_
  refine R_iast 12 WX0_ok e_X0_clear_3.2.2.2.2.2.2.2.2.1 (kAr_0 WX0_g (n := 57) (by decide +kernel) ⟨by decide, by decide, by decide +kernel⟩ (by decide)) (by decide) ?_
  refine R_iinc (ls2 := [(1, vI 6), (0, vA G 31)]) e_X0_clear_3.2.2.2.2.2.2.2.2.2 0 rfl (by decide) rfl ?_
  refine R_goto 43 e_X0_clear_4.1 (by decide) ?_
  refine R_iload_n e_X0_clear_2.2.2.2.2.2.2.1 0 rfl ?_
  refine R_bipush e_X0_clear_2.2.2.2.2.2.2.2.1 (by decide) ?_
  refine R_icmp_ge 69 e_X0_clear_2.2.2.2.2.2.2.2.2.1 (by decide) (by decide) (by decide) (fun q => absurd q (by decide)) (fun q => ?_)
  refine R_aload_n e_X0_clear_2.2.2.2.2.2.2.2.2.2 1 rfl ?_
  refine R_getA 0 8 32 e_X0_clear_3.1 f_X0_36 (kIs_0 WX0_g (n := 57) (by decide +kernel) ⟨by decide, by decide, by decide +kernel⟩) (fun _ _ => rfl) (by decide +kernel) (by decide) ?_
  refine R_iload_n e_X0_clear_3.2.1 0 rfl ?_
  refine R_iconst e_X0_clear_3.2.2.1 ?_
  refine R_iast 12 WX0_ok e_X0_clear_3.2.2.2.1 (kAr_0 WX0_g (n := 57) (by decide +kernel) ⟨by decide, by decide, by decide +kernel⟩ (by decide)) (by decide) ?_
  refine R_aload_n e_X0_clear_3.2.2.2.2.1 1 rfl ?_
  refine R_getA 0 9 33 e_X0_clear_3.2.2.2.2.2.1 f_X0_40 (kIs_0 WX0_g (n := 57) (by decide +kernel) ⟨by decide, by decide, by decide +kernel⟩) (fun _ _ => rfl) (by decide +kernel) (by decide) ?_
  refine R_iload_n e_X0_clear_3.2.2.2.2.2.2.1 0 rfl ?_
  refine R_iconst e_X0_clear_3.2.2.2.2.2.2.2.1 ?_
  refine R_iast 12 WX0_ok e_X0_clear_3.2.2.2.2.2.2.2.2.1 (kAr_0 WX0_g (n := 57) (by decide +kernel) ⟨by decide, by decide, by decide +kernel⟩ (by decide)) (by decide) ?_
  refine R_iinc (ls2 := [(1, vI 7), (0, vA G 31)]) e_X0_clear_3.2.2.2.2.2.2.2.2.2 0 rfl (by decide) rfl ?_
  refine R_goto 43 e_X0_clear_4.1 (by decide) ?_
  refine R_iload_n e_X0_clear_2.2.2.2.2.2.2.1 0 rfl ?_
  refine R_bipush e_X0_clear_2.2.2.2.2.2.2.2.1 (by decide) ?_
  refine R_icmp_ge 69 e_X0_clear_2.2.2.2.2.2.2.2.2.1 (by decide) (by decide) (by decide) (fun q => absurd q (by decide)) (fun q => ?_)
  refine R_aload_n e_X0_clear_2.2.2.2.2.2.2.2.2.2 1 rfl ?_
  refine R_getA 0 8 32 e_X0_clear_3.1 f_X0_36 (kIs_0 WX0_g (n := 57) (by decide +kernel) ⟨by decide, by decide, by decide +kernel⟩) (fun _ _ => rfl) (by decide +kernel) (by decide) ?_
  refine R_iload_n e_X0_clear_3.2.1 0 rfl ?_
  refine R_iconst e_X0_clear_3.2.2.1 ?_
  refine R_iast 12 WX0_ok e_X0_clear_3.2.2.2.1 (kAr_0 WX0_g (n := 57) (by decide +kernel) ⟨by decide, by decide, by decide +kernel⟩ (by decide)) (by decide) ?_
  refine R_aload_n e_X0_clear_3.2.2.2.2.1 1 rfl ?_
  refine R_getA 0 9 33 e_X0_clear_3.2.2.2.2.2.1 f_X0_40 (kIs_0 WX0_g (n := 57) (by decide +kernel) ⟨by decide, by decide, by decide +kernel⟩) (fun _ _ => rfl) (by decide +kernel) (by decide) ?_
  refine R_iload_n e_X0_clear_3.2.2.2.2.2.2.1 0 rfl ?_
  refine R_iconst e_X0_clear_3.2.2.2.2.2.2.2.1 ?_
  refine R_iast 12 WX0_ok e_X0_clear_3.2.2.2.2.2.2.2.2.1 (kAr_0 WX0_g (n := 57) (by decide +kernel) ⟨by decide, by decide, by decide +kernel⟩ (by decide)) (by decide) ?_
  refine R_iinc (ls2 := [(1, vI 8), (0, vA G 31)]) e_X0_clear_3.2.2.2.2.2.2.2.2.2 0 rfl (by decide) rfl ?_
  refine R_goto 43 e_X0_clear_4.1 (by decide) ?_
  refine R_iload_n e_X0_clear_2.2.2.2.2.2.2.1 0 rfl ?_
  refine R_bipush e_X0_clear_2.2.2.2.2.2.2.2.1 (by decide) ?_
  refine R_icmp_ge 69 e_X0_clear_2.2.2.2.2.2.2.2.2.1 (by decide) (by decide) (by decide) (fun q => absurd q (by decide)) (fun q => ?_)
  refine R_aload_n e_X0_clear_2.2.2.2.2.2.2.2.2.2 1 rfl ?_
  refine R_getA 0 8 32 e_X0_clear_3.1 f_X0_36 (kIs_0 WX0_g (n := 57) (by decide +kernel) ⟨by decide, by decide, by decide +kernel⟩) (fun _ _ => rfl) (by decide +kernel) (by decide) ?_
  refine R_iload_n e_X0_clear_3.2.1 0 rfl ?_
  refine R_iconst e_X0_clear_3.2.2.1 ?_
  refine R_iast 12 WX0_ok e_X0_clear_3.2.2.2.1 (kAr_0 WX0_g (n := 57) (by decide +kernel) ⟨by decide, by decide, by decide +kernel⟩ (by decide)) (by decide) ?_
  refine R_aload_n e_X0_clear_3.2.2.2.2.1 1 rfl ?_
  refine R_getA 0 9 33 e_X0_clear_3.2.2.2.2.2.1 f_X0_40 (kIs_0 WX0_g (n := 57) (by decide +kernel) ⟨by decide, by decide, by decide +kernel⟩) (fun _ _ => rfl) (by decide +kernel) (by decide) ?_
  refine R_iload_n e_X0_clear_3.2.2.2.2.2.2.1 0 rfl ?_
  refine R_iconst e_X0_clear_3.2.2.2.2.2.2.2.1 ?_
  refine R_iast 12 WX0_ok e_X0_clear_3.2.2.2.2.2.2.2.2.1 (kAr_0 WX0_g (n := 57) (by decide +kernel) ⟨by decide, by decide, by decide +kernel⟩ (by decide)) (by decide) ?_
  refine R_iinc (ls2 := [(1, vI 9), (0, vA G 31)]) e_X0_clear_3.2.2.2.2.2.2.2.2.2 0 rfl (by decide) rfl ?_
  refine R_goto 43 e_X0_clear_4.1 (by decide) ?_
  refine R_iload_n e_X0_clear_2.2.2.2.2.2.2.1 0 rfl ?_
  refine R_bipush e_X0_clear_2.2.2.2.2.2.2.2.1 (by decide) ?_
  refine R_icmp_ge 69 e_X0_clear_2.2.2.2.2.2.2.2.2.1 (by decide) (by decide) (by decide) (fun q => absurd q (by decide)) (fun q => ?_)
  refine R_aload_n e_X0_clear_2.2.2.2.2.2.2.2.2.2 1 rfl ?_
  refine R_getA 0 8 32 e_X0_clear_3.1 f_X0_36 (kIs_0 WX0_g (n := 57) (by decide +kernel) ⟨by decide, by decide, by decide +kernel⟩) (fun _ _ => rfl) (by decide +kernel) (by decide) ?_
  refine R_iload_n e_X0_clear_3.2.1 0 rfl ?_
  refine R_iconst e_X0_clear_3.2.2.1 ?_
  refine R_iast 12 WX0_ok e_X0_clear_3.2.2.2.1 (kAr_0 WX0_g (n := 57) (by decide +kernel) ⟨by decide, by decide, by decide +kernel⟩ (by decide)) (by decide) ?_
  refine R_aload_n e_X0_clear_3.2.2.2.2.1 1 rfl ?_
  refine R_getA 0 9 33 e_X0_clear_3.2.2.2.2.2.1 f_X0_40 (kIs_0 WX0_g (n := 57) (by decide +kernel) ⟨by decide, by decide, by decide +kernel⟩) (fun _ _ => rfl) (by decide +kernel) (by decide) ?_
  refine R_iload_n e_X0_clear_3.2.2.2.2.2.2.1 0 rfl ?_
  refine R_iconst e_X0_clear_3.2.2.2.2.2.2.2.1 ?_
  refine R_iast 12 WX0_ok e_X0_clear_3.2.2.2.2.2.2.2.2.1 (kAr_0 WX0_g (n := 57) (by decide +kernel) ⟨by decide, by decide, by decide +kernel⟩ (by decide)) (by decide) ?_
  refine R_iinc (ls2 := [(1, vI 10), (0, vA G 31)]) e_X0_clear_3.2.2.2.2.2.2.2.2.2 0 rfl (by decide) rfl ?_
  refine R_goto 43 e_X0_clear_4.1 (by decide) ?_
  refine R_iload_n e_X0_clear_2.2.2.2.2.2.2.1 0 rfl ?_
  refine R_bipush e_X0_clear_2.2.2.2.2.2.2.2.1 (by decide) ?_
  refine R_icmp_ge 69 e_X0_clear_2.2.2.2.2.2.2.2.2.1 (by decide) (by decide) (by decide) (fun q => absurd q (by decide)) (fun q => ?_)
  refine R_aload_n e_X0_clear_2.2.2.2.2.2.2.2.2.2 1 rfl ?_
  refine R_getA 0 8 32 e_X0_clear_3.1 f_X0_36 (kIs_0 WX0_g (n := 57) (by decide +kernel) ⟨by decide, by decide, by decide +kernel⟩) (fun _ _ => rfl) (by decide +kernel) (by decide) ?_
  refine R_iload_n e_X0_clear_3.2.1 0 rfl ?_
  refine R_iconst e_X0_clear_3.2.2.1 ?_
  refine R_iast 12 WX0_ok e_X0_clear_3.2.2.2.1 (kAr_0 WX0_g (n := 57) (by decide +kernel) ⟨by decide, by decide, by decide +kernel⟩ (by decide)) (by decide) ?_
  refine R_aload_n e_X0_clear_3.2.2.2.2.1 1 rfl ?_
  refine R_getA 0 9 33 e_X0_clear_3.2.2.2.2.2.1 f_X0_40 (kIs_0 WX0_g (n := 57) (by decide +kernel) ⟨by decide, by decide, by decide +kernel⟩) (fun _ _ => rfl) (by decide +kernel) (by decide) ?_
  refine R_iload_n e_X0_clear_3.2.2.2.2.2.2.1 0 rfl ?_
  refine R_iconst e_X0_clear_3.2.2.2.2.2.2.2.1 ?_
  refine R_iast 12 WX0_ok e_X0_clear_3.2.2.2.2.2.2.2.2.1 (kAr_0 WX0_g (n := 57) (by decide +kernel) ⟨by decide, by decide, by decide +kernel⟩ (by decide)) (by decide) ?_
  refine R_iinc (ls2 := [(1, vI 11), (0, vA G 31)]) e_X0_clear_3.2.2.2.2.2.2.2.2.2 0 rfl (by decide) rfl ?_
  refine R_goto 43 e_X0_clear_4.1 (by decide) ?_
  refine R_iload_n e_X0_clear_2.2.2.2.2.2.2.1 0 rfl ?_
  refine R_bipush e_X0_clear_2.2.2.2.2.2.2.2.1 (by decide) ?_
  refine R_icmp_ge 69 e_X0_clear_2.2.2.2.2.2.2.2.2.1 (by decide) (by decide) (by decide) (fun q => absurd q (by decide)) (fun q => ?_)
  refine R_aload_n e_X0_clear_2.2.2.2.2.2.2.2.2.2 1 rfl ?_
  refine R_getA 0 8 32 e_X0_clear_3.1 f_X0_36 (kIs_0 WX0_g (n := 57) (by decide +kernel) ⟨by decide, by decide, by decide +kernel⟩) (fun _ _ => rfl) (by decide +kernel) (by decide) ?_
  refine R_iload_n e_X0_clear_3.2.1 0 rfl ?_
  refine R_iconst e_X0_clear_3.2.2.1 ?_
  refine R_iast 12 WX0_ok e_X0_clear_3.2.2.2.1 (kAr_0 WX0_g (n := 57) (by decide +kernel) ⟨by decide, by decide, by decide +kernel⟩ (by decide)) (by decide) ?_
  refine R_aload_n e_X0_clear_3.2.2.2.2.1 1 rfl ?_
  refine R_getA 0 9 33 e_X0_clear_3.2.2.2.2.2.1 f_X0_40 (kIs_0 WX0_g (n := 57) (by decide +kernel) ⟨by decide, by decide, by decide +kernel⟩) (fun _ _ => rfl) (by decide +kernel) (by decide) ?_
  refine R_iload_n e_X0_clear_3.2.2.2.2.2.2.1 0 rfl ?_
  refine R_iconst e_X0_clear_3.2.2.2.2.2.2.2.1 ?_
  refine R_iast 12 WX0_ok e_X0_clear_3.2.2.2.2.2.2.2.2.1 (kAr_0 WX0_g (n := 57) (by decide +kernel) ⟨by decide, by decide, by decide +kernel⟩ (by decide)) (by decide) ?_
  refine R_iinc (ls2 := [(1, vI 12), (0, vA G 31)]) e_X0_clear_3.2.2.2.2.2.2.2.2.2 0 rfl (by decide) rfl ?_
  refine R_goto 43 e_X0_clear_4.1 (by decide) ?_
  refine R_iload_n e_X0_clear_2.2.2.2.2.2.2.1 0 rfl ?_
  refine R_bipush e_X0_clear_2.2.2.2.2.2.2.2.1 (by decide) ?_
  refine R_icmp_ge 69 e_X0_clear_2.2.2.2.2.2.2.2.2.1 (by decide) (by decide) (by decide) (fun q => ?_) (fun q => absurd q (by decide))
  exact R_return e_X0_clear_4.2 rfl rfl
