/-! THE LAW: its loop -/
theorem i32_nat (n : Nat) : Int32.ofNat n = Int32.ofInt (n : Int) := by
  first | rfl | simp
section
variable {G G' : Kg} {b L : Nat} {xs : Nat → Int32}
theorem law_end {i : Int} {σ τ : Kmem} : Lx G G' b L xs 2170 i [] σ τ := by
  intro p e s m below meth c H la C hK hH hl
  refine lv_iconst (v := 1) C.1 C.2.1 (n := 1) (by decide +kernel) rfl ?_
  exact lw_ret C.1 C.2.1 C.2.2.1 C.2.2.2.2.2.2.2.2.1 (by decide +kernel)
theorem law_next {i : Int} {σ τ : Kmem} (kk : Lx G G' b L xs 18 (i + 6) [] σ τ) : Lx G G' b L xs 2164 i [] σ τ := by
  intro p e s m below meth c H la C hK hH hl
  refine lv_iinc (v := Int32.ofInt (i + 6)) (lv' := [(3, vI (i + 6)), (0, .ref b), (1, vA G 0), (2, vA G' 0)]) C.1 C.2.1 (by decide +kernel : decode code 2164 = .ok (.iinc 3 6, 3)) hl (k := 3) rfl (i32_add i 6) (by decide) rfl (fun la hl => ?_)
  refine lv_goto (tgt := 18) C.1 C.2.1 (by decide +kernel : decode code 2167 = .ok (.goto (-2149), 3)) (by decide) ?_
  exact kk p e s m below meth c H la C hK hH (lv_sub hl [1, 2, 3, 0] rfl)
theorem law_head {i : Int} {σ τ : Kmem} (hL : L ≤ 3072) (hi : 0 ≤ i ∧ i ≤ 4000) (k1 : i + 6 ≤ L → Lx G G' b L xs 27 i [] σ τ) : Lx G G' b L xs 18 i [] σ τ := by
  intro p e s m below meth c H la C hK hH hl
  have hx := C.1
  have hb := C.2.1
  refine lv_iload_n hx hb (by decide +kernel : decode code 18 = .ok (.iload_n 3, 1)) rfl (lv_at hl 3 rfl) ?_
  refine lv_aload_n hx hb (by decide +kernel : decode code 19 = .ok (.aload_n 0, 1)) rfl (lv_at hl 0 rfl) ?_
  refine va_slen hx hb C.2.2.2.2.2.2.1 C.2.2.2.2.2.2.2.1 (Nat.not_le.mpr C.2.2.2.2.2.2.2.1) hH.2.2 (by decide +kernel : decode code 20 = .ok (.arraylength, 1)) ?_
  refine lv_bipush (v := Int32.ofInt 6) hx hb (by decide +kernel : decode code 21 = .ok (.bipush 6, 2)) (by decide) ?_
  refine lv_isub hx hb (by decide +kernel : decode code 23 = .ok (.isub, 1)) ?_
  rw [i32_nat, i32_sub]
  refine lv_icmp_gt (tgt := 2170) hx hb (by decide +kernel : decode code 24 = .ok (.if_icmp .gt 2146, 3)) (by decide) (fun q => ?_) (fun q => ?_)
  · exact law_end p e s m below meth c H la C hK hH hl
  · refine k1 ?_ p e s m below meth c H la C hK hH hl
    refine Classical.byContradiction (fun z => q ?_)
    rw [i32_lt ⟨by omega, by omega⟩ ⟨by omega, by omega⟩]
    omega
theorem law_loop (hL : L ≤ 3072) : ∀ (n : Nat) (i : Int) (σ τ : Kmem), R σ τ → 0 ≤ i → i ≤ 4000 → (L : Int) + 6 ≤ i + n → Lx G G' b L xs 18 i [] σ τ := by
  intro n
  induction n with
  | zero =>
    intro i σ τ h h0 h1 h2
    exact law_head hL ⟨h0, h1⟩ (fun z => by omega)
  | succ n ih =>
    intro i σ τ h h0 h1 h2
    refine law_head hL ⟨h0, h1⟩ (fun z => ?_)
    refine L_op0 (by decide +kernel) (by decide +kernel) (by decide +kernel) (by decide +kernel) (by decide +kernel) hL ⟨h0, by omega⟩ ?_
    exact law_switch hL ⟨h0, z⟩ h (kand63 sxs_r) (fun σ' τ' h' => law_next (ih (i + 6) σ' τ' h' (by omega) (by omega) (by omega)))
end
