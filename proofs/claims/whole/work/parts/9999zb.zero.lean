/-! WHAT WAS MADE: both sides alike at first -/
theorem nu_v : ∀ j, nu1 1 j = if 0 ≤ j ∧ j < 514 then plV (j - 0) else 0 := fun _ => rfl
theorem nu_pl {j : Int} (h : 0 ≤ j ∧ j < 514) : nu1 1 j = plV j := by
  rw [nu_v, if_pos (by omega), Int.sub_zero]
theorem nu_2 : ∀ j, nu1 2 j = 0 := fun _ => rfl
theorem nu_3 : ∀ j, nu1 3 j = 0 := fun _ => rfl
theorem nu_5 : ∀ j, nu1 5 j = 0 := fun _ => rfl
theorem nu_6 : ∀ j, nu1 6 j = 0 := fun _ => rfl
theorem nu_7 : ∀ j, nu1 7 j = 0 := fun _ => rfl
theorem nu_18 : ∀ j, nu1 18 j = 0 := fun _ => rfl
theorem nu_4 : nu1 4 0 = -1 ∧ nu1 4 1 = -1 ∧ nu1 4 2 = -1 ∧ nu1 4 3 = -1 := by decide +kernel
theorem nu_0 : (nu1 0 2 = 0 ∧ nu1 0 3 = 0 ∧ nu1 0 4 = 1 ∧ nu1 0 10 = 0) ∧ (nu1 0 16 = -1 ∧ nu1 0 17 = -1) ∧ nu1 0 26 = 0 ∧ nu1 0 40 = 0 ∧ nu1 0 41 = 0 := by decide +kernel
theorem mu_0 : (mu51 0 0 = 0 ∧ mu51 0 1 = 0 ∧ mu51 0 2 = 1 ∧ mu51 0 5 = 0) ∧ (mu51 3 8 = -1 ∧ mu51 3 9 = -1) ∧ mu51 82 6 = 0 ∧ mu51 78 0 = 0 ∧ mu51 0 18 = 0 := by decide +kernel
theorem mu_t : mu51 98 0 = 0 ∧ mu51 100 0 = 0 ∧ mu51 102 0 = 0 ∧ mu51 104 0 = 0 := by decide +kernel
theorem mu_s : (mu51 64 0 = 0 ∧ mu51 64 2 = 0) := by decide +kernel
theorem mu_c : (mu51 5 0 = 0 ∧ mu51 5 1 = 0 ∧ mu51 5 2 = 6 ∧ mu51 5 3 = 0) ∧ mu51 5 4 = 0 ∧ mu51 5 5 = 0 ∧ mu51 5 6 = 0 ∧ mu51 5 7 = 0 := by decide +kernel
theorem mu_w : ∀ h : Nat, h < 12 → mu51 6 (h : Int) = 2 ∧ mu51 7 (h : Int) = 2 := by decide +kernel
theorem nu_z : nu1 1 0 = 0 ∧ nu1 1 1 = 0 ∧ nu1 1 2 = 0 ∧ nu1 1 3 = 0 ∧ nu1 1 4 = 0 ∧ nu1 1 5 = 6 ∧ nu1 1 6 = 0 ∧ nu1 1 7 = 0 ∧ nu1 1 8 = -1 := by decide +kernel
theorem R_0made : R mu51 nu1 := by
  obtain ⟨z0, z1, z2, z3, z4, z5, z6, z7, z8⟩ := nu_z
  obtain ⟨⟨n1, n2, n3, n4⟩, ⟨n5, n6⟩, n7, n8, n9⟩ := nu_0
  obtain ⟨⟨m1, m2, m3, m4⟩, ⟨m5, m6⟩, m7, m8, m9⟩ := mu_0
  obtain ⟨t1, t2, t3, t4⟩ := mu_t
  obtain ⟨u1, u2, u3, u4⟩ := nu_4
  have t44 : ∀ i, 0 ≤ i → i < 4 → nu1 4 i = -1 := fun i a b => by
    have : i = 0 ∨ i = 1 ∨ i = 2 ∨ i = 3 := by omega
    rcases this with rfl | rfl | rfl | rfl <;> assumption
  have a0 : adT 0 = 98 := by decide
  have a1 : adT 1 = 100 := by decide
  have a2 : adT 2 = 102 := by decide
  have a3 : adT 3 = 104 := by decide
  have tz : ∀ i, 0 ≤ i → i < 4 → mu51 (adT i) 0 = 0 := fun i a b => by
    have : i = 0 ∨ i = 1 ∨ i = 2 ∨ i = 3 := by omega
    rcases this with rfl | rfl | rfl | rfl
    · rw [a0]; exact t1
    · rw [a1]; exact t2
    · rw [a2]; exact t3
    · rw [a3]; exact t4
  refine ⟨⟨⟨wf_ext (fun j a b => nu_pl ⟨a, by omega⟩) plV_cz.1, ?_, by omega⟩, ?_, ?_, fun k a b => by omega, fun k a b => by omega⟩, ⟨⟨by rw [m9, n9], by omega, by omega⟩, fun m a b => by omega⟩, ⟨⟨by rw [m1, n1], by constructor <;> omega⟩, ⟨by rw [m2, n2], by constructor <;> omega⟩, by rw [m3, n3], by constructor <;> omega⟩, ⟨by rw [m4, n4], ⟨⟨by omega, by omega⟩, fun i _ _ => by have := nu_6 i; constructor <;> omega, fun i _ _ => by have := nu_7 i; constructor <;> omega⟩, fun i a b => by omega⟩, ⟨by rw [m5, n5], by rw [m6, n6]⟩, ⟨⟨fun i a b => ?_, fun i _ _ => by have := nu_3 i; constructor <;> omega, fun i _ _ => by have := nu_5 i; constructor <;> omega⟩, fun t a b => ⟨?_, fun q => absurd (t44 t a b) q⟩⟩, ⟨⟨by rw [m7, n7], by omega, by omega⟩, fun k a b => by omega⟩, ⟨⟨by rw [m8, n8], Or.inl n8⟩, fun q => by omega⟩, fun j _ _ => by have := nu_2 j; constructor <;> omega, fun o _ _ => by have := nu_18 o; constructor <;> omega⟩
  · refine ⟨by constructor <;> omega, fun k a b => by omega, fun o b a1 a2 a3 a4 a5 a6 => by omega⟩
  · obtain ⟨⟨c1, c2, c3, c4⟩, c5, c6, c7, c8⟩ := mu_c
    refine ⟨⟨⟨by rw [c1, z0], by rw [c2, z1], by rw [c3, z5], by rw [c4, z6]⟩, by rw [c5, z7], by rw [c6, z2], by rw [c7, z3], by rw [c8, z4]⟩, fun h a b => ?_, fun k a b => by omega, fun k a b => by omega, fun k a b => by omega⟩
    obtain ⟨n, rfl⟩ := Int.eq_ofNat_of_zero_le a
    have w1 := mu_w n (by omega)
    have e1 : nu1 1 (10 + 2 * (n : Int)) = 2 := by
      rw [nu_pl (by omega)]; unfold plV; rw [if_neg (by omega), if_neg (by omega), if_pos (by omega)]
    have e2 : nu1 1 (10 + 2 * (n : Int) + 1) = 2 := by
      rw [nu_pl (by omega)]; unfold plV; rw [if_neg (by omega), if_neg (by omega), if_pos (by omega)]
    exact ⟨by rw [e1]; exact w1.1, by rw [e2]; exact w1.2⟩
  · obtain ⟨s1, s2⟩ := mu_s
    refine ⟨⟨Or.inl s1, by omega, by omega⟩, ⟨fun _ => z8, fun _ => s1⟩, fun q => absurd z8 q, fun k a b => by omega⟩
  · rw [t44 i a b]; exact Or.inl rfl
  · rw [tz t a b, t44 t a b, kb_0 (fun q => q rfl)]
