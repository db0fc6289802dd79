/-! KiteLandModel.kiteTo(I)Z -/
theorem e_X12_kiteTo_0 : decode cX12_kiteTo 0 = .ok (.aload_n 0, 1) ∧ decode cX12_kiteTo 1 = .ok (.iconst 0, 1) ∧ decode cX12_kiteTo 2 = .ok (.aload_n 0, 1) ∧ decode cX12_kiteTo 3 = .ok (.getfield 7, 3) ∧ decode cX12_kiteTo 6 = .ok (.iconst 2, 1) ∧ decode cX12_kiteTo 7 = .ok (.iaload, 1) ∧ decode cX12_kiteTo 8 = .ok (.iload_n 1, 1) ∧ decode cX12_kiteTo 9 = .ok (.invokevirtual 212, 3) ∧ decode cX12_kiteTo 12 = .ok (.ireturn, 1) := by decide +kernel
theorem S_X12_kiteTo {G : Kg} {σ : Kmem} {Q : Int → Kmem → Prop} {l1 : Int}  (h : (tk3 σ ∧ pOld (0) ((σ 1 2)) (l1)) ∧ Q (kb ((cOld (0) ((σ 1 2)) (l1) σ).1)) ((cOld (0) ((σ 1 2)) (l1) σ).2)) : Run G WM M_X12_kiteTo 7 0 0 [vA G 0, vI l1] σ Q := by
  refine Run.of (by decide +kernel) (by show (2 : Nat) ≤ 2; decide) ?_
  show Ex G WM M_X12_kiteTo 7 0 0 0 [(0, vA G 0), (1, vI l1)] [] σ Q
  refine R_aload_n e_X12_kiteTo_0.1 0 rfl ?_
  refine R_iconst e_X12_kiteTo_0.2.1 ?_
  refine R_aload_n e_X12_kiteTo_0.2.2.1 0 rfl ?_
  refine R_getA 12 0 1 e_X12_kiteTo_0.2.2.2.1 f_X12_7 km_0 (fun _ _ => rfl) rm_0_0 (by decide) ?_
  refine R_iconst e_X12_kiteTo_0.2.2.2.2.1 ?_
  refine R_iald 3598 e_X12_kiteTo_0.2.2.2.2.2.1 kma_1 (by decide) ?_
  refine R_iload_n e_X12_kiteTo_0.2.2.2.2.2.2.1 1 rfl ?_
  obtain ⟨q3, h⟩ := h
  refine R_callV (mc := 0) (ms := 0) (mc' := 0) (ms' := 0) (M' := M_X12_oldOne) (d' := 6) (as := [vI 0, vI (σ 1 2), vI l1]) (st := []) 12 3 e_X12_kiteTo_0.2.2.2.2.2.2.2.1 (kCVof m_X12_oldOne l_X12_212) rfl (by decide) km_0 (by decide) (by decide) rfl rfl (by show (0 : Nat) ≤ 8; decide) ?_
  refine Run.mono (P_X12_oldOne q3) (fun r s e => ?_)
  obtain ⟨e1, e2⟩ := e
  refine R_eqs (st2 := [vI (kb ((cOld (0) ((σ 1 2)) (l1) σ).1))]) (σ2 := ((cOld (0) ((σ 1 2)) (l1) σ).2)) (by rw [e1]; rfl) e2 ?_
  exact R_zreturn e_X12_kiteTo_0.2.2.2.2.2.2.2.2 rfl (kb_01 _) h
