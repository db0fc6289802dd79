theorem P_X12_is {G : Kg} {σ : Kmem} {l1 : Int} (p : rI l1) : Run G WM M_X12_is 0 0 0 [vA G 0, vI l1] σ (fun r s => r = kb (l1 = 0) ∧ s = kup σ 0 2 l1) :=
  S_X12_is ⟨p, fun q => ⟨(kb_0 q).symm, rfl⟩, fun q => ⟨(kb_1 q).symm, rfl⟩⟩
theorem P_X12_orNone {G : Kg} {σ : Kmem} {l1 : Int} (p : rI l1) : Run G WM M_X12_orNone 1 0 0 [vA G 0, vI l1] σ (fun r s => r = l1 ∧ s = kup σ 0 2 (kif ((l1 : Int) = -1) 6 0)) :=
  S_X12_orNone ⟨p, fun q => ⟨rfl, by rw [kif_f q]⟩, fun q => ⟨q.symm, by rw [kif_t q]⟩⟩
theorem P_X12_isSpan {G : Kg} {σ : Kmem} {l0 : Int} (p : rI l0) : Run G WM M_X12_isSpan 1 0 0 [vI l0] σ (fun r s => r = kb (0 ≤ l0 ∧ l0 ≤ 99) ∧ s = σ) :=
  S_X12_isSpan ⟨p, ⟨by constructor <;> omega, by decide, by decide⟩, rfl, rfl⟩
