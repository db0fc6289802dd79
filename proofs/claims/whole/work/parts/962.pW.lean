theorem P_X12_kiteTo {G : Kg} {σ : Kmem} {to : Int} (p : tk3 σ ∧ (0 : Int) ≤ σ 1 2 ∧ (σ 1 2 : Int) ≤ 6 ∧ (2056 : Int) ≤ to ∧ (to : Int) < 2570) : Run G WM M_X12_kiteTo 7 0 0 [vA G 0, vI to] σ (fun x s => x = kb ((cKT to σ).1) ∧ s = (cKT to σ).2) :=
  S_X12_kiteTo ⟨⟨p.1, by omega, by omega⟩, rfl, rfl⟩
