theorem wf_h {v : Int → Int} (w : wf v) : (0 ≤ v 0 ∧ v 0 ≤ 9 ∧ 0 ≤ v 1 ∧ v 1 ≤ 7 ∧ (v 0 = 0 ↔ v 1 = 0)) ∧ (0 ≤ v 2 ∧ v 2 ≤ 6) ∧ (0 ≤ v 3 ∧ v 3 ≤ 8) ∧ (0 ≤ v 4 ∧ v 4 ≤ 6) ∧ (0 ≤ v 5 ∧ v 5 ≤ 11) ∧ (0 ≤ v 6 ∧ v 6 ≤ 2) ∧ (0 ≤ v 7 ∧ v 7 ≤ 100000) := w.1
theorem P_X12_doesShade {G : Kg} {σ : Kmem} {l1 l2 l3 l4 : Int} (p : wf (σ 1) ∧ sKt (σ 1) l1 ∧ sHr l4 ∧ (0 ≤ l2 ∧ l2 ≤ 100) ∧ 0 ≤ l3 ∧ l3 ≤ 100) : Run G WM M_X12_doesShade 4 0 0 [vA G 0, vI l1, vI l2, vI l3, vI l4] σ (fun r s => r = kb (sShd (σ 1) l1 l2 l3 l4) ∧ s = σ) := by
  obtain ⟨w, hk, hh, hc, hr⟩ := p
  have w1 := wf_h w
  have hh1 := hh.1
  have hh2 := hh.2
  have a := w.2.2.1 l1 hk.1 hk.2
  have c1 := sCol_r w hk hh
  have r1 := sRow_r w hk hh
  have j : ∀ z : Int, rI z → z = sSz (σ 1) l1 l4 → E_X12_doesShade_32 G l1 l2 l3 l4 z σ (fun r s => r = kb (sShd (σ 1) l1 l2 l3 l4) ∧ s = σ) := by
    intro z hz e
    have k1 := kabs_u (a := sCol (σ 1) l1 l4 - l2) (b := 200) (by omega)
    have k2 := kabs_u (a := sRow (σ 1) l1 l4 - l3) (b := 200) (by omega)
    have k3 := kabs_r (a := sCol (σ 1) l1 l4 - l2)
    have k4 := kabs_r (a := sRow (σ 1) l1 l4 - l3)
    refine S_X12_doesShade_32 ⟨⟨w, hk, hh⟩, fun h => ⟨(kb_0 (fun q => h q.1)).symm, rfl⟩, fun h => ⟨⟨w, hk, hh⟩, by omega, by omega, hz, fun h2 => ⟨(kb_0 (fun q => ?_)).symm, rfl⟩, fun h2 => ⟨⟨w, hk, hh⟩, by omega, by omega, fun h3 => ⟨(kb_0 (fun q => ?_)).symm, rfl⟩, fun h3 => ⟨(kb_1 ⟨h, ?_, ?_⟩).symm, rfl⟩⟩⟩⟩
    · have := q.2.1; omega
    · have := q.2.2; omega
    · omega
    · omega
  have hk2 := hk.1
  have hk3 := hk.2
  refine S_X12_doesShade ⟨by omega, by omega, fun h => ⟨by omega, j _ (by omega) ?_⟩, fun h => ⟨by omega, by omega, j _ (by omega) ?_⟩⟩
  · unfold sSz; rw [if_neg h]
  · unfold sSz; rw [if_pos h]
