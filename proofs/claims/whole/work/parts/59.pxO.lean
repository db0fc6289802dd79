theorem P_X8_look {G : Kg} {σ : Kmem} {c h : Int} {v : Int → Int} (hc : isC c) (p : wf v ∧ kco σ c v ∧ sHr h) : Run G WX M_X8_look 3 0 0 [vA G 58, vA G c, vI h] σ (fun x s => x = 0 ∧ kfm sky2 s σ ∧ kco s c v ∧ skR s c v h (sCt v) ∧ skD s v (sCt v) h) := by
  obtain ⟨w, kk, hh⟩ := p
  have cr := isC_r hc
  refine S_X8_look hc (Run.mono (P_X0_cutSet hc ⟨w, kk⟩) (fun r s z => ?_))
  rw [z.1, z.2]
  refine Run.mono (P_X8_raise (v := v) (q := sCt v) hc ⟨w, kk, hh, rfl⟩) (fun r s1 z => ?_)
  obtain ⟨-, f1, sk1⟩ := z
  have kk1 := kco_kfm w kk f1 (fun x a b u => by have := u.1; have := u.2; omega)
  refine Run.mono (P_X8_castShade hc ⟨⟨w, kk1, sk1⟩, hh⟩) (fun r s2 z => ?_)
  obtain ⟨-, f2, d2⟩ := z
  exact ⟨rfl, (f2.wide (fun x z => ⟨by have := z.1; omega, by have := z.2; omega⟩)).trans (f1.wide (fun x z => ⟨by have := z.1; omega, by have := z.2; omega⟩)), kco_kfm w kk1 f2 (fun x a b u => by have := u.1; have := u.2; omega), skR_kfm f2 sk1, d2⟩
theorem P_X8_lookPastCuts {G : Kg} {σ : Kmem} {c h : Int} {v : Int → Int} (hc : isC c) (p : wf v ∧ kco σ c v ∧ sHr h) : Run G WX M_X8_lookPastCuts 3 0 0 [vA G 58, vA G c, vI h] σ (fun x s => x = 0 ∧ kfm sky2 s σ ∧ kco s c v ∧ skR s c v h (fun _ => False) ∧ skD s v (fun _ => False) h) := by
  obtain ⟨w, kk, hh⟩ := p
  have cr := isC_r hc
  have e0 : (0 : Int) = (kset (fun _ => False) (v 2).toNat : Int) := by rw [kset_none (fun k hk z => z)]; rfl
  refine S_X8_lookPastCuts hc (Run.mono (P_X8_raise (v := v) (q := fun _ => False) hc ⟨w, kk, hh, e0⟩) (fun r s1 z => ?_))
  obtain ⟨-, f1, sk1⟩ := z
  have kk1 := kco_kfm w kk f1 (fun x a b u => by have := u.1; have := u.2; omega)
  refine Run.mono (P_X8_castShade hc ⟨⟨w, kk1, sk1⟩, hh⟩) (fun r s2 z => ?_)
  obtain ⟨-, f2, d2⟩ := z
  exact ⟨rfl, (f2.wide (fun x z => ⟨by have := z.1; omega, by have := z.2; omega⟩)).trans (f1.wide (fun x z => ⟨by have := z.1; omega, by have := z.2; omega⟩)), kco_kfm w kk1 f2 (fun x a b u => by have := u.1; have := u.2; omega), skR_kfm f2 sk1, d2⟩
