theorem P_X8_isUp {G : Kg} {σ : Kmem} {p : Int → Prop} {n k : Nat} (h : n ≤ 6 ∧ k < n ∧ σ 58 1 = (kset p n : Int)) : Run G WX M_X8_isUp 0 0 0 [vA G 58, vI k] σ (fun x s => x = kb (p k) ∧ s = σ) := by
  obtain ⟨h1, h2, h3⟩ := h
  have l := kset_lt8 (p := p) (n := n) (by omega)
  have e : kand (kshr (σ 58 1) k) 1 = kb (p k) := by
    rw [h3, kin_bit (by omega) (by omega)]
    exact kb_iff (by rw [sIn_kset]; exact ⟨fun z => z.2, fun z => ⟨h2, z⟩⟩)
  refine S_X8_isUp ?_
  rw [e]
  refine ⟨kb_r _, fun z => ⟨?_, rfl⟩, fun z => ⟨z.symm, rfl⟩⟩
  rcases kb_01 (p k) with y | y
  · exact y.symm
  · exact absurd y z
/-- all the shade is cast -/
def skD (σ : Kmem) (v : Int → Int) (q : Int → Prop) (h : Int) : Prop := ∀ f, 0 ≤ f → f < 63 → σ 62 f = (sSetI v q h f (v 2).toNat : Int) ∧ σ 63 f = sOwI v q h f (v 2).toNat
theorem skR_kfm {s σ : Kmem} {c h : Int} {v : Int → Int} {q : Int → Prop} (f : kfm sky3 s σ) (k : skR σ c v h q) : skR s c v h q := by
  have e : ∀ x, x < 62 → s x = σ x := fun x hx => f x (fun z => by have := z.1; omega)
  unfold skR
  rw [e 58 (by omega), e 59 (by omega), e 60 (by omega), e 61 (by omega)]; exact k
theorem P_X8_castShade {G : Kg} {σ : Kmem} {c h : Int} {v : Int → Int} {q : Int → Prop} (hc : isC c) (p : (wf v ∧ kco σ c v ∧ skR σ c v h q) ∧ sHr h) :
    Run G WX M_X8_castShade 2 0 0 [vA G 58] σ (fun x s => x = 0 ∧ kfm sky3 s σ ∧ skD s v q h) := by
  obtain ⟨⟨w, kk, sk⟩, hh⟩ := p
  have w1 := wf_h w
  have cr := isC_r hc
  refine S_X8_castShade hc ?_
  refine kloopP (E := fun i τ => E_X8_castShade_2 G i τ (fun x s => x = 0 ∧ kfm sky3 s σ ∧ skD s v q h)) (fun i τ => kfm sky3 τ σ ∧ ∀ f, 0 ≤ f → f < (i : Int) → τ 62 f = 0 ∧ τ 63 f = -1) 63 (fun i τ hi hI ih => S_X8_castShade_2 hc ?_) ⟨kfm.refl, fun f a b => by omega⟩
  obtain ⟨f1, i1⟩ := hI
  refine ⟨by omega, fun z => ?_, fun z => ⟨by omega, by omega, ih (by omega) _ ⟨(kfm_kup ⟨by omega, by omega⟩).trans ((kfm_kup ⟨by omega, by omega⟩).trans f1), fun f a b => ?_⟩⟩⟩
  · refine kloopP (E := fun i τ => E_X8_castShade_30 G i τ (fun x s => x = 0 ∧ kfm sky3 s σ ∧ skD s v q h)) (fun i τ => kfm sky3 τ σ ∧ skI τ v q h i (fun _ => False)) (v 2).toNat (fun i τ hi hI jh => S_X8_castShade_30 hc ?_) ⟨f1, fun f a b => ?_⟩
    · obtain ⟨f2, j2⟩ := hI
      have kt := kco_kfm w kk f2 (fun x a b u => by have := u.1; have := u.2; omega)
      have k1 := kco_h kt
      have sr := skR_kfm f2 sk
      refine ⟨sr.1, by omega, by omega, fun y => ⟨rfl, f2, fun f a b => ?_⟩, fun y => ?_⟩
      · have := j2 f a b
        rw [kif_f (fun u => u), kif_f (fun u => u), show i = (v 2).toNat by omega] at this; exact this
      · refine Run.mono (P_X8_isUp (p := fun k => sBorne v k h ∧ ¬ q k) (n := (v 2).toNat) (k := i) ⟨by omega, by omega, sr.2.1⟩) (fun x s u => ?_)
        obtain ⟨rfl, rfl⟩ := u
        refine ⟨kb_r _, fun u => jh (by omega) s ⟨f2, fun f a b => ?_⟩, fun u => Run.mono (P_X8_castShadeOf hc ⟨⟨w, kt, sr⟩, hh, by omega, kb_t u, j2⟩) (fun x t u2 => ?_)⟩
        · have g := sI_same (v := v) (q := q) (h := h) (f := f) (i := i) (fun o => kb_f u ⟨o.2.2.1, o.2.1⟩)
          have := j2 f a b
          rw [kif_f (fun u => u), kif_f (fun u => u)] at this
          rw [kif_f (fun u => u), kif_f (fun u => u), g.1, g.2]; exact this
        · obtain ⟨-, f3, j3⟩ := u2
          refine jh (by omega) t ⟨f3.trans f2, fun f a b => ?_⟩
          have := j3 f a b
          rw [kif_t trivial, kif_t trivial] at this
          rw [kif_f (fun u => u), kif_f (fun u => u)]; exact this
    · have := i1 f a (by omega)
      rw [kif_f (fun u => u), kif_f (fun u => u), this.1, this.2]
      refine ⟨rfl, ?_⟩
      unfold sOwI sOwnN
      by_cases y : v 6 = 2 ∧ kbits (sSetI v q h f 0) ≠ 1
      · rw [kif_t y]
      · rw [kif_f y]; rfl
  · by_cases e : f = i
    · subst e; rw [kup_x (by omega), kup_at, kup_at]; exact ⟨rfl, rfl⟩
    · rw [kup_x (by omega), kup_j e, kup_j e, kup_x (by omega)]; exact i1 f a (by omega)
