/-- a loop that gathers the set of those of which p holds -/
theorem kloopS {E : Int → Int → Prop} {p : Int → Prop} {N : Nat} (hN : N ≤ 12)
    (H : ∀ (i : Nat) (a : Int), i ≤ N → (0 ≤ a ∧ a < 4096) → (i = N → a = (kset p N : Int)) → (i < N → p i → E ((i : Int) + 1) (kor a (kshl 1 i))) → (i < N → ¬ p i → E ((i : Int) + 1) (kor a 0)) → (i < N → ¬ p i → E ((i : Int) + 1) a) → E i a) : E 0 0 := by
  refine kloop (E := E) (fun i => (kset p i : Int)) N (fun i hi ih => H i _ hi ?_ ?_ ?_ ?_ ?_)
  · exact kset_le (N := 12) (by omega) (by omega)
  · intro h; rw [h]
  · intro h q; rw [← kset_s (by omega) q]; exact ih h
  · intro h q; rw [← kset_n (by omega) q]; exact ih h
  · intro h q
    have e := kset_n (p := p) (n := i) (by omega) q
    rw [kor_0 (by have := kset_lt8 (p := p) (n := i) (by omega); omega)] at e
    rw [← e]; exact ih h
/-- a loop that counts those of which p holds -/
theorem kloopC {E : Int → Int → Prop} {p : Int → Prop} {N : Nat} {a0 : Int}
    (H : ∀ (i : Nat) (n : Int), i ≤ N → (a0 ≤ n ∧ n ≤ a0 + i) → (i = N → n = kfor (fun r n => n + kb (p r)) N a0) → (i < N → p i → E ((i : Int) + 1) (n + 1)) → (i < N → ¬ p i → E ((i : Int) + 1) (n + 0)) → (i < N → ¬ p i → E ((i : Int) + 1) n) → E i n) : E 0 a0 := by
  refine kloop (E := E) (fun i => kfor (fun r n => n + kb (p r)) i a0) N (fun i hi ih => H i _ hi (kcol_r i) ?_ ?_ ?_ ?_)
  · intro h; rw [h]
  · intro h q; have := ih h; rw [kfor, kb_1 q] at this; exact this
  · intro h q; have := ih h; rw [kfor, kb_0 q] at this; exact this
  · intro h q; have := ih h; rw [kfor, kb_0 q, Int.add_zero] at this; exact this
/-- what told(8 ..) says -/
noncomputable def sSet (v : Int → Int) (what : Int) : Nat := kif (what = 0) (kset (fun k => sUp v k (v 7 % 12)) (v 2).toNat) (kif (what = 1) (kset (fun k => v (34 + 9 * k + 8) = 1) (v 2).toNat) (kset (fun c => v (88 + 4 * c + 2) ≤ v (88 + 4 * c + 3)) (v 3).toNat))
theorem P_X12_setOf {G : Kg} {σ : Kmem} {l1 : Int} (p : wf (σ 1) ∧ 0 ≤ l1 ∧ l1 ≤ 2) : Run G WM M_X12_setOf 4 0 0 [vA G 0, vI l1] σ (fun x s => x = (sSet (σ 1) l1 : Int) ∧ s = σ) := by
  obtain ⟨w, p1, p2⟩ := p
  have w1 := wf_h w
  refine S_X12_setOf ?_
  have rip : ∀ a, (l1 < 2 → a = (sSet (σ 1) l1 : Int)) → (l1 = 2 → a = 0) → E_X12_setOf_64 G l1 a 0 σ (fun x s => x = (sSet (σ 1) l1 : Int) ∧ s = σ) := by
    intro a h1 h2
    by_cases q : l1 = 2
    · rw [h2 q]
      refine kloopS (E := fun i a => E_X12_setOf_64 G l1 a i σ _) (p := fun c => σ 1 (88 + 4 * c + 2) ≤ σ 1 (88 + 4 * c + 3)) (N := (σ 1 3).toNat) (by omega) (fun i a hi ha he hs hn _ => S_X12_setOf_64 ⟨by omega, by omega, fun z => ⟨?_, rfl⟩, fun z => ⟨by omega, fun z2 => absurd q z2, fun z2 => ⟨⟨w, by omega, z⟩, fun z3 => hn (by omega) z3, fun z3 => hs (by omega) z3⟩⟩⟩)
      rw [he (by omega)]
      unfold sSet; rw [kif_f (by omega), kif_f (by omega)]
    · refine S_X12_setOf_64 ⟨by omega, by omega, fun z => ⟨h1 (by omega), rfl⟩, fun z => ⟨by omega, fun _ => ⟨h1 (by omega), rfl⟩, fun z2 => absurd z2 q⟩⟩
  by_cases q2 : l1 = 2
  · exact S_X12_setOf_4 ⟨by omega, by omega, fun z => rip _ (by omega) (fun _ => rfl), fun z => ⟨by omega, fun _ => rip _ (by omega) (fun _ => rfl), fun z => by omega⟩⟩
  · by_cases q0 : l1 = 0
    · refine kloopS (E := fun i a => E_X12_setOf_4 G l1 a i σ _) (p := fun k => sUp (σ 1) k (σ 1 7 % 12)) (N := (σ 1 2).toNat) (by omega) (fun i a hi ha he hs hn _ => S_X12_setOf_4 ⟨by omega, by omega, fun z => rip _ (fun _ => ?_) (by omega), fun z => ⟨by omega, fun z => by omega, fun z1 => ⟨fun z => absurd q0 z, fun z2 => ⟨by omega, ⟨w, ⟨by omega, z⟩, by omega, by omega⟩, fun z3 => hn (by omega) z3, fun z3 => hs (by omega) z3⟩⟩⟩⟩)
      rw [he (by omega)]
      unfold sSet; rw [kif_t q0]
    · refine kloopS (E := fun i a => E_X12_setOf_4 G l1 a i σ _) (p := fun k => σ 1 (34 + 9 * k + 8) = 1) (N := (σ 1 2).toNat) (by omega) (fun i a hi ha he hs hn _ => S_X12_setOf_4 ⟨by omega, by omega, fun z => rip _ (fun _ => ?_) (by omega), fun z => ⟨by omega, fun z => by omega, fun z1 => ⟨fun z2 => ⟨⟨w, by omega, z⟩, fun z3 => hn (by omega) z3, fun z3 => hs (by omega) z3⟩, fun z => absurd z q0⟩⟩⟩)
      rw [he (by omega)]
      unfold sSet; rw [kif_f q0, kif_t (by omega)]
noncomputable def sSh1 (v : Int → Int) (c r h k : Int) : Nat := kset (fun x => sUS v c r h x ∧ x ≠ k) (v 2).toNat
noncomputable def sLost (v : Int → Int) (k : Int) : Int := kcnt (fun c r => sOwn v c r (v 7 % 12) ≠ -1 ∧ sOwnBy v (sSh1 v c r (v 7 % 12) k : Int) = -1) (v 0).toNat (v 1).toNat
theorem sSh1_r {v : Int → Int} {c r h k : Int} (w : wf v) : 0 ≤ (sSh1 v c r h k : Int) ∧ (sSh1 v c r h k : Int) < 64 := by
  obtain ⟨-, ⟨_, _⟩, -⟩ := wf_h w
  have := kset_lt (p := fun x => sUS v c r h x ∧ x ≠ k) (v 2).toNat
  have := Nat.pow_le_pow_right (n := 2) (by decide) (show (v 2).toNat ≤ 6 by omega)
  unfold sSh1
  omega
theorem P_X12_lostBy {G : Kg} {σ : Kmem} {k : Int} (p : wf (σ 1) ∧ sKt (σ 1) k) : Run G WM M_X12_lostBy 6 0 0 [vA G 0, vI k] σ (fun x s => x = sLost (σ 1) k ∧ s = σ) := by
  obtain ⟨w, hk, hk2⟩ := p
  have w1 := wf_h w
  refine S_X12_lostBy ?_
  refine kgrid (p := fun c r => sOwn (σ 1) c r (σ 1 7 % 12) ≠ -1 ∧ sOwnBy (σ 1) (sSh1 (σ 1) c r (σ 1 7 % 12) k : Int) = -1) (W := (σ 1 0).toNat) (D := (σ 1 1).toNat) (E1 := fun c n => E_X12_lostBy_4 G k n c σ (fun x s => x = sLost (σ 1) k ∧ s = σ)) (E2 := fun c r n => E_X12_lostBy_17 G k n c r σ (fun x s => x = sLost (σ 1) k ∧ s = σ)) (X := True) (fun c n hc hn ih => S_X12_lostBy_4 ?_) (fun c r n hc hr h1 h2 => S_X12_lostBy_17 ?_)
  · exact ⟨by omega, by omega, fun q => ⟨hn (by omega), rfl⟩, fun q => ih (by omega)⟩
  · have o := sOwn_r (v := σ 1) (c := c) (r := r) (h := σ 1 7 % 12) w
    have o2 := sOwnBy_r (v := σ 1) (s := (sSh1 (σ 1) c r (σ 1 7 % 12) k : Int)) w
    obtain ⟨n, rfl⟩ : ∃ n : Nat, k = n := ⟨k.toNat, by omega⟩
    have e : kand (sShs (σ 1) c r (σ 1 7 % 12) : Int) (kxor (kshl 1 n) (-1)) = (sSh1 (σ 1) c r (σ 1 7 % 12) n : Int) := kand_rem (by omega) (by omega)
    refine ⟨by omega, by omega, fun q => h1 (by omega), fun q => ⟨by omega, ⟨w, by omega, by omega, by omega, by omega⟩, ⟨w, sShs_r w⟩, ?_⟩⟩
    rw [e]
    refine ⟨by unfold sOwn at o; omega, fun z => ?_, fun z => ⟨⟨w, sSh1_r w⟩, by omega, fun z2 => ?_, fun z2 => ?_⟩⟩
    · have := h2 (by omega); rw [kb_0 (fun y => y.1 z)] at this; exact this
    · have := h2 (by omega); rw [kb_0 (fun y => z2 y.2)] at this; exact this
    · have := h2 (by omega); rw [kb_1 ⟨z, z2⟩] at this; exact this
