/-! Seasons: kinds, things, numbers -/
theorem isS_f {s : Int} (h : isS s) : s ≠ 3 ∧ s ≠ 4 ∧ 60 ≤ s ∧ s ≤ 198 := by
  rcases h with h | h | h | h | h <;> subst h <;> decide
theorem P_X7_kindOf {G : Kg} {σ τ : Kmem} {s : Int} (hs : isS s) (h : tRs σ τ) (t : tok τ) : Run G WX M_X7_kindOf 5 0 0 [vA G s, vA G 3] σ (fun y t => (15 ≤ tWi τ ∧ tWi τ ≤ 23 ∧ tWi τ ≠ 22 → y = kKd (tWi τ)) ∧ (¬ (15 ≤ tWi τ ∧ tWi τ ≤ 23 ∧ tWi τ ≠ 22) → y = -1) ∧ t = σ) := by
  have T0 := tRs_T0 h t
  have x : ∀ i : Nat, i < 28 ∧ i ≠ 15 → (xW σ (-((10 + i : Nat) : Int)) ↔ tWi τ = (wdK i : Int)) := fun i hi => xW_t h t ⟨i, hi, rfl, rfl⟩
  have st : ∀ i : Nat, i < 29 → isStr (-((10 + i : Nat) : Int)) := fun i hi => ⟨i, hi, rfl⟩
  have yes : ∀ k y : Int, tWi τ = k → (15 ≤ k ∧ k ≤ 23 ∧ k ≠ 22) → y = kKd k → (15 ≤ tWi τ ∧ tWi τ ≤ 23 ∧ tWi τ ≠ 22 → y = kKd (tWi τ)) ∧ (¬ (15 ≤ tWi τ ∧ tWi τ ≤ 23 ∧ tWi τ ≠ 22) → y = -1) ∧ σ = σ := fun k y e hk ek => by
    rw [e]; exact ⟨fun _ => ek, fun z => absurd hk z, rfl⟩
  refine S_X7_kindOf hs ⟨⟨T0, st 23 (by omega)⟩, fun n1 => ⟨⟨T0, st 24 (by omega)⟩, fun n2 => ⟨⟨T0, st 25 (by omega)⟩, fun n3 => ⟨⟨T0, st 26 (by omega)⟩, fun n4 => ⟨⟨T0, st 27 (by omega)⟩, fun n5 => ⟨⟨T0, st 16 (by omega)⟩, fun n6 => ⟨⟨T0, st 17 (by omega)⟩, fun n7 => ⟨⟨T0, st 18 (by omega)⟩, fun n8 => ?_, fun y => ?_⟩, fun y => ?_⟩, fun y => ?_⟩, fun y => ?_⟩, fun y => ?_⟩, fun y => ?_⟩, fun y => ?_⟩, fun y => ?_⟩
  · have m1 : tWi τ ≠ 15 := fun e => n1 ((x 23 (by omega)).2 e)
    have m2 : tWi τ ≠ 16 := fun e => n2 ((x 24 (by omega)).2 e)
    have m3 : tWi τ ≠ 17 := fun e => n3 ((x 25 (by omega)).2 e)
    have m4 : tWi τ ≠ 18 := fun e => n4 ((x 26 (by omega)).2 e)
    have m5 : tWi τ ≠ 19 := fun e => n5 ((x 27 (by omega)).2 e)
    have m6 : tWi τ ≠ 20 := fun e => n6 ((x 16 (by omega)).2 e)
    have m7 : tWi τ ≠ 21 := fun e => n7 ((x 17 (by omega)).2 e)
    have m8 : tWi τ ≠ 23 := fun e => n8 ((x 18 (by omega)).2 e)
    exact ⟨fun z => by omega, fun _ => rfl, rfl⟩
  · exact yes 23 8 ((x 18 (by omega)).1 y) (by omega) rfl
  · exact yes 21 7 ((x 17 (by omega)).1 y) (by omega) rfl
  · exact yes 20 6 ((x 16 (by omega)).1 y) (by omega) rfl
  · exact yes 19 5 ((x 27 (by omega)).1 y) (by omega) rfl
  · exact yes 18 4 ((x 26 (by omega)).1 y) (by omega) rfl
  · exact yes 17 3 ((x 25 (by omega)).1 y) (by omega) rfl
  · exact yes 16 2 ((x 24 (by omega)).1 y) (by omega) rfl
  · exact yes 15 1 ((x 23 (by omega)).1 y) (by omega) rfl
/-- one of the program's columns was written, at its line -/
def zW (s p : Int) (t σ : Kmem) : Prop := (∀ x, x ≠ 3 → x ≠ s + p → t x = σ x) ∧ ∀ j, j ≠ σ s 2 → t (s + p) j = σ (s + p) j
theorem P_X7_readNumber {G : Kg} {σ τ : Kmem} {s lo hi : Int} (to : Int) (hs : isS s) (h : tRs σ τ) (t : tk1 τ) (hl : rI lo ∧ rI hi) (hn : 0 ≤ σ s 2 ∧ σ s 2 < 60) : Run G WX M_X7_readNumber 3 0 0 [vA G s, vA G 3, vI lo, vI hi] σ (fun y m => y = kb ((cNum to lo hi τ).1) ∧ tRs m (cNum to lo hi τ).2 ∧ zW s 4 m σ ∧ ((cNum to lo hi τ).1 → m (s + 4) (σ s 2) = (cNum to lo hi τ).2 1 to)) := by
  have f := isS_f hs
  refine S_X7_readNumber hs (Run.mono (P_X6_takeNumber to h t hl) (fun r1 s2 e => ?_))
  obtain ⟨e1, e2, e3, e4⟩ := e
  have q : s2 s = σ s := e3.1 s (by omega)
  rw [q]
  refine ⟨r01 e1, fun z => ⟨hn, ?_⟩, fun z => ?_⟩
  · have y := yes e1 z
    exact ⟨(kb_1 y).symm, tRs_57 e2 (by omega), ⟨fun x a b => by rw [kup_o b, e3.1 x a], fun j hj => by rw [kup_j hj, e3.1 _ (by omega)]⟩, fun _ => by rw [kup_at, e4 y, cNum_at y]⟩
  · have y := no e1 z
    exact ⟨(kb_0 y).symm, e2, ⟨fun x a b => e3.1 x a, fun j hj => by rw [e3.1 _ (by omega)]⟩, fun z => absurd z y⟩
/-- a name that was told, as one of the program's things -/
theorem oldThing {G : Kg} {σ τ : Kmem} {s i a b : Int} (to : Int) (hs : isS s) (h : tRs σ τ) (t : tk1 τ) (k : tNk τ) (hi : i = tFi τ a b) (hb : 0 ≤ b ∧ b ≤ 60) (hn : 0 ≤ σ s 2 ∧ σ s 2 < 60) : Run G WX M_X7_readThing 2 0 0 [vA G s, vA G 3, vI i] σ (fun y m => y = kb ((cOld a b to τ).1) ∧ tRs m (cOld a b to τ).2 ∧ zW s 3 m σ ∧ ((cOld a b to τ).1 → m (s + 3) (σ s 2) = (cOld a b to τ).2 1 to)) := by
  have f := isS_f hs
  have r : rI i := by
    rw [hi]
    by_cases q : tFi τ a b = -1
    · rw [q]; decide
    · have := tFi_r q hb.1; constructor <;> omega
  refine S_X7_readThing hs ⟨r, fun ne => ⟨hn, ?_⟩, fun e => ⟨tRs_r2 h t.1, ?_⟩⟩
  · have E : cOld a b to τ = (True, tA (kup τ 1 to (tFi τ a b))) := by unfold cOld; rw [kif_t k, kif_f (by rw [← hi]; exact ne)]
    rw [E]
    refine Run.mono (P_X6_next' (τ := kup τ 1 to (tFi τ a b)) (tRs_57 (tRs_1 h (by omega)) (by omega)) (tok_1 t.1)) (fun r m e => ?_)
    refine ⟨(kb_1 trivial).symm, e.2.1, ⟨fun x p q => by rw [e.2.2.1 x p, kup_o q], fun j hj => by rw [e.2.2.1 _ (by omega), kup_j hj]⟩, fun _ => ?_⟩
    show m (s + 3) (σ s 2) = tA (kup τ 1 to (tFi τ a b)) 1 to
    rw [e.2.2.1 _ (by omega), kup_at, tA_fr.1 1 (by omega), kup_at, hi]
  · have E : cOld a b to τ = (False, tF (kup τ 1 to (tFi τ a b)) 3) := by unfold cOld; rw [kif_t k, kif_t (by rw [← hi]; exact e)]
    rw [E]
    exact ⟨(kb_0 (fun z => z)).symm, tRs_F (tRs_1 h (by omega)) (tk1_1 t), ⟨fun x p q => xF_B.1 x p, fun j _ => by rw [xF_B.1 _ (by omega)]⟩, fun z => z.elim⟩
theorem oldNo {σ τ : Kmem} {s a b : Int} (to : Int) (n : ¬ tNk τ) (hs : isS s) {m : Kmem} (h : tRs m (tF τ 2)) (k : kS jB m σ) : ((0 : Int) = kb ((cOld a b to τ).1) ∧ tRs m (cOld a b to τ).2 ∧ zW s 3 m σ ∧ ((cOld a b to τ).1 → m (s + 3) (σ s 2) = (cOld a b to τ).2 1 to)) := by
  have f := isS_f hs
  have E : cOld a b to τ = (False, tF τ 2) := kif_f n
  rw [E]
  exact ⟨(kb_0 (fun z => z)).symm, h, ⟨fun x p q => k.1 x p, fun j _ => by rw [k.1 _ (by omega)]⟩, fun z => z.elim⟩
/-- the names that SEASONS may speak of -/
def nmZ (σ : Kmem) (c : Int) (τ : Kmem) : Prop := (σ c 5 = τ 1 2 ∧ nmB σ (c + 6) (τ 1 2) (τ 2) 0) ∧ (σ c 6 = τ 1 3 ∧ nmB σ (c + 12) (τ 1 3) (τ 2) 6)
theorem P_X7_readKite {G : Kg} {σ τ : Kmem} {s c : Int} (to : Int) (hs : isS s) (hc : isC c) (h : tRs σ τ) (t : sk0 τ) (z : nmZ σ c τ) (hn : 0 ≤ σ s 2 ∧ σ s 2 < 60) : Run G WX M_X7_readKite 6 0 0 [vA G s, vA G 3, vA G c] σ (fun y m => y = kb ((cKT to τ).1) ∧ tRs m (cKT to τ).2 ∧ zW s 3 m σ ∧ ((cKT to τ).1 → m (s + 3) (σ s 2) = (cKT to τ).2 1 to)) := by
  have t1 := t.1.1
  unfold cKT
  refine S_X7_readKite hs hc (Run.mono (P_X6_isNameHere h t1) (fun r1 s2 e => ?_))
  obtain ⟨e1, e2, e3⟩ := e
  refine ⟨r01 e1, fun q => ?_, fun q => ?_⟩
  · obtain ⟨x1, x2⟩ := e3 (no e1 q)
    exact oldNo to (no e1 q) hs x1 x2
  have y := yes e1 q
  have es := e2 y
  subst es
  refine Run.mono (P_X0_kiteNamed hc ⟨z.1.1, t.2.1, z.1.2, nmE_tok h t1.1 y.1 y.2.1⟩) (fun r4 s5 e => ?_)
  obtain ⟨e4, e5⟩ := e
  subst e5
  refine Run.mono (oldThing (a := 0) (b := τ 1 2) to hs h t1 y e4 (by omega) hn) (fun r6 s7 e => ?_)
  refine ⟨r01 e.1, fun q => ?_, fun q => ?_⟩
  · subst q; exact e
  · have : r6 = 1 := by rw [e.1, kb_1 (yes e.1 q)]
    subst this; exact e
