/-- f for 0, 1 .. n - 1 -/
def kfor {α : Type} (f : Int → α → α) : Nat → α → α
  | 0, a => a
  | n + 1, a => f n (kfor f n a)
/-- a loop that counts up -/
theorem kloop {α : Type} {E : Int → α → Prop} (A : Nat → α) (N : Nat) (H : ∀ i : Nat, i ≤ N → (i < N → E ((i : Int) + 1) (A (i + 1))) → E (i : Int) (A i)) : E 0 (A 0) := by
  have q : ∀ m i : Nat, i + m = N → E (i : Int) (A i) := by
    intro m
    induction m with
    | zero => intro i hi; exact H i (by omega) (fun h => absurd h (by omega))
    | succ m ih => intro i hi; exact H i (by omega) (fun _ => ih (i + 1) (by omega))
  exact q N 0 (by omega)
theorem kset_s {p : Int → Prop} {n : Nat} (h : n < 16) (hp : p n) : (kset p (n + 1) : Int) = kor (kset p n : Int) (kshl 1 n) := by
  exact (kset_step rfl h _ (kif_t hp).symm).symm
theorem kset_n {p : Int → Prop} {n : Nat} (h : n < 16) (hp : ¬ p n) : (kset p (n + 1) : Int) = kor (kset p n : Int) 0 := by
  exact (kset_step rfl h _ (kif_f hp).symm).symm
theorem kset_le {p : Int → Prop} {n : Nat} {N : Int} (hn : (n : Int) ≤ N) (hN : N ≤ 12) : 0 ≤ (kset p n : Int) ∧ (kset p n : Int) < 4096 := by
  have := kset_lt8 (p := p) (n := n) (by omega)
  omega
theorem P_X12_shadersOf {G : Kg} {σ : Kmem} {c r h : Int} (p : wf (σ 1) ∧ (0 ≤ c ∧ c ≤ 100) ∧ (0 ≤ r ∧ r ≤ 100) ∧ sHr h) : Run G WM M_X12_shadersOf 5 0 0 [vA G 0, vI c, vI r, vI h] σ (fun x s => x = (sShs (σ 1) c r h : Int) ∧ s = σ) := by
  obtain ⟨w, hc, hr, hh⟩ := p
  have w1 := wf_h w
  obtain ⟨-, ⟨_, _⟩, -⟩ := w1
  refine S_X12_shadersOf ?_
  refine kloop (E := fun i a => E_X12_shadersOf_6 G c r h a i σ _) (fun i => (kset (sUS (σ 1) c r h) i : Int)) (σ 1 2).toNat (fun i hi ih => S_X12_shadersOf_6 ?_)
  have hi2 : (i : Int) ≤ σ 1 2 := by omega
  refine ⟨by omega, by omega, fun q => ⟨?_, rfl⟩, fun q => ⟨⟨w, by omega, q⟩, fun h1 => ?_, fun h1 => ⟨⟨w, ⟨by omega, q⟩, hh, hc, hr⟩, fun h2 => ?_, fun h2 => ?_⟩⟩⟩
  · have : i = (σ 1 2).toNat := by omega
    rw [this]; rfl
  · rw [← kset_n (p := sUS (σ 1) c r h) (by omega) (fun z => z.1 h1)]; exact ih (by omega)
  · rw [← kset_n (p := sUS (σ 1) c r h) (by omega) (fun z => h2 z.2)]; exact ih (by omega)
  · rw [← kset_s (p := sUS (σ 1) c r h) (by omega) ⟨h1, h2⟩]; exact ih (by omega)
/-- how many of the bits 0 to 7 are set -/
def kbits (a : Nat) : Nat := (a % 2) + (a / 2 % 2) + (a / 4 % 2) + (a / 8 % 2) + (a / 16 % 2) + (a / 32 % 2) + (a / 64 % 2) + (a / 128 % 2)
theorem kern : ∀ a : Nat, a < 64 → a ≠ 0 → ((a &&& (a - 1)) < a ∧ kbits (a &&& (a - 1)) + 1 = kbits a) := by decide +kernel
theorem kbits_r {a : Nat} : kbits a ≤ 8 := by unfold kbits; omega
theorem bits_loop {G : Kg} {σ : Kmem} {K : Int} : ∀ (a : Nat) (n : Int), a < 64 → n + (kbits a : Int) = K → E_X12_bits_4 G n a σ (fun r s => r = K ∧ s = σ) := by
  intro a
  induction a using Nat.strongRecOn with
  | _ a ih =>
    intro n ha hk
    refine S_X12_bits_4 (l0 := 0) ⟨by omega, fun h => ⟨?_, rfl⟩, fun h => ?_⟩
    · have : a = 0 := by omega
      subst this
      rw [show kbits 0 = 0 from rfl] at hk; omega
    · obtain ⟨k1, k2⟩ := kern a ha (by omega)
      have e : kand (a : Int) ((a : Int) - 1) = ((a &&& (a - 1) : Nat) : Int) := by
        rw [show (a : Int) - 1 = ((a - 1 : Nat) : Int) by omega]; exact kand_nat (by omega) (by omega)
      rw [e]
      exact ih _ k1 (n + 1) (by omega) (by omega)
theorem P_X12_bits {G : Kg} {σ : Kmem} {l0 : Int} (p : 0 ≤ l0 ∧ l0 < 64) : Run G WM M_X12_bits 0 0 0 [vI l0] σ (fun r s => r = (kbits l0.toNat : Int) ∧ s = σ) := by
  obtain ⟨a, rfl⟩ : ∃ a : Nat, l0 = a := ⟨l0.toNat, by omega⟩
  exact S_X12_bits (bits_loop a 0 (by omega) (by simp))
theorem kfor_inv {α : Type} {f : Int → α → α} {P : Nat → α → Prop} {a : α} (h0 : P 0 a) : ∀ (n : Nat), (∀ (i : Nat) (a : α), i < n → P i a → P (i + 1) (f i a)) → P n (kfor f n a)
  | 0, _ => h0
  | n + 1, hs => hs n _ (by omega) (kfor_inv h0 n (fun i a hi h => hs i a (by omega) h))
/-- whose a field is, under those kites -/
noncomputable def sBest (v : Int → Int) (s : Int) : Nat → Int := fun n => kfor (fun k b => kif (sIn s k ∧ (b = -1 ∨ v 6 = 1 ∧ v (34 + 9 * b + 2) < v (34 + 9 * k + 2))) k b) n (-1)
noncomputable def sOwnBy (v : Int → Int) (s : Int) : Int := kif (v 6 = 2 ∧ kbits s.toNat ≠ 1) (-1) (sBest v s (v 2).toNat)
noncomputable def sOwn (v : Int → Int) (c r h : Int) : Int := sOwnBy v (sShs v c r h : Int)
theorem sBest_r {v : Int → Int} {s : Int} (n : Nat) : -1 ≤ sBest v s n ∧ sBest v s n < n := by
  refine kfor_inv (P := fun n b => -1 ≤ b ∧ b < (n : Int)) ⟨by decide, by decide⟩ n (fun i a hi h => ?_)
  by_cases q : (sIn s i ∧ (a = -1 ∨ v 6 = 1 ∧ v (34 + 9 * a + 2) < v (34 + 9 * (i : Int) + 2)))
  · rw [kif_t q]; omega
  · rw [kif_f q]; omega
theorem sOwnBy_r {v : Int → Int} {s : Int} (w : wf v) : -1 ≤ sOwnBy v s ∧ sOwnBy v s < v 2 := by
  have := sBest_r (v := v) (s := s) (v 2).toNat
  have w1 := wf_h w
  unfold sOwnBy
  by_cases q : (v 6 = 2 ∧ kbits s.toNat ≠ 1)
  · rw [kif_t q]; omega
  · rw [kif_f q]; omega
theorem P_X12_ownerBy {G : Kg} {σ : Kmem} {l1 : Int} (p : wf (σ 1) ∧ 0 ≤ l1 ∧ l1 < 64) : Run G WM M_X12_ownerBy 2 0 0 [vA G 0, vI l1] σ (fun r s => r = sOwnBy (σ 1) l1 ∧ s = σ) := by
  obtain ⟨w, p1⟩ := p
  obtain ⟨-, ⟨_, _⟩, -, -, -, ⟨_, _⟩, -⟩ := wf_h w
  refine S_X12_ownerBy ?_
  refine kloop (E := fun i a => E_X12_ownerBy_4 G l1 a i σ _) (sBest (σ 1) l1) (σ 1 2).toNat (fun i hi ih => S_X12_ownerBy_4 ?_)
  have b := sBest_r (v := σ 1) (s := l1) i
  have hi2 : (i : Int) ≤ σ 1 2 := by omega
  have kt : (sIn l1 i ∧ (sBest (σ 1) l1 i = -1 ∨ σ 1 6 = 1 ∧ σ 1 (34 + 9 * sBest (σ 1) l1 i + 2) < σ 1 (34 + 9 * (i : Int) + 2))) → sBest (σ 1) l1 (i + 1) = i := fun q => kif_t q
  have kf : ¬ (sIn l1 i ∧ (sBest (σ 1) l1 i = -1 ∨ σ 1 6 = 1 ∧ σ 1 (34 + 9 * sBest (σ 1) l1 i + 2) < σ 1 (34 + 9 * (i : Int) + 2))) → sBest (σ 1) l1 (i + 1) = sBest (σ 1) l1 i := fun q => kif_f q
  refine ⟨by omega, by omega, fun q => ?_, fun q => ?_⟩
  · have e : i = (σ 1 2).toNat := by omega
    refine ⟨by omega, fun h => ⟨?_, rfl⟩, fun h => Run.mono (P_X12_bits p1) (fun r s z => ?_)⟩
    · unfold sOwnBy; rw [kif_f (fun z => h z.1), e]
    · obtain ⟨rfl, rfl⟩ := z
      have := kbits_r (a := l1.toNat)
      refine ⟨by omega, fun h2 => ⟨?_, rfl⟩, fun h2 => ⟨?_, rfl⟩⟩
      · unfold sOwnBy; rw [kif_f (fun z => z.2 (by omega)), e]
      · unfold sOwnBy; rw [kif_t ⟨h, fun z => h2 (by omega)⟩]
  · have ih := ih (by omega)
    have ki := w.2.2.1 i (by omega) q
    refine ⟨⟨by omega, by omega, by omega⟩, fun h => ?_, fun h => ⟨by omega, fun h2 => ?_, fun h2 => ⟨by omega, fun h3 => ?_, fun h3 => ?_⟩⟩⟩
    · rw [kf (fun z => h z.1)] at ih; exact ih
    · rw [kt ⟨h, Or.inl h2⟩] at ih; exact ih
    · rw [kf (fun z => z.2.elim h2 (fun z => h3 z.1))] at ih; exact ih
    · have kb := w.2.2.1 (sBest (σ 1) l1 i) (by omega) (by omega)
      refine ⟨by omega, by omega, by omega, by omega, fun h4 => ?_, fun h4 => ?_⟩
      · rw [kf (fun z => z.2.elim h2 (fun z => by omega))] at ih; exact ih
      · rw [kt ⟨h, Or.inr ⟨h3, h4⟩⟩] at ih; exact ih
theorem sShs_r {v : Int → Int} {c r h : Int} (w : wf v) : 0 ≤ (sShs v c r h : Int) ∧ (sShs v c r h : Int) < 64 := by
  obtain ⟨-, ⟨_, _⟩, -⟩ := wf_h w
  have := kset_lt (p := sUS v c r h) (v 2).toNat
  have := Nat.pow_le_pow_right (n := 2) (by decide) (show (v 2).toNat ≤ 6 by omega)
  unfold sShs
  omega
theorem P_X12_ownerOf {G : Kg} {σ : Kmem} {c r h : Int} (p : wf (σ 1) ∧ (0 ≤ c ∧ c ≤ 100) ∧ (0 ≤ r ∧ r ≤ 100) ∧ sHr h) : Run G WM M_X12_ownerOf 6 0 0 [vA G 0, vI c, vI r, vI h] σ (fun x s => x = sOwn (σ 1) c r h ∧ s = σ) := by
  refine S_X12_ownerOf (Run.mono (P_X12_shadersOf p) (fun x s z => ?_))
  obtain ⟨rfl, rfl⟩ := z
  refine Run.mono (P_X12_ownerBy ⟨p.1, sShs_r p.1⟩) (fun x s z => z)
