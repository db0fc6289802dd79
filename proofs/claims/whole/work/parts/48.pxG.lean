theorem kor_as {a b c : Nat} (ha : a < 65536) (hb : b < 65536) (hc : c < 65536) : kor (a : Int) (kor (b : Int) (c : Int)) = kor (kor (a : Int) (b : Int)) (c : Int) := by
  have l1 : b ||| c < 2 ^ 16 := Nat.or_lt_two_pow (by omega) (by omega)
  have l2 : a ||| b < 2 ^ 16 := Nat.or_lt_two_pow (by omega) (by omega)
  rw [kor_nat (by omega) (by omega), kor_nat (by omega) (by omega), kor_nat (by omega) (by omega), kor_nat (by omega) (by omega), Nat.or_assoc]
theorem kshl1 {i : Nat} (h : i ≤ 12) : kshl 1 (i : Int) = ((2 ^ i : Nat) : Int) ∧ 2 ^ i < 65536 := by
  have p := Nat.pow_le_pow_right (n := 2) (by decide) h
  have := kshl_nat (a := 1) (k := i) (by omega) (by omega)
  rw [Nat.one_mul] at this
  exact ⟨this, by omega⟩
theorem sLose_flip {v : Int → Int} {q : Int → Prop} {h a b : Int} (hC : (sAlf v q h a ∧ sAlf v q h b) ∧ sPts v a b h ∧ sPts v b a h) : (sLose v q h a b ↔ v (34 + 9 * a + 3) ≤ v (34 + 9 * b + 3)) ∧ (sLose v q h b a ↔ v (34 + 9 * b + 3) ≤ v (34 + 9 * a + 3)) :=
  ⟨⟨fun z => z.2, fun z => ⟨hC, z⟩⟩, ⟨fun z => z.2, fun z => ⟨⟨⟨hC.1.2, hC.1.1⟩, hC.2.2, hC.2.1⟩, z⟩⟩⟩
theorem gat_step {v : Int → Int} {q : Int → Prop} {h a b k : Int} (ha : 0 ≤ a ∧ a < b ∧ b < v 2) : sGat v q h a (b + 1) k ↔ sGat v q h a b k ∨ (k = a ∧ sLose v q h a b ∨ k = b ∧ sLose v q h b a) := by
  constructor
  · rintro ⟨x, y, h1, h2, h3⟩
    by_cases e : x = a ∧ y = b
    · obtain ⟨rfl, rfl⟩ := e; exact Or.inr h3
    · exact Or.inl ⟨x, y, h1, by omega, h3⟩
  · rintro (⟨x, y, h1, h2, h3⟩ | h3)
    · exact ⟨x, y, h1, by omega, h3⟩
    · exact ⟨a, b, ha, by omega, h3⟩
theorem P_X8_crossedSet {G : Kg} {σ : Kmem} {c h : Int} {v : Int → Int} {q : Int → Prop} (hc : isC c) (p : (wf v ∧ kco σ c v ∧ skR σ c v h q) ∧ sHr h) :
    Run G WX M_X8_crossedSet 1 0 0 [vA G 58] σ (fun x s => x = (kset (sGat v q h (v 2) 0) (v 2).toNat : Int) ∧ s = σ) := by
  obtain ⟨⟨w, kk, sk⟩, hh⟩ := p
  have w1 := wf_h w
  have k1 := kco_h kk
  have s0 := sk.1
  refine S_X8_crossedSet hc ?_
  have z0 : (0 : Int) = (kset (sGat v q h ((0 : Nat) : Int) 0) (v 2).toNat : Int) := by
    rw [kset_none (fun k hk z => by obtain ⟨x, y, h1, h2, -⟩ := z; omega)]; rfl
  have main : E_X8_crossedSet_4 G (kset (sGat v q h ((0 : Nat) : Int) 0) (v 2).toNat : Int) 0 σ (fun x s => x = (kset (sGat v q h (v 2) 0) (v 2).toNat : Int) ∧ s = σ) := by
    refine kloop (E := fun a l => E_X8_crossedSet_4 G l a σ (fun x s => x = (kset (sGat v q h (v 2) 0) (v 2).toNat : Int) ∧ s = σ)) (fun a => (kset (sGat v q h (a : Int) 0) (v 2).toNat : Int)) (v 2).toNat (fun a ha ih => S_X8_crossedSet_4 hc ⟨s0, by omega, by omega, fun z => ⟨by rw [show (a : Int) = v 2 by omega], rfl⟩, fun z => ?_⟩)
    have ih := ih (by omega)
    have lp : ∀ (m b : Nat) (l : Int), b + m = (v 2).toNat → a < b → l = (kset (sGat v q h a b) (v 2).toNat : Int) → E_X8_crossedSet_19 G l a b σ (fun x s => x = (kset (sGat v q h (v 2) 0) (v 2).toNat : Int) ∧ s = σ) := by
      intro m
      induction m with
      | zero =>
        intro b l hb hab hl
        refine S_X8_crossedSet_19 hc ⟨s0, by omega, by omega, fun _ => ?_, fun y => by omega⟩
        have e : kset (sGat v q h a b) (v 2).toNat = kset (sGat v q h ((a + 1 : Nat) : Int) 0) (v 2).toNat := by
          refine kset_ext _ (fun k hk => ⟨?_, ?_⟩)
          · rintro ⟨x, y, h1, h2, h3⟩; exact ⟨x, y, h1, by omega, h3⟩
          · rintro ⟨x, y, h1, h2, h3⟩; exact ⟨x, y, h1, by omega, h3⟩
        rw [hl, e]; exact ih
      | succ m jh =>
        intro b l hb hab hl
        have nx : ∀ l' : Int, l' = (kset (fun k => sGat v q h a b k ∨ (k = a ∧ sLose v q h a b ∨ k = b ∧ sLose v q h b a)) (v 2).toNat : Int) → E_X8_crossedSet_19 G l' a ((b : Int) + 1) σ (fun x s => x = (kset (sGat v q h (v 2) 0) (v 2).toNat : Int) ∧ s = σ) := by
          intro l' hl'
          refine jh (b + 1) l' (by omega) (by omega) ?_
          rw [hl']
          congr 1
          exact kset_ext _ (fun k hk => (gat_step ⟨by omega, by omega, by omega⟩).symm)
        have kl : ∀ p' : Int → Prop, kset p' (v 2).toNat < 65536 := fun p' => by have := kset_lt8 (p := p') (n := (v 2).toNat) (by omega); omega
        refine S_X8_crossedSet_19 hc ⟨s0, by omega, by omega, fun y => by omega, fun y => Run.mono (P_X8_doCross hc ⟨⟨w, kk, sk⟩, hh, by omega, by omega⟩) (fun x s u => ?_)⟩
        obtain ⟨rfl, rfl⟩ := u
        refine ⟨kb_r _, fun u => nx l ?_, fun u => Run.mono (P_X8_shorterOf hc ⟨⟨w, kk, s0⟩, by omega, by omega⟩) (fun x s u2 => ?_)⟩
        · rw [hl]
          congr 1
          refine kset_ext _ (fun k hk => ⟨fun z => Or.inl z, ?_⟩)
          rintro (z | ⟨-, z⟩ | ⟨-, z⟩)
          · exact z
          · exact absurd z.1 (kb_f u)
          · exact absurd ⟨⟨z.1.1.2, z.1.1.1⟩, z.1.2.2, z.1.2.1⟩ (kb_f u)
        · obtain ⟨rfl, rfl⟩ := u2
          have fl := sLose_flip (v := v) (q := q) (h := h) (a := a) (b := b) (kb_t u)
          refine nx _ ?_
          rw [hl]
          by_cases c1 : v (34 + 9 * (a : Int) + 3) = v (34 + 9 * (b : Int) + 3)
          · rw [if_pos c1, (kshl1 (i := a) (by omega)).1, (kshl1 (i := b) (by omega)).1, kor_as (kl _) (kshl1 (by omega)).2 (kshl1 (by omega)).2, ← (kshl1 (i := a) (by omega)).1, ← (kshl1 (i := b) (by omega)).1, kor_ins (by omega) (by omega), kor_ins (by omega) (by omega)]
            congr 1
            refine kset_ext _ (fun k hk => ⟨?_, ?_⟩)
            · rintro ((z | z) | z)
              · exact Or.inl z
              · exact Or.inr (Or.inl ⟨z, fl.1.2 (by omega)⟩)
              · exact Or.inr (Or.inr ⟨z, fl.2.2 (by omega)⟩)
            · rintro (z | ⟨z, -⟩ | ⟨z, -⟩)
              · exact Or.inl (Or.inl z)
              · exact Or.inl (Or.inr z)
              · exact Or.inr z
          · rw [if_neg c1]
            by_cases c2 : v (34 + 9 * (a : Int) + 3) < v (34 + 9 * (b : Int) + 3)
            · rw [if_pos c2, kor_ins (by omega) (by omega)]
              congr 1
              refine kset_ext _ (fun k hk => ⟨?_, ?_⟩)
              · rintro (z | z)
                · exact Or.inl z
                · exact Or.inr (Or.inl ⟨z, fl.1.2 (by omega)⟩)
              · rintro (z | ⟨z, -⟩ | ⟨-, z⟩)
                · exact Or.inl z
                · exact Or.inr z
                · have := fl.2.1 z; omega
            · rw [if_neg c2, kor_ins (by omega) (by omega)]
              congr 1
              refine kset_ext _ (fun k hk => ⟨?_, ?_⟩)
              · rintro (z | z)
                · exact Or.inl z
                · exact Or.inr (Or.inr ⟨z, fl.2.2 (by omega)⟩)
              · rintro (z | ⟨-, z⟩ | ⟨z, -⟩)
                · exact Or.inl z
                · have := fl.1.1 z; omega
                · exact Or.inr z
    refine lp ((v 2).toNat - (a + 1)) (a + 1) _ (by omega) (by omega) ?_
    congr 1
    refine kset_ext _ (fun k hk => ⟨?_, ?_⟩)
    · rintro ⟨x, y, h1, h2, h3⟩; exact ⟨x, y, h1, by omega, h3⟩
    · rintro ⟨x, y, h1, h2, h3⟩; exact ⟨x, y, h1, by omega, h3⟩
  rw [← z0] at main; exact main
/-- the class gathers those that the reference dooms -/
theorem gat_doom {v : Int → Int} {k : Int} (hk : 0 ≤ k ∧ k < v 2) : sGat v (fun k => v (34 + 9 * k + 8) = 1) (v 7 % 12) (v 2) 0 k ↔ sDoom v k := by
  constructor
  · rintro ⟨x, y, h1, h2, ⟨rfl, h3⟩ | ⟨rfl, h3⟩⟩
    · exact ⟨y, by omega, by omega, ⟨⟨⟨h3.1.1.1.2, h3.1.1.1.1⟩, h3.1.1.2.2, h3.1.1.2.1⟩, h3.1.2⟩, h3.2⟩
    · exact ⟨x, by omega, by omega, ⟨⟨⟨h3.1.1.1.2, h3.1.1.1.1⟩, h3.1.1.2.2, h3.1.1.2.1⟩, h3.1.2⟩, h3.2⟩
  · rintro ⟨b, hb, hne, ⟨⟨⟨u1, u2⟩, u3, u4⟩, u5, u6⟩, u7⟩
    by_cases e : k < b
    · exact ⟨k, b, by omega, by omega, Or.inl ⟨rfl, ⟨⟨⟨u2, u1⟩, u4, u3⟩, u5, u6⟩, u7⟩⟩
    · exact ⟨b, k, by omega, by omega, Or.inr ⟨rfl, ⟨⟨⟨u2, u1⟩, u4, u3⟩, u5, u6⟩, u7⟩⟩
