/-! Scanner.open([BI)V -/
theorem P_X6_open {G : Kg} {σ τ : Kmem} {n : Int} (ht : tpR τ) (hn : 0 ≤ n ∧ n ≤ 900) (hb : ∀ i, 0 ≤ i → i < n → σ 2 i = τ 6 i) : Run G WX M_X6_open 2 0 0 [vA G 3, vA G 2, vI n] σ (fun y s => y = 0 ∧ tRs s (tA (tB0 τ n)) ∧ kfm (fun x => x = 3 ∨ x = 4) s σ) := by
  have v := tB0_v (σ := τ) (n := n)
  refine S_X6_open ⟨⟨⟨by decide, by decide, hn.1⟩, by omega, by omega⟩, fun k a b => ?_, ?_⟩
  · rw [hb k a (by omega)]; exact ht.2.1 k a (by omega)
  have m4 : (kup (kup (kup (kup (kcpy σ 2 0 4 0 n) 3 1 n) 3 4 0) 3 8 0) 3 9 (-1)) 4 = (kcpy σ 2 0 4 0 n) 4 := by rw [kup_o (by omega), kup_o (by omega), kup_o (by omega), kup_o (by omega)]
  have fr : ∀ x, x ≠ 3 → x ≠ 4 → (kup (kup (kup (kup (kcpy σ 2 0 4 0 n) 3 1 n) 3 4 0) 3 8 0) 3 9 (-1)) x = σ x := fun x a b => by
    rw [kup_o a, kup_o a, kup_o a, kup_o a]
    funext k
    exact if_neg (fun q => b q.1)
  refine Run.mono (P_X6_next (τ := tB0 τ n) ⟨?_, fun i a b => ?_⟩ (tB0_x ht hn) ?_ ⟨?_, ?_⟩) (fun r s e => ⟨rfl, e.2.1, fun x hx => by rw [e.2.2.1 x (by omega), fr x (by omega) (by omega)]⟩)
  · rw [kup_j (by omega), kup_j (by omega), kup_j (by omega), kup_at, v.1.1]
  · rw [v.1.1] at b
    rw [m4, v.2.1]
    show (kcpy σ 2 0 4 0 n) 4 i = if 0 ≤ i ∧ i < n then τ 6 i else τ 7 i
    rw [if_pos ⟨a, b⟩, ← hb i a b]
    unfold kcpy
    rw [if_pos (by omega)]
    congr 1; omega
  · rw [kup_j (by omega), kup_j (by omega), kup_at, v.1.2.1]
  · rw [kup_j (by omega), kup_at, v.1.2.2.1]
  · rw [kup_at, v.1.2.2.2.1]
