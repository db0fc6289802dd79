theorem P_X11_isTray {G : Kg} {σ : Kmem} {l1 : Int} (p : rI l1) : Run G WX M_X11_isTray 0 0 0 [vA G 0, vI l1] σ (fun r s => r = kb ((0 : Int) ≤ l1 ∧ l1 < 4) ∧ s = σ) :=
  S_X11_isTray ⟨p, fun q => ⟨(kb_0 (by omega)).symm, rfl⟩, fun q => ⟨fun q2 => ⟨(kb_0 (by omega)).symm, rfl⟩, fun q2 => ⟨(kb_1 (by omega)).symm, rfl⟩⟩⟩
theorem P_X11_isHourOfDay {G : Kg} {σ : Kmem} {l1 : Int} (p : rI l1) : Run G WX M_X11_isHourOfDay 0 0 0 [vA G 0, vI l1] σ (fun r s => r = kb (sHr l1) ∧ s = σ) :=
  S_X11_isHourOfDay ⟨p, fun q => ⟨(kb_0 (by omega)).symm, rfl⟩, fun q => ⟨fun q2 => ⟨(kb_0 (by omega)).symm, rfl⟩, fun q2 => ⟨(kb_1 (by omega)).symm, rfl⟩⟩⟩
theorem P_X11_isAhead {G : Kg} {σ : Kmem} {l1 : Int} (p : rI l1) : Run G WX M_X11_isAhead 0 0 0 [vA G 0, vI l1] σ (fun r s => r = kb ((0 : Int) ≤ l1 ∧ l1 ≤ 99) ∧ s = σ) :=
  S_X11_isAhead ⟨p, fun q => ⟨(kb_0 (by omega)).symm, rfl⟩, fun q => ⟨fun q2 => ⟨(kb_0 (by omega)).symm, rfl⟩, fun q2 => ⟨(kb_1 (by omega)).symm, rfl⟩⟩⟩
theorem P_X0_hasFieldNumber {G : Kg} {σ : Kmem} {c l1 : Int} {v : Int → Int} (hc : isC c) (p : wf v ∧ kco σ c v ∧ rL l1) : Run G WX M_X0_hasFieldNumber 2 0 0 [vA G c, vL l1] σ (fun r s => r = kb ((0 ≤ l1 ∧ l1 ≤ 69) ∧ sFld v (l1 % 10) (l1 / 10)) ∧ s = σ) := by
  obtain ⟨w, k, r⟩ := p
  refine S_X0_hasFieldNumber hc ⟨r, fun q => ⟨(kb_0 (by omega)).symm, rfl⟩, fun q => ⟨fun q2 => ⟨(kb_0 (by omega)).symm, rfl⟩, fun q2 => ⟨by omega, by omega, ?_⟩⟩⟩
  refine Run.mono (P_X0_hasField (v := v) hc ⟨w, k, by constructor <;> omega, by constructor <;> omega⟩) (fun r4 s5 e => ?_)
  obtain ⟨e1, e2⟩ := e
  subst e2
  refine ⟨by rw [e1]; exact kb_r _, fun z => ⟨(kb_0 (fun y => ?_)).symm, rfl⟩, fun z => ⟨(kb_1 ⟨by omega, kb_t (by rw [← e1]; exact z)⟩).symm, rfl⟩⟩
  rw [kb_1 y.2] at e1; omega
/-- a number cut to its sort -/
def nrw (v s : Int) : Int := if s = 0 then ki2b v else if s = 1 then ki2s v else if s = 2 then ki2i v else v
theorem nrw_r {v s : Int} (h : rL v) : rL (nrw v s) := by
  unfold nrw
  have h1 := ki2b_r v
  have h2 := ki2s_r v
  have h3 := ki2i_r v
  split
  · constructor <;> omega
  split
  · constructor <;> omega
  split
  · constructor <;> omega
  · exact h
theorem P_X12_narrowed {G : Kg} {σ : Kmem} {l0 l2 : Int} (p : rI l2) : Run G WM M_X12_narrowed 0 0 0 [vL l0, vI l2] σ (fun r s => r = nrw l0 l2 ∧ s = σ) := by
  refine S_X12_narrowed ⟨p, fun q => ⟨fun q1 => ⟨fun q2 => ⟨?_, rfl⟩, fun q2 => ⟨?_, rfl⟩⟩, fun q1 => ⟨ki2s_r _, ?_, rfl⟩⟩, fun q => ⟨ki2b_r _, ?_, rfl⟩⟩ <;> unfold nrw
  · rw [if_neg q, if_neg q1, if_neg q2]
  · rw [if_neg q, if_neg q1, if_pos q2]
  · rw [if_neg q, if_pos q1]
  · rw [if_pos q]
theorem P_X10_put {G : Kg} {σ : Kmem} {t l1 l2 : Int} (ht : isT t) (p : rI (σ t 1) ∧ 0 ≤ l1 ∧ l1 < 60) : Run G WX M_X10_put 0 0 0 [vA G t, vI l1, vL l2] σ (fun r s => r = 0 ∧ s = kup σ (t + 1) l1 (nrw l2 (σ t 1))) := by
  refine S_X10_put ht ⟨p.1, fun q => ⟨ki2b_r _, p.2, rfl, ?_⟩, fun q => ⟨ki2s_r _, p.2, rfl, ?_⟩, fun q => ⟨p.2, rfl, ?_⟩, fun q => ⟨p.2, rfl, ?_⟩⟩ <;> unfold nrw
  · rw [if_pos q]
  · rw [if_neg (by omega), if_pos q]
  · rw [if_neg (by omega), if_neg (by omega), if_pos q]
  · rw [if_neg (by omega), if_neg (by omega), if_neg (by omega)]
theorem isT_r {t : Int} (h : isT t) : 98 ≤ t ∧ t ≤ 104 := by rcases h with rfl | rfl | rfl | rfl <;> decide
theorem P_X10_make {G : Kg} {σ : Kmem} {t l1 l2 : Int} (ht : isT t) : Run G WX M_X10_make 0 0 0 [vA G t, vI l1, vI l2] σ (fun r s => r = 0 ∧ kfm (fun x => x = t ∨ x = t + 1) s σ ∧ (s t 0 = 1 ∧ s t 1 = l1 ∧ s t 2 = l2) ∧ ∀ j, 0 ≤ j → j < 60 → s (t + 1) j = 0) := by
  refine S_X10_make ht ?_
  generalize hQ : (fun (r : Int) (s : Kmem) => r = 0 ∧ kfm (fun x => x = t ∨ x = t + 1) s σ ∧ (s t 0 = 1 ∧ s t 1 = l1 ∧ s t 2 = l2) ∧ ∀ j, 0 ≤ j → j < 60 → s (t + 1) j = 0) = Q
  refine kloopP (E := fun i τ => E_X10_make_17 G t i τ Q) (fun i τ => kfm (fun x => x = t ∨ x = t + 1) τ σ ∧ (τ t 0 = 1 ∧ τ t 1 = l1 ∧ τ t 2 = l2) ∧ ∀ j, 0 ≤ j → j < (i : Int) → τ (t + 1) j = 0) 60 (fun i τ hi hI ih => S_X10_make_17 (l1 := 0) (l2 := 0) ht ⟨by omega, fun q => ?_, fun q => ⟨by omega, ih (by omega) _ ?_⟩⟩) ?_
  · rw [← hQ]; exact ⟨rfl, hI.1, hI.2.1, fun j a b => hI.2.2 j a (by omega)⟩
  · obtain ⟨a, b, c⟩ := hI
    refine ⟨fun x hx => ?_, ?_, fun j p q => ?_⟩
    · rw [kup_o (by omega)]; exact a x hx
    · rw [kup_o (by omega)]; exact b
    · by_cases e : j = i
      · subst e; exact kup_at
      · rw [kup_j e]; exact c j p (by omega)
  · refine ⟨fun x hx => ?_, ⟨?_, ?_, kup_at⟩, fun j p q => by omega⟩
    · rw [kup_o (by omega), kup_o (by omega), kup_o (by omega)]
    · rw [kup_j (by omega), kup_j (by omega), kup_at]
    · rw [kup_j (by omega), kup_at]
theorem P_X11_lookNow {G : Kg} {σ : Kmem} {v : Int → Int} (p : wf v ∧ kco σ 5 v) : Run G WX M_X11_lookNow 4 0 0 [vA G 0] σ (fun r s => r = 0 ∧ kfm sky2 s σ ∧ kco s 5 v ∧ skR s 5 v (v 7 % 12) (sCt v) ∧ skD s v (sCt v) (v 7 % 12)) := by
  obtain ⟨w, k⟩ := p
  have w1 := wf_h w
  have e := (kco_h k).2.1
  refine S_X11_lookNow ?_
  rw [e]
  exact ⟨by omega, Run.mono (P_X8_look (v := v) isC_5 ⟨w, k, by constructor <;> omega⟩) (fun r s z => ⟨rfl, z.2⟩)⟩
theorem P_X11_goAhead {G : Kg} {σ : Kmem} {n : Int} {v : Int → Int} (p : (wf v ∧ kco σ 5 v) ∧ v 7 ≤ 9999 ∧ 0 ≤ n ∧ n ≤ 99) : Run G WX M_X11_goAhead 5 0 0 [vA G 0, vI n] σ (fun r s => r = 0 ∧ kfm (fun x => 31 ≤ x ∧ x ≤ 63) s σ ∧ kco s 31 (sHours v n.toNat)) := by
  obtain ⟨⟨w, k⟩, h7, hn⟩ := p
  refine S_X11_goAhead (Run.mono (P_X0_copy (v := v) isC_31 isC_5 ⟨by decide, w, k⟩) (fun r s e => ?_))
  obtain ⟨-, e1, e2, -⟩ := e
  refine Run.mono (P_X0_goBy (v := v) isC_31 ⟨w, e2, by omega, by omega, by omega⟩) (fun r2 s2 f => ?_)
  obtain ⟨-, f1, f2⟩ := f
  exact ⟨rfl, (f1.wide (fun x q => by omega)).trans (e1.wide (fun x q => by omega)), f2⟩
/-! fractions -/
theorem gcd_step {a b : Int} (ha : 0 ≤ a) (hb : 0 < b) : Int.gcd b (a % b) = Int.gcd a b := by
  obtain ⟨n, rfl⟩ := Int.eq_ofNat_of_zero_le ha
  obtain ⟨m, rfl⟩ := Int.eq_ofNat_of_zero_le (Int.le_of_lt hb)
  rw [← Int.natCast_emod]
  show Nat.gcd m (n % m) = Nat.gcd n m
  rw [Nat.gcd_comm m, ← Nat.gcd_rec, Nat.gcd_comm]
theorem tellsBy_loop {G : Kg} {σ : Kmem} {n d : Int} (hn : 0 ≤ n ∧ n ≤ 1000000) (hd : 0 < d ∧ d ≤ 1000000) {Q : Int → Kmem → Prop} (k : Q 1 (kup (kup (kup σ 0 3 (n / (Int.gcd n d : Int))) 0 4 (d / (Int.gcd n d : Int))) 0 2 0)) :
    ∀ (m : Nat) (a b : Int), b.toNat ≤ m → (0 ≤ a ∧ a ≤ 1000000) → (0 ≤ b ∧ b ≤ 1000000) → Int.gcd a b = Int.gcd n d → E_X12_tellsBy_6 G n d a b σ Q := by
  have g0 : 0 < Int.gcd n d := Int.gcd_pos_of_ne_zero_right n (by omega)
  intro m
  induction m with
  | zero =>
    intro a b h ha hb e
    have : b = 0 := by omega
    subst this
    have e' : a = (Int.gcd n d : Int) := by rw [← e, Int.gcd_zero_right]; omega
    refine S_X12_tellsBy_6 ⟨by decide, fun _ => ⟨by omega, by omega, by omega, by omega, Run.mono (P_X12_is (by decide)) (fun r6 s7 z => ?_)⟩, fun q => absurd rfl q⟩
    rw [z.1, z.2, kb_1 rfl, e']; exact ⟨Or.inr rfl, k⟩
  | succ m ih =>
    intro a b h ha hb e
    refine S_X12_tellsBy_6 ⟨by constructor <;> omega, fun z => ?_, fun q => ⟨by omega, by omega, ?_⟩⟩
    · subst z
      have e' : a = (Int.gcd n d : Int) := by rw [← e, Int.gcd_zero_right]; omega
      refine ⟨by omega, by omega, by omega, by omega, Run.mono (P_X12_is (by decide)) (fun r6 s7 z => ?_)⟩
      rw [z.1, z.2, kb_1 rfl, e']; exact ⟨Or.inr rfl, k⟩
    · have h1 := Int.emod_nonneg a q
      have h2 := Int.emod_lt_of_pos a (show 0 < b by omega)
      exact ih b (a % b) (by omega) hb (by omega) ((gcd_step ha.1 (by omega)).trans e)
theorem P_X12_tellsBy {G : Kg} {σ : Kmem} {n d : Int} (hn : 0 ≤ n ∧ n ≤ 1000000) (hd : 0 < d ∧ d ≤ 1000000) : Run G WM M_X12_tellsBy 1 0 0 [vA G 0, vL n, vL d] σ (fun r s => r = 1 ∧ s = kup (kup (kup σ 0 3 (n / (Int.gcd n d : Int))) 0 4 (d / (Int.gcd n d : Int))) 0 2 0) :=
  S_X12_tellsBy (tellsBy_loop hn hd ⟨rfl, rfl⟩ d.toNat n d (Nat.le_refl _) hn (by omega) rfl)
theorem tellFraction_loop {G : Kg} {σ : Kmem} {n d : Int} (hn : 0 ≤ n ∧ n ≤ 1000000) (hd : 0 < d ∧ d ≤ 1000000) {Q : Int → Kmem → Prop} (k : Q 0 (kup (kup σ 0 1 (n / (Int.gcd n d : Int))) 0 2 (d / (Int.gcd n d : Int)))) :
    ∀ (m : Nat) (a b i : Int), a * b < 2 ^ m → b ≤ a → (0 ≤ i ∧ i + m ≤ 99) → (0 ≤ a ∧ a ≤ 1000000) → (0 ≤ b ∧ b ≤ 1000000) → Int.gcd a b = Int.gcd n d → E_X11_tellFraction_9 G n d a b i σ Q := by
  have g0 : 0 < Int.gcd n d := Int.gcd_pos_of_ne_zero_right n (by omega)
  have fin : ∀ a i : Int, (0 ≤ i ∧ i ≤ 99) → Int.gcd a 0 = Int.gcd n d → (0 ≤ a ∧ a ≤ 1000000) → E_X11_tellFraction_9 G n d a 0 i σ Q := by
    intro a i hi e ha
    have e' : a = (Int.gcd n d : Int) := by rw [← e, Int.gcd_zero_right]; omega
    refine S_X11_tellFraction_9 ⟨by omega, fun q => by omega, fun q => ⟨by decide, fun _ => ⟨by constructor <;> omega, fun z => by omega, fun z => ⟨by omega, by omega, by omega, by omega, ?_⟩⟩, fun z => absurd rfl z⟩⟩
    rw [e']; exact k
  intro m
  induction m with
  | zero =>
    intro a b i h1 h2 h3 ha hb e
    have : b = 0 := Classical.byContradiction (fun q => by
      have : 1 * 1 ≤ a * b := Int.mul_le_mul (by omega) (by omega) (by omega) (by omega)
      omega)
    subst this
    exact fin a i (by omega) e ha
  | succ m ih =>
    intro a b i h1 h2 h3 ha hb e
    by_cases z : b = 0
    · subst z; exact fin a i (by omega) e ha
    refine S_X11_tellFraction_9 ⟨by omega, fun q => by omega, fun q => ⟨by constructor <;> omega, fun y => absurd y z, fun _ => ⟨by omega, by omega, ?_⟩⟩⟩
    have q1 := Int.emod_nonneg a z
    have q2 := Int.emod_lt_of_pos a (show 0 < b by omega)
    have q3 : 2 * (a % b) ≤ a := by
      have h4 := Int.emod_add_mul_ediv a b
      have h5 : 1 ≤ a / b := by
        have := Int.le_ediv_of_mul_le (show 0 < b by omega) (show 1 * b ≤ a by omega)
        exact this
      have h6 : b * 1 ≤ b * (a / b) := Int.mul_le_mul_of_nonneg_left h5 (by omega)
      omega
    refine ih b (a % b) (i + 1) ?_ (by omega) (by omega) hb (by omega) ((gcd_step ha.1 (by omega)).trans e)
    have h7 : b * (2 * (a % b)) ≤ b * a := Int.mul_le_mul_of_nonneg_left q3 (by omega)
    have h8 : b * (2 * (a % b)) = 2 * (b * (a % b)) := by rw [← Int.mul_assoc, Int.mul_comm b 2, Int.mul_assoc]
    have h9 : (2 : Int) ^ (m + 1) = 2 * 2 ^ m := by rw [Int.pow_succ, Int.mul_comm]
    rw [Int.mul_comm b a] at h7
    omega
theorem P_X11_tellFraction {G : Kg} {σ : Kmem} {n d : Int} (hn : 0 ≤ n ∧ n ≤ 1000000) (hd : 0 < d ∧ d ≤ 1000000) : Run G WX M_X11_tellFraction 0 0 0 [vA G 0, vL n, vL d] σ (fun r s => r = 0 ∧ s = kup (kup σ 0 1 (n / (Int.gcd n d : Int))) 0 2 (d / (Int.gcd n d : Int))) := by
  refine S_X11_tellFraction (S_X11_tellFraction_9 ⟨by decide, fun q => by omega, fun _ => ⟨by constructor <;> omega, fun y => by omega, fun z => ⟨by omega, by omega, ?_⟩⟩⟩)
  have q1 := Int.emod_nonneg n z
  have q2 := Int.emod_lt_of_pos n (show 0 < d by omega)
  refine tellFraction_loop hn hd ⟨rfl, rfl⟩ 41 d (n % d) (0 + 1) ?_ (by omega) (by omega) (by omega) (by omega) (gcd_step hn.1 hd.1)
  have : d * (n % d) ≤ 1000000 * 1000000 := Int.mul_le_mul (by omega) (by omega) (by omega) (by omega)
  have : (2 : Int) ^ 41 = 2199023255552 := by decide
  omega
/-! the tape -/
theorem ki2b_b (a : Int) : -128 ≤ ki2b a ∧ ki2b a ≤ 127 := by
  unfold ki2b
  rw [Int8.toInt_toInt32]
  have h1 := (Int32.ofInt a).toInt8.le_toInt
  have h2 := (Int32.ofInt a).toInt8.toInt_lt
  omega
def tw (x j : Int) (σ : Kmem) (b : Int) : Kmem := kup (kup σ x (σ 0 j) b) 0 j (σ 0 j + 1)
def tw4 (x j : Int) (σ : Kmem) (l : Int) : Kmem := tw x j (tw x j (tw x j (tw x j σ (ki2b (ki2b (kshr l 24)))) (ki2b (ki2b (kshr l 16)))) (ki2b (ki2b (kshr l 8)))) (ki2b (ki2b (kshr l 0)))
theorem tw_at {x j b : Int} {σ : Kmem} : tw x j σ b 0 j = σ 0 j + 1 := kup_at
theorem P_X11_putOnTape {G : Kg} {σ : Kmem} {l : Int} (p : 0 ≤ σ 0 5 ∧ σ 0 5 ≤ 896) : Run G WX M_X11_putOnTape 0 0 0 [vA G 0, vI l] σ (fun r s => r = 0 ∧ s = tw4 2 5 σ l) := by
  have st : ∀ (s : Kmem) (i : Int) (Q : Int → Kmem → Prop), 0 ≤ i → i ≤ 24 → (0 ≤ s 0 5 ∧ s 0 5 < 900) → E_X11_putOnTape_3 G l (i + (-8)) (tw 2 5 s (ki2b (ki2b (kshr l i)))) Q → E_X11_putOnTape_3 G l i s Q := by
    intro s i Q h1 h2 h3 h4
    refine S_X11_putOnTape_3 ⟨by omega, fun q => by omega, fun q => ⟨h3, ?_⟩⟩
    rw [kup_x (by omega)]; exact h4
  refine S_X11_putOnTape (st _ _ _ (by omega) (by omega) (by omega) (st _ _ _ (by omega) (by omega) (by rw [tw_at]; omega) (st _ _ _ (by omega) (by omega) (by rw [tw_at, tw_at]; omega) (st _ _ _ (by omega) (by omega) (by rw [tw_at, tw_at, tw_at]; omega) ?_))))
  exact S_X11_putOnTape_3 ⟨by omega, fun q => ⟨rfl, rfl⟩, fun q => by omega⟩
theorem P_X12_four {G : Kg} {σ : Kmem} {l : Int} (p : 0 ≤ σ 0 10 ∧ σ 0 10 ≤ 896) : Run G WM M_X12_four 0 0 0 [vA G 0, vI l] σ (fun r s => r = 0 ∧ s = tw4 6 10 σ l) := by
  have st : ∀ (s : Kmem) (i : Int) (Q : Int → Kmem → Prop), 0 ≤ i → i ≤ 24 → (0 ≤ s 0 10 ∧ s 0 10 < 900) → E_X12_four_3 G l (i + (-8)) (tw 6 10 s (ki2b (ki2b (kshr l i)))) Q → E_X12_four_3 G l i s Q := by
    intro s i Q h1 h2 h3 h4
    refine S_X12_four_3 ⟨by omega, fun q => by omega, fun q => ⟨h3, fun m3 e3 m5 e5 => ?_⟩⟩
    rw [e3, kup_x (by omega)] at e5
    rw [e5]; exact h4
  refine S_X12_four (st _ _ _ (by omega) (by omega) (by omega) (st _ _ _ (by omega) (by omega) (by rw [tw_at]; omega) (st _ _ _ (by omega) (by omega) (by rw [tw_at, tw_at]; omega) (st _ _ _ (by omega) (by omega) (by rw [tw_at, tw_at, tw_at]; omega) ?_))))
  exact S_X12_four_3 ⟨by omega, fun q => ⟨rfl, rfl⟩, fun q => by omega⟩
