/-- the size of a number of shaded hours -/
theorem sLay_r {v : Int → Int} {kite c r : Int} (n : Nat) : 0 ≤ sLay v kite c r n ∧ sLay v kite c r n ≤ n := by
  have := kcol_r (p := fun i => sHas (sCuts (sPasses v i.toNat)) kite c r) (n := 0) n
  unfold sLay; omega
theorem sLaid_r {v w0 : Int → Int} {kite : Int} {n : Nat} {j : Int} (hj : 0 ≤ j ∧ j < 70) : 0 ≤ sLaid v w0 kite n j ∧ sLaid v w0 kite n j ≤ n := by
  unfold sLaid sLayW
  rw [if_pos hj]
  by_cases q : sFld v (j % 10) (j / 10)
  · rw [kif_t q, kif_f (by omega)]; exact sLay_r n
  · rw [kif_f q]; omega
theorem P_X12_plantOf {G : Kg} {σ : Kmem} {n : Int} (p : wf (σ 1) ∧ σ 1 7 ≤ 20000 ∧ (1 ≤ n ∧ n ≤ 99)) : Run G WM M_X12_plantOf 9 0 0 [vA G 0, vI n] σ (fun x s => (x = kfor (fun k b => kif (sFld (σ 1) (k % 10) (k / 10) ∧ (b = -1 ∨ sLaid (sKeep (σ 1) 3084) (σ 9) (-1) n.toNat b < sLaid (sKeep (σ 1) 3084) (σ 9) (-1) n.toNat k)) k b) 70 (-1)) ∧ s = kst (kst σ 1 (sKeep (σ 1) 3084)) 9 (sLaid (sKeep (σ 1) 3084) (σ 9) (-1) n.toNat)) := by
  obtain ⟨w, h7, hn⟩ := p
  refine S_X12_plantOf (Run.mono (P_X12_laysHours ⟨w, h7, by omega, by omega⟩) (fun r s z => ?_))
  obtain ⟨rfl, rfl⟩ := z
  have wk := wf_keep (to := 3084) w (by omega)
  have lr : ∀ j, 0 ≤ j ∧ j < 70 → rI (sLaid (sKeep (σ 1) 3084) (σ 9) (-1) n.toNat j) := fun j hj => by
    have := sLaid_r (v := sKeep (σ 1) 3084) (w0 := σ 9) (kite := -1) (n := n.toNat) hj
    omega
  have e0 : sKeep (σ 1) 3084 0 = σ 1 0 := if_neg (by omega)
  have e1 : sKeep (σ 1) 3084 1 = σ 1 1 := if_neg (by omega)
  generalize hL : sLaid (sKeep (σ 1) 3084) (σ 9) (-1) n.toNat = L at *
  refine kloop (E := fun k b => E_X12_plantOf_10 G b k (kst (kst σ 1 (sKeep (σ 1) 3084)) 9 L) (fun x s => (x = kfor (fun k b => kif (sFld (σ 1) (k % 10) (k / 10) ∧ (b = -1 ∨ L b < L k)) k b) 70 (-1)) ∧ s = kst (kst σ 1 (sKeep (σ 1) 3084)) 9 L)) (fun k => kfor (fun k b => kif (sFld (σ 1) (k % 10) (k / 10) ∧ (b = -1 ∨ L b < L k)) k b) k (-1)) 70 (fun k hk ih => S_X12_plantOf_10 (l1 := 0) ?_)
  have br : -1 ≤ kfor (fun k b => kif (sFld (σ 1) (k % 10) (k / 10) ∧ (b = -1 ∨ L b < L k)) k b) k (-1) ∧ kfor (fun k b => kif (sFld (σ 1) (k % 10) (k / 10) ∧ (b = -1 ∨ L b < L k)) k b) k (-1) < (k : Int) := by
    refine kfor_inv (P := fun n b => -1 ≤ b ∧ b < (n : Int)) ⟨by decide, by decide⟩ k (fun i a hi h => ?_)
    by_cases q : (sFld (σ 1) ((i : Int) % 10) ((i : Int) / 10) ∧ (a = -1 ∨ L a < L i))
    · rw [kif_t q]; omega
    · rw [kif_f q]; omega
  rw [kst_two (by omega), kst_eq]
  have ef : sFld (sKeep (σ 1) 3084) ((k : Int) % 10) ((k : Int) / 10) ↔ sFld (σ 1) ((k : Int) % 10) ((k : Int) / 10) := by unfold sFld; rw [e0, e1]
  refine ⟨by omega, fun q => ⟨by rw [show k = 70 by omega], rfl⟩, fun q => ⟨by omega, by omega, ⟨⟨by omega, by omega⟩, wk⟩, fun h => ?_, fun h => ⟨by omega, fun h2 => ?_, fun h2 => ⟨by omega, by omega, lr _ (by omega), lr _ (by omega), fun h3 => ?_, fun h3 => ?_⟩⟩⟩⟩
  · have ih := ih (by omega); rw [kfor, kif_f (fun y => h (ef.2 y.1))] at ih; exact ih
  · have ih := ih (by omega); rw [kfor, kif_t ⟨ef.1 h, Or.inl h2⟩] at ih; exact ih
  · have ih := ih (by omega); rw [kfor, kif_f (fun y => y.2.elim h2 (fun z => by omega))] at ih; exact ih
  · have ih := ih (by omega); rw [kfor, kif_t ⟨ef.1 h, Or.inr h3⟩] at ih; exact ih
/-- the strips of a row that are told apart -/
def sAlike (v : Int → Int) (k o r : Int) (W : Nat) : Prop := ∀ c : Nat, c < W → sStrip v k c r = sStrip v o c r
noncomputable def sStrips (v : Int → Int) (r : Int) (n : Nat) : Int := kfor (fun k a => a + kb (∀ o : Nat, (o : Int) < k → ¬ sAlike v k o r (v 0).toNat)) n 0
theorem P_X12_stripsIn {G : Kg} {σ : Kmem} {r : Int} (p : wf (σ 1) ∧ (0 ≤ r ∧ r < 100)) : Run G WM M_X12_stripsIn 6 0 0 [vA G 0, vI r] σ (fun x s => x = sStrips (σ 1) r (σ 1 2).toNat ∧ s = σ) := by
  obtain ⟨w, hr⟩ := p
  have w1 := wf_h w
  refine S_X12_stripsIn ?_
  refine kloopC (E := fun k n => E_X12_stripsIn_4 G r n k σ (fun x s => x = sStrips (σ 1) r (σ 1 2).toNat ∧ s = σ)) (p := fun k => ∀ o : Nat, (o : Int) < k → ¬ sAlike (σ 1) k o r (σ 1 0).toNat) (N := (σ 1 2).toNat) (fun k n hk hn he h1 h2 _ => S_X12_stripsIn_4 ⟨by omega, by omega, fun q => ⟨he (by omega), rfl⟩, fun q => ?_⟩)
  have h1 := h1 (by omega)
  have h2 := h2 (by omega)
  have s0 : E_X12_stripsIn_20 G r n k (kb (∀ o : Nat, (o : Int) < ((0 : Nat) : Int) → ¬ sAlike (σ 1) k o r (σ 1 0).toNat)) 0 σ (fun x s => x = sStrips (σ 1) r (σ 1 2).toNat ∧ s = σ) := by
    refine kloop (E := fun o f => E_X12_stripsIn_20 G r n k f o σ (fun x s => x = sStrips (σ 1) r (σ 1 2).toNat ∧ s = σ)) (fun o' => kb (∀ o : Nat, (o : Int) < (o' : Int) → ¬ sAlike (σ 1) k o r (σ 1 0).toNat)) k (fun o ho ih => S_X12_stripsIn_20 ?_)
    have kr := kb_r (∀ o_1 : Nat, (o_1 : Int) < (o : Int) → ¬ sAlike (σ 1) k o_1 r (σ 1 0).toNat)
    refine ⟨by omega, by omega, fun q => ⟨kr, fun z => h2 ?_, fun z => h1 ?_⟩, fun q => ?_⟩
    · rw [show (o : Int) = k by omega] at z; exact kb_f z
    · rw [show (o : Int) = k by omega] at z; exact kb_t z
    · have ih := ih (by omega)
      have s1 : E_X12_stripsIn_32 G r n k (kb (∀ o_1 : Nat, (o_1 : Int) < (o : Int) → ¬ sAlike (σ 1) k o_1 r (σ 1 0).toNat)) o (kb (sAlike (σ 1) k o r 0)) 0 σ (fun x s => x = sStrips (σ 1) r (σ 1 2).toNat ∧ s = σ) := by
        refine kloop (E := fun c a => E_X12_stripsIn_32 G r n k (kb (∀ o_1 : Nat, (o_1 : Int) < (o : Int) → ¬ sAlike (σ 1) k o_1 r (σ 1 0).toNat)) o a c σ (fun x s => x = sStrips (σ 1) r (σ 1 2).toNat ∧ s = σ)) (fun c => kb (sAlike (σ 1) k o r c)) (σ 1 0).toNat (fun c hc jh => S_X12_stripsIn_32 ?_)
        have ar := kb_r (sAlike (σ 1) k o r c)
        have stp : ∀ x : Int, x = kb (∀ o_1 : Nat, (o_1 : Int) < ((o + 1 : Nat) : Int) → ¬ sAlike (σ 1) k o_1 r (σ 1 0).toNat) → E_X12_stripsIn_20 G r n k x ((o : Int) + 1) σ (fun x s => x = sStrips (σ 1) r (σ 1 2).toNat ∧ s = σ) := by
          intro x hx; rw [hx]; exact ih
        refine ⟨by omega, by omega, fun q2 => ⟨kr, fun z => stp 0 (kb_0 (fun y => ?_)).symm, fun z => ⟨ar, fun z2 => stp 0 (kb_0 (fun y => ?_)).symm, fun z2 => stp 1 (kb_1 ?_).symm⟩⟩, fun q2 => ⟨ar, fun z => ?_, fun z => ⟨⟨w, ⟨by omega, by omega⟩, by omega, by omega, by omega⟩, ⟨w, ⟨by omega, by omega⟩, by omega, by omega, by omega⟩, ?_, ?_, fun z2 => ?_, fun z2 => ?_⟩⟩⟩
        · exact kb_f z (fun o2 h => y o2 (by omega))
        · have := kb_t z2
          rw [show c = (σ 1 0).toNat by omega] at this
          exact y o (by omega) this
        · intro o2 h
          by_cases e : o2 = o
          · rw [e, ← show c = (σ 1 0).toNat by omega]; exact kb_f z2
          · exact kb_t z o2 (by omega)
        · have jh := jh (by omega)
          rw [kb_0 (P := sAlike (σ 1) k o r (c + 1)) (fun y => kb_f z (fun c2 hc2 => y c2 (by omega)))] at jh; exact jh
        · have := sStrip_r (v := σ 1) (k := k) (c := c) (r := r); omega
        · have := sStrip_r (v := σ 1) (k := o) (c := c) (r := r); omega
        · have jh := jh (by omega)
          rw [kb_0 (P := sAlike (σ 1) k o r (c + 1)) (fun y => z2 (y c (by omega)))] at jh; exact jh
        · have jh := jh (by omega)
          rw [kb_1 (P := sAlike (σ 1) k o r (c + 1)) (fun c2 hc2 => by
            by_cases e : c2 = c
            · rw [e]; exact z2
            · exact kb_t z c2 (by omega))] at jh; exact jh
      rw [kb_1 (P := sAlike (σ 1) k o r 0) (fun c hc => absurd hc (by omega))] at s1; exact s1
  rw [kb_1 (fun o ho => absurd ho (by omega))] at s0; exact s0
/-- a tray as it may be -/
abbrev tOk (m : Int) : Prop := m = -1 ∨ (0 ≤ m ∧ m ≤ 60)
abbrev sTr (t : Int) : Prop := 0 ≤ t ∧ t < 4
def sWPl (m : Int → Int) (t p : Int) : Int := if ¬ sTr t then 1 else if m t = -1 then 2 else if 0 ≤ p ∧ p < m t then 0 else 3
theorem P_X12_wrongPlace {G : Kg} {σ : Kmem} {t p : Int} (h : (∀ i, 0 ≤ i → i < 4 → tOk (σ 4 i)) ∧ rI t ∧ rI p) : Run G WM M_X12_wrongPlace 1 0 0 [vA G 0, vI t, vI p] σ (fun x s => x = sWPl (σ 4) t p ∧ s = σ) := by
  obtain ⟨ht, h1, h2⟩ := h
  unfold sWPl
  refine S_X12_wrongPlace ⟨h1, fun q => ?_, fun q => ⟨by rw [if_pos q], rfl⟩⟩
  have := ht t q.1 q.2
  refine ⟨by omega, by omega, fun z => ⟨h2, fun z2 => ⟨?_, rfl⟩, fun z2 => ⟨by omega, fun z3 => ⟨?_, rfl⟩, fun z3 => ⟨?_, rfl⟩⟩⟩, fun z => ⟨?_, rfl⟩⟩
  · rw [if_neg (fun y => y q), if_neg z, if_neg (by omega)]
  · rw [if_neg (fun y => y q), if_neg z, if_pos (by omega)]
  · rw [if_neg (fun y => y q), if_neg z, if_neg (by omega)]
  · rw [if_neg (fun y => y q), if_pos z]
def sWSt (v m : Int → Int) (r t : Int) : Int := if ¬ (0 ≤ r ∧ r < v 1) ∨ ¬ sTr t then 1 else if m t = -1 then 2 else if m t < v 0 then 3 else 0
theorem P_X12_wrongStrip {G : Kg} {σ : Kmem} {r t : Int} (h : wf (σ 1) ∧ (∀ i, 0 ≤ i → i < 4 → tOk (σ 4 i)) ∧ rI r ∧ rI t) : Run G WM M_X12_wrongStrip 1 0 0 [vA G 0, vI r, vI t] σ (fun x s => x = sWSt (σ 1) (σ 4) r t ∧ s = σ) := by
  obtain ⟨w, ht, h1, h2⟩ := h
  have w1 := wf_h w
  unfold sWSt
  refine S_X12_wrongStrip ⟨⟨h1, w⟩, fun q => ⟨by rw [if_pos (Or.inl q)], rfl⟩, fun q => ⟨h2, fun q2 => ?_, fun q2 => ⟨by rw [if_pos (Or.inr q2)], rfl⟩⟩⟩
  have := ht t q2.1 q2.2
  have n : ¬ (¬ (0 ≤ r ∧ r < σ 1 1) ∨ ¬ sTr t) := fun y => y.elim (fun y => y q) (fun y => y q2)
  refine ⟨by omega, by omega, fun z => ⟨by omega, by omega, fun z3 => ⟨?_, rfl⟩, fun z3 => ⟨?_, rfl⟩⟩, fun z => ⟨?_, rfl⟩⟩
  · rw [if_neg n, if_neg z, if_neg (by omega)]
  · rw [if_neg n, if_neg z, if_pos z3]
  · rw [if_neg n, if_pos z]
/-- the n places of the tray name fields -/
def sPl (v y : Int → Int) (t : Int) (n : Nat) : Prop := ∀ k : Nat, k < n → (0 ≤ y (60 * t + k) ∧ y (60 * t + k) ≤ 69) ∧ sFld v (y (60 * t + k) % 10) (y (60 * t + k) / 10)
noncomputable def sWCo (v m y : Int → Int) (t n h : Int) : Int := kif (sTr t ∧ (1 ≤ n ∧ n ≤ 20) ∧ sHr h) (kif (m t = -1) 2 (kif (m t < n) 3 (kif (sPl v y t n.toNat) 0 5))) 1
theorem P_X12_wrongCover {G : Kg} {σ : Kmem} {t n hr : Int} (h : wf (σ 1) ∧ (∀ i, 0 ≤ i → i < 4 → tOk (σ 4 i)) ∧ (∀ i, 0 ≤ i → i < 240 → rL (σ 5 i)) ∧ rI t ∧ rI n ∧ rI hr) : Run G WM M_X12_wrongCover 1 0 0 [vA G 0, vI t, vI n, vI hr] σ (fun x s => x = sWCo (σ 1) (σ 4) (σ 5) t n hr ∧ s = σ) := by
  obtain ⟨w, ht, hy, h1, h2, h3⟩ := h
  refine S_X12_wrongCover ⟨h1, fun q => ⟨by unfold sWCo; rw [kif_f (fun y => q y.1)], rfl⟩, fun q => ⟨h2, by omega, fun q2 => ⟨by unfold sWCo; rw [kif_f (fun y => q2 y.2.1)], rfl⟩, fun q2 => ⟨h3, fun q3 => ?_, fun q3 => ⟨by unfold sWCo; rw [kif_f (fun y => q3 y.2.2)], rfl⟩⟩⟩⟩
  have := ht t q.1 q.2
  refine ⟨by omega, by omega, fun z => ⟨by omega, fun z2 => ?_, fun z2 => ⟨?_, rfl⟩⟩, fun z => ⟨?_, rfl⟩⟩
  · have lp : ∀ (m i : Nat), i + m = n.toNat → sPl (σ 1) (σ 5) t i → E_X12_wrongCover_55 G t n i σ (fun x s => x = sWCo (σ 1) (σ 4) (σ 5) t n hr ∧ s = σ) := by
      intro m
      induction m with
      | zero =>
        intro i hi hp
        refine S_X12_wrongCover_55 (l3 := 0) ⟨by omega, h2, fun _ => ⟨?_, rfl⟩, fun y => by omega⟩
        unfold sWCo; rw [kif_t ⟨q, q2, q3⟩, kif_f z, kif_f (by omega), kif_t (by rw [← show i = n.toNat by omega]; exact hp)]
      | succ m ih =>
        intro i hi hp
        have y := hy (60 * t + i) (by omega) (by omega)
        have no : ¬ ((0 ≤ σ 5 (60 * t + i) ∧ σ 5 (60 * t + i) ≤ 69) ∧ sFld (σ 1) (σ 5 (60 * t + i) % 10) (σ 5 (60 * t + i) / 10)) → 5 = sWCo (σ 1) (σ 4) (σ 5) t n hr := by
          intro b
          unfold sWCo; rw [kif_t ⟨q, q2, q3⟩, kif_f z, kif_f (by omega), kif_f (fun c => b (c i (by omega)))]
        refine S_X12_wrongCover_55 (l3 := 0) ⟨by omega, h2, fun _ => by omega, fun y2 => ⟨by omega, ⟨y, by omega, by omega⟩, fun a => ⟨no (fun b => a b.1), rfl⟩, fun a => ⟨by omega, by omega, by omega, by omega, ⟨⟨by omega, by omega⟩, w⟩, fun b => ih (i + 1) (by omega) ?_, fun b => ⟨no (fun c => b c.2), rfl⟩⟩⟩⟩
        intro k hk
        by_cases e : k = i
        · rw [e]; exact ⟨a, b⟩
        · exact hp k (by omega)
    exact lp n.toNat 0 (by omega) (fun k hk => absurd hk (by omega))
  · unfold sWCo; rw [kif_t ⟨q, q2, q3⟩, kif_f z, kif_t z2]
  · unfold sWCo; rw [kif_t ⟨q, q2, q3⟩, kif_t z]
/-- the set reaches every field that the tray names -/
def sHits (v y : Int → Int) (t h : Int) (set : Int) (n : Nat) : Prop := ∀ k : Nat, k < n → kand (sShs v (y (60 * t + k) % 10) (y (60 * t + k) / 10) h : Int) set ≠ 0
noncomputable def sCov (v y : Int → Int) (t n h : Int) (N : Nat) : Int := kfor (fun set b => kif ((b = -1 ∨ (kbits set.toNat : Int) < (kbits b.toNat : Int)) ∧ sHits v y t h set n.toNat) set b) N (-1)
theorem P_X12_coverOf {G : Kg} {σ : Kmem} {t n hr : Int} (h : wf (σ 1) ∧ sTr t ∧ (1 ≤ n ∧ n ≤ 20) ∧ sHr hr ∧ sPl (σ 1) (σ 5) t n.toNat) : Run G WM M_X12_coverOf 6 0 0 [vA G 0, vI t, vI n, vI hr] σ (fun x s => x = sCov (σ 1) (σ 5) t n hr (2 ^ (σ 1 2).toNat) ∧ s = σ) := by
  obtain ⟨w, ht, hn, hh, hp⟩ := h
  have w1 := wf_h w
  have pw := Nat.pow_le_pow_right (n := 2) (by decide) (show (σ 1 2).toNat ≤ 6 by omega)
  have e2 : kshl 1 (σ 1 2) = ((2 ^ (σ 1 2).toNat : Nat) : Int) := by
    have := kshl_nat (a := 1) (k := (σ 1 2).toNat) (by omega) (by omega)
    rw [show (((σ 1 2).toNat : Nat) : Int) = σ 1 2 by omega, Nat.one_mul] at this
    exact this
  refine S_X12_coverOf ?_
  refine kloop (E := fun set b => E_X12_coverOf_6 G t n hr b set σ (fun x s => x = sCov (σ 1) (σ 5) t n hr (2 ^ (σ 1 2).toNat) ∧ s = σ)) (sCov (σ 1) (σ 5) t n hr) (2 ^ (σ 1 2).toNat) (fun set hs ih => S_X12_coverOf_6 ?_)
  have br : -1 ≤ sCov (σ 1) (σ 5) t n hr set ∧ sCov (σ 1) (σ 5) t n hr set < (set : Int) := by
    refine kfor_inv (P := fun n b => -1 ≤ b ∧ b < (n : Int)) ⟨by decide, by decide⟩ set (fun i a hi h => ?_)
    by_cases q : ((a = -1 ∨ (kbits (i : Int).toNat : Int) < (kbits a.toNat : Int)) ∧ sHits (σ 1) (σ 5) t hr i n.toNat)
    · rw [kif_t q]; omega
    · rw [kif_f q]; omega
  have k1 := kbits_r (a := (set : Int).toNat)
  have k2 := kbits_r (a := (sCov (σ 1) (σ 5) t n hr set).toNat)
  have inner : ∀ g : Prop, (g ↔ (sCov (σ 1) (σ 5) t n hr set = -1 ∨ (kbits (set : Int).toNat : Int) < (kbits (sCov (σ 1) (σ 5) t n hr set).toNat : Int))) → set < 2 ^ (σ 1 2).toNat → E_X12_coverOf_48 G t n hr (sCov (σ 1) (σ 5) t n hr set) set (kb (g ∧ sHits (σ 1) (σ 5) t hr set 0)) 0 σ (fun x s => x = sCov (σ 1) (σ 5) t n hr (2 ^ (σ 1 2).toNat) ∧ s = σ) := by
    intro g hg hs2
    have ih := ih hs2
    refine kloop (E := fun k a => E_X12_coverOf_48 G t n hr (sCov (σ 1) (σ 5) t n hr set) set a k σ (fun x s => x = sCov (σ 1) (σ 5) t n hr (2 ^ (σ 1 2).toNat) ∧ s = σ)) (fun k => kb (g ∧ sHits (σ 1) (σ 5) t hr set k)) n.toNat (fun k hk jh => S_X12_coverOf_48 ?_)
    have ar := kb_r (g ∧ sHits (σ 1) (σ 5) t hr set k)
    refine ⟨by omega, by omega, fun q => ⟨ar, fun z => ?_, fun z => ?_⟩, fun q => ⟨ar, fun z => ?_, fun z => ?_⟩⟩
    · have hk2 : k = n.toNat := by omega
      rw [hk2] at z
      rw [sCov, kfor, kif_f (fun y => kb_f z ⟨hg.2 y.1, y.2⟩)] at ih; exact ih
    · have hk2 : k = n.toNat := by omega
      rw [hk2] at z
      have z := kb_t z
      rw [sCov, kfor, kif_t ⟨hg.1 z.1, z.2⟩] at ih; exact ih
    · have jh := jh (by omega)
      rw [kb_0 (fun y => kb_f z ⟨y.1, fun k2 h2 => y.2 k2 (by omega)⟩)] at jh; exact jh
    · have jh := jh (by omega)
      have pk := hp k (by omega)
      have z := kb_t z
      have ks : rI (kand (sShs (σ 1) (σ 5 (60 * t + k) % 10) (σ 5 (60 * t + k) / 10) hr : Int) set) := by
        have a1 := sShs_r (c := σ 5 (60 * t + k) % 10) (r := σ 5 (60 * t + k) / 10) (h := hr) w
        rw [kand_nat (by omega) (by omega)]
        have l : sShs (σ 1) (σ 5 (60 * t + k) % 10) (σ 5 (60 * t + k) / 10) hr &&& set ≤ set := Nat.and_le_right
        omega
      refine ⟨by omega, by omega, by omega, by omega, ⟨w, by omega, by omega, hh⟩, ks, fun y => ?_, fun y => ?_⟩
      · rw [kb_0 (fun x => x.2 k (by omega) y)] at jh; exact jh
      · rw [kb_1 ⟨z.1, fun k2 h2 => by
          by_cases e : k2 = k
          · rw [e]; exact y
          · exact z.2 k2 (by omega)⟩] at jh; exact jh
  have z0 : sHits (σ 1) (σ 5) t hr set 0 := fun k hk => absurd hk (by omega)
  refine ⟨by omega, by rw [e2]; omega, fun q => ⟨?_, rfl⟩, fun q => ⟨by omega, fun h => ?_, fun h => ⟨by omega, by omega, by omega, by omega, fun h2 => ?_, fun h2 => ?_⟩⟩⟩
  · rw [e2] at q; rw [show set = 2 ^ (σ 1 2).toNat by omega]
  · have := inner True ⟨fun _ => Or.inl h, fun _ => trivial⟩ (by omega)
    rw [kb_1 ⟨trivial, z0⟩] at this; exact this
  · have := inner False ⟨fun y => y.elim, fun y => y.elim (fun y => h y) (fun y => by omega)⟩ (by omega)
    rw [kb_0 (fun y => y.1)] at this; exact this
  · have := inner True ⟨fun _ => Or.inr h2, fun _ => trivial⟩ (by omega)
    rw [kb_1 ⟨trivial, z0⟩] at this; exact this
