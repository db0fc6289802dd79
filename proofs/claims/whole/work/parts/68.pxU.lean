/-! counties that are alike but in what their hands have walked -/
theorem kco_ext {σ : Kmem} {c : Int} {u v : Int → Int} (w : wf v) (h : ∀ j, 0 ≤ j → j < 150 → u j = v j) (k : kco σ c v) : kco σ c u := by
  have w1 := wf_h w
  refine ⟨?_, ?_, ?_, ?_, ?_⟩
  · have := k.1; unfold kcoH at this ⊢; simp (disch := omega) only [h]; exact this
  · intro i a b; have := k.2.1 i a b; simp (disch := omega) only [h]; exact this
  · intro i a b; rw [h 2 (by omega) (by omega)] at b; have := k.2.2.1 i a b; simp (disch := omega) only [h]; exact this
  · intro i a b; rw [h 3 (by omega) (by omega)] at b; have := k.2.2.2.1 i a b; simp (disch := omega) only [h]; exact this
  · intro i a b; rw [h 4 (by omega) (by omega)] at b; have := k.2.2.2.2 i a b; simp (disch := omega) only [h]; exact this
def kgw (u v : Int → Int) : Prop := ∀ j, 0 ≤ j → j < 150 → (∀ k, 0 ≤ k → k < 6 → j ≠ 34 + 9 * k + 6) → u j = v j
theorem kgw.refl {u : Int → Int} : kgw u u := fun _ _ _ _ => rfl
theorem kgw.trans {u v w : Int → Int} (h : kgw u v) (g : kgw v w) : kgw u w := fun j a b c => (h j a b c).trans (g j a b c)
theorem kgw.symm {u v : Int → Int} (h : kgw u v) : kgw v u := fun j a b c => (h j a b c).symm
theorem kgw_wf {u v : Int → Int} (w : wf v) (h : kgw u v) : wf u := by
  have w1 := wf_h w
  have hd : ∀ j, 0 ≤ j → j < 34 → u j = v j := fun j a b => h j a (by omega) (by omega)
  refine ⟨?_, ?_, ?_, ?_, ?_⟩
  · unfold wfH; simp (disch := omega) only [hd]; exact w.1
  · intro i a b; have := w.2.1 i a b; simp (disch := omega) only [hd]; exact this
  · intro i a b; rw [hd 2 (by omega) (by omega)] at b; have := w.2.2.1 i a b
    rw [h (34 + 9 * i) (by omega) (by omega) (by omega), h (34 + 9 * i + 1) (by omega) (by omega) (by omega), h (34 + 9 * i + 2) (by omega) (by omega) (by omega), h (34 + 9 * i + 3) (by omega) (by omega) (by omega), h (34 + 9 * i + 4) (by omega) (by omega) (by omega), h (34 + 9 * i + 5) (by omega) (by omega) (by omega), h (34 + 9 * i + 7) (by omega) (by omega) (by omega), h (34 + 9 * i + 8) (by omega) (by omega) (by omega), hd 0 (by omega) (by omega), hd 1 (by omega) (by omega)]
    exact this
  · intro i a b; rw [hd 3 (by omega) (by omega)] at b; have := w.2.2.2.1 i a b
    rw [h (88 + 4 * i) (by omega) (by omega) (by omega), h (88 + 4 * i + 1) (by omega) (by omega) (by omega), h (88 + 4 * i + 2) (by omega) (by omega) (by omega), h (88 + 4 * i + 3) (by omega) (by omega) (by omega), hd 0 (by omega) (by omega), hd 1 (by omega) (by omega)]
    exact this
  · intro i a b; rw [hd 4 (by omega) (by omega)] at b; have := w.2.2.2.2 i a b
    rw [h (120 + 5 * i) (by omega) (by omega) (by omega), h (120 + 5 * i + 1) (by omega) (by omega) (by omega), h (120 + 5 * i + 2) (by omega) (by omega) (by omega), hd 0 (by omega) (by omega), hd 1 (by omega) (by omega), hd 2 (by omega) (by omega)]
    exact this
theorem kgw_geo {u v : Int → Int} (w : wf v) (h : kgw u v) : kgeo u v := by
  have w1 := wf_h w
  refine ⟨fun j a b _ => h j a (by omega) (by omega), fun k a b => ⟨h _ (by omega) (by omega) (by omega), fun j c d e f => h _ (by omega) (by omega) (by omega)⟩⟩
theorem kgeo_x {u v : Int → Int} {a b h : Int} (g : kgeo u v) (ha : 0 ≤ a ∧ a < v 2) (hb : 0 ≤ b ∧ b < v 2) (hh : sHr h) : sX u a b h ↔ sX v a b h := by
  have ga := kgeo_shd (c := 0) (r := 0) g ha hh
  have gb := kgeo_shd (c := 0) (r := 0) g hb hh
  obtain ⟨a0, aj⟩ := g.2 a ha.1 ha.2
  obtain ⟨b0, bj⟩ := g.2 b hb.1 hb.2
  have a1 := aj 1 (by omega) (by omega) (by omega) (by omega)
  have a8 := aj 8 (by omega) (by omega) (by omega) (by omega)
  have b1 := bj 1 (by omega) (by omega) (by omega) (by omega)
  have b8 := bj 8 (by omega) (by omega) (by omega) (by omega)
  unfold sX sUp sPts
  rw [ga.2.1, gb.2.1, ga.2.2.1, ga.2.2.2.1, gb.2.2.1, gb.2.2.2.1, a0, a1, a8, b0, b1, b8]
theorem kgeo_dooms {u v : Int → Int} (w : wf v) (g : kgeo u v) (h7 : u 7 = v 7) : sDooms u = sDooms v := by
  have w1 := wf_h w
  have e2 := g.1 2 (by omega) (by omega) (by omega)
  unfold sDooms
  rw [e2]
  refine kset_ext _ (fun k hk => ?_)
  have str : ∀ b : Int, 0 ≤ b ∧ b < v 2 → u (34 + 9 * b + 3) = v (34 + 9 * b + 3) := fun b hb => (g.2 b hb.1 hb.2).2 3 (by omega) (by omega) (by omega) (by omega)
  have hk2 : 0 ≤ (k : Int) ∧ (k : Int) < v 2 := by omega
  unfold sDoom sDm
  rw [e2, h7]
  constructor
  · rintro ⟨b, hb, h1, h2, h3⟩
    exact ⟨b, hb, h1, (kgeo_x g hk2 hb ⟨by omega, by omega⟩).1 h2, by rw [← str _ hk2, ← str _ hb]; exact h3⟩
  · rintro ⟨b, hb, h1, h2, h3⟩
    exact ⟨b, hb, h1, (kgeo_x g hk2 hb ⟨by omega, by omega⟩).2 h2, by rw [str _ hk2, str _ hb]; exact h3⟩
theorem kgw_7 {u v : Int → Int} (h : kgw u v) : u 7 = v 7 := h 7 (by omega) (by omega) (by omega)
theorem kgw_hd {u v : Int → Int} (h : kgw u v) (j : Int) (a : 0 ≤ j) (b : j < 34) : u j = v j := h j a (by omega) (by omega)
theorem kgw_ku {u v : Int → Int} {i x : Int} (h : kgw u v) : kgw (ku u i x) (ku v i x) := by
  intro j a b c
  by_cases e : j = i
  · rw [e, ku_eq, ku_eq]
  · rw [ku_ne e, ku_ne e]; exact h j a b c
theorem kgw_walked {v : Int → Int} {k x : Int} (hk : 0 ≤ k ∧ k < 6) : kgw (ku v (34 + 9 * k + 6) x) v := fun j a b c => ku_ne (c k hk.1 hk.2)
theorem kgw_cuts {u v : Int → Int} (w : wf v) (h : kgw u v) : kgw (sCuts u) (sCuts v) := by
  unfold sCuts
  rw [kgeo_dooms w (kgw_geo w h) (kgw_7 h), kgw_hd h 2 (by omega) (by omega)]
  generalize (v 2).toNat = n
  induction n with
  | zero => exact h
  | succ n ih =>
    show kgw (kif _ (ku _ _ _) _) (kif _ (ku _ _ _) _)
    by_cases q : sIn (sDooms v : Int) (n : Int)
    · rw [kif_t q, kif_t q]; exact kgw_ku ih
    · rw [kif_f q, kif_f q]; exact ih
theorem sCuts_at {v : Int → Int} {j : Int} (w : wf v) (h : ∀ k : Int, 0 ≤ k → k < v 2 → j ≠ 34 + 9 * k + 8) : sCuts v j = v j := by
  rw [← sCuts_put w]
  exact sPut_at _ (fun k hk => h k (by omega) (by omega))
theorem kgw_may {u v : Int → Int} {k s : Int} (h : kgw u v) (hk : 0 ≤ k ∧ k < 6) : sMay u k s ↔ sMay v k s := by
  unfold sMay sFld
  rw [kgw_hd h 0 (by omega) (by omega), kgw_hd h 1 (by omega) (by omega), h (34 + 9 * k) (by omega) (by omega) (by omega), h (34 + 9 * k + 1) (by omega) (by omega) (by omega)]
theorem kgw_walk {u v : Int → Int} {k s : Int} (h : kgw u v) (hk : 0 ≤ k ∧ k < 6) : kgw (sWalk u k s) (sWalk v k s) := by
  unfold sWalk
  rw [h (34 + 9 * k) (by omega) (by omega) (by omega), h (34 + 9 * k + 1) (by omega) (by omega) (by omega)]
  exact (kgw_walked hk).trans ((kgw_ku (kgw_ku h)).trans (kgw_walked hk).symm)
theorem kgw_pass {u v : Int → Int} (w : wf v) (h : kgw u v) : kgw (sPass u) (sPass v) := by
  unfold sPass
  rw [kgw_7 h]
  exact kgw_ku (kgw_cuts w h)
theorem wf_pass {v : Int → Int} (w : wf v) (h7 : v 7 < 100000) : wf (sPass v) ∧ (∀ j, 0 ≤ j → j < 34 → j ≠ 7 → sPass v j = v j) ∧ sPass v 7 = v 7 + 1 := by
  have w1 := wf_h w
  have c := sCuts_ok w
  exact ⟨wf_now c.1 (by omega), fun j a b e => by unfold sPass; rw [ku_ne e]; exact c.2 j a b, ku_eq⟩
theorem kgw_fly {kite c r : Int} : ∀ (m : Nat) (code : Int) (u v : Int → Int) (its : Int), kgw u v → wf v → sKt v kite → v 7 + m ≤ 100000 → sFly kite c r m code u its = sFly kite c r m code v its := by
  intro m
  induction m with
  | zero => intro code u v its _ _ _ _; rfl
  | succ m ih =>
    intro code u v its h w hk h7
    have w1 := wf_h w
    have hk1 := hk.1
    have hk2 := hk.2
    have k6 : 0 ≤ kite ∧ kite < 6 := by omega
    unfold sFly
    by_cases q : sMay v kite (code / 5 ^ m)
    · have wk := sWalk_ok w hk q
      have g := kgw_walk (s := code / 5 ^ m) h k6
      have gc := kgw_cuts wk.1 g
      have e7 : (sWalk v kite (code / 5 ^ m)) 7 = v 7 := wk.2.1 7 (by omega) (by omega)
      have e2 : (sWalk v kite (code / 5 ^ m)) 2 = v 2 := wk.2.1 2 (by omega) (by omega)
      have p := wf_pass wk.1 (by omega)
      rw [kif_t q, kif_t ((kgw_may h k6).2 q), kgw_7 h, kgeo_own (sCuts_ok wk.1).1 (kgw_geo (sCuts_ok wk.1).1 gc) ⟨by omega, by omega⟩]
      exact ih _ _ _ _ (kgw_pass wk.1 g) p.1 ⟨hk1, by rw [p.2.1 2 (by omega) (by omega) (by omega), e2]; exact hk2⟩ (by rw [p.2.2, e7]; omega)
    · rw [kif_f q, kif_f (fun y => q ((kgw_may h k6).1 y))]
/-- a loop of a times b turns -/
theorem kfor_add {α : Type} {f : Int → α → α} {x : α} (a : Nat) : ∀ b : Nat, kfor f (a + b) x = kfor (fun r z => f ((a : Int) + r) z) b (kfor f a x)
  | 0 => rfl
  | b + 1 => by
    show f ((a + b : Nat) : Int) (kfor f (a + b) x) = f ((a : Int) + (b : Int)) _
    rw [kfor_add a b]; congr 1
theorem kfor_mul {α : Type} {f : Int → α → α} {x : α} (b : Nat) : ∀ a : Nat, kfor f (a * b) x = kfor (fun d y => kfor (fun r z => f (d * b + r) z) b y) a x
  | 0 => by rw [Nat.zero_mul]; rfl
  | a + 1 => by
    rw [Nat.succ_mul, kfor_add, kfor_mul b a]
    show _ = kfor (fun r z => f ((a : Int) * b + r) z) b (kfor _ a x)
    congr 1
theorem kfor_ext {α : Type} {f g : Int → α → α} {x : α} : ∀ n : Nat, (∀ (i : Nat) (a : α), i < n → f i a = g i a) → kfor f n x = kfor g n x
  | 0, _ => rfl
  | n + 1, h => by
    show f n (kfor f n x) = g n (kfor g n x)
    rw [kfor_ext n (fun i a hi => h i a (by omega)), h n _ (by omega)]
/-- one code more -/
noncomputable def sUpd (F : Int) (code : Int) (a : Int × Int) : Int × Int := kif (a.1 < F) (F, code) a
/-- all codes that begin with p -/
noncomputable def sFF (kite c r : Int) (m : Nat) (p : Int) (u : Int → Int) (its : Int) (b : Int × Int) : Int × Int := kfor (fun rest a => sUpd (sFly kite c r m rest u its) (p * 5 ^ m + rest) a) (5 ^ m) b
theorem sFF_0 {kite c r p its : Int} {u : Int → Int} {b : Int × Int} : sFF kite c r 0 p u its b = kif (b.1 < its) (its, p) b := by
  show sUpd its (p * 5 ^ 0 + ((0 : Nat) : Int)) b = _
  unfold sUpd
  rw [show p * 5 ^ 0 + ((0 : Nat) : Int) = p by simp]
theorem sUpd_le {F code : Int} {a : Int × Int} : a.1 ≤ (sUpd F code a).1 ∧ F ≤ (sUpd F code a).1 := by
  unfold sUpd
  by_cases q : a.1 < F
  · rw [kif_t q]; exact ⟨by show a.1 ≤ F; omega, Int.le_refl _⟩
  · rw [kif_f q]; exact ⟨Int.le_refl _, by omega⟩
theorem sFF_cut {kite c r p its : Int} {m : Nat} {u : Int → Int} {b : Int × Int} (h0 : 0 ≤ its) (h : its + m ≤ b.1) : sFF kite c r m p u its b = b := by
  unfold sFF
  generalize 5 ^ m = N
  induction N with
  | zero => rfl
  | succ N ih =>
    show sUpd _ _ (kfor _ N b) = b
    rw [ih]
    have := sFly_r (kite := kite) (c := c) (r := r) m (N : Int) u its h0
    exact kif_f (by omega)
theorem sFF_ge {kite c r p its : Int} {m : Nat} {u : Int → Int} {b : Int × Int} (hb : -1 ≤ b.1) : -1 ≤ (sFF kite c r m p u its b).1 := by
  unfold sFF
  refine kfor_inv (P := fun _ (a : Int × Int) => -1 ≤ a.1) hb _ (fun i a hi h => ?_)
  have := (sUpd_le (F := sFly kite c r m i u its) (code := p * 5 ^ m + i) (a := a)).1
  omega
theorem sFF_s {kite c r p its : Int} {m : Nat} {u : Int → Int} {b : Int × Int} (hb : -1 ≤ b.1) :
    sFF kite c r (m + 1) p u its b = kfor (fun d y => kif (sMay u kite d) (sFF kite c r m (p * 5 + d) (sPass (sWalk u kite d)) (its + kb (sOwn (sCuts (sWalk u kite d)) c r (u 7 % 12) = kite)) y) y) 5 b := by
  have e5 : (5 : Nat) ^ (m + 1) = 5 * 5 ^ m := by rw [Nat.pow_succ, Nat.mul_comm]
  have hp : (0 : Int) < 5 ^ m := Int.pow_pos (by decide)
  have hc5 : ((5 ^ m : Nat) : Int) = (5 : Int) ^ m := by rw [Int.natCast_pow]; rfl
  have inv : ∀ n : Nat, -1 ≤ (kfor (fun d y => kif (sMay u kite d) (sFF kite c r m (p * 5 + d) (sPass (sWalk u kite d)) (its + kb (sOwn (sCuts (sWalk u kite d)) c r (u 7 % 12) = kite)) y) y) n b).1 := by
    intro n
    refine kfor_inv (P := fun _ (a : Int × Int) => -1 ≤ a.1) hb n (fun i a hi h => ?_)
    by_cases q : sMay u kite i
    · rw [kif_t q]; exact sFF_ge h
    · rw [kif_f q]; exact h
  unfold sFF
  rw [e5, kfor_mul]
  have key : ∀ n : Nat, kfor (fun (d : Int) (y : Int × Int) => kfor (fun r_1 z => sUpd (sFly kite c r (m + 1) (d * ((5 ^ m : Nat) : Int) + r_1) u its) (p * 5 ^ (m + 1) + (d * ((5 ^ m : Nat) : Int) + r_1)) z) (5 ^ m) y) n b = kfor (fun d y => kif (sMay u kite d) (sFF kite c r m (p * 5 + d) (sPass (sWalk u kite d)) (its + kb (sOwn (sCuts (sWalk u kite d)) c r (u 7 % 12) = kite)) y) y) n b := by
    intro n
    induction n with
    | zero => rfl
    | succ n ih =>
      show kfor _ (5 ^ m) (kfor _ n b) = kif (sMay u kite (n : Int)) _ (kfor _ n b)
      rw [ih]
      have iv := inv n
      generalize (kfor (fun d y => kif (sMay u kite d) (sFF kite c r m (p * 5 + d) (sPass (sWalk u kite d)) (its + kb (sOwn (sCuts (sWalk u kite d)) c r (u 7 % 12) = kite)) y) y) n b) = y at *
      have fl : ∀ i : Nat, i < 5 ^ m → sFly kite c r (m + 1) ((n : Int) * ((5 ^ m : Nat) : Int) + i) u its = kif (sMay u kite n) (sFly kite c r m i (sPass (sWalk u kite n)) (its + kb (sOwn (sCuts (sWalk u kite n)) c r (u 7 % 12) = kite))) (-1) := by
        intro i hi
        have hi' : (i : Int) < 5 ^ m := by rw [← hc5]; exact Int.ofNat_lt.mpr hi
        have d1 : ((n : Int) * ((5 ^ m : Nat) : Int) + i) / 5 ^ m = n := by
          rw [hc5, Int.add_comm, Int.add_mul_ediv_right _ _ (by omega), Int.ediv_eq_zero_of_lt (by omega) hi', Int.zero_add]
        have d2 : ((n : Int) * ((5 ^ m : Nat) : Int) + i) % 5 ^ m = i := by
          rw [hc5, Int.add_comm, Int.add_mul_emod_self_right, Int.emod_eq_of_lt (by omega) hi']
        rw [sFly, d1, d2]
      by_cases q : sMay u kite (n : Int)
      · rw [kif_t q]
        unfold sFF
        refine kfor_ext _ (fun i a hi => ?_)
        rw [fl i hi, kif_t q]
        congr 1
        rw [hc5, Int.pow_succ, Int.add_mul]
        have : p * (5 ^ m * 5) = p * 5 * 5 ^ m := by rw [Int.mul_comm (5 ^ m) 5, Int.mul_assoc]
        omega
      · rw [kif_f q]
        have : ∀ N : Nat, N ≤ 5 ^ m → kfor (fun (r_1 : Int) (z : Int × Int) => sUpd (sFly kite c r (m + 1) ((n : Int) * ((5 ^ m : Nat) : Int) + r_1) u its) (p * 5 ^ (m + 1) + ((n : Int) * ((5 ^ m : Nat) : Int) + r_1)) z) N y = y := by
          intro N
          induction N with
          | zero => intro _; rfl
          | succ N jh =>
            intro hN
            show sUpd _ _ (kfor _ N y) = y
            rw [jh (by omega), fl N (by omega), kif_f q]
            exact kif_f (by omega)
        exact this _ (Nat.le_refl _)
  exact key 5
