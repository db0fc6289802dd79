/-! seasons: openings and their ends -/
def pJ (K P : Int → Int) (n d : Int) (o : Int → Int) : Prop := (∀ i, 0 ≤ i → i < d → (0 ≤ o i ∧ o i < n) ∧ pOp (K (o i)) ∧ ∀ j, 0 ≤ j → j < i → o j < o i) ∧ (∀ k, 0 ≤ k → k < n → pOp (K k) → (∃ i, (0 ≤ i ∧ i < d) ∧ o i = k) ∨ ((k < P k ∧ P k < n) ∧ K (P k) = 22 ∧ P (P k) = k ∧ ∀ b, k < b → b < P k → pOp (K b) → P b < P k ∧ ∀ i, 0 ≤ i → i < d → o i ≠ b)) ∧ ∀ k, 0 ≤ k → k < n → K k = 22 → (0 ≤ P k ∧ P k < k) ∧ pOp (K (P k)) ∧ P (P k) = k ∧ ∀ i, 0 ≤ i → i < d → o i ≠ P k
theorem pOp_22 {x : Int} (h : pOp x) : x ≠ 22 := by unfold pOp at h; omega
theorem pJ_new {K P K' P' o o' : Int → Int} {n d d' : Int} (h : pJ K P n d o) (hn : 0 ≤ n) (hd : 0 ≤ d) (eK : ∀ k, 0 ≤ k → k < n → K' k = K k) (eP : ∀ k, 0 ≤ k → k < n → P' k = P k) (ne : K' n ≠ 22) (eo : ∀ i, 0 ≤ i → i < d → o' i = o i) (c : (d' = d ∧ ¬ pOp (K' n)) ∨ (d' = d + 1 ∧ o' d = n ∧ pOp (K' n))) : pJ K' P' (n + 1) d' o' := by
  obtain ⟨hA, hB, hC⟩ := h
  have old : ∀ i, 0 ≤ i → i < d' → (i < d ∧ o' i = o i) ∨ (i = d ∧ o' i = n ∧ pOp (K' n)) := by
    intro i a b
    by_cases q : i < d
    · exact Or.inl ⟨q, eo i a q⟩
    · right
      rcases c with ⟨c1, -⟩ | ⟨c1, c2, c3⟩
      · omega
      · have : i = d := by omega
        subst this; exact ⟨rfl, c2, c3⟩
  refine ⟨fun i a b => ?_, fun k a b p => ?_, fun k a b p => ?_⟩
  · rcases old i a b with ⟨q1, q2⟩ | ⟨q1, q2, q3⟩
    · obtain ⟨x1, x2, x3⟩ := hA i a q1
      rw [q2]
      refine ⟨by omega, by rw [eK _ x1.1 x1.2]; exact x2, fun j c1 c2 => ?_⟩
      rw [eo j c1 (by omega)]; exact x3 j c1 c2
    · rw [q2]
      refine ⟨by omega, q3, fun j c1 c2 => ?_⟩
      rw [eo j c1 (by omega)]
      exact (hA j c1 (by omega)).1.2
  · by_cases q : k = n
    · left
      subst q
      rcases c with ⟨c1, c2⟩ | ⟨c1, c2, c3⟩
      · exact absurd p c2
      · exact ⟨d, ⟨hd, by omega⟩, c2⟩
    · rw [eK k a (by omega)] at p
      rcases hB k a (by omega) p with ⟨i, hi, e⟩ | ⟨x1, x2, x3, x4⟩
      · left
        exact ⟨i, by rcases c with ⟨c1, -⟩ | ⟨c1, -, -⟩ <;> omega, by rw [eo i hi.1 hi.2]; exact e⟩
      · right
        rw [eP k a (by omega)]
        refine ⟨by omega, by rw [eK _ (by omega) (by omega)]; exact x2, by rw [eP _ (by omega) (by omega)]; exact x3, fun b' c1 c2 c3 => ?_⟩
        rw [eK b' (by omega) (by omega)] at c3
        obtain ⟨y1, y2⟩ := x4 b' c1 c2 c3
        refine ⟨by rw [eP b' (by omega) (by omega)]; exact y1, fun i z1 z2 => ?_⟩
        rcases old i z1 z2 with ⟨q1, q2⟩ | ⟨q1, q2, q3⟩
        · rw [q2]; exact y2 i z1 q1
        · rw [q2]; omega
  · have q : k ≠ n := fun e => ne (by rw [← e]; exact p)
    rw [eK k a (by omega)] at p
    obtain ⟨x1, x2, x3, x4⟩ := hC k a (by omega) p
    rw [eP k a (by omega)]
    refine ⟨x1, by rw [eK _ x1.1 (by omega)]; exact x2, by rw [eP _ x1.1 (by omega)]; exact x3, fun i z1 z2 => ?_⟩
    rcases old i z1 z2 with ⟨q1, q2⟩ | ⟨q1, q2, q3⟩
    · rw [q2]; exact x4 i z1 q1
    · rw [q2]; omega
theorem pJ_close {K P K' P' o : Int → Int} {n d : Int} (h : pJ K P n d o) (hd : 0 < d) (eK : ∀ k, 0 ≤ k → k < n → K' k = K k) (eP : ∀ k, 0 ≤ k → k < n → k ≠ o (d - 1) → P' k = P k) (kn : K' n = 22) (pn : P' n = o (d - 1)) (pt : P' (o (d - 1)) = n) : pJ K' P' (n + 1) (d - 1) o := by
  obtain ⟨hA, hB, hC⟩ := h
  obtain ⟨t1, t2, t3⟩ := hA (d - 1) (by omega) (by omega)
  generalize ht : o (d - 1) = t at *
  have open_le : ∀ i, 0 ≤ i → i < d → o i ≤ t ∧ (i < d - 1 → o i < t) := by
    intro i a b
    by_cases q : i = d - 1
    · rw [q, ht]; exact ⟨by omega, by omega⟩
    · have := t3 i a (by omega)
      exact ⟨by omega, fun _ => this⟩
  have t22 := pOp_22 t2
  refine ⟨fun i a b => ?_, fun k a b p => ?_, fun k a b p => ?_⟩
  · obtain ⟨x1, x2, x3⟩ := hA i a (by omega)
    exact ⟨by omega, by rw [eK _ x1.1 x1.2]; exact x2, x3⟩
  · by_cases q : k = n
    · rw [q, kn] at p; exact absurd rfl (pOp_22 p)
    rw [eK k a (by omega)] at p
    by_cases qt : k = t
    · right
      rw [qt, pt]
      refine ⟨by omega, kn, pn, fun b' c1 c2 c3 => ?_⟩
      rw [eK b' (by omega) c2] at c3
      refine ⟨?_, fun i z1 z2 => by have := (open_le i z1 (by omega)).2 z2; omega⟩
      rcases hB b' (by omega) c2 c3 with ⟨i, hi, e⟩ | ⟨x1, -⟩
      · have := (open_le i hi.1 hi.2).1; omega
      · rw [eP b' (by omega) c2 (by omega)]; exact x1.2
    · rcases hB k a (by omega) p with ⟨i, hi, e⟩ | ⟨x1, x2, x3, x4⟩
      · left
        refine ⟨i, ⟨hi.1, ?_⟩, e⟩
        by_cases q2 : i = d - 1
        · rw [q2, ht] at e; exact absurd e.symm qt
        · omega
      · right
        have pk : P k ≠ t := fun e => t22 (by rw [← e]; exact x2)
        rw [eP k a (by omega) qt]
        refine ⟨by omega, by rw [eK _ (by omega) x1.2]; exact x2, by rw [eP _ (by omega) x1.2 pk]; exact x3, fun b' c1 c2 c3 => ?_⟩
        rw [eK b' (by omega) (by omega)] at c3
        obtain ⟨y1, y2⟩ := x4 b' c1 c2 c3
        have bt : b' ≠ t := fun e => y2 (d - 1) (by omega) (by omega) (by rw [ht]; exact e.symm)
        exact ⟨by rw [eP b' (by omega) (by omega) bt]; exact y1, fun i z1 z2 => y2 i z1 (by omega)⟩
  · by_cases q : k = n
    · rw [q, pn]
      exact ⟨by omega, by rw [eK t t1.1 t1.2]; exact t2, pt, fun i z1 z2 => by have := (open_le i z1 (by omega)).2 z2; omega⟩
    · rw [eK k a (by omega)] at p
      obtain ⟨x1, x2, x3, x4⟩ := hC k a (by omega) p
      have kt : k ≠ t := fun e => t22 (by rw [← e]; exact p)
      have pkt : P k ≠ t := fun e => x4 (d - 1) (by omega) (by omega) (by rw [ht]; exact e.symm)
      rw [eP k a (by omega) kt]
      exact ⟨x1, by rw [eK _ x1.1 (by omega)]; exact x2, by rw [eP _ x1.1 (by omega) pkt]; exact x3, fun i z1 z2 => x4 i z1 (by omega)⟩
def pI (w : Int → Int) (a b n d : Int) (o : Int → Int) : Prop := (∀ k, 0 ≤ k → k < n → pL0 w a b (150 + 6 * k)) ∧ pJ (fun k => w (150 + 6 * k)) (fun k => w (150 + 6 * k + 4)) n d o
def snI (τ : Kmem) : Prop := sk0 τ ∧ ((0 ≤ τ 1 2064 ∧ τ 1 2064 + τ 0 22 ≤ 2 * τ 0 23) ∧ (0 ≤ τ 0 22 ∧ τ 0 22 ≤ 3) ∧ 0 ≤ τ 0 23 ∧ τ 0 23 ≤ 30) ∧ pI (vN τ) (τ 1 2) (τ 1 3) (τ 1 2064) (τ 0 22) (τ 8)
def snL (k : Int) (τ : Kmem) : Kmem := kup (kst (kup τ 0 23 (τ 0 23 + if k = 22 then 0 else 1)) 1 (fun j => if j = 2206 + 6 * τ 1 2064 then k else if 2206 + 6 * τ 1 2064 < j ∧ j < 2206 + 6 * τ 1 2064 + 6 then 0 else τ 1 j)) 1 2064 (τ 1 2064 + 1)
def sOpn (k n : Int) (u : Kmem) : Kmem := if k = 20 ∨ k = 21 then kup (kup u 8 (u 0 22) n) 0 22 (u 0 22 + 1) else if k = 22 then kup (kup (kup u 0 22 (u 0 22 - 1)) 1 (2206 + 6 * n + 4) (u 8 (u 0 22 - 1))) 1 (2206 + 6 * u 8 (u 0 22 - 1) + 4) n else u
noncomputable def cStep (τ : Kmem) : Prop × Kmem := kif (tWi τ < 15 ∨ 23 < tWi τ ∨ (tWi τ = 22 ∧ τ 0 22 = 0)) (False, tF τ 2) (kif (tWi τ ≠ 22 ∧ τ 0 23 = 30) (False, tF τ 6) (kif ((tWi τ = 20 ∨ tWi τ = 21) ∧ τ 0 22 = 3) (False, tF τ 7) (cThen (cOrd (tWi τ) (2206 + 6 * τ 1 2064) (tA (snL (tWi τ) τ))) (fun u => cSign 59 (sOpn (tWi τ) (τ 1 2064) u)))))
/-- all the same but what a season's reading may write -/
def fS (s t : Kmem) : Prop := (∀ x, x ≠ 0 → x ≠ 1 → x ≠ 2 → x ≠ 8 → s x = t x) ∧ (∀ j, (j < 12 ∨ (15 < j ∧ j ≠ 17 ∧ j ≠ 18 ∧ j ≠ 22 ∧ j ≠ 23)) → s 0 j = t 0 j) ∧ (∀ j, (j < 2056 ∨ 2570 ≤ j) → s 1 j = t 1 j) ∧ (∀ j, (j < 80 ∨ 100 ≤ j) → s 2 j = t 2 j)
theorem fS.refl {s : Kmem} : fS s s := ⟨fun _ _ _ _ _ => rfl, fun _ _ => rfl, fun _ _ => rfl, fun _ _ => rfl⟩
theorem fS.trans {s t u : Kmem} (h : fS s t) (g : fS t u) : fS s u := ⟨fun x a b c d => (h.1 x a b c d).trans (g.1 x a b c d), fun j a => (h.2.1 j a).trans (g.2.1 j a), fun j a => (h.2.2.1 j a).trans (g.2.2.1 j a), fun j a => (h.2.2.2 j a).trans (g.2.2.2 j a)⟩
theorem fS_0 {s t : Kmem} (h : fT0 s t) : fS s t := ⟨fun x a b c _ => h.1 x a b c, fun j a => h.2.1 j (by omega), h.2.2.1, h.2.2.2⟩
theorem fS_up0 {τ : Kmem} {j y : Int} (h : j = 22 ∨ j = 23) : fS (kup τ 0 j y) τ := ⟨fun x a _ _ _ => kup_o a, fun i a => kup_j (by omega), fun i _ => by rw [kup_o (x := 1) (by omega)], fun i _ => by rw [kup_o (x := 2) (by omega)]⟩
theorem fS_up1 {τ : Kmem} {j y : Int} (h : 2056 ≤ j ∧ j < 2570) : fS (kup τ 1 j y) τ := fS_0 (fT0_1 h)
theorem fS_up8 {τ : Kmem} {j y : Int} : fS (kup τ 8 j y) τ := ⟨fun x _ _ _ a => kup_o a, fun i a => by rw [kup_o (x := 0) (by omega)], fun i _ => by rw [kup_o (x := 1) (by omega)], fun i _ => by rw [kup_o (x := 2) (by omega)]⟩
theorem tk1_up0 {τ : Kmem} {j y : Int} (h : tk1 τ) (hj : j = 22 ∨ j = 23) : tk1 (kup τ 0 j y) := by
  have v : ∀ i, i ≠ j → (kup τ 0 j y) 0 i = τ 0 i := fun i hi => kup_j hi
  have o : (kup τ 0 j y) 7 = τ 7 := kup_o (by omega)
  have b : ∀ i, bA (kup τ 0 j y) i = bA τ i := fun i => by unfold bA; rw [v 11 (by omega), o]
  refine ⟨?_, by rw [v 18 (by omega)]; exact h.2⟩
  have h := h.1
  unfold tok txt at *
  rw [v 11 (by omega), v 12 (by omega), v 13 (by omega), v 14 (by omega), v 15 (by omega), o]
  simp only [b]
  exact h
theorem tk1_kst {τ : Kmem} {x : Int} {f : Int → Int} (h : tk1 τ) (hx : x ≠ 0 ∧ x ≠ 7) : tk1 (kst τ x f) := ⟨tok_kst h.1 hx, by rw [kst_ne (by omega)]; exact h.2⟩
theorem tk1_8 {τ : Kmem} {j y : Int} (h : tk1 τ) : tk1 (kup τ 8 j y) := by
  rw [show kup τ 8 j y = kst τ 8 (ku (τ 8) j y) from kup_k]
  exact tk1_kst h (by omega)
theorem snL_v {k : Int} {τ : Kmem} (hn : 0 ≤ τ 1 2064 ∧ τ 1 2064 ≤ 59) : (snL k τ 1 2064 = τ 1 2064 + 1 ∧ (snL k τ 0 23 = τ 0 23 + if k = 22 then 0 else 1) ∧ snL k τ 0 22 = τ 0 22 ∧ snL k τ 8 = τ 8) ∧ (vN (snL k τ) (150 + 6 * τ 1 2064) = k ∧ vN (snL k τ) (150 + 6 * τ 1 2064 + 4) = 0) ∧ (∀ j, j ≠ 8 → (j < 150 + 6 * τ 1 2064 ∨ 150 + 6 * τ 1 2064 + 6 ≤ j) → vN (snL k τ) j = vN τ j) ∧ fS (snL k τ) τ := by
  have c : ∀ j, j ≠ 2064 → snL k τ 1 j = if j = 2206 + 6 * τ 1 2064 then k else if 2206 + 6 * τ 1 2064 < j ∧ j < 2206 + 6 * τ 1 2064 + 6 then 0 else τ 1 j := fun j hj => by
    unfold snL; rw [kup_j hj, kst_eq]
  refine ⟨⟨kup_at, ?_, ?_, ?_⟩, ⟨?_, ?_⟩, fun j h8 hj => ?_, ⟨fun x h0 h1 _ _ => ?_, fun j hj => ?_, fun j hj => ?_, fun j _ => ?_⟩⟩
  · unfold snL; rw [kup_x (by omega), kst_ne (by omega), kup_at]
  · unfold snL; rw [kup_x (by omega), kst_ne (by omega), kup_j (by omega)]
  · unfold snL; rw [kup_o (by omega), kst_ne (by omega), kup_o (by omega)]
  · unfold vN; rw [c _ (by omega), if_pos (by omega)]
  · unfold vN; rw [c _ (by omega), if_neg (by omega), if_pos (by omega)]
  · unfold vN; rw [c _ (by omega), if_neg (by omega), if_neg (by omega)]
  · unfold snL; rw [kup_o h1, kst_ne h1, kup_o h0]
  · unfold snL; rw [kup_x (by omega), kst_ne (by omega), kup_j (by omega)]
  · rw [c j (by omega), if_neg (by omega), if_neg (by omega)]
  · unfold snL; rw [kup_x (by omega), kst_ne (by omega), kup_x (by omega)]
theorem snL_2 {k : Int} {τ : Kmem} : snL k τ 2 = τ 2 := by unfold snL; rw [kup_o (by omega), kst_ne (by omega), kup_o (by omega)]
theorem snL_k {k : Int} {τ : Kmem} (h : sk0 τ) (hn : 0 ≤ τ 1 2064 ∧ τ 1 2064 ≤ 59) : sk0 (tA (snL k τ)) := by
  have f := (snL_v (k := k) hn).2.2.2
  have t : tk1 (snL k τ) := tk1_1 (tk1_kst (tk1_up0 h.1.1 (by omega)) (by omega))
  have g : fS (tA (snL k τ)) τ := (fS_0 fT0_tA).trans f
  refine ⟨⟨tA_k1 (tok_x0 t.1) t.2, nm_same (tA_fr.1 2 (by omega)) (nm_same snL_2 h.1.2)⟩, ?_, ?_⟩
  · rw [g.2.2.1 2 (by omega)]; exact h.2.1
  · rw [g.2.2.1 3 (by omega)]; exact h.2.2
theorem pL0_eq {u w : Int → Int} {a b i : Int} (h : pL0 w a b i) (e : ∀ d, 0 ≤ d → d < 6 → d ≠ 4 → u (i + d) = w (i + d)) : pL0 u a b i := by
  have e0 := e 0 (by omega) (by omega) (by omega)
  rw [Int.add_zero] at e0
  unfold pL0 at *
  rw [e0, e 1 (by omega) (by omega) (by omega), e 2 (by omega) (by omega) (by omega), e 5 (by omega) (by omega) (by omega)]
  exact h
/-- a line that is no end -/
theorem pI_new {w w' : Int → Int} {a b n d d' : Int} {o o' : Int → Int} (h : pI w a b n d o) (hn : 0 ≤ n) (hd : 0 ≤ d) (e : ∀ j, 150 ≤ j → j < 150 + 6 * n → w' j = w j) (l : pL0 w' a b (150 + 6 * n)) (ne : w' (150 + 6 * n) ≠ 22) (eo : ∀ i, 0 ≤ i → i < d → o' i = o i) (c : (d' = d ∧ ¬ pOp (w' (150 + 6 * n))) ∨ (d' = d + 1 ∧ o' d = n ∧ pOp (w' (150 + 6 * n)))) : pI w' a b (n + 1) d' o' := by
  refine ⟨fun k x y => ?_, pJ_new h.2 hn hd (fun k x y => e _ (by omega) (by omega)) (fun k x y => e _ (by omega) (by omega)) ne eo c⟩
  by_cases q : k = n
  · rw [q]; exact l
  · exact pL0_eq (h.1 k x (by omega)) (fun d _ _ _ => e _ (by omega) (by omega))
/-- an end -/
theorem pI_close {w w' : Int → Int} {a b n d : Int} {o : Int → Int} (h : pI w a b n d o) (hd : 0 < d) (e : ∀ j, 150 ≤ j → j < 150 + 6 * n → j ≠ 150 + 6 * o (d - 1) + 4 → w' j = w j) (kn : w' (150 + 6 * n) = 22) (pn : w' (150 + 6 * n + 4) = o (d - 1)) (pt : w' (150 + 6 * o (d - 1) + 4) = n) : pI w' a b (n + 1) (d - 1) o := by
  refine ⟨fun k x y => ?_, pJ_close h.2 hd (fun k x y => e _ (by omega) (by omega) (by omega)) (fun k x y z => e _ (by omega) (by omega) (by omega)) kn pn pt⟩
  by_cases q : k = n
  · rw [q]
    unfold pL0
    rw [kn]
    exact ⟨by omega, by omega, by omega, by omega, by omega, by omega, by omega⟩
  · exact pL0_eq (h.1 k x (by omega)) (fun d' _ _ _ => e _ (by omega) (by omega) (by omega))
theorem cStep_t {τ : Kmem} (h : (cStep τ).1) : (15 ≤ tWi τ ∧ tWi τ ≤ 23 ∧ (tWi τ = 22 → τ 0 22 ≠ 0)) ∧ (tWi τ ≠ 22 → τ 0 23 ≠ 30) ∧ (tWi τ = 20 ∨ tWi τ = 21 → τ 0 22 ≠ 3) ∧ (cOrd (tWi τ) (2206 + 6 * τ 1 2064) (tA (snL (tWi τ) τ))).1 ∧ (cSign 59 (sOpn (tWi τ) (τ 1 2064) (cOrd (tWi τ) (2206 + 6 * τ 1 2064) (tA (snL (tWi τ) τ))).2)).1 ∧ cStep τ = cSign 59 (sOpn (tWi τ) (τ 1 2064) (cOrd (tWi τ) (2206 + 6 * τ 1 2064) (tA (snL (tWi τ) τ))).2) := by
  have e : cStep τ = kif (tWi τ < 15 ∨ 23 < tWi τ ∨ (tWi τ = 22 ∧ τ 0 22 = 0)) (False, tF τ 2) (kif (tWi τ ≠ 22 ∧ τ 0 23 = 30) (False, tF τ 6) (kif ((tWi τ = 20 ∨ tWi τ = 21) ∧ τ 0 22 = 3) (False, tF τ 7) (cThen (cOrd (tWi τ) (2206 + 6 * τ 1 2064) (tA (snL (tWi τ) τ))) (fun u => cSign 59 (sOpn (tWi τ) (τ 1 2064) u))))) := rfl
  by_cases c1 : tWi τ < 15 ∨ 23 < tWi τ ∨ (tWi τ = 22 ∧ τ 0 22 = 0)
  · rw [kif_t c1] at e; rw [e] at h; exact h.elim
  rw [kif_f c1] at e
  by_cases c2 : tWi τ ≠ 22 ∧ τ 0 23 = 30
  · rw [kif_t c2] at e; rw [e] at h; exact h.elim
  rw [kif_f c2] at e
  by_cases c3 : (tWi τ = 20 ∨ tWi τ = 21) ∧ τ 0 22 = 3
  · rw [kif_t c3] at e; rw [e] at h; exact h.elim
  rw [kif_f c3] at e
  rw [e] at h
  obtain ⟨a1, b1, e1⟩ := cThen_y h
  exact ⟨by omega, by omega, by omega, a1, b1, e.trans e1⟩
theorem sOpn_f {k n : Int} {u : Kmem} (hn : 0 ≤ n ∧ n ≤ 59) (ho : k = 22 → 0 ≤ u 8 (u 0 22 - 1) ∧ u 8 (u 0 22 - 1) ≤ 59) : fS (sOpn k n u) u := by
  unfold sOpn
  split
  · exact (fS_up0 (by omega)).trans fS_up8
  split
  · rename_i q
    have := ho q
    exact (fS_up1 (by omega)).trans ((fS_up1 (by omega)).trans (fS_up0 (by omega)))
  · exact fS.refl
theorem sOpn_tk {k n : Int} {u : Kmem} (h : tk1 u) : tk1 (sOpn k n u) := by
  unfold sOpn
  split
  · exact tk1_up0 (tk1_8 h) (by omega)
  split
  · exact tk1_1 (tk1_1 (tk1_up0 h (by omega)))
  · exact h
theorem sOpn_2 {k n : Int} {u : Kmem} : sOpn k n u 2 = u 2 := by
  unfold sOpn
  split
  · rw [kup_o (by omega), kup_o (by omega)]
  split
  · rw [kup_o (by omega), kup_o (by omega), kup_o (by omega)]
  · rfl
theorem sOpn_13 {k n : Int} {u : Kmem} : sOpn k n u 0 13 = u 0 13 ∧ sOpn k n u 0 14 = u 0 14 := by
  unfold sOpn
  split
  · rw [kup_j (by omega), kup_x (by omega), kup_j (by omega), kup_x (by omega)]; exact ⟨rfl, rfl⟩
  split
  · rw [kup_x (by omega), kup_x (by omega), kup_j (by omega), kup_x (by omega), kup_x (by omega), kup_j (by omega)]; exact ⟨rfl, rfl⟩
  · exact ⟨rfl, rfl⟩
theorem cOrd_m {τ : Kmem} {k r : Int} (h : sk0 τ) (hr : 2206 ≤ r ∧ r ≤ 2560) : m0 (cOrd k r τ) τ := by
  have kt : ∀ to, 2056 ≤ to ∧ to < 2570 → m1 (cKT to τ) τ := fun to _ => cOld_m h.1.1
  unfold cOrd
  split
  · exact m1_m0 h.1.1 (cNum_m h.1.1)
  split
  · have g := cKT_G h (to := r + 1) (by omega)
    exact m1_m0 h.1.1 (m1_then (kt _ (by omega)) (fun e => g.2.1 e) (fun e => m1_m0 (g.2.1 e) (cNum_m (g.2.1 e))))
  split
  · exact m1_m0 h.1.1 (kt _ (by omega))
  split
  · obtain ⟨u, f⟩ := test_u h hr
    have up : τ 0 13 ≤ tA (kup τ 1 r (2000 + tWi τ)) 0 13 := by
      have := tA_m (tok_x0 (tok_1 (j := r) (y := 2000 + tWi τ) h.1.1.1))
      rw [kup_x (by omega)] at this
      have := h.1.1.1.2.1
      omega
    unfold cTest
    by_cases e : tWi τ < 24
    · rw [m0, kif_t e]; exact fun y => y.elim
    rw [kif_f e]
    by_cases e2 : tWi τ = 25
    · rw [kif_t e2]
      have := m1_m0 u.1.1 (cOld_m (a := 6) (b := τ 1 3) (to := r + 1) u.1.1)
      intro y; have := this y; omega
    · rw [kif_f e2]
      have g := cKT_G u (to := r + 1) (by omega)
      have m := m1_m0 u.1.1 (cOld_m (a := 0) (b := tA (kup τ 1 r (2000 + tWi τ)) 1 2) (to := r + 1) u.1.1)
      have : m0 (cThen (cKT (r + 1) (tA (kup τ 1 r (2000 + tWi τ)))) (cTe2 (tWi τ) r)) (tA (kup τ 1 r (2000 + tWi τ))) := m0_then m (fun y => by
        have t := g.2.1 y
        generalize (cKT (r + 1) (tA (kup τ 1 r (2000 + tWi τ)))).2 = w at *
        unfold cTe2
        by_cases e3 : tWi τ = 26
        · rw [m0, kif_t e3]; intro _; exact Int.le_refl _
        rw [kif_f e3]
        by_cases e4 : tS3 w
        · rw [kif_t e4]
          have x := tk1_1 (j := r + 5) (y := w 0 15) t
          have t2 := tA_k1 (tok_x0 x.1) x.2
          have q := tA_m (tok_x0 x.1)
          rw [kup_x (by omega)] at q
          have q2 := m1_m0 t2 (cNum_m (to := r + 2) (lo := 0) (hi := 9999) t2)
          intro y2
          have := q2 y2
          have := t.1.2.1
          omega
        · rw [m0, kif_f e4]; exact fun y => y.elim)
      intro y; have := this y; omega
  split
  · exact m1_m0 h.1.1 (cNum_m h.1.1)
  · intro _; exact Int.le_refl _
