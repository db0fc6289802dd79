/-! THE RELATION OF WHOLE STATES: the class's memory σ, the reference's τ -/
def rCt (σ : Kmem) (c s : Int) (v g : Int → Int) : Prop := (wf v ∧ pwf v ∧ v 7 ≤ 9999) ∧ kco σ c v ∧ kpr σ s v ∧ nmB σ (c + 6) (v 2) g 0 ∧ nmB σ (c + 12) (v 3) g 6
def rMk (τ : Kmem) (m : Int) : Int → Int := fun j => τ 1 (514 * (m + 1) + j)
def rMn (τ : Kmem) (m : Int) : Int → Int := fun j => τ 2 (20 * (m + 1) + j)
def rMks (σ τ : Kmem) : Prop := (σ 0 18 = τ 0 41 ∧ 0 ≤ τ 0 41 ∧ τ 0 41 ≤ 3) ∧ ∀ m, 0 ≤ m → m < τ 0 41 → rCt σ (adC m) (adS m) (rMk τ m) (rMn τ m)
def rSt (σ τ : Kmem) : Prop := (σ 0 0 = τ 0 2 ∧ rI (τ 0 2)) ∧ (σ 0 1 = τ 0 3 ∧ rL (τ 0 3)) ∧ σ 0 2 = τ 0 4 ∧ rL (τ 0 4)
def rTp (σ τ : Kmem) : Prop := σ 0 5 = τ 0 10 ∧ tpR τ ∧ ∀ i, 0 ≤ i → i < τ 0 10 → σ 2 i = τ 6 i
def rFa (σ τ : Kmem) : Prop := σ 3 8 = τ 0 16 ∧ σ 3 9 = τ 0 17
def rTm (τ : Kmem) : Prop := (∀ i, 0 ≤ i → i < 4 → tOk (τ 4 i)) ∧ (∀ i, 0 ≤ i → i < 4 → 0 ≤ τ 3 i ∧ τ 3 i ≤ 3) ∧ ∀ i, 0 ≤ i → i < 240 → rL (τ 5 i)
def rTr (σ τ : Kmem) : Prop := rTm τ ∧ ∀ t, 0 ≤ t → t < 4 → σ (adT t) 0 = kb (τ 4 t ≠ -1) ∧ (τ 4 t ≠ -1 → (σ (adT t) 1 = τ 3 t ∧ σ (adT t) 2 = τ 4 t) ∧ ∀ j, 0 ≤ j → j < τ 4 t → σ (adT t + 1) j = τ 5 (60 * t + j))
def rFl (σ τ : Kmem) : Prop := (σ 82 6 = τ 0 26 ∧ 0 ≤ τ 0 26 ∧ τ 0 26 ≤ 5) ∧ ∀ k, 0 ≤ k → k < τ 0 26 → σ 84 k = τ 10 k
def rLv (σ τ : Kmem) : Prop := (σ 78 0 = τ 0 40 ∧ (τ 0 40 = 0 ∨ τ 0 40 = 1)) ∧ (τ 0 40 = 1 → (σ 78 2 = τ 20 0 ∧ σ 78 3 = τ 20 1 ∧ σ 78 4 = τ 20 2) ∧ σ 78 5 = τ 20 3 ∧ σ 78 6 = τ 20 4 ∧ (τ 20 4 = 0 ∨ τ 20 4 = 1))
def R (σ τ : Kmem) : Prop := rCt σ 5 64 (τ 1) (τ 2) ∧ rMks σ τ ∧ rSt σ τ ∧ rTp σ τ ∧ rFa σ τ ∧ rTr σ τ ∧ rFl σ τ ∧ rLv σ τ ∧ nmR τ ∧ lpR (τ 18)
/-- what the class may change without saying so -/
def scX (x : Int) : Prop := (31 ≤ x ∧ x ≤ 63) ∨ (71 ≤ x ∧ x ≤ 77) ∨ (80 ≤ x ∧ x ≤ 83) ∨ (85 ≤ x ∧ x ≤ 95)
def fX (s σ : Kmem) : Prop := (∀ x, ¬ scX x → s x = σ x) ∧ s 82 6 = σ 82 6
theorem fX.refl {σ : Kmem} : fX σ σ := ⟨fun _ _ => rfl, rfl⟩
theorem fX.trans {s t u : Kmem} (h : fX s t) (g : fX t u) : fX s u := ⟨fun x a => (h.1 x a).trans (g.1 x a), h.2.trans g.2⟩
theorem fX_of {A : Int → Prop} {s σ : Kmem} (h : kfm A s σ) (g : ∀ x, A x → scX x ∧ x ≠ 82) : fX s σ := ⟨fun x a => h x (fun q => a (g x q).1), congrFun (h 82 (fun q => (g 82 q).2 rfl)) 6⟩
theorem fX_st {s σ : Kmem} {j y : Int} (h : fX s σ) : fX (kup s 0 j y) (kup σ 0 j y) := by
  refine ⟨fun x a => ?_, ?_⟩
  · funext k
    unfold kup
    split
    · rfl
    · exact congrFun (h.1 x a) k
  · rw [kup_o (by omega), kup_o (by omega)]; exact h.2
/-- what the reference may change without saying so -/
def fkM (j : Int) : Prop := j = 2 ∨ j = 3 ∨ j = 4 ∨ j = 10 ∨ j = 16 ∨ j = 17 ∨ j = 26 ∨ j = 40 ∨ j = 41
def scM (x : Int) : Prop := x = 0 ∨ x = 1 ∨ x = 8 ∨ x = 9 ∨ (11 ≤ x ∧ x ≤ 19)
def fM (t τ : Kmem) : Prop := (∀ j, 0 ≤ j → j < 2056 → t 1 j = τ 1 j) ∧ (∀ x, ¬ scM x → t x = τ x) ∧ (∀ j, fkM j → t 0 j = τ 0 j) ∧ (lpR (τ 18) → lpR (t 18))
theorem fM.refl {σ : Kmem} : fM σ σ := ⟨fun _ _ _ => rfl, fun _ _ => rfl, fun _ _ => rfl, id⟩
theorem fM.trans {s t u : Kmem} (h : fM s t) (g : fM t u) : fM s u := ⟨fun j a b => (h.1 j a b).trans (g.1 j a b), fun x a => (h.2.1 x a).trans (g.2.1 x a), fun j a => (h.2.2.1 j a).trans (g.2.2.1 j a), fun q => h.2.2.2 (g.2.2.2 q)⟩
theorem fM_st {s σ : Kmem} {j y : Int} (h : fM s σ) : fM (kup s 0 j y) (kup σ 0 j y) := by
  obtain ⟨h1, h2, h3, h4⟩ := h
  refine ⟨fun k a b => ?_, fun x a => ?_, fun k a => ?_, ?_⟩
  · rw [kup_o (by omega), kup_o (by omega)]; exact h1 k a b
  · have : x ≠ 0 := fun e => a (Or.inl e)
    rw [kup_o this, kup_o this]; exact h2 x a
  · unfold kup
    split
    · rfl
    · exact h3 k a
  · rw [kup_o (by omega), kup_o (by omega)]; exact h4
/-- by a cell that is of no account -/
theorem fM_kst {τ : Kmem} {x : Int} {f : Int → Int} (h : x = 8 ∨ x = 9 ∨ (11 ≤ x ∧ x ≤ 17) ∨ x = 19) : fM (kst τ x f) τ := by
  refine ⟨fun j _ _ => ?_, fun y a => ?_, fun j _ => ?_, ?_⟩
  · rw [kst_ne (by omega)]
  · exact kst_ne (fun e => a (by subst e; unfold scM; omega))
  · rw [kst_ne (by omega)]
  · rw [kst_ne (by omega)]; exact id
theorem fM_kst1 {τ : Kmem} {f : Int → Int} (h : ∀ j, 0 ≤ j → j < 2056 → f j = τ 1 j) : fM (kst τ 1 f) τ := by
  refine ⟨fun j a b => ?_, fun y a => ?_, fun j _ => ?_, ?_⟩
  · rw [kst_eq]; exact h j a b
  · exact kst_ne (fun e => a (by subst e; unfold scM; omega))
  · rw [kst_ne (by omega)]
  · rw [kst_ne (by omega)]; exact id
theorem nmB_fr {s σ : Kmem} {c n b : Int} {f : Int → Int} (h : nmB σ c n f b) (g : ∀ k, 0 ≤ k → k < n → s (c + k) = σ (c + k)) : nmB s c n f b := by
  intro k a b
  rw [g k a b]; exact h k a b
theorem rCt_fr {s σ : Kmem} {c d : Int} {v g : Int → Int} (h : rCt σ c d v g) (f1 : ∀ x, c ≤ x → x < c + 26 → s x = σ x) (f2 : ∀ x, d ≤ x → x < d + 6 → s x = σ x) : rCt s c d v g := by
  obtain ⟨h1, h2, h3, h4, h5⟩ := h
  have w1 := wf_h h1.1
  refine ⟨h1, kco_kfm (A := fun x => ¬ (c ≤ x ∧ x < c + 26)) h1.1 h2 (fun x q => ?_) (fun x a b q => q ⟨a, b⟩), kpr_kfm (A := fun x => ¬ (d ≤ x ∧ x < d + 6)) h3 (fun x q => ?_) (fun x a b q => q ⟨a, b⟩), nmB_fr h4 (fun k a b => f1 _ (by omega) (by omega)), nmB_fr h5 (fun k a b => f1 _ (by omega) (by omega))⟩
  · have : c ≤ x ∧ x < c + 26 := Classical.byContradiction q
    exact f1 x this.1 this.2
  · have : d ≤ x ∧ x < d + 6 := Classical.byContradiction q
    exact f2 x this.1 this.2
theorem adC_r {m : Int} (h : 0 ≤ m ∧ m < 3) : 106 ≤ adC m ∧ adC m + 26 ≤ adS m ∧ adS m + 7 ≤ 205 ∧ (adC m = 106 + 33 * m) ∧ adS m = 132 + 33 * m := by
  have hi : m = 0 ∨ m = 1 ∨ m = 2 := by omega
  rcases hi with rfl | rfl | rfl <;> decide
theorem adT_r {t : Int} (h : 0 ≤ t ∧ t < 4) : adT t = 98 + 2 * t := by
  have hi : t = 0 ∨ t = 1 ∨ t = 2 ∨ t = 3 := by omega
  rcases hi with rfl | rfl | rfl | rfl <;> decide
theorem R_fX {s σ τ : Kmem} (h : R σ τ) (f : fX s σ) : R s τ := by
  obtain ⟨h1, h2, h3, h4, h5, h6, h7, h8, h9⟩ := h
  have e : ∀ x, ¬ scX x → s x = σ x := f.1
  have n : ∀ x, ¬ scX x ∨ scX x := fun x => (Classical.em (scX x)).symm
  refine ⟨rCt_fr h1 (fun x a b => e x (by unfold scX; omega)) (fun x a b => e x (by unfold scX; omega)), ⟨?_, fun m a b => ?_⟩, ?_, ?_, ?_, ⟨h6.1, fun t a b => ?_⟩, ⟨?_, fun k a b => ?_⟩, ?_, h9⟩
  · rw [e 0 (by unfold scX; omega)]; exact h2.1
  · have h21 := h2.1
    have := adC_r (m := m) ⟨a, by omega⟩
    exact rCt_fr (h2.2 m a b) (fun x a b => e x (by unfold scX; omega)) (fun x a b => e x (by unfold scX; omega))
  · unfold rSt; rw [e 0 (by unfold scX; omega)]; exact h3
  · unfold rTp; rw [e 0 (by unfold scX; omega), e 2 (by unfold scX; omega)]; exact h4
  · unfold rFa; rw [e 3 (by unfold scX; omega)]; exact h5
  · have := adT_r (t := t) ⟨a, b⟩
    rw [e (adT t) (by unfold scX; omega), e (adT t + 1) (by unfold scX; omega)]; exact h6.2 t a b
  · rw [f.2]; exact h7.1
  · rw [e 84 (by unfold scX; omega)]; exact h7.2 k a b
  · unfold rLv; rw [e 78 (by unfold scX; omega)]; exact h8
theorem rCt_eq {σ : Kmem} {c d : Int} {u v f g : Int → Int} (h : rCt σ c d v g) (e : ∀ j, 0 ≤ j → j < 514 → u j = v j) (e2 : ∀ j, 0 ≤ j → j < 20 → f j = g j) : rCt σ c d u f := by
  obtain ⟨⟨w, p, h7⟩, h2, h3, h4, h5⟩ := h
  have w1 := wf_h w
  have pe : pEq u v := ⟨⟨e 8 (by omega) (by omega), e 2 (by omega) (by omega), e 3 (by omega) (by omega)⟩, fun j a b => e j (by omega) b⟩
  refine ⟨⟨wf_ext (fun j a b => e j a (by omega)) w, pwf_eq pe p, by rw [e 7 (by omega) (by omega)]; exact h7⟩, kco_ext w (fun j a b => e j a (by omega)) h2, kpr_eq h3 pe p.1.2, ?_, ?_⟩
  · rw [e 2 (by omega) (by omega)]
    intro k a b
    rw [e2 _ (by omega) (by omega)]; exact h4 k a b
  · rw [e 3 (by omega) (by omega)]
    intro k a b
    rw [e2 _ (by omega) (by omega)]; exact h5 k a b
theorem R_fM {t σ τ : Kmem} (h : R σ τ) (f : fM t τ) : R σ t := by
  obtain ⟨h1, h2, h3, h4, h5, h6, h7, h8, h9, h10⟩ := h
  obtain ⟨f1, f2, f3, f4⟩ := f
  have e : ∀ x, ¬ scM x → t x = τ x := f2
  have k : ∀ j, fkM j → t 0 j = τ 0 j := f3
  refine ⟨rCt_eq h1 (fun j a b => f1 j a (by omega)) (fun j _ _ => by rw [e 2 (by unfold scM; omega)]), ⟨?_, fun m a b => ?_⟩, ?_, ?_, ?_, ⟨?_, fun i a b => ?_⟩, ⟨?_, fun i a b => ?_⟩, ?_, ?_, f4 h10⟩
  · rw [k 41 (by unfold fkM; omega)]; exact h2.1
  · rw [k 41 (by unfold fkM; omega)] at b
    have := h2.1
    refine rCt_eq (h2.2 m a b) (fun j c d => f1 _ (by omega) (by omega)) (fun j _ _ => ?_)
    unfold rMn; rw [e 2 (by unfold scM; omega)]
  · unfold rSt; rw [k 2 (by unfold fkM; omega), k 3 (by unfold fkM; omega), k 4 (by unfold fkM; omega)]; exact h3
  · unfold rTp tpR at *; rw [k 10 (by unfold fkM; omega), e 6 (by unfold scM; omega), e 7 (by unfold scM; omega)]; exact h4
  · unfold rFa; rw [k 16 (by unfold fkM; omega), k 17 (by unfold fkM; omega)]; exact h5
  · have := h6.1; unfold rTm at *; rw [e 3 (by unfold scM; omega), e 4 (by unfold scM; omega), e 5 (by unfold scM; omega)]; exact this
  · rw [e 3 (by unfold scM; omega), e 4 (by unfold scM; omega), e 5 (by unfold scM; omega)]; exact h6.2 i a b
  · rw [k 26 (by unfold fkM; omega)]; exact h7.1
  · rw [k 26 (by unfold fkM; omega)] at b; rw [e 10 (by unfold scM; omega)]; exact h7.2 i a b
  · unfold rLv; rw [k 40 (by unfold fkM; omega), e 20 (by unfold scM; omega)]; exact h8
  · intro j a b; rw [e 2 (by unfold scM; omega)]; exact h9 j a b
theorem R_st {σ τ : Kmem} {w : Int} (h : R σ τ) (hw : rI w) : R (kup σ 0 0 w) (kup τ 0 2 w) := by
  obtain ⟨h1, h2, h3, h4, h5, h6, h7, h8, h9, h10⟩ := h
  have e : ∀ x, x ≠ 0 → (kup σ 0 0 w) x = σ x := fun x a => kup_o a
  have e2 : ∀ x, x ≠ 0 → (kup τ 0 2 w) x = τ x := fun x a => kup_o a
  have g : ∀ j, j ≠ 0 → (kup σ 0 0 w) 0 j = σ 0 j := fun j a => kup_j a
  have g2 : ∀ j, j ≠ 2 → (kup τ 0 2 w) 0 j = τ 0 j := fun j a => kup_j a
  refine ⟨?_, ⟨?_, fun m a b => ?_⟩, ?_, ?_, ?_, ⟨?_, fun i a b => ?_⟩, ⟨?_, fun i a b => ?_⟩, ?_, ?_, ?_⟩
  · rw [e2 1 (by omega), e2 2 (by omega)]; exact rCt_fr h1 (fun x a b => e x (by omega)) (fun x a b => e x (by omega))
  · rw [g2 41 (by omega), g 18 (by omega)]; exact h2.1
  · rw [g2 41 (by omega)] at b
    have := h2.1
    have q := adC_r (m := m) ⟨a, by omega⟩
    have z := h2.2 m a b
    unfold rMk rMn at *
    rw [e2 1 (by omega), e2 2 (by omega)]
    exact rCt_fr z (fun x a b => e x (by omega)) (fun x a b => e x (by omega))
  · obtain ⟨_, b, c⟩ := h3
    refine ⟨⟨by rw [kup_at, kup_at], by rw [kup_at]; exact hw⟩, ?_, ?_⟩
    · rw [g 1 (by omega), g2 3 (by omega)]; exact b
    · rw [g 2 (by omega), g2 4 (by omega)]; exact c
  · unfold rTp tpR at *; rw [g 5 (by omega), g2 10 (by omega), e 2 (by omega), e2 6 (by omega), e2 7 (by omega)]; exact h4
  · unfold rFa; rw [e 3 (by omega), g2 16 (by omega), g2 17 (by omega)]; exact h5
  · have := h6.1; unfold rTm at *; rw [e2 3 (by omega), e2 4 (by omega), e2 5 (by omega)]; exact this
  · have := adT_r (t := i) ⟨a, b⟩
    rw [e (adT i) (by omega), e (adT i + 1) (by omega), e2 3 (by omega), e2 4 (by omega), e2 5 (by omega)]; exact h6.2 i a b
  · rw [e 82 (by omega), g2 26 (by omega)]; exact h7.1
  · rw [g2 26 (by omega)] at b; rw [e 84 (by omega), e2 10 (by omega)]; exact h7.2 i a b
  · unfold rLv; rw [e 78 (by omega), g2 40 (by omega), e2 20 (by omega)]; exact h8
  · intro j a b; rw [e2 2 (by omega)]; exact h9 j a b
  · rw [e2 18 (by omega)]; exact h10
theorem R_pure {s σ t τ : Kmem} {w : Int} (h : R σ τ) (hw : rI w) (hx : fX s (kup σ 0 0 w)) (hm : fM t (kup τ 0 2 w)) : R s t := R_fM (R_fX (R_st h hw) hx) hm
/-- a call on both sides: they answer alike, and go on alike -/
def Op (G G' : Kg) (M M' : Km) (d d' : Nat) (as as' : List Value) (σ τ : Kmem) : Prop := ∃ Q Q' : Int → Kmem → Prop, Run G WX M d 0 0 as σ Q ∧ Run G' WM M' d' 0 0 as' τ Q' ∧ ∀ r s r' t, Q r s → Q' r' t → r = r' ∧ R s t
theorem Op_pure {G G' : Kg} {M M' : Km} {d d' : Nat} {as as' : List Value} {σ τ : Kmem} (a w : Int) (h : R σ τ) (hw : rI w) (hx : Run G WX M d 0 0 as σ (fun r s => r = a ∧ fX s (kup σ 0 0 w))) (hm : Run G' WM M' d' 0 0 as' τ (fun r t => r = a ∧ fM t (kup τ 0 2 w))) : Op G G' M M' d d' as as' σ τ :=
  ⟨_, _, hx, hm, fun _ _ _ _ x y => ⟨x.1.trans y.1.symm, R_pure h hw x.2 y.2⟩⟩
theorem R_w {σ τ : Kmem} (h : R σ τ) : wf (τ 1) ∧ kco σ 5 (τ 1) := ⟨h.1.1.1, h.1.2.1⟩
