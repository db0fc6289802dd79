section
variable {G : Kg} {w : Kw} {M : Km} {d mc ms pc : Nat} {ls : List (Nat × Value)} {st : List Value} {σ : Kmem} {Q : Int → Kmem → Prop}
/-! System.arraycopy -/
/-- n cells of row a from place sp come to row b from place dp on -/
def kcpy (σ : Kmem) (a sp b dp n : Int) : Kmem := fun x k => if x = b ∧ dp ≤ k ∧ k < dp + n then σ a (sp + (k - dp)) else σ x k
theorem kcpy_N {a sp b dp n : Int} (hb : 0 ≤ b) : kN w (kcpy σ a sp b dp n) = kN w σ := by
  have e : kcpy σ a sp b dp n (-7) 0 = σ (-7) 0 := if_neg (by omega)
  unfold kN
  rw [e]
theorem kcpyRef {a sp b dp n : Int} (hw : ∀ (τ : Kmem), (∀ x k : Nat, kRef w x k → τ x k = σ x k) → ∀ x k : Nat, kRef w x k → w.2.1 τ x k = w.2.1 σ x k) (hnr : ∀ k : Nat, ¬ kRef w b.toNat k) : ∀ x k : Nat, kRef w x k → w.2.1 (kcpy σ a sp b dp n) x k = w.2.1 σ x k := by
  refine hw _ fun x k hr => ?_
  unfold kcpy
  refine if_neg fun q => hnr k ?_
  rwa [show b.toNat = x by omega]
/-- readers look at reference slots alone -/
def kRd (w : Kw) : Prop := ∀ (σ τ : Kmem), (∀ x k : Nat, kRef w x k → τ x k = σ x k) → ∀ x k : Nat, kRef w x k → w.2.1 τ x k = w.2.1 σ x k
theorem WX_rd : kRd WX := by
  intro σ τ h x k hr
  show rfX τ x k = rfX σ x k
  unfold rfX
  split
  · rename_i e
    have e1 : x = 58 := by omega
    have e2 : k = 0 := by omega
    subst e1; subst e2
    exact h 58 0 (Or.inl ⟨by decide, by decide⟩)
  · rfl
theorem WM_rd : kRd WM := fun σ τ h x k hr => rfl
theorem i32_nl {a : Int} (h : 0 ≤ a ∧ a < 2147483648) : ¬ Int32.ofInt a < 0 := by
  rw [i32_0, i32_lt ⟨by omega, by omega⟩ (by decide)]
  omega
theorem i32_nt {a : Int} (h : 0 ≤ a ∧ a < 2147483648) : (Int32.ofInt a).toNatClampNeg = a.toNat := by
  show (Int32.ofInt a).toInt.toNat = a.toNat
  rw [i32_to (by omega) (by omega)]
theorem R_copyI {a b sp dp n : Int} {idx : Nat} (l1 l2 : Nat) (hgr : w.2.2.1 = false := by rfl) (hrd : kRd w := by first | exact WX_rd | exact WM_rd) (hd : decode M.2.1 pc = .ok (.invokestatic idx, 3)) (ha : kAr w σ a 20 l1) (hb : kAr w σ b 20 l2) (h0 : (0 ≤ sp ∧ 0 ≤ dp ∧ 0 ≤ n) ∧ sp + n ≤ l1 ∧ dp + n ≤ l2) (hl : Cond.methodLink M.1.cls idx arraycopyName ∈ kTbl) (hdd : 1 ≤ d) (hW : (st.map fun v => v.category).sum ≤ 8) (kk : Ex G w M d mc ms (pc + 3) ls st (kcpy σ a sp b dp n) Q) : Ex G w M d mc ms pc ls (vI n :: vI dp :: vA G b :: vI sp :: vA G a :: st) σ Q := by
  intro p e s m args below meth c H locs cells slots MC MS la F h L hc hs
  have hts := F.2.2.2.2.2.2.1
  have hea := kWL_arr (G := G) ha rfl (by omega)
  have heb := kWL_arr (G := G) hb rfl (by omega)
  rw [kArC_i (by omega)] at hea heb
  have r1 := ha.2.2
  have r2 := hb.2.2
  have hloc : (st.map fun v => v.category).sum + (nativeFrameWords "java/lang/System" "arraycopy" 5 + 11) ≤ (kRm d MC MS).locals := by
    have e0 : nativeFrameWords "java/lang/System" "arraycopy" 5 + 11 ≤ 56 := by decide +kernel
    show _ ≤ 64 * d
    omega
  refine va_copyi (D := G.2.2.1) F.1 F.2.1 (F.2.2.1.trans L.1.symm) F.2.2.2.2.2.1 (hts _ hl) (hts _ l_cp_nat) (hts _ l_cp_st) (hts _ l_cp_in) F.2.2.2.2.2.2.2.1.1 h.1 (kWL_D h.2.1) h.2.2.2 a.toNat b.toNat 0 0 hea heb (kTys_at (G := G) (i := 0) (by omega)) (kTys_at (G := G) (i := 0) (by omega)) rfl (sp := Int32.ofInt sp) (dp := Int32.ofInt dp) (n := Int32.ofInt n) (i32_nl (a := sp) ⟨h0.1.1, by omega⟩) (i32_nl (a := dp) ⟨h0.1.2.1, by omega⟩) (i32_nl (a := n) ⟨h0.1.2.2, by omega⟩) (by rw [i32_nt (a := sp) ⟨h0.1.1, by omega⟩, i32_nt (a := n) ⟨h0.1.2.2, by omega⟩]; omega) (by rw [i32_nt (a := dp) ⟨h0.1.2.1, by omega⟩, i32_nt (a := n) ⟨h0.1.2.2, by omega⟩]; omega) (fun i hi => rfl) hdd hloc hd fun H1 locs1 hP hD hS => ?_
  have hnr : ∀ k : Nat, ¬ kRef w b.toNat k := fun k q => by
    rcases q with ⟨q, -⟩ | q <;> (rw [hb.1.2.2] at q; omega)
  have hr := kcpyRef (σ := σ) (a := a) (sp := sp) (dp := dp) (n := n) (hrd σ) hnr
  rw [i32_nt (a := sp) ⟨h0.1.1, by omega⟩, i32_nt (a := dp) ⟨h0.1.2.1, by omega⟩, i32_nt (a := n) ⟨h0.1.2.2, by omega⟩, kSetArr (G := G) (σ' := kcpy σ a sp b dp n) hb (by omega) (fun x k hx => by unfold kcpy; exact if_neg (fun q => hx (by omega))) (fun x k _ hk => hr x k hk) ?_] at hP
  · exact kk p e s m args below meth c H1 locs1 cells slots MC MS la F ⟨by rw [kcpy_N hb.1.1]; exact hP, by rw [kcpy_N hb.1.1]; exact h.2.1, by rw [hgr]; intro z; (cases z), hS⟩ L hc hs
  · rw [kArC_i (by omega)]
    congr 1
    funext k
    unfold va_cpy kcpy
    have hb0 := kto hb.1.1
    have ha0 := kto ha.1.1
    by_cases hk : dp.toNat ≤ k ∧ k < dp.toNat + n.toNat
    · rw [if_pos hk, if_pos ⟨by omega, by omega, by omega⟩, ha0]
      congr 2
      omega
    · rw [if_neg hk, if_neg (fun q => hk (by omega))]
theorem R_copyB {a b sp dp n : Int} {idx : Nat} (l1 l2 : Nat) (hgr : w.2.2.1 = false := by rfl) (hrd : kRd w := by first | exact WX_rd | exact WM_rd) (hd : decode M.2.1 pc = .ok (.invokestatic idx, 3)) (ha : kAr w σ a 22 l1) (hb : kAr w σ b 22 l2) (h0 : (0 ≤ sp ∧ 0 ≤ dp ∧ 0 ≤ n) ∧ sp + n ≤ l1 ∧ dp + n ≤ l2) (hby : ∀ k : Int, sp ≤ k → k < sp + n → -128 ≤ σ a k ∧ σ a k ≤ 127) (hl : Cond.methodLink M.1.cls idx arraycopyName ∈ kTbl) (hdd : 1 ≤ d) (hW : (st.map fun v => v.category).sum ≤ 8) (kk : Ex G w M d mc ms (pc + 3) ls st (kcpy σ a sp b dp n) Q) : Ex G w M d mc ms pc ls (vI n :: vI dp :: vA G b :: vI sp :: vA G a :: st) σ Q := by
  intro p e s m args below meth c H locs cells slots MC MS la F h L hc hs
  have hts := F.2.2.2.2.2.2.1
  have hea := kWL_arr (G := G) ha rfl (by omega)
  have heb := kWL_arr (G := G) hb rfl (by omega)
  rw [kArC_i (by omega)] at hea heb
  have r1 := ha.2.2
  have r2 := hb.2.2
  have hloc : (st.map fun v => v.category).sum + (nativeFrameWords "java/lang/System" "arraycopy" 5 + 11) ≤ (kRm d MC MS).locals := by
    have e0 : nativeFrameWords "java/lang/System" "arraycopy" 5 + 11 ≤ 56 := by decide +kernel
    show _ ≤ 64 * d
    omega
  have hfit : ∀ v : Int, -128 ≤ v ∧ v ≤ 127 → fits .byte (.int (Int32.ofInt v)) = true := by
    intro v hv
    have h1 : v = ((v + 128).toNat : Int) - 128 := by omega
    have h2 : (v + 128).toNat < 256 := by omega
    rw [h1]
    revert h2
    generalize (v + 128).toNat = k
    revert k
    decide +kernel
  refine va_copyi (D := G.2.2.1) F.1 F.2.1 (F.2.2.1.trans L.1.symm) F.2.2.2.2.2.1 (hts _ hl) (hts _ l_cp_nat) (hts _ l_cp_st) (hts _ l_cp_in) F.2.2.2.2.2.2.2.1.1 h.1 (kWL_D h.2.1) h.2.2.2 a.toNat b.toNat 2 2 hea heb (kTys_at (G := G) (i := 2) (by omega)) (kTys_at (G := G) (i := 2) (by omega)) rfl (sp := Int32.ofInt sp) (dp := Int32.ofInt dp) (n := Int32.ofInt n) (i32_nl (a := sp) ⟨h0.1.1, by omega⟩) (i32_nl (a := dp) ⟨h0.1.2.1, by omega⟩) (i32_nl (a := n) ⟨h0.1.2.2, by omega⟩) (by rw [i32_nt (a := sp) ⟨h0.1.1, by omega⟩, i32_nt (a := n) ⟨h0.1.2.2, by omega⟩]; omega) (by rw [i32_nt (a := dp) ⟨h0.1.2.1, by omega⟩, i32_nt (a := n) ⟨h0.1.2.2, by omega⟩]; omega) (fun i hi => ?_) hdd hloc hd fun H1 locs1 hP hD hS => ?_
  · rw [i32_nt (a := n) ⟨h0.1.2.2, by omega⟩] at hi
    rw [i32_nt (a := sp) ⟨h0.1.1, by omega⟩]
    refine hfit _ ?_
    rw [kto ha.1.1]
    exact hby _ (by omega) (by omega)
  have hnr : ∀ k : Nat, ¬ kRef w b.toNat k := fun k q => by
    rcases q with ⟨q, -⟩ | q <;> (rw [hb.1.2.2] at q; omega)
  have hr := kcpyRef (σ := σ) (a := a) (sp := sp) (dp := dp) (n := n) (hrd σ) hnr
  rw [i32_nt (a := sp) ⟨h0.1.1, by omega⟩, i32_nt (a := dp) ⟨h0.1.2.1, by omega⟩, i32_nt (a := n) ⟨h0.1.2.2, by omega⟩, kSetArr (G := G) (σ' := kcpy σ a sp b dp n) hb (by omega) (fun x k hx => by unfold kcpy; exact if_neg (fun q => hx (by omega))) (fun x k _ hk => hr x k hk) ?_] at hP
  · exact kk p e s m args below meth c H1 locs1 cells slots MC MS la F ⟨by rw [kcpy_N hb.1.1]; exact hP, by rw [kcpy_N hb.1.1]; exact h.2.1, by rw [hgr]; intro z; (cases z), hS⟩ L hc hs
  · rw [kArC_i (by omega)]
    congr 1
    funext k
    unfold va_cpy kcpy
    have hb0 := kto hb.1.1
    have ha0 := kto ha.1.1
    by_cases hk : dp.toNat ≤ k ∧ k < dp.toNat + n.toNat
    · rw [if_pos hk, if_pos ⟨by omega, by omega, by omega⟩, ha0]
      congr 2
      omega
    · rw [if_neg hk, if_neg (fun q => hk (by omega))]
theorem R_copyL {a b sp dp n : Int} {idx : Nat} (l1 l2 : Nat) (hgr : w.2.2.1 = false := by rfl) (hrd : kRd w := by first | exact WX_rd | exact WM_rd) (hd : decode M.2.1 pc = .ok (.invokestatic idx, 3)) (ha : kAr w σ a 21 l1) (hb : kAr w σ b 21 l2) (h0 : (0 ≤ sp ∧ 0 ≤ dp ∧ 0 ≤ n) ∧ sp + n ≤ l1 ∧ dp + n ≤ l2) (hl : Cond.methodLink M.1.cls idx arraycopyName ∈ kTbl) (hdd : 1 ≤ d) (hW : (st.map fun v => v.category).sum ≤ 8) (kk : Ex G w M d mc ms (pc + 3) ls st (kcpy σ a sp b dp n) Q) : Ex G w M d mc ms pc ls (vI n :: vI dp :: vA G b :: vI sp :: vA G a :: st) σ Q := by
  intro p e s m args below meth c H locs cells slots MC MS la F h L hc hs
  have hts := F.2.2.2.2.2.2.1
  have hea := kWL_arr (G := G) ha rfl (by omega)
  have heb := kWL_arr (G := G) hb rfl (by omega)
  rw [kArC_l] at hea heb
  have r1 := ha.2.2
  have r2 := hb.2.2
  have hloc : (st.map fun v => v.category).sum + (nativeFrameWords "java/lang/System" "arraycopy" 5 + 11) ≤ (kRm d MC MS).locals := by
    have e0 : nativeFrameWords "java/lang/System" "arraycopy" 5 + 11 ≤ 56 := by decide +kernel
    show _ ≤ 64 * d
    omega
  refine va_copyl (D := G.2.2.1) F.1 F.2.1 (F.2.2.1.trans L.1.symm) F.2.2.2.2.2.1 (hts _ hl) (hts _ l_cp_nat) (hts _ l_cp_st) (hts _ l_cp_in) F.2.2.2.2.2.2.2.1.1 h.1 (kWL_D h.2.1) h.2.2.2 a.toNat b.toNat 1 1 hea heb (kTys_at (G := G) (i := 1) (by omega)) (kTys_at (G := G) (i := 1) (by omega)) rfl (sp := Int32.ofInt sp) (dp := Int32.ofInt dp) (n := Int32.ofInt n) (i32_nl (a := sp) ⟨h0.1.1, by omega⟩) (i32_nl (a := dp) ⟨h0.1.2.1, by omega⟩) (i32_nl (a := n) ⟨h0.1.2.2, by omega⟩) (by rw [i32_nt (a := sp) ⟨h0.1.1, by omega⟩, i32_nt (a := n) ⟨h0.1.2.2, by omega⟩]; omega) (by rw [i32_nt (a := dp) ⟨h0.1.2.1, by omega⟩, i32_nt (a := n) ⟨h0.1.2.2, by omega⟩]; omega) (fun i hi => rfl) hdd hloc hd fun H1 locs1 hP hD hS => ?_
  have hnr : ∀ k : Nat, ¬ kRef w b.toNat k := fun k q => by
    rcases q with ⟨q, -⟩ | q <;> (rw [hb.1.2.2] at q; omega)
  have hr := kcpyRef (σ := σ) (a := a) (sp := sp) (dp := dp) (n := n) (hrd σ) hnr
  rw [i32_nt (a := sp) ⟨h0.1.1, by omega⟩, i32_nt (a := dp) ⟨h0.1.2.1, by omega⟩, i32_nt (a := n) ⟨h0.1.2.2, by omega⟩, kSetArr (G := G) (σ' := kcpy σ a sp b dp n) hb (by omega) (fun x k hx => by unfold kcpy; exact if_neg (fun q => hx (by omega))) (fun x k _ hk => hr x k hk) ?_] at hP
  · exact kk p e s m args below meth c H1 locs1 cells slots MC MS la F ⟨by rw [kcpy_N hb.1.1]; exact hP, by rw [kcpy_N hb.1.1]; exact h.2.1, by rw [hgr]; intro z; (cases z), hS⟩ L hc hs
  · rw [kArC_l]
    congr 2
    funext k
    unfold va_cpy kcpy
    have hb0 := kto hb.1.1
    have ha0 := kto ha.1.1
    by_cases hk : dp.toNat ≤ k ∧ k < dp.toNat + n.toNat
    · rw [if_pos hk, if_pos ⟨by omega, by omega, by omega⟩, ha0]
      congr 2
      omega
    · rw [if_neg hk, if_neg (fun q => hk (by omega))]
end
