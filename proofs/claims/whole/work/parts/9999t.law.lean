/-! THE LAW: its rules -/
def lK (G G' : Kg) (s : State) : Prop := (kTb G s ∧ kX G WX s s.heap) ∧ (kTb G' s ∧ kX G' WM s s.heap) ∧ G'.1 = G.1 ∧ s.heap.size ≤ G.2.1 ∧ G.2.1 + 205 ≤ G'.2.1
def lH (G G' : Kg) (σ τ : Kmem) (s : State) (H : Heap) : Prop := va_P G.2.2.1 vwCl (kWL G WX σ 205) H ∧ va_P G'.2.2.1 vwCl (kWL G' WM τ 21) H ∧ va_S (fun q : Nat => s.heap.size ≤ q) s.heap H []
/-- a place in the law, before its end with 1 -/
def Lx (G G' : Kg) (b L : Nat) (xs : Nat → Int32) (pc : Nat) (i : Int) (st : List Value) (σ τ : Kmem) : Prop :=
  ∀ (p : Program) (e : Env) (s : State) (m : MethodId) (below : List Frame) (meth : Method) (c : Code) (H : Heap) (la : Array Slot), lw_At p s m meth c b L xs → lK G G' s → lH G G' σ τ s H → lv_has la 4 [(0, .ref b), (1, vA G 0), (2, vA G' 0), (3, vI i)] →
    W p G.1 e room_1 s m #[Value.ref b] below meth c H [] 600000 7302250 (lw_Z below #[Value.ref b] s) (F0 m pc la st)
section
variable {G G' : Kg} {b L : Nat} {xs : Nat → Int32} {pc : Nat} {i : Int} {st : List Value} {σ τ : Kmem}
theorem L_a1 (hd : decode code pc = .ok (.aload_n 1, 1)) (kk : Lx G G' b L xs (pc + 1) i (vA G 0 :: st) σ τ) : Lx G G' b L xs pc i st σ τ := by
  intro p e s m below meth c H la C hK hH hl
  exact lv_aload_n C.1 C.2.1 hd rfl (lv_at hl 1 rfl) (kk p e s m below meth c H la C hK hH hl)
theorem L_a2 (hd : decode code pc = .ok (.aload_n 2, 1)) (kk : Lx G G' b L xs (pc + 1) i (vA G' 0 :: st) σ τ) : Lx G G' b L xs pc i st σ τ := by
  intro p e s m below meth c H la C hK hH hl
  exact lv_aload_n C.1 C.2.1 hd rfl (lv_at hl 2 rfl) (kk p e s m below meth c H la C hK hH hl)
/-- a call from the law: the callee's cells are its world, the rest stays -/
theorem L_run {Ga : Kg} {wa : Kw} {μ : Kmem} {M' : Km} {idx d' n : Nat} {as : List Value} {Q : Int → Kmem → Prop} {p : Program} {e : Env} {s : State} {m : MethodId} {below : List Frame} {meth : Method} {c : Code} {H : Heap} {la : Array Slot} {QQ : State → Prop}
    (C : lw_At p s m meth c b L xs) (hw : wa.2.2.1 = false) (hg : s.heap.size ≤ Ga.2.1) (hTb : kTb Ga s) (hX : kX Ga wa s s.heap) (hP : va_P Ga.2.2.1 vwCl (kWL Ga wa μ wa.2.2.2) H) (hS : va_S (fun q : Nat => s.heap.size ≤ q) s.heap H [])
    (hd : decode code pc = .ok (.invokevirtual idx, 3)) (hC : kCallV M' RL idx n) (ci : Nat) (hci : ci < 13) (hcn : M'.1.cls = kCn ci) (hsh : (wa.1 0).1 = ci) (h0 : 0 < wa.2.2.2) (hdd : d' ≤ 100) (hL : M'.2.2.1 ≤ 45) (hn : as.length = n) (hW : (st.map fun v => v.category).sum ≤ 8) (hla : la.size = 4)
    (hr : Run Ga wa M' d' 0 0 (vA Ga 0 :: as) μ Q)
    (kk : ∀ (r : Int) (μ' : Kmem) (H1 : Heap), Q r μ' → va_P Ga.2.2.1 vwCl (kWL Ga wa μ' wa.2.2.2) H1 → (∀ q : Nat, q < H.size → ¬ kA Ga wa q → H1[q]? = H[q]?) → va_S (fun q : Nat => s.heap.size ≤ q) s.heap H1 [] → W p Ga.1 e room_1 s m #[Value.ref b] below meth c H1 [] 600000 7302250 QQ (F0 m (pc + 3) la ((kRet Ga M'.2.2.2 r).toList ++ st))) :
    W p Ga.1 e room_1 s m #[Value.ref b] below meth c H [] 600000 7302250 QQ (F0 m pc la (as.reverse ++ vA Ga 0 :: st)) := by
  have hN : ∀ ν, kN wa ν = wa.2.2.2 := fun ν => by unfold kN; rw [hw]; rfl
  have hts : ∀ w ∈ kTbl, w.before #[Value.ref b] s = true := fun w hw => C.2.2.2.2.2.1 w (kTbl_good w hw).1
  have hA : ∀ q : Nat, kA Ga wa q → s.heap.size ≤ q := fun q h => Nat.le_trans hg h.1
  have hh : kHp Ga wa μ s H [] := ⟨by rw [hN]; exact hP, by rw [hN]; exact Nat.le_refl _, fun z => absurd z (by rw [hw]; decide), hS.1, fun q h1 _ => hS.2.1 q h1 (Nat.not_le.mpr h1), fun _ z => by cases z⟩
  have hB : CallB room_1 s #[Value.ref b] RL idx M'.1 M'.2.1 M'.2.2.1 M'.2.2.2 (Cond.code M'.1 M'.2.1 M'.2.2.1 M'.2.2.2 :: kTbl) (kRm d' 0 0) 0 0 n := by
    obtain ⟨h1, h2, ⟨h3, h4, h5⟩, h6⟩ := hC.1
    refine ⟨rfl, rfl, ?_, ?_, kWs_pay h1 hts, List.mem_cons_self, hts _ h1, hts _ h2, ⟨h3, h4⟩, fun sig h => ?_, hts _ h6⟩
    · show d' + 1 ≤ 2048
      omega
    · show 8 + (M'.2.2.1 + 11) + 64 * d' ≤ 84000
      omega
    · rw [h] at h5
      exact (Option.some.inj h5).symm
  have is0 : kIs wa μ 0 ci := ⟨Int.le_refl 0, by rw [hN]; exact h0, hsh⟩
  have run := va_runV (p := p) (e := e) (m := m) (below := below) (meth := meth) (c := c) (H := H) (locs := []) (cells := 600000) (slots := 7302250) (C := M'.1.cls) (b := kAd Ga 0) (As := as) (rest := st) (g := F0 m pc la (as.reverse ++ vA Ga 0 :: st)) ⟨C.1, C.2.1, C.2.2.2.1, C.2.2.2.2.1, hts⟩ hr ⟨hB, hts _ hC.2.1, hts _ hC.2.2⟩ ⟨kPc_blind, by
    rw [hcn]
    exact va_recv (q := (kCn ci, kCT ci, knf ci)) hTb.1 hP (kCl_at hci) (by have := kWL_obj (G := Ga) is0 (hN μ).symm (by omega); exact this), kPc_at hTb hX hh⟩ rfl hn hla rfl (lv_room hW) hd ⟨Nat.le_refl _, Nat.le_refl _⟩
  intro T hT X
  obtain ⟨v, st₀, t, T', Ls, e0, X', hLs, e1, e2, ⟨⟨r, μ', hv, hQ, hP1, -, -⟩, hz, hkp⟩, stp⟩ := run T hT X
  rw [e0] at hz hkp
  have hv' : v = kRet Ga M'.2.2.2 r := Outcome.returned.inj hv
  subst hv'
  rw [hN] at hP1
  have hS1 : va_S (fun q : Nat => s.heap.size ≤ q) s.heap T'.heap [] := by
    refine ⟨Nat.le_trans hS.1 (by rw [e1]; exact hz), fun q h1 h2 => ?_, fun _ z => by cases z⟩
    rw [e1, hkp q (Nat.lt_of_lt_of_le h1 hS.1) (fun z => h2 (hA q z))]
    exact hS.2.1 q h1 h2
  obtain ⟨t2, a1, b1⟩ := (va_forget (locs := [] ++ Ls) (fun q hq => hA q.base (hLs q hq)) (kk r μ' T'.heap hQ (by rw [e1]; exact hP1) (by rw [e1]; exact hkp) hS1)) T' rfl X'
  exact ⟨t2, stp t2 a1, b1⟩
theorem L_callX {M' : Km} {idx d' n : Nat} {as : List Value} {Q : Int → Kmem → Prop} (hd : decode code pc = .ok (.invokevirtual idx, 3)) (hC : kCallV M' RL idx n) (hcn : M'.1.cls = kCn 11) (hdd : d' ≤ 100) (hL : M'.2.2.1 ≤ 45) (hn : as.length = n) (stk : List Value) (hst : stk = as.reverse ++ vA G 0 :: st) (hW : (st.map fun v => v.category).sum ≤ 8)
    (hr : Run G WX M' d' 0 0 (vA G 0 :: as) σ Q) (kk : ∀ (r : Int) (σ' : Kmem), Q r σ' → Lx G G' b L xs (pc + 3) i ((kRet G M'.2.2.2 r).toList ++ st) σ' τ) : Lx G G' b L xs pc i stk σ τ := by
  subst hst
  intro p e s m below meth c H la C hK hH hl
  refine L_run C rfl hK.2.2.2.1 hK.1.1 hK.1.2 hH.1 hH.2.2 hd hC 11 (by decide) hcn rfl (by decide) hdd hL hn hW hl.1 hr (fun r σ' H1 hQ hP hk hS => ?_)
  refine kk r σ' hQ p e s m below meth c H1 la C hK ⟨hP, ?_, hS⟩ hl
  refine hH.2.1.kept (fun k x hx => hk x.1 ((hH.2.1 k x hx).lt) (fun z => ?_))
  obtain ⟨-, rfl⟩ := kWL_of hx
  have h5 := hK.2.2.2.2
  rcases z.2 with z2 | z2
  · cases z2
  · have : G'.2.1 + k < G.2.1 + 205 := z2
    omega
theorem L_callM {M' : Km} {idx d' n : Nat} {as : List Value} {Q : Int → Kmem → Prop} (hd : decode code pc = .ok (.invokevirtual idx, 3)) (hC : kCallV M' RL idx n) (hcn : M'.1.cls = kCn 12) (hdd : d' ≤ 100) (hL : M'.2.2.1 ≤ 45) (hn : as.length = n) (stk : List Value) (hst : stk = as.reverse ++ vA G' 0 :: st) (hW : (st.map fun v => v.category).sum ≤ 8)
    (hr : Run G' WM M' d' 0 0 (vA G' 0 :: as) τ Q) (kk : ∀ (r : Int) (τ' : Kmem), Q r τ' → Lx G G' b L xs (pc + 3) i ((kRet G' M'.2.2.2 r).toList ++ st) σ τ') : Lx G G' b L xs pc i stk σ τ := by
  subst hst
  intro p e s m below meth c H la C hK hH hl
  rw [← hK.2.2.1]
  refine L_run C rfl (by have := hK.2.2.2; omega) hK.2.1.1 hK.2.1.2 hH.2.1 hH.2.2 hd hC 12 (by decide) hcn rfl (by decide) hdd hL hn hW hl.1 hr (fun r τ' H1 hQ hP hk hS => ?_)
  rw [hK.2.2.1]
  refine kk r τ' hQ p e s m below meth c H1 la C hK ⟨?_, hP, hS⟩ hl
  refine hH.1.kept (fun k x hx => hk x.1 ((hH.1 k x hx).lt) (fun z => ?_))
  obtain ⟨hk2, rfl⟩ := kWL_of hx
  have h5 := hK.2.2.2.2
  have : G'.2.1 ≤ G.2.1 + k := z.1
  omega
def sxs (xs : Nat → Int32) (k : Int) : Int := (xs k.toNat).toInt
theorem sxs_r {k : Int} : rI (sxs xs k) := by
  unfold sxs
  have h1 := Int32.le_toInt (xs k.toNat)
  have h2 := Int32.toInt_le (xs k.toNat)
  constructor
  · simpa using h1
  · have e : Int32.maxValue.toInt = 2147483647 := by decide
    omega
theorem klor_r (a c : Int) : rL (klor a c) := by
  unfold klor
  generalize Int64.ofInt a ||| Int64.ofInt c = z
  have h1 := Int64.le_toInt z
  have h2 := Int64.toInt_le z
  have e1 : Int64.minValue.toInt = -9223372036854775808 := by decide
  have e : Int64.maxValue.toInt = 9223372036854775807 := by decide
  constructor <;> omega
theorem sxs_v {k : Int} (h : 0 ≤ k ∧ k < L) (hL : L ≤ 3072) : Value.int (xs (Int32.ofInt k).toNatClampNeg) = vI (sxs xs k) := by
  rw [knat h (by omega)]
  unfold sxs vI
  rw [i32_back]
theorem L_arg {j : Int} (h0 : decode code pc = .ok (.aload_n 0, 1)) (h1 : decode code (pc + 1) = .ok (.iload_n 3, 1)) (h2 : decode code (pc + 2) = .ok (.iconst j, 1)) (h3 : decode code (pc + 3) = .ok (.iadd, 1)) (h4 : decode code (pc + 4) = .ok (.iaload, 1)) (hL : L ≤ 3072) (hi : 0 ≤ i + j ∧ i + j < L) (kk : Lx G G' b L xs (pc + 5) i (vI (sxs xs (i + j)) :: st) σ τ) : Lx G G' b L xs pc i st σ τ := by
  intro p e s m below meth c H la C hK hH hl
  have q := kk p e s m below meth c H la C hK hH hl
  have hx := C.1
  have hb := C.2.1
  refine lv_aload_n hx hb h0 rfl (lv_at hl 0 rfl) ?_
  refine lv_iload_n hx hb h1 rfl (lv_at hl 3 rfl) ?_
  refine lv_iconst (v := Int32.ofInt j) hx hb h2 rfl ?_
  refine lv_iadd hx hb h3 ?_
  rw [i32_add]
  refine va_sld hx hb C.2.2.2.2.2.2.1 C.2.2.2.2.2.2.2.1 (Nat.not_le.mpr C.2.2.2.2.2.2.2.1) hH.2.2 (kin hi (by omega)) h4 ?_
  rw [sxs_v hi hL]
  exact q
theorem L_op0 (h0 : decode code pc = .ok (.aload_n 0, 1)) (h1 : decode code (pc + 1) = .ok (.iload_n 3, 1)) (h4 : decode code (pc + 2) = .ok (.iaload, 1)) (h5 : decode code (pc + 3) = .ok (.bipush 63, 2)) (h6 : decode code (pc + 5) = .ok (.iand, 1)) (hL : L ≤ 3072) (hi : 0 ≤ i ∧ i < L) (kk : Lx G G' b L xs (pc + 6) i (vI (kand (sxs xs i) 63) :: st) σ τ) : Lx G G' b L xs pc i st σ τ := by
  intro p e s m below meth c H la C hK hH hl
  have q := kk p e s m below meth c H la C hK hH hl
  have hx := C.1
  have hb := C.2.1
  refine lv_aload_n hx hb h0 rfl (lv_at hl 0 rfl) ?_
  refine lv_iload_n hx hb h1 rfl (lv_at hl 3 rfl) ?_
  refine va_sld hx hb C.2.2.2.2.2.2.1 C.2.2.2.2.2.2.2.1 (Nat.not_le.mpr C.2.2.2.2.2.2.2.1) hH.2.2 (kin hi (by omega)) h4 ?_
  rw [sxs_v hi hL]
  refine lv_bipush (v := Int32.ofInt 63) hx hb h5 (by decide) ?_
  rw [vI, kand, i32_back] at q
  exact lv_iand hx hb h6 q
theorem L_tableIn {dflt lo hi : Int} {offs : Array Int} {len : Nat} {a off : Int} (tgt : Nat) (hd : decode code pc = .ok (.tableswitch dflt lo hi offs, len)) (ha : rI a) (h1 : lo ≤ a) (h2 : a ≤ hi) (ho : offs[(a - lo).toNat]? = some off) (ht : (pc : Int) + off = (tgt : Int)) (kk : Lx G G' b L xs tgt i st σ τ) : Lx G G' b L xs pc i (vI a :: st) σ τ := by
  intro p e s m below meth c H la C hK hH hl
  have e0 := i32_to ha.1 ha.2
  exact lv_tableIn C.1 C.2.1 hd (by rw [e0]; omega) (by rw [e0]; omega) (by rw [e0]; exact ho) ht (kk p e s m below meth c H la C hK hH hl)
theorem L_tableOut {dflt lo hi : Int} {offs : Array Int} {len : Nat} {a : Int} (tgt : Nat) (hd : decode code pc = .ok (.tableswitch dflt lo hi offs, len)) (ha : rI a) (h1 : a < lo ∨ hi < a) (ht : (pc : Int) + dflt = (tgt : Int)) (kk : Lx G G' b L xs tgt i st σ τ) : Lx G G' b L xs pc i (vI a :: st) σ τ := by
  intro p e s m below meth c H la C hK hH hl
  have e0 := i32_to ha.1 ha.2
  exact lv_tableOut C.1 C.2.1 hd (by rw [e0]; exact h1) ht (kk p e s m below meth c H la C hK hH hl)
theorem L_i2l {a : Int} (hd : decode code pc = .ok (.i2l, 1)) (ha : rI a) (kk : Lx G G' b L xs (pc + 1) i (vL a :: st) σ τ) : Lx G G' b L xs pc i (vI a :: st) σ τ := by
  intro p e s m below meth c H la C hK hH hl
  exact lv_i2l C.1 C.2.1 hd (i2l_of ha) (kk p e s m below meth c H la C hK hH hl)
theorem L_bipush {n : Int} (hd : decode code pc = .ok (.bipush n, 2)) (hv : (Int8.ofInt n).toInt32 = Int32.ofInt n) (kk : Lx G G' b L xs (pc + 2) i (vI n :: st) σ τ) : Lx G G' b L xs pc i st σ τ := by
  intro p e s m below meth c H la C hK hH hl
  exact lv_bipush C.1 C.2.1 hd hv (kk p e s m below meth c H la C hK hH hl)
theorem L_ldc2 {idx : Nat} (k : Int) (hw : Cond.constantLong RL idx (Int64.ofInt k) ∈ kTbl) (hd : decode code pc = .ok (.ldc2_w idx, 3)) (kk : Lx G G' b L xs (pc + 3) i (vL k :: st) σ τ) : Lx G G' b L xs pc i st σ τ := by
  intro p e s m below meth c H la C hK hH hl
  exact lv_ldc2 C.1 C.2.1 C.2.2.2.2.1 (C.2.2.2.2.2.1 _ (kTbl_good _ hw).1) hd (kk p e s m below meth c H la C hK hH hl)
theorem L_lshl {x y : Int} (hd : decode code pc = .ok (.lshl, 1)) (kk : Lx G G' b L xs (pc + 1) i (vL (klshl x y) :: st) σ τ) : Lx G G' b L xs pc i (vI y :: vL x :: st) σ τ := by
  intro p e s m below meth c H la C hK hH hl
  exact lv_lshl C.1 C.2.1 hd (i64_back _).symm (kk p e s m below meth c H la C hK hH hl)
theorem L_land {x y : Int} (hd : decode code pc = .ok (.land, 1)) (kk : Lx G G' b L xs (pc + 1) i (vL (kland x y) :: st) σ τ) : Lx G G' b L xs pc i (vL y :: vL x :: st) σ τ := by
  intro p e s m below meth c H la C hK hH hl
  have q := kk p e s m below meth c H la C hK hH hl
  rw [vL, kland, i64_back] at q
  exact lv_land C.1 C.2.1 hd q
theorem L_lor {x y : Int} (hd : decode code pc = .ok (.lor, 1)) (kk : Lx G G' b L xs (pc + 1) i (vL (klor x y) :: st) σ τ) : Lx G G' b L xs pc i (vL y :: vL x :: st) σ τ := by
  intro p e s m below meth c H la C hK hH hl
  have q := kk p e s m below meth c H la C hK hH hl
  rw [vL, klor, i64_back] at q
  exact lv_lor C.1 C.2.1 hd q
/-- x != 0, as a truth value -/
theorem L_ne0 {a o1 o2 : Int} (h0 : decode code pc = .ok (.ifCond .eq o1, 3)) (h1 : decode code (pc + 3) = .ok (.iconst 1, 1)) (h2 : decode code (pc + 4) = .ok (.goto o2, 3)) (h3 : decode code (pc + 7) = .ok (.iconst 0, 1)) (t1 : (pc : Int) + o1 = ((pc + 7 : Nat) : Int)) (t2 : ((pc + 4 : Nat) : Int) + o2 = ((pc + 8 : Nat) : Int)) (ha : rI a) (kk : Lx G G' b L xs (pc + 8) i (vI (kb (a ≠ 0)) :: st) σ τ) : Lx G G' b L xs pc i (vI a :: st) σ τ := by
  intro p e s m below meth c H la C hK hH hl
  have q := kk p e s m below meth c H la C hK hH hl
  have hx := C.1
  have hb := C.2.1
  refine lv_if_eq hx hb h0 t1 (fun z => ?_) (fun z => ?_)
  · have z := (i32_eq ha rI_0).mp z
    refine lv_iconst (v := Int32.ofInt 0) hx hb h3 rfl ?_
    rw [kb_0 (fun n => n z)] at q
    exact q
  · have z : a ≠ 0 := fun y => z ((i32_eq ha rI_0).mpr y)
    refine lv_iconst (v := Int32.ofInt 1) hx hb h1 rfl ?_
    refine lv_goto hx hb h2 t2 ?_
    rw [kb_1 z] at q
    exact q
theorem L_ieq {v : Int} {o : Int} (tgt : Nat) (hd : decode code pc = .ok (.if_icmp .eq o, 3)) (ht : (pc : Int) + o = (tgt : Int)) (kk : Lx G G' b L xs tgt i st σ τ) : Lx G G' b L xs pc i (vI v :: vI v :: st) σ τ := by
  intro p e s m below meth c H la C hK hH hl
  exact lv_icmp_eq C.1 C.2.1 hd ht (fun _ => kk p e s m below meth c H la C hK hH hl) (fun z => absurd rfl z)
theorem L_leq {v : Int} {o : Int} (tgt : Nat) (hc : decode code pc = .ok (.lcmp, 1)) (hd : decode code (pc + 1) = .ok (.ifCond .eq o, 3)) (ht : ((pc + 1 : Nat) : Int) + o = (tgt : Int)) (kk : Lx G G' b L xs tgt i st σ τ) : Lx G G' b L xs pc i (vL v :: vL v :: st) σ τ := by
  intro p e s m below meth c H la C hK hH hl
  refine W.lcmp C.1 C.2.1 hc ?_
  have ez : lg_cmp (Int64.ofInt v) (Int64.ofInt v) = 0 := by
    unfold lg_cmp
    simp
  rw [ez]
  exact lv_if_eq C.1 C.2.1 hd ht (fun _ => kk p e s m below meth c H la C hK hH hl) (fun z => absurd rfl z)
end
