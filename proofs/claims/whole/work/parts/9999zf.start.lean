/-! THE LAW, FROM ITS ENTRY -/
theorem L_init {Ga : Kg} {wa : Kw} {μ : Kmem} {M' : Km} {idx d' mc' ms' cells slots pc b L : Nat} {xs : Nat → Int32} {st : List Value} {Q : Int → Kmem → Prop} {p : Program} {e : Env} {s : State} {m : MethodId} {below : List Frame} {meth : Method} {c : Code} {H : Heap} {la : Array Slot} {QQ : State → Prop}
    (C : lw_At p s m meth c b L xs) (hg : s.heap.size ≤ Ga.2.1) (hTb : kTb Ga s) (hX : kX Ga wa s s.heap) (hh : kHp Ga wa μ s H []) (hd : decode code pc = .ok (.invokespecial idx, 3)) (hC : kCallI M' RL idx 0) (hdd : d' ≤ 100) (hL : M'.2.2.1 ≤ 45) (hW : (st.map fun v => v.category).sum ≤ 8) (hla : la.size = 4) (hc1 : cells + mc' ≤ 600000) (hc2 : slots + ms' ≤ 7302250)
    (hr : Run Ga wa M' d' mc' ms' [vA Ga 0] μ Q)
    (kk : ∀ (r : Int) (μ' : Kmem) (H1 : Heap), Q r μ' → kHp Ga wa μ' s H1 [] → (∀ q : Nat, q < H.size → ¬ kA Ga wa q → H1[q]? = H[q]?) → W p Ga.1 e room_1 s m #[Value.ref b] below meth c H1 [] (cells + mc') (slots + ms') QQ (F0 m (pc + 3) la st)) :
    W p Ga.1 e room_1 s m #[Value.ref b] below meth c H [] cells slots QQ (F0 m pc la (vA Ga 0 :: st)) := by
  have hts : ∀ w ∈ kTbl, w.before #[Value.ref b] s = true := fun w hw => C.2.2.2.2.2.1 w (kTbl_good w hw).1
  have hA : ∀ q : Nat, kA Ga wa q → s.heap.size ≤ q := fun q h => Nat.le_trans hg h.1
  have hret := hC.2.2.2
  have hB : CallB room_1 s #[Value.ref b] RL idx M'.1 M'.2.1 M'.2.2.1 M'.2.2.2 (Cond.code M'.1 M'.2.1 M'.2.2.1 M'.2.2.2 :: kTbl) (kRm d' mc' ms') mc' ms' 0 := by
    obtain ⟨h1, h2, ⟨h3, h4, h5⟩, h6⟩ := hC.1
    refine ⟨rfl, rfl, ?_, ?_, kWs_pay h1 hts, List.mem_cons_self, hts _ h1, hts _ h2, ⟨h3, h4⟩, fun sig h => ?_, hts _ h6⟩
    · show d' + 1 ≤ 2048
      omega
    · show 8 + (M'.2.2.1 + 11) + 64 * d' ≤ 84000
      omega
    · rw [h] at h5
      exact (Option.some.inj h5).symm
  unfold Run at hr
  rw [hret] at hB hr
  have run := va_runI (p := p) (e := e) (m := m) (below := below) (meth := meth) (c := c) (H := H) (locs := []) (cells := cells) (slots := slots) (b := kAd Ga 0) (As := []) (rest := st) (g := F0 m pc la (vA Ga 0 :: st)) ⟨C.1, C.2.1, C.2.2.2.1, C.2.2.2.2.1, hts⟩ hr ⟨hB, hC.2.2.1, hts _ hC.2.1⟩ ⟨kPc_blind, kPc_at hTb hX hh⟩ rfl rfl hla rfl (lv_room hW) hd ⟨hc1, hc2⟩
  intro T hT X
  obtain ⟨v, st₀, t, T', Ls, e0, X', hLs, e1, e2, ⟨⟨r, μ', hv, hQ, hP1, hcap, hgr⟩, hz, hkp⟩, stp⟩ := run T hT X
  rw [e0] at hz hkp
  have hv' : v = none := Outcome.returned.inj hv
  subst hv'
  have hS1 : va_S (kA Ga wa) s.heap T'.heap [] := by
    refine ⟨Nat.le_trans hh.2.2.2.1 (by rw [e1]; exact hz), fun q h1 h2 => ?_, fun _ z => by cases z⟩
    rw [e1, hkp q (Nat.lt_of_lt_of_le h1 hh.2.2.2.1) h2]
    exact hh.2.2.2.2.1 q h1 h2
  obtain ⟨t2, a1, b1⟩ := (va_forget (locs := [] ++ Ls) (fun q hq => hA q.base (hLs q hq)) (kk r μ' T'.heap hQ ⟨by rw [e1]; exact hP1, hcap, by rw [e1]; exact hgr, hS1⟩ (by rw [e1]; exact hkp))) T' rfl X'
  exact ⟨t2, stp t2 a1, b1⟩
theorem start_law {G G' : Kg} {b L : Nat} {xs : Nat → Int32} {p : Program} {e : Env} {s : State} {m : MethodId} {below : List Frame} {meth : Method} {c : Code} {la : Array Slot} (hL : L ≤ 3072) (C : lw_At p s m meth c b L xs) (g1 : G.2.1 = s.heap.size) (g2 : G'.2.1 = s.heap.size + 205) (g3 : G'.1 = G.1) (hT : kTb G s) (hT' : kTb G' s) (hX1 : kX G WX0 s s.heap) (hX2 : kX G WX s s.heap) (hX3 : kX G' WM0 s s.heap) (hX4 : kX G' WM s s.heap) (hl : lv_has la 4 [(0, .ref b)]) :
    W p G.1 e room_1 s m #[Value.ref b] below meth c s.heap [] 0 0 (lw_Z below #[Value.ref b] s) (F0 m 0 la []) := by
  have hx := C.1
  have hb := C.2.1
  have hts : ∀ w ∈ kTbl, w.before #[Value.ref b] s = true := fun w hw => C.2.2.2.2.2.1 w (kTbl_good w hw).1
  have h0 : kHp G WX0 mZ s s.heap [] := by
    refine ⟨fun k q z => ?_, Nat.zero_le _, fun _ => (by have k0 : kN WX0 mZ = 0 := (rfl); omega), va_S.rf⟩
    obtain ⟨y, -⟩ := kWL_of z
    exact absurd y (Nat.not_lt_zero _)
  refine kNewW (G := G) (w := WX0) (σ := mZ) (own := RL) (idx := 7) 0 11 WX0_g hx hb C.2.2.2.2.1 hts hT.1 h0 (by decide +kernel : decode code 0 = .ok (.new 7, 3)) (by decide) cL_L_7 cI_X11 cN_X11 rfl (by decide) rfl (by exact Nat.le_of_ble_eq_true rfl) (by exact Nat.le_of_ble_eq_true rfl) (fun H1 _ _ h1 => ?_)
  refine lv_dup hx hb (by decide +kernel : decode code 3 = .ok (.dup, 1)) rfl ?_
  refine L_init (st := [vA G 0]) C (Nat.le_of_eq g1.symm) hT hX1 h1 (by decide +kernel : decode code 4 = .ok (.invokespecial 9, 3)) (kCIof m_X11_init l_L_9) (by decide) (by decide) (by show (1 : Nat) ≤ 8; decide) hl.1 (by exact Nat.le_of_ble_eq_true rfl) (by exact Nat.le_of_ble_eq_true rfl) I_mu51 (fun r μ H2 em h2 _ => ?_)
  have em : μ = mu51 := em
  subst em
  refine lv_astore_n (lv' := [(1, vA G 0), (0, .ref b)]) hx hb (by decide +kernel : decode code 7 = .ok (.astore_n 1, 1)) rfl hl (by decide) rfl (fun la hl => ?_)
  have n2 : kN WX0 mu51 = 205 := kG_N WX0_g (by decide +kernel)
  have z2 : H2.size = G.2.1 + 205 := by rw [← n2]; exact h2.2.2.1 rfl
  have P2 := h2.1
  rw [n2, mu_same] at P2
  have hm : kHp G' WM0 mZ s H2 [] := by
    refine ⟨fun k q z => ?_, Nat.zero_le _, fun _ => (by have k0 : kN WM0 mZ = 0 := (rfl); omega), ⟨h2.2.2.2.1, fun q a1 a2 => h2.2.2.2.2.1 q a1 (fun z => ?_), fun _ z => by cases z⟩⟩
    · obtain ⟨y, -⟩ := kWL_of z
      exact absurd y (Nat.not_lt_zero _)
    · have : G.2.1 ≤ q := z.1
      omega
  rw [← g3]
  refine kNewW (G := G') (w := WM0) (σ := mZ) (own := RL) (idx := 10) 0 12 WM0_g hx hb C.2.2.2.2.1 hts hT'.1 hm (by decide +kernel : decode code 8 = .ok (.new 10, 3)) (by decide) cL_L_10 cI_X12 cN_X12 rfl (by decide) rfl (by exact Nat.le_of_ble_eq_true rfl) (by exact Nat.le_of_ble_eq_true rfl) (fun H3 z3 o3 h3 => ?_)
  refine lv_dup hx hb (by decide +kernel : decode code 11 = .ok (.dup, 1)) rfl ?_
  refine L_init (st := [vA G' 0]) C (by omega) hT' hX3 h3 (by decide +kernel : decode code 12 = .ok (.invokespecial 12, 3)) (kCIof m_X12_init l_L_12) (by decide) (by decide) (by show (1 : Nat) ≤ 8; decide) hl.1 (by exact Nat.le_of_ble_eq_true rfl) (by exact Nat.le_of_ble_eq_true rfl) I_nu1 (fun r μ H4 em h4 k4 => ?_)
  have em : μ = nu1 := em
  subst em
  refine lv_astore_n (lv' := [(2, vA G' 0), (1, vA G 0), (0, .ref b)]) hx hb (by decide +kernel : decode code 15 = .ok (.astore_n 2, 1)) rfl hl (by decide) rfl (fun la hl => ?_)
  refine lv_iconst (v := Int32.ofInt 0) hx hb (by decide +kernel : decode code 16 = .ok (.iconst 0, 1)) rfl ?_
  refine lv_istore_n (lv' := [(3, vI 0), (2, vA G' 0), (1, vA G 0), (0, .ref b)]) hx hb (by decide +kernel : decode code 17 = .ok (.istore_n 3, 1)) rfl hl (by decide) rfl (fun la hl => ?_)
  refine W.widen (k := 600000) (n := 7302250) (by exact Nat.le_of_ble_eq_true rfl) (by exact Nat.le_of_ble_eq_true rfl) ?_
  have n4 : kN WM0 nu1 = 21 := kG_N WM0_g (by decide +kernel)
  have P4 := h4.1
  rw [n4, nu_same] at P4
  have P5 : va_P G.2.2.1 vwCl (kWL G WX mu51 205) H4 := by
    refine P2.kept (fun k x hx => ?_)
    have l2 : x.1 < H2.size := (P2 k x hx).lt
    rw [k4 x.1 (by omega) (fun z => ?_), o3 x.1 l2]
    have : G'.2.1 ≤ x.1 := z.1
    omega
  have S4 : va_S (fun q : Nat => s.heap.size ≤ q) s.heap H4 [] := ⟨h4.2.2.2.1, fun q a1 a2 => h4.2.2.2.2.1 q a1 (fun z => by have : G'.2.1 ≤ q := z.1; omega), fun _ z => by cases z⟩
  rw [g3]
  exact law_loop hL (L + 7) 0 mu51 nu1 R_0made (by decide) (by decide) (by omega) p e s m below meth c H4 la C ⟨⟨hT, hX2⟩, ⟨hT', hX4⟩, g3, by omega, by omega⟩ ⟨P5, P4, S4⟩ (lv_sub hl [3, 2, 1, 0] rfl)
theorem whole_start {p : Program} {e : Env} {s : State} {m : MethodId} {below : List Frame} {meth : Method} {c : Code} (l : Launch) (hflags : l.flags = flags0) {b L : Nat} {xs : Nat → Int32} (hL : L ≤ 3072) (C0 : lw_At p s m meth c b L xs) : W p l e room_1 s m #[Value.ref b] below meth c s.heap [] 0 0 (lw_Z below #[Value.ref b] s) (entryFrame m ([Value.ref b] : List Value).toArray 4) := by
  obtain ⟨D, cA, hTb⟩ := start_K C0.2.2.2.2.2.1
  obtain ⟨ad, hKX⟩ := out_all C0.2.2.2.2.2.2.2.2.2 C0.2.2.2.2.2.1
  have hl := lv_entry ([.ref b]) (n := 4) (Nat.le_of_ble_eq_true rfl)
  rw [lg_entry_eq]
  exact start_law (G := (l, s.heap.size, D, cA, ad)) (G' := (l, s.heap.size + 205, D, cA, ad)) hL C0 rfl rfl rfl (hTb _ rfl rfl) (hTb _ rfl rfl) (hKX _ _ rfl (Nat.le_refl _)) (hKX _ _ rfl (Nat.le_refl _)) (hKX _ _ rfl (Nat.le_add_right _ _)) (hKX _ _ rfl (Nat.le_add_right _ _)) hl
