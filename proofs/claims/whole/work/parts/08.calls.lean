section
variable {G : Kg} {w : Kw} {M : Km} {d mc ms pc : Nat} {ls : List (Nat × Value)} {st : List Value} {σ : Kmem} {Q : Int → Kmem → Prop}
theorem kPc_blind {as : List Value} : FrameBlind (kPc G w as σ) := by
  intro a U g mk h
  obtain ⟨h1, h2, h3, h4, h5, h6⟩ := h
  have hW : U.WarmedH (U.calling g mk a).vm := State.WarmedH.refl U
  exact ⟨h1, h2, h3, h4, kTb_warm hW h5, kX_warm hW h6⟩
theorem kTbl_ok : ∀ w ∈ kTbl, (w.onTables && w.keeps) = true ∨ ∃ ty, w = .arrayClass ty := fun w h => good_of_word (kTbl_good w h).2
/-- the callee's start, seen from the caller -/
theorem kPc_at {s : State} {H : Heap} {locs : List Loc} {as : List Value} (hTb : kTb G s) (hX : kX G w s s.heap) (h : kHp G w σ s H locs) : ∀ U : State, U.heap = H → s.WarmedH U.vm → kPc G w as σ as.toArray U := by
  intro U hU hW
  refine ⟨rfl, by rw [hU]; exact h.1, h.2.1, by rw [hU]; exact h.2.2.1, kTb_warm hW hTb, ?_⟩
  rw [hU]
  exact kX_kept (kX_warm hW hX) h.2.2.2.2.1
/-- the words of a call, of each kind -/
def kCallB (M' : Km) (own : String) (idx n : Nat) (w0 : Cond) : Prop :=
  Cond.code M'.1 M'.2.1 M'.2.2.1 M'.2.2.2 ∈ kTbl ∧ Cond.initialized M'.1.cls ∈ kTbl ∧ (M'.1.cls ≠ "java/lang/invoke/MethodHandle" ∧ M'.1.cls ≠ "java/lang/invoke/VarHandle" ∧ (parseMethodDescriptor M'.1.desc).map (fun d => d.parameters.length) = some n) ∧ w0 ∈ kTbl
def kCallV (M' : Km) (own : String) (idx n : Nat) : Prop := kCallB M' own idx n (.methodLink own idx M'.1) ∧ Cond.instanceMethod M'.1 ∈ kTbl ∧ Cond.selects M'.1.cls M'.1 M'.1 ∈ kTbl
def kCallS (M' : Km) (own : String) (idx n : Nat) : Prop := kCallB M' own idx n (.methodLink own idx M'.1) ∧ Cond.static M'.1 ∈ kTbl
def kCallI (M' : Km) (own : String) (idx n : Nat) : Prop := kCallB M' own idx n (.methodLink own idx M'.1) ∧ Cond.instanceMethod M'.1 ∈ kTbl ∧ M'.1.name = "<init>" ∧ M'.2.2.2 = none
theorem kWs_pay {M' : Km} {s : State} (hc : Cond.code M'.1 M'.2.1 M'.2.2.1 M'.2.2.2 ∈ kTbl) {args : Array Value} (hts : ∀ w ∈ kTbl, w.before args s = true) : ∀ w ∈ (Cond.code M'.1 M'.2.1 M'.2.2.1 M'.2.2.2 :: kTbl), ∀ (a' : Array Value) (U : State), s.WarmedH U.vm → w.before a' U = true := by
  intro w hw a' U hW
  have hin : w ∈ kTbl := (List.mem_cons.mp hw).elim (fun e => e ▸ hc) id
  exact word_at hW (kTbl_ok w hin) (hts w hin)
theorem kCB {M' : Km} {idx n d' mc' ms' D : Nat} {s : State} {args : Array Value} {own : String} {MC MS : Nat} (hts : ∀ w ∈ kTbl, w.before args s = true) (hB : kCallB M' own idx n (.methodLink own idx M'.1)) (hd : d' + 1 ≤ D) (hL : M'.2.2.1 ≤ 45) :
    CallB (kRm D MC MS) s args own idx M'.1 M'.2.1 M'.2.2.1 M'.2.2.2 (Cond.code M'.1 M'.2.1 M'.2.2.1 M'.2.2.2 :: kTbl) (kRm d' mc' ms') mc' ms' n := by
  obtain ⟨h1, h2, ⟨h3, h4, h5⟩, h6⟩ := hB
  refine ⟨rfl, rfl, hd, ?_, kWs_pay h1 hts, List.mem_cons_self, hts _ h1, hts _ h2, ⟨h3, h4⟩, fun sig h => ?_, hts _ h6⟩
  · show 8 + (M'.2.2.1 + 11) + 64 * d' ≤ 64 * D
    omega
  · rw [h] at h5
    exact (Option.some.inj h5).symm
/-- what comes back from a call -/
theorem kBack {M' : Km} {mc' ms' : Nat} {as rest stk : List Value} {K : Int → Kmem → Prop} {p : Program} {e : Env} {s : State} {m : MethodId} {args : Array Value} {below : List Frame} {meth : Method} {c : Code} {H : Heap} {locs : List Loc} {cells slots MC MS D : Nat} {la : Array Slot} {QQ : State → Prop}
    (h : kHp G w σ s H locs)
    (hr : va_Run p G.1 e (kRm D MC MS) s m args below meth c H locs cells slots mc' ms' (F0 m pc la stk) rest (kQ G w M'.2.2.2 K as.toArray) (kA G w))
    (kk : ∀ (r : Int) (σ' : Kmem) (H1 : Heap) (locs1 : List Loc), K r σ' → kHp G w σ' s H1 locs1 → W p G.1 e (kRm D MC MS) s m args below meth c H1 locs1 (cells + mc') (slots + ms') QQ (F0 m (pc + 3) la ((kRet G M'.2.2.2 r).toList ++ rest))) :
    W p G.1 e (kRm D MC MS) s m args below meth c H locs cells slots QQ (F0 m pc la stk) := by
  intro T hT X
  obtain ⟨v, st₀, t, T', L, h0, X', hL, e1, e2, ⟨⟨r, σ', hv, hK, hP, hcap, hgr⟩, hz, hkp⟩, stp⟩ := hr T hT X
  rw [h0] at hz hkp
  have hv' : v = kRet G M'.2.2.2 r := Outcome.returned.inj hv
  subst hv'
  have hS : va_S (kA G w) s.heap T'.heap (locs ++ L) := by
    refine ⟨Nat.le_trans h.2.2.2.1 (by rw [e1]; exact hz), fun q h1 h2 => ?_, fun q hq => ?_⟩
    · rw [e1, hkp q (Nat.lt_of_lt_of_le h1 h.2.2.2.1) h2]
      exact h.2.2.2.2.1 q h1 h2
    · rcases List.mem_append.mp hq with h3 | h3
      · exact h.2.2.2.2.2 q h3
      · exact hL q h3
  obtain ⟨t2, a1, b1⟩ := kk r σ' T'.heap (locs ++ L) hK ⟨by rw [e1]; exact hP, hcap, by rw [e1]; exact hgr, hS⟩ T' rfl X'
  exact ⟨t2, stp t2 a1, b1⟩
theorem R_callV {M' : Km} {idx d' mc' ms' : Nat} {a : Int} {as stk : List Value} (ci n : Nat) (hd : decode M.2.1 pc = .ok (.invokevirtual idx, 3)) (hC : kCallV M' M.1.cls idx n) (hcn : M'.1.cls = kCn ci) (hci : ci < 13) (ha : kIs w σ a ci) (hdd : d' + 1 ≤ d) (hL : M'.2.2.1 ≤ 45) (hn : as.length = n) (hst : stk = as.reverse ++ vA G a :: st) (hW : (st.map fun v => v.category).sum ≤ 8)
    (kk : Run G w M' d' mc' ms' (vA G a :: as) σ (fun r σ' => Ex G w M d mc ms (pc + 3) ls ((kRet G M'.2.2.2 r).toList ++ st) σ' Q)) : Ex G w M d (mc + mc') (ms + ms') pc ls stk σ Q := by
  subst hst
  intro p e s m args below meth c H locs cells slots MC MS la F h L hc hs
  have hts := F.2.2.2.2.2.2.1
  refine kBack (M' := M') (mc' := mc') (ms' := ms') (as := vA G a :: as) (rest := st) h (va_runV (C := M'.1.cls) ⟨F.1, F.2.1, F.2.2.1, F.2.2.2.2.2.1, hts⟩ kk ⟨kCB hts hC.1 hdd hL, hts _ hC.2.1, hts _ hC.2.2⟩ ⟨kPc_blind, ?_, kPc_at F.2.2.2.2.2.2.2.1 F.2.2.2.2.2.2.2.2.1 h⟩ rfl hn L.1 rfl (lv_room hW) hd ⟨by show cells + mc' ≤ MC; omega, by show slots + ms' ≤ MS; omega⟩) fun r σ' H1 locs1 hK h1 => ?_
  · rw [hcn]
    exact va_recv (q := (kCn ci, kCT ci, knf ci)) F.2.2.2.2.2.2.2.1.1 h.1 (kCl_at hci) (kWL_obj ha rfl (by omega))
  · exact hK p e s m args below meth c H1 locs1 (cells + mc') (slots + ms') MC MS la F h1 L (by omega) (by omega)
theorem R_callS {M' : Km} {idx d' mc' ms' : Nat} {as stk : List Value} (n : Nat) (hd : decode M.2.1 pc = .ok (.invokestatic idx, 3)) (hC : kCallS M' M.1.cls idx n) (hdd : d' + 1 ≤ d) (hL : M'.2.2.1 ≤ 45) (hn : as.length = n) (hst : stk = as.reverse ++ st) (hW : (st.map fun v => v.category).sum ≤ 8)
    (kk : Run G w M' d' mc' ms' as σ (fun r σ' => Ex G w M d mc ms (pc + 3) ls ((kRet G M'.2.2.2 r).toList ++ st) σ' Q)) : Ex G w M d (mc + mc') (ms + ms') pc ls stk σ Q := by
  subst hst
  intro p e s m args below meth c H locs cells slots MC MS la F h L hc hs
  have hts := F.2.2.2.2.2.2.1
  refine kBack (M' := M') (mc' := mc') (ms' := ms') (as := as) (rest := st) h (va_runS ⟨F.1, F.2.1, F.2.2.1, F.2.2.2.2.2.1, hts⟩ kk ⟨kCB hts hC.1 hdd hL, hts _ hC.2⟩ ⟨kPc_blind, kPc_at F.2.2.2.2.2.2.2.1 F.2.2.2.2.2.2.2.2.1 h⟩ rfl hn L.1 rfl (lv_room hW) hd ⟨by show cells + mc' ≤ MC; omega, by show slots + ms' ≤ MS; omega⟩) fun r σ' H1 locs1 hK h1 => ?_
  exact hK p e s m args below meth c H1 locs1 (cells + mc') (slots + ms') MC MS la F h1 L (by omega) (by omega)
theorem R_callI {M' : Km} {idx d' mc' ms' : Nat} {a : Int} {as stk : List Value} (n : Nat) (hd : decode M.2.1 pc = .ok (.invokespecial idx, 3)) (hC : kCallI M' M.1.cls idx n) (hdd : d' + 1 ≤ d) (hL : M'.2.2.1 ≤ 45) (hn : as.length = n) (hst : stk = as.reverse ++ vA G a :: st) (hW : (st.map fun v => v.category).sum ≤ 8)
    (kk : Run G w M' d' mc' ms' (vA G a :: as) σ (fun r σ' => Ex G w M d mc ms (pc + 3) ls st σ' Q)) : Ex G w M d (mc + mc') (ms + ms') pc ls stk σ Q := by
  subst hst
  intro p e s m args below meth c H locs cells slots MC MS la F h L hc hs
  have hts := F.2.2.2.2.2.2.1
  have hret := hC.2.2.2
  have hCB := kCB (MC := MC) (MS := MS) (mc' := mc') (ms' := ms') hts hC.1 hdd hL
  unfold Run at kk
  rw [hret] at hCB
  rw [hret] at kk
  refine kBack (M' := M') (mc' := mc') (ms' := ms') (as := vA G a :: as) (rest := st) (K := fun r σ' => Ex G w M d mc ms (pc + 3) ls st σ' Q) h ?_ fun r σ' H1 locs1 hK h1 => ?_
  · rw [hret]
    exact va_runI ⟨F.1, F.2.1, F.2.2.1, F.2.2.2.2.2.1, hts⟩ kk ⟨hCB, hC.2.2.1, hts _ hC.2.1⟩ ⟨kPc_blind, kPc_at F.2.2.2.2.2.2.2.1 F.2.2.2.2.2.2.2.2.1 h⟩ rfl hn L.1 rfl (lv_room hW) hd ⟨(by show cells + mc' ≤ MC; omega), (by show slots + ms' ≤ MS; omega)⟩
  · have := hK p e s m args below meth c H1 locs1 (cells + mc') (slots + ms') MC MS la F h1 L (by omega) (by omega)
    rw [hret]
    exact this
end
