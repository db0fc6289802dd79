section
variable {G : Kg} {w : Kw} {M : Km} {d mc ms pc : Nat} {ls : List (Nat × Value)} {st : List Value} {σ : Kmem} {Q : Int → Kmem → Prop}
abbrev vS (G : Kg) (i : Nat) : Value := .ref (kAd G (-((10 + i : Nat) : Int)))
theorem R_callVS {M' : Km} {idx d' i : Nat} {q : String × Nat × String × List Int32} {as stk : List Value} (n : Nat) (hd : decode M.2.1 pc = .ok (.invokevirtual idx, 3)) (hC : kCallV M' M.1.cls idx n) (hcn : M'.1.cls = "java/lang/String") (hi : kStrs[i]? = some q) (hdd : d' + 1 ≤ d) (hL : M'.2.2.1 ≤ 45) (hn : as.length = n) (hst : stk = as.reverse ++ vS G i :: st) (hW : (st.map fun v => v.category).sum ≤ 8)
    (kk : Run G w M' d' 0 0 (vS G i :: as) σ (fun r σ' => Ex G w M d mc ms (pc + 3) ls ((kRet G M'.2.2.2 r).toList ++ st) σ' Q)) : Ex G w M d mc ms pc ls stk σ Q := by
  subst hst
  intro p e s m args below meth c H locs cells slots MC MS la F h L hc hs
  have hts := F.2.2.2.2.2.2.1
  refine kBack (M' := M') (mc' := 0) (ms' := 0) (as := vS G i :: as) (rest := st) h (va_runV (C := M'.1.cls) ⟨F.1, F.2.1, F.2.2.1, F.2.2.2.2.2.1, hts⟩ kk ⟨kCB hts hC.1 hdd hL, hts _ hC.2.1, hts _ hC.2.2⟩ ⟨kPc_blind, ?_, kPc_at F.2.2.2.2.2.2.2.1 F.2.2.2.2.2.2.2.2.1 h⟩ rfl hn L.1 rfl (lv_room hW) hd ⟨by show cells + 0 ≤ MC; omega, by show slots + 0 ≤ MS; omega⟩) fun r σ' H1 locs1 hK h1 => ?_
  · obtain ⟨cell, h1, h2, h3, -⟩ := (F.2.2.2.2.2.2.2.2.1.2.1 i q hi).2.1.kept h.2.2.2.2.1
    rw [hcn, kAd_neg (by omega)]
    exact ⟨cell, h1, h2, h3⟩
  · exact hK p e s m args below meth c H1 locs1 (cells + 0) (slots + 0) MC MS la F h1 L (by omega) (by omega)
theorem R_getSv {i : Nat} {q : String × Nat × String × List Int32} (hown : M.1.cls = "java/lang/String") (hd : decode M.2.1 pc = .ok (.getfield 9, 3)) (hi : kStrs[i]? = some q) (kk : Ex G w M d mc ms (pc + 3) ls (.ref (G.2.2.2.2 (50 + i)) :: st) σ Q) : Ex G w M d mc ms pc ls (vS G i :: st) σ Q := by
  intro p e s m args below meth c H locs cells slots MC MS la F h L hc hs
  have hF := F.2.2.2.2.2.1
  rw [hown] at hF
  rw [vS, kAd_neg (by omega)]
  exact vk_getf (own := "java/lang/String") (ref := "java/lang/String") F.1 F.2.1 (F.2.2.2.2.2.2.2.2.1.2.1 i q hi).2.2.2.1 h.2.2.2 hF (F.2.2.2.2.2.2.1 _ l_JS_9) (fun x hx => hx) hd (kk p e s m args below meth c H locs cells slots MC MS la F h L hc hs)
theorem R_getSc {i : Nat} {q : String × Nat × String × List Int32} (hown : M.1.cls = "java/lang/String") (hd : decode M.2.1 pc = .ok (.getfield 15, 3)) (hi : kStrs[i]? = some q) (kk : Ex G w M d mc ms (pc + 3) ls (vI 0 :: st) σ Q) : Ex G w M d mc ms pc ls (vS G i :: st) σ Q := by
  intro p e s m args below meth c H locs cells slots MC MS la F h L hc hs
  have hF := F.2.2.2.2.2.1
  rw [hown] at hF
  rw [vS, kAd_neg (by omega)]
  exact vk_getf (own := "java/lang/String") (ref := "java/lang/String") F.1 F.2.1 (F.2.2.2.2.2.2.2.2.1.2.1 i q hi).2.2.1 h.2.2.2 hF (F.2.2.2.2.2.2.1 _ l_JS_15) (fun x hx => hx) hd (kk p e s m args below meth c H locs cells slots MC MS la F h L hc hs)
theorem R_getSS (hown : M.1.cls = "java/lang/String") (hd : decode M.2.1 pc = .ok (.getstatic 38, 3)) (kk : Ex G w M d mc ms (pc + 3) ls (vI 1 :: st) σ Q) : Ex G w M d mc ms pc ls st σ Q := by
  intro p e s m args below meth c H locs cells slots MC MS la F h L hc hs
  have hF := F.2.2.2.2.2.1
  rw [hown] at hF
  exact va_gets (C := "java/lang/String") F.1 F.2.1 F.2.2.2.2.2.2.2.2.1.2.2.1 h.2.2.2 hF (F.2.2.2.2.2.2.1 _ l_JS_38) (fun x hx => hx) hd (kk p e s m args below meth c H locs cells slots MC MS la F h L hc hs)
theorem R_getSF (hown : M.1.cls = "java/lang/String") (hd : decode M.2.1 pc = .ok (.getstatic 1053, 3)) (kk : ∀ v : Value, v.category = 1 → Ex G w M d mc ms (pc + 3) ls (v :: st) σ Q) : Ex G w M d mc ms pc ls st σ Q := by
  intro p e s m args below meth c H locs cells slots MC MS la F h L hc hs
  have hF := F.2.2.2.2.2.1
  rw [hown] at hF
  rcases F.2.2.2.2.2.2.2.2.1.2.2.2 with hz | ⟨t, hz⟩
  · exact va_gets (C := "jdk/internal/util/Preconditions") F.1 F.2.1 hz h.2.2.2 hF (F.2.2.2.2.2.2.1 _ l_JS_1053) (fun x hx => hx) hd (kk _ rfl p e s m args below meth c H locs cells slots MC MS la F h L hc hs)
  · exact va_gets (C := "jdk/internal/util/Preconditions") F.1 F.2.1 hz h.2.2.2 hF (F.2.2.2.2.2.2.1 _ l_JS_1053) (fun x hx => hx) hd (kk _ rfl p e s m args below meth c H locs cells slots MC MS la F h L hc hs)
theorem R_slenB {i : Nat} (hi : kStrs[i]? = some (kStrD i)) (hd : decode M.2.1 pc = .ok (.arraylength, 1)) (kk : Ex G w M d mc ms (pc + 1) ls (vI (kslen i) :: st) σ Q) : Ex G w M d mc ms pc ls (.ref (G.2.2.2.2 (50 + i)) :: st) σ Q := by
  intro p e s m args below meth c H locs cells slots MC MS la F h L hc hs
  exact va_tlen F.1 F.2.1 (F.2.2.2.2.2.2.2.2.1.2.1 i _ hi).2.2.2.2 h.2.2.2 rfl hd (kk p e s m args below meth c H locs cells slots MC MS la F h L hc hs)
theorem R_sldB {i : Nat} {k : Int} (hi : kStrs[i]? = some (kStrD i)) (hd : decode M.2.1 pc = .ok (.baload, 1)) (hk : 0 ≤ k ∧ k < kslen i) (kk : Ex G w M d mc ms (pc + 1) ls (vI (ksat i k) :: st) σ Q) : Ex G w M d mc ms pc ls (vI k :: .ref (G.2.2.2.2 (50 + i)) :: st) σ Q := by
  intro p e s m args below meth c H locs cells slots MC MS la F h L hc hs
  have hl := kslen_r (kStrs_lt hi)
  have hlen : (kStrD i).2.2.2.length < 2147483648 := by unfold kslen at hl; omega
  have q := kk p e s m args below meth c H locs cells slots MC MS la F h L hc hs
  rw [vI, ksat, i32_back] at q
  exact va_tb F.1 F.2.1 (F.2.2.2.2.2.2.2.2.1.2.1 i _ hi).2.2.2.2 h.2.2.2 (kin hk hlen) (by rw [knat hk hlen]) hd q
theorem R_i2c {a : Int} (ha : 0 ≤ a ∧ a < 256) (hd : decode M.2.1 pc = .ok (.i2c, 1)) (kk : Ex G w M d mc ms (pc + 1) ls (vI a :: st) σ Q) : Ex G w M d mc ms pc ls (vI a :: st) σ Q := by
  intro p e s m args below meth c H locs cells slots MC MS la F h L hc hs
  refine lv_i2c F.1 F.2.1 hd ?_ (kk p e s m args below meth c H locs cells slots MC MS la F h L hc hs)
  have h1 : a = ((a.toNat : Nat) : Int) := by omega
  have h2 : a.toNat < 256 := by omega
  rw [h1]
  revert h2
  generalize a.toNat = k
  revert k
  decide +kernel
theorem kand255 {a : Int} (ha : 0 ≤ a ∧ a < 256) : kand a 255 = a := by
  have h1 : a = ((a.toNat : Nat) : Int) := by omega
  have h2 : a.toNat < 256 := by omega
  rw [h1]
  revert h2
  generalize a.toNat = k
  revert k
  decide +kernel
theorem kshr0 {a : Int} (ha : 0 ≤ a ∧ a < 256) : kshr a 0 = a := by
  have h1 : a = ((a.toNat : Nat) : Int) := by omega
  have h2 : a.toNat < 256 := by omega
  rw [h1]
  revert h2
  generalize a.toNat = k
  revert k
  decide +kernel
theorem R_nreturn {a : Int} (ty : FieldType) (hd : decode M.2.1 pc = .ok (.ireturn, 1)) (hr : M.2.2.2 = some ty) (hn : narrow ty (vI a) = vI a) (he : kEnc G ty a a = vI a) (hq : Q a σ) : Ex G w M d mc ms pc ls [vI a] σ Q := by
  intro p e s m args below meth c H locs cells slots MC MS la F h L hc hs
  refine W.widen (k := MC) (n := MS) (by omega) (by omega) ?_
  exact W.zret F.1 F.2.1 (F.2.2.2.1.trans hr) hn (fun t ht hW => ⟨⟨a, σ, by rw [hr]; show _ = Outcome.returned (some (kEnc G ty a a)); rw [he], hq, by rw [ht]; exact h.1, h.2.1, by rw [ht]; exact h.2.2.1⟩, h.2.2.2.F ht⟩) h.2.2.2.2.2 hd F.2.2.2.2.1
theorem nar_char {a : Int} (ha : 0 ≤ a ∧ a < 256) : narrow .char (vI a) = vI a := by
  have h1 : a = ((a.toNat : Nat) : Int) := by omega
  have h2 : a.toNat < 256 := by omega
  rw [h1]
  revert h2
  generalize a.toNat = k
  revert k
  decide +kernel
/-! the methods -/
theorem J_coder {i : Nat} {q : String × Nat × String × List Int32} (hi : kStrs[i]? = some q) : Run G w M_J0_coder_7d493 0 0 0 [vS G i] σ (fun r σ' => r = 0 ∧ σ' = σ) := by
  refine Run.of (by decide +kernel) (by show (1 : Nat) ≤ 1; decide) ?_
  show Ex G w M_J0_coder_7d493 0 0 0 0 [(0, vS G i)] [] σ _
  refine R_getSS rfl (by decide +kernel) ?_
  refine R_if_eq (off := 10) 13 (by decide +kernel) (by decide) (by decide) (fun h => absurd h (by decide)) (fun _ => ?_)
  refine R_aload_n (i := 0) (by decide +kernel) 0 rfl ?_
  refine R_getSc rfl (by decide +kernel) hi ?_
  refine R_goto (off := 4) 14 (by decide +kernel) (by decide) ?_
  exact R_nreturn .byte (by decide +kernel) rfl rfl rfl ⟨rfl, rfl⟩
theorem J_isLatin1 {i : Nat} {q : String × Nat × String × List Int32} (hi : kStrs[i]? = some q) : Run G w M_J0_isLatin1_aae02 0 0 0 [vS G i] σ (fun r σ' => r = 1 ∧ σ' = σ) := by
  refine Run.of (by decide +kernel) (by show (1 : Nat) ≤ 1; decide) ?_
  show Ex G w M_J0_isLatin1_aae02 0 0 0 0 [(0, vS G i)] [] σ _
  refine R_getSS rfl (by decide +kernel) ?_
  refine R_if_eq (off := 14) 17 (by decide +kernel) (by decide) (by decide) (fun h => absurd h (by decide)) (fun _ => ?_)
  refine R_aload_n (i := 0) (by decide +kernel) 0 rfl ?_
  refine R_getSc rfl (by decide +kernel) hi ?_
  refine R_if_ne (off := 7) 17 (by decide +kernel) (by decide) (by decide) (fun h => absurd rfl h) (fun _ => ?_)
  refine R_iconst (n := 1) (by decide +kernel) ?_
  refine R_goto (off := 4) 18 (by decide +kernel) (by decide) ?_
  exact R_zreturn (by decide +kernel) rfl (Or.inr rfl) ⟨rfl, rfl⟩
theorem J_pcheck {a n : Int} {v : Value} (hv : v.category = 1) (ha : 0 ≤ a ∧ a < n) (hn : n ≤ 2147483647) : Run G w M_J3_checkIndex_8e157 0 0 0 [vI a, vI n, v] σ (fun r σ' => σ' = σ) := by
  refine Run.of (by decide +kernel) ?_ ?_
  · have hv2 : ¬ v.category = 2 := by omega
    have e : lg_sl [vI a, vI n, v] = [.val (vI a)] ++ ([.val (vI n)] ++ ((if v.category = 2 then [.val v, .second] else [.val v]) ++ [])) := rfl
    rw [e, if_neg hv2]
    show (3 : Nat) ≤ 3
    decide
  have hl : lv_args 0 [vI a, vI n, v] = [(0, vI a), (1, vI n), (2, v)] := by simp [lv_args, Value.category]
  rw [hl]
  refine R_iload_n (i := 0) (by decide +kernel) 0 rfl ?_
  refine R_if_lt (off := 8) 9 (by decide +kernel) (by decide) ⟨by omega, by omega⟩ (fun h => absurd h (by omega)) (fun _ => ?_)
  refine R_iload_n (i := 0) (by decide +kernel) 0 rfl ?_
  refine R_iload_n (i := 1) (by decide +kernel) 1 rfl ?_
  refine R_icmp_lt (off := 10) 16 (by decide +kernel) (by decide) ⟨by omega, by omega⟩ ⟨by omega, by omega⟩ (fun _ => ?_) (fun h => absurd h (by omega))
  refine R_iload_n (i := 0) (by decide +kernel) 0 rfl ?_
  exact R_ireturn (by decide +kernel) rfl rfl
theorem J_scheck {a n : Int} (ha : 0 ≤ a ∧ a < n) (hn : n ≤ 2147483647) : Run G w M_J0_checkIndex_df160 1 0 0 [vI a, vI n] σ (fun r σ' => σ' = σ) := by
  refine Run.of (by decide +kernel) (by show (2 : Nat) ≤ 2; decide) ?_
  show Ex G w M_J0_checkIndex_df160 1 0 0 0 [(0, vI a), (1, vI n)] [] σ _
  refine R_iload_n (i := 0) (by decide +kernel) 0 rfl ?_
  refine R_iload_n (i := 1) (by decide +kernel) 1 rfl ?_
  refine R_getSF rfl (by decide +kernel) (fun v hv => ?_)
  refine R_callS (mc := 0) (ms := 0) (mc' := 0) (ms' := 0) (M' := M_J3_checkIndex_8e157) (idx := 1059) (d' := 0) (as := [vI a, vI n, v]) (st := []) 3 (by decide +kernel) (kCSof m_J3_checkIndex_8e157 l_J0_1059) (by decide) (by decide) rfl rfl (by decide) ?_
  refine Run.mono (J_pcheck hv ha hn) (fun r s h => ?_)
  subst h
  refine R_eqs (st2 := [vI r]) rfl rfl ?_
  refine R_pop (by decide +kernel) rfl ?_
  exact R_return (by decide +kernel) rfl rfl
theorem J_lat {i : Nat} {k : Int} (hi : kStrs[i]? = some (kStrD i)) (hk : 0 ≤ k ∧ k < kslen i) : Run G w M_J1_charAt_3b067 2 0 0 [.ref (G.2.2.2.2 (50 + i)), vI k] σ (fun r σ' => r = ksat i k ∧ σ' = σ) := by
  have hl := kslen_r (kStrs_lt hi)
  have hr := ksat_r (i := i) (k := k) (kStrs_lt hi)
  refine Run.of (by decide +kernel) (by show (2 : Nat) ≤ 2; decide) ?_
  show Ex G w M_J1_charAt_3b067 2 0 0 0 [(0, .ref (G.2.2.2.2 (50 + i))), (1, vI k)] [] σ _
  refine R_iload_n (i := 1) (by decide +kernel) 1 rfl ?_
  refine R_aload_n (i := 0) (by decide +kernel) 0 rfl ?_
  refine R_slenB hi (by decide +kernel) ?_
  refine R_callS (mc := 0) (ms := 0) (mc' := 0) (ms' := 0) (M' := M_J0_checkIndex_df160) (idx := 9) (d' := 1) (as := [vI k, vI (kslen i)]) (st := []) 2 (by decide +kernel) (kCSof m_J0_checkIndex_df160 l_J1_9) (by decide) (by decide) rfl rfl (by decide) ?_
  refine Run.mono (J_scheck hk (by omega)) (fun r s h => ?_)
  subst h
  refine R_eqs (st2 := []) rfl rfl ?_
  refine R_aload_n (i := 0) (by decide +kernel) 0 rfl ?_
  refine R_iload_n (i := 1) (by decide +kernel) 1 rfl ?_
  refine R_sldB hi (by decide +kernel) hk ?_
  refine R_sipush (n := 255) (by decide +kernel) (by decide) ?_
  refine R_iand (by decide +kernel) ?_
  rw [kand255 ⟨hr.1, by omega⟩]
  refine R_i2c ⟨hr.1, by omega⟩ (by decide +kernel) ?_
  exact R_nreturn .char (by decide +kernel) rfl (nar_char ⟨hr.1, by omega⟩) rfl ⟨rfl, rfl⟩
theorem J_charAt {i : Nat} {k : Int} (hi : kStrs[i]? = some (kStrD i)) (hk : 0 ≤ k ∧ k < kslen i) : Run G w M_J0_charAt_5068e 3 0 0 [vS G i, vI k] σ (fun r σ' => r = ksat i k ∧ σ' = σ) := by
  have hr := ksat_r (i := i) (k := k) (kStrs_lt hi)
  refine Run.of (by decide +kernel) (by show (2 : Nat) ≤ 2; decide) ?_
  show Ex G w M_J0_charAt_5068e 3 0 0 0 [(0, vS G i), (1, vI k)] [] σ _
  refine R_aload_n (i := 0) (by decide +kernel) 0 rfl ?_
  refine R_callVS (M' := M_J0_isLatin1_aae02) (idx := 492) (d' := 0) (as := []) (st := []) 0 (by decide +kernel) (kCVof m_J0_isLatin1_aae02 l_J0_492) rfl hi (by decide) (by decide) rfl rfl (by decide) ?_
  refine Run.mono (J_isLatin1 hi) (fun r s h => ?_)
  obtain ⟨rfl, rfl⟩ := h
  refine R_eqs (st2 := [vI 1]) rfl rfl ?_
  refine R_if_eq (off := 12) 16 (by decide +kernel) (by decide) (by decide) (fun h => absurd h (by decide)) (fun _ => ?_)
  refine R_aload_n (i := 0) (by decide +kernel) 0 rfl ?_
  refine R_getSv rfl (by decide +kernel) hi ?_
  refine R_iload_n (i := 1) (by decide +kernel) 1 rfl ?_
  refine R_callS (mc := 0) (ms := 0) (mc' := 0) (ms' := 0) (M' := M_J1_charAt_3b067) (idx := 495) (d' := 2) (as := [.ref (G.2.2.2.2 (50 + i)), vI k]) (st := []) 2 (by decide +kernel) (kCSof m_J1_charAt_3b067 l_J0_495) (by decide) (by decide) rfl rfl (by decide) ?_
  refine Run.mono (J_lat hi hk) (fun r s h => ?_)
  obtain ⟨rfl, rfl⟩ := h
  refine R_eqs (st2 := [vI (ksat i k)]) rfl rfl ?_
  exact R_nreturn .char (by decide +kernel) rfl (nar_char ⟨hr.1, by omega⟩) rfl ⟨rfl, rfl⟩
theorem J_length {i : Nat} (hi : kStrs[i]? = some (kStrD i)) : Run G w M_J0_length_8abf5 1 0 0 [vS G i] σ (fun r σ' => r = kslen i ∧ σ' = σ) := by
  have hl := kslen_r (kStrs_lt hi)
  refine Run.of (by decide +kernel) (by show (1 : Nat) ≤ 1; decide) ?_
  show Ex G w M_J0_length_8abf5 1 0 0 0 [(0, vS G i)] [] σ _
  refine R_aload_n (i := 0) (by decide +kernel) 0 rfl ?_
  refine R_getSv rfl (by decide +kernel) hi ?_
  refine R_slenB hi (by decide +kernel) ?_
  refine R_aload_n (i := 0) (by decide +kernel) 0 rfl ?_
  refine R_callVS (M' := M_J0_coder_7d493) (idx := 335) (d' := 0) (as := []) (st := [vI (kslen i)]) 0 (by decide +kernel) (kCVof m_J0_coder_7d493 l_J0_335) rfl hi (by decide) (by decide) rfl rfl (by show (1 : Nat) ≤ 8; decide) ?_
  refine Run.mono (J_coder hi) (fun r s h => ?_)
  obtain ⟨rfl, rfl⟩ := h
  refine R_eqs (st2 := [vI 0, vI (kslen i)]) rfl rfl ?_
  refine R_ishr (by decide +kernel) ?_
  rw [kshr0 ⟨hl.1, by omega⟩]
  exact R_ireturn (by decide +kernel) rfl ⟨rfl, rfl⟩
/-! seen from a caller -/
theorem R_slen {idx i : Nat} {f : Int} (hi : kStrs[i]? = some (kStrD i)) (hl : Cond.methodLink M.1.cls idx yJ0_length_8abf5 ∈ kTbl) (hd : decode M.2.1 pc = .ok (.invokevirtual idx, 3)) (hdd : 2 ≤ d) (hf : f = -((10 + i : Nat) : Int)) (hW : (st.map fun v => v.category).sum ≤ 8) (kk : Ex G w M d mc ms (pc + 3) ls (vI (kslen i) :: st) σ Q) : Ex G w M d mc ms pc ls (vA G f :: st) σ Q := by
  subst hf
  refine R_callVS (M' := M_J0_length_8abf5) (d' := 1) (as := []) (st := st) 0 hd (kCVof m_J0_length_8abf5 hl) rfl hi hdd (by decide) rfl rfl hW ?_
  refine Run.mono (J_length hi) (fun r s h => ?_)
  obtain ⟨rfl, rfl⟩ := h
  exact kk
theorem R_sat {idx i : Nat} {f k : Int} (hi : kStrs[i]? = some (kStrD i)) (hl : Cond.methodLink M.1.cls idx yJ0_charAt_5068e ∈ kTbl) (hd : decode M.2.1 pc = .ok (.invokevirtual idx, 3)) (hdd : 4 ≤ d) (hk : 0 ≤ k ∧ k < kslen i) (hf : f = -((10 + i : Nat) : Int)) (hW : (st.map fun v => v.category).sum ≤ 8) (kk : Ex G w M d mc ms (pc + 3) ls (vI (ksat i k) :: st) σ Q) : Ex G w M d mc ms pc ls (vI k :: vA G f :: st) σ Q := by
  subst hf
  refine R_callVS (M' := M_J0_charAt_5068e) (d' := 3) (as := [vI k]) (st := st) 1 hd (kCVof m_J0_charAt_5068e hl) rfl hi hdd (by decide) rfl rfl hW ?_
  refine Run.mono (J_charAt hi hk) (fun r s h => ?_)
  obtain ⟨rfl, rfl⟩ := h
  exact kk
end
