variable {G : Kg} {w : Kw} {M : Km} {d mc ms pc : Nat} {ls : List (Nat × Value)} {st : List Value} {σ : Kmem} {Q : Int → Kmem → Prop}
abbrev vI (x : Int) : Value := .int (Int32.ofInt x)
abbrev vL (x : Int) : Value := .long (Int64.ofInt x)
abbrev vA (G : Kg) (x : Int) : Value := .ref (kAd G x)
theorem i32_add (a b : Int) : Int32.ofInt a + Int32.ofInt b = Int32.ofInt (a + b) := (Int32.ofInt_add a b).symm
theorem i32_sub (a b : Int) : Int32.ofInt a - Int32.ofInt b = Int32.ofInt (a - b) := (Int32.ofInt_sub a b).symm
theorem i32_mul (a b : Int) : Int32.ofInt a * Int32.ofInt b = Int32.ofInt (a * b) := (Int32.ofInt_mul a b).symm
theorem i32_neg (a : Int) : - Int32.ofInt a = Int32.ofInt (- a) := (Int32.ofInt_neg a).symm
theorem i64_add (a b : Int) : Int64.ofInt a + Int64.ofInt b = Int64.ofInt (a + b) := (Int64.ofInt_add a b).symm
theorem i64_sub (a b : Int) : Int64.ofInt a - Int64.ofInt b = Int64.ofInt (a - b) := (Int64.ofInt_sub a b).symm
theorem i64_mul (a b : Int) : Int64.ofInt a * Int64.ofInt b = Int64.ofInt (a * b) := (Int64.ofInt_mul a b).symm
theorem i32_to {a : Int} (h1 : -2147483648 ≤ a) (h2 : a ≤ 2147483647) : (Int32.ofInt a).toInt = a := Int32.toInt_ofInt_of_le (by simpa using h1) (by simp; omega)
theorem i64_to {a : Int} (h1 : -9223372036854775808 ≤ a) (h2 : a ≤ 9223372036854775807) : (Int64.ofInt a).toInt = a := Int64.toInt_ofInt_of_le (by simpa using h1) (by simp; omega)
abbrev rI (a : Int) : Prop := -2147483648 ≤ a ∧ a ≤ 2147483647
abbrev rL (a : Int) : Prop := -9223372036854775808 ≤ a ∧ a ≤ 9223372036854775807
theorem i32_lt {a b : Int} (ha : rI a) (hb : rI b) : Int32.ofInt a < Int32.ofInt b ↔ a < b := by rw [Int32.lt_iff_toInt_lt, i32_to ha.1 ha.2, i32_to hb.1 hb.2]
theorem i32_le {a b : Int} (ha : rI a) (hb : rI b) : Int32.ofInt a ≤ Int32.ofInt b ↔ a ≤ b := by rw [Int32.le_iff_toInt_le, i32_to ha.1 ha.2, i32_to hb.1 hb.2]
theorem i32_eq {a b : Int} (ha : rI a) (hb : rI b) : Int32.ofInt a = Int32.ofInt b ↔ a = b := ⟨fun h => by have := congrArg Int32.toInt h; rwa [i32_to ha.1 ha.2, i32_to hb.1 hb.2] at this, fun h => by rw [h]⟩
theorem i64_lt {a b : Int} (ha : rL a) (hb : rL b) : Int64.ofInt a < Int64.ofInt b ↔ a < b := by rw [Int64.lt_iff_toInt_lt, i64_to ha.1 ha.2, i64_to hb.1 hb.2]
theorem i64_eq {a b : Int} (ha : rL a) (hb : rL b) : Int64.ofInt a = Int64.ofInt b ↔ a = b := ⟨fun h => by have := congrArg Int64.toInt h; rwa [i64_to ha.1 ha.2, i64_to hb.1 hb.2] at this, fun h => by rw [h]⟩
theorem i32_0 : (0 : Int32) = Int32.ofInt 0 := rfl
theorem rI_0 : rI 0 := by decide
theorem i32_nz {a : Int} (ha : rI a) (h : a ≠ 0) : ¬ Int32.ofInt a = 0 := fun e => h ((i32_eq ha rI_0).mp e)
theorem i64_nz {a : Int} (ha : rL a) (h : a ≠ 0) : ¬ Int64.ofInt a = 0 := fun e => h ((i64_eq ha (by decide)).mp e)
/-- the bits of two ints -/
def kor (a b : Int) : Int := (Int32.ofInt a ||| Int32.ofInt b).toInt
def kand (a b : Int) : Int := (Int32.ofInt a &&& Int32.ofInt b).toInt
def kxor (a b : Int) : Int := (Int32.ofInt a ^^^ Int32.ofInt b).toInt
def kshl (a b : Int) : Int := (Int32.ofInt a <<< (Int32.ofInt b &&& 31)).toInt
def kshr (a b : Int) : Int := (Int32.ofInt a >>> (Int32.ofInt b &&& 31)).toInt
def kushr (a b : Int) : Int := (Int32.ofInt a).toInt
def klor (a b : Int) : Int := (Int64.ofInt a ||| Int64.ofInt b).toInt
def kland (a b : Int) : Int := (Int64.ofInt a &&& Int64.ofInt b).toInt
def klshl (a b : Int) : Int := (Int64.ofInt a <<< ((Int32.ofInt b).toInt64 &&& 63)).toInt
def ki2b (a : Int) : Int := (Int32.ofInt a).toInt8.toInt32.toInt
def ki2s (a : Int) : Int := (Int32.ofInt a).toInt16.toInt32.toInt
theorem i32_back (x : Int32) : Int32.ofInt x.toInt = x := Int32.ofInt_toInt x
theorem i64_back (x : Int64) : Int64.ofInt x.toInt = x := Int64.ofInt_toInt x
theorem i32_divn {a b : Int} (ha : 0 ≤ a ∧ a ≤ 2147483647) (hb : 0 < b ∧ b ≤ 2147483647) : Int32.ofInt a / Int32.ofInt b = Int32.ofInt (a / b) := by
  have h1 := Int.ediv_nonneg ha.1 (Int.le_of_lt hb.1)
  have h2 := Int.ediv_le_self b ha.1
  apply Int32.toInt_inj.mp
  rw [Int32.toInt_div, i32_to (by omega) ha.2, i32_to (by omega) hb.2, i32_to (by omega) (by omega), Int.tdiv_eq_ediv_of_nonneg ha.1]
  rw [Int.bmod_eq_of_le (by omega) (by omega)]
theorem i32_remn {a b : Int} (ha : 0 ≤ a ∧ a ≤ 2147483647) (hb : 0 < b ∧ b ≤ 2147483647) : Int32.ofInt a - Int32.ofInt a / Int32.ofInt b * Int32.ofInt b = Int32.ofInt (a % b) := by
  rw [i32_divn ha hb, i32_mul, i32_sub, Int.emod_def, Int.mul_comm]
theorem i64_divn {a b : Int} (ha : 0 ≤ a ∧ a ≤ 9223372036854775807) (hb : 0 < b ∧ b ≤ 9223372036854775807) : Int64.ofInt a / Int64.ofInt b = Int64.ofInt (a / b) := by
  have h1 := Int.ediv_nonneg ha.1 (Int.le_of_lt hb.1)
  have h2 := Int.ediv_le_self b ha.1
  apply Int64.toInt_inj.mp
  rw [Int64.toInt_div, i64_to (by omega) ha.2, i64_to (by omega) hb.2, i64_to (by omega) (by omega), Int.tdiv_eq_ediv_of_nonneg ha.1]
  rw [Int.bmod_eq_of_le (by omega) (by omega)]
theorem i64_remn {a b : Int} (ha : 0 ≤ a ∧ a ≤ 9223372036854775807) (hb : 0 < b ∧ b ≤ 9223372036854775807) : Int64.ofInt a - Int64.ofInt a / Int64.ofInt b * Int64.ofInt b = Int64.ofInt (a % b) := by
  rw [i64_divn ha hb, i64_mul, i64_sub, Int.emod_def, Int.mul_comm]
theorem i2l_of {a : Int} (ha : rI a) : (Int32.ofInt a).toInt64 = Int64.ofInt a := by
  apply Int64.toInt_inj.mp
  rw [Int32.toInt_toInt64, i32_to ha.1 ha.2, i64_to (by omega) (by omega)]
theorem l2i_of (a : Int) : (Int64.ofInt a).toInt32 = Int32.ofInt a := by
  apply Int32.toInt_inj.mp
  rw [Int64.toInt_toInt32, Int64.toInt_ofInt, Int32.toInt_ofInt]
  rw [Int.bmod_bmod_of_dvd (by decide)]

theorem R_iload {i : Nat} {x : Int32} (hd : decode M.2.1 pc = .ok (.iload i, 2)) (k : Nat) (hk : ls[k]? = some (i, .int x)) (kk : Ex G w M d mc ms (pc + 2) ls (.int x :: st) σ Q) : Ex G w M d mc ms pc ls st σ Q := by
  intro p e s m args below meth c H locs cells slots MC MS la F h L hc hs
  exact lv_iload F.1 F.2.1 hd (lv_at L k hk) (kk p e s m args below meth c H locs cells slots MC MS la F h L hc hs)
theorem R_iload_n {i : Fin 4} {x : Int32} (hd : decode M.2.1 pc = .ok (.iload_n i, 1)) (k : Nat) (hk : ls[k]? = some ((i : Nat), .int x)) (kk : Ex G w M d mc ms (pc + 1) ls (.int x :: st) σ Q) : Ex G w M d mc ms pc ls st σ Q := by
  intro p e s m args below meth c H locs cells slots MC MS la F h L hc hs
  exact lv_iload_n F.1 F.2.1 hd rfl (lv_at L k hk) (kk p e s m args below meth c H locs cells slots MC MS la F h L hc hs)
theorem R_lload {i : Nat} {x : Int64} (hd : decode M.2.1 pc = .ok (.lload i, 2)) (k : Nat) (hk : ls[k]? = some (i, .long x)) (kk : Ex G w M d mc ms (pc + 2) ls (.long x :: st) σ Q) : Ex G w M d mc ms pc ls st σ Q := by
  intro p e s m args below meth c H locs cells slots MC MS la F h L hc hs
  exact lv_lload F.1 F.2.1 hd (lv_at L k hk) (kk p e s m args below meth c H locs cells slots MC MS la F h L hc hs)
theorem R_lload_n {i : Fin 4} {x : Int64} (hd : decode M.2.1 pc = .ok (.lload_n i, 1)) (k : Nat) (hk : ls[k]? = some ((i : Nat), .long x)) (kk : Ex G w M d mc ms (pc + 1) ls (.long x :: st) σ Q) : Ex G w M d mc ms pc ls st σ Q := by
  intro p e s m args below meth c H locs cells slots MC MS la F h L hc hs
  exact lv_lload_n F.1 F.2.1 hd rfl (lv_at L k hk) (kk p e s m args below meth c H locs cells slots MC MS la F h L hc hs)
theorem R_aload {i : Nat} {x : Nat} (hd : decode M.2.1 pc = .ok (.aload i, 2)) (k : Nat) (hk : ls[k]? = some (i, .ref x)) (kk : Ex G w M d mc ms (pc + 2) ls (.ref x :: st) σ Q) : Ex G w M d mc ms pc ls st σ Q := by
  intro p e s m args below meth c H locs cells slots MC MS la F h L hc hs
  exact lv_aload F.1 F.2.1 hd (lv_at L k hk) (kk p e s m args below meth c H locs cells slots MC MS la F h L hc hs)
theorem R_aload_n {i : Fin 4} {x : Nat} (hd : decode M.2.1 pc = .ok (.aload_n i, 1)) (k : Nat) (hk : ls[k]? = some ((i : Nat), .ref x)) (kk : Ex G w M d mc ms (pc + 1) ls (.ref x :: st) σ Q) : Ex G w M d mc ms pc ls st σ Q := by
  intro p e s m args below meth c H locs cells slots MC MS la F h L hc hs
  exact lv_aload_n F.1 F.2.1 hd rfl (lv_at L k hk) (kk p e s m args below meth c H locs cells slots MC MS la F h L hc hs)
theorem R_istore {i : Nat} {x : Int32} {ls2 : List (Nat × Value)} (hd : decode M.2.1 pc = .ok (.istore i, 2)) (hn : i < M.2.2.1) (hl : (i, Value.int x) :: ls.filter (fun q => !(q.1 == i) && !(q.1 + 1 == i && q.2.category == 2)) = ls2) (kk : Ex G w M d mc ms (pc + 2) ls2 st σ Q) : Ex G w M d mc ms pc ls (.int x :: st) σ Q := by
  intro p e s m args below meth c H locs cells slots MC MS la F h L hc hs
  exact lv_istore F.1 F.2.1 hd L hn hl (fun la L => kk p e s m args below meth c H locs cells slots MC MS la F h L hc hs)
theorem R_istore_n {i : Fin 4} {x : Int32} {ls2 : List (Nat × Value)} (hd : decode M.2.1 pc = .ok (.istore_n i, 1)) (hn : ((i : Nat)) < M.2.2.1) (hl : (((i : Nat)), Value.int x) :: ls.filter (fun q => !(q.1 == (i : Nat)) && !(q.1 + 1 == (i : Nat) && q.2.category == 2)) = ls2) (kk : Ex G w M d mc ms (pc + 1) ls2 st σ Q) : Ex G w M d mc ms pc ls (.int x :: st) σ Q := by
  intro p e s m args below meth c H locs cells slots MC MS la F h L hc hs
  exact lv_istore_n F.1 F.2.1 hd rfl L hn hl (fun la L => kk p e s m args below meth c H locs cells slots MC MS la F h L hc hs)
theorem R_lstore {i : Nat} {x : Int64} {ls2 : List (Nat × Value)} (hd : decode M.2.1 pc = .ok (.lstore i, 2)) (hn : i + 1 < M.2.2.1) (hl : (i, Value.long x) :: ls.filter (fun q => !(q.1 == i) && (!(q.1 == i + 1) && !(q.1 + 1 == i && q.2.category == 2))) = ls2) (kk : Ex G w M d mc ms (pc + 2) ls2 st σ Q) : Ex G w M d mc ms pc ls (.long x :: st) σ Q := by
  intro p e s m args below meth c H locs cells slots MC MS la F h L hc hs
  exact lv_lstore F.1 F.2.1 hd L hn hl (fun la L => kk p e s m args below meth c H locs cells slots MC MS la F h L hc hs)
theorem R_lstore_n {i : Fin 4} {x : Int64} {ls2 : List (Nat × Value)} (hd : decode M.2.1 pc = .ok (.lstore_n i, 1)) (hn : ((i : Nat)) + 1 < M.2.2.1) (hl : (((i : Nat)), Value.long x) :: ls.filter (fun q => !(q.1 == (i : Nat)) && (!(q.1 == (i : Nat) + 1) && !(q.1 + 1 == (i : Nat) && q.2.category == 2))) = ls2) (kk : Ex G w M d mc ms (pc + 1) ls2 st σ Q) : Ex G w M d mc ms pc ls (.long x :: st) σ Q := by
  intro p e s m args below meth c H locs cells slots MC MS la F h L hc hs
  exact lv_lstore_n F.1 F.2.1 hd rfl L hn hl (fun la L => kk p e s m args below meth c H locs cells slots MC MS la F h L hc hs)
theorem R_astore {i : Nat} {x : Nat} {ls2 : List (Nat × Value)} (hd : decode M.2.1 pc = .ok (.astore i, 2)) (hn : i < M.2.2.1) (hl : (i, Value.ref x) :: ls.filter (fun q => !(q.1 == i) && !(q.1 + 1 == i && q.2.category == 2)) = ls2) (kk : Ex G w M d mc ms (pc + 2) ls2 st σ Q) : Ex G w M d mc ms pc ls (.ref x :: st) σ Q := by
  intro p e s m args below meth c H locs cells slots MC MS la F h L hc hs
  exact lv_astore F.1 F.2.1 hd L hn hl (fun la L => kk p e s m args below meth c H locs cells slots MC MS la F h L hc hs)
theorem R_astore_n {i : Fin 4} {x : Nat} {ls2 : List (Nat × Value)} (hd : decode M.2.1 pc = .ok (.astore_n i, 1)) (hn : ((i : Nat)) < M.2.2.1) (hl : (((i : Nat)), Value.ref x) :: ls.filter (fun q => !(q.1 == (i : Nat)) && !(q.1 + 1 == (i : Nat) && q.2.category == 2)) = ls2) (kk : Ex G w M d mc ms (pc + 1) ls2 st σ Q) : Ex G w M d mc ms pc ls (.ref x :: st) σ Q := by
  intro p e s m args below meth c H locs cells slots MC MS la F h L hc hs
  exact lv_astore_n F.1 F.2.1 hd rfl L hn hl (fun la L => kk p e s m args below meth c H locs cells slots MC MS la F h L hc hs)
theorem R_ls {ls2 : List (Nat × Value)} (ks : List Nat) (hl : lv_pick ls ks = ls2) (kk : Ex G w M d mc ms pc ls2 st σ Q) : Ex G w M d mc ms pc ls st σ Q := by
  intro p e s m args below meth c H locs cells slots MC MS la F h L hc hs
  exact kk p e s m args below meth c H locs cells slots MC MS la F h (lv_sub L ks hl) hc hs
theorem R_eqs {st2 : List Value} {σ2 : Kmem} (e1 : st = st2) (e2 : σ = σ2) (kk : Ex G w M d mc ms pc ls st2 σ2 Q) : Ex G w M d mc ms pc ls st σ Q := by subst e1; subst e2; exact kk
theorem R_iinc {i : Nat} {n x : Int} {ls2 : List (Nat × Value)} (hd : decode M.2.1 pc = .ok (.iinc i n, 3)) (k : Nat) (hk : ls[k]? = some (i, vI x)) (hn : i < M.2.2.1) (hl : (i, vI (x + n)) :: ls.filter (fun q => !(q.1 == i) && !(q.1 + 1 == i && q.2.category == 2)) = ls2) (kk : Ex G w M d mc ms (pc + 3) ls2 st σ Q) : Ex G w M d mc ms pc ls st σ Q := by
  intro p e s m args below meth c H locs cells slots MC MS la F h L hc hs
  exact lv_iinc F.1 F.2.1 hd L hk (i32_add x n) hn hl (fun la L => kk p e s m args below meth c H locs cells slots MC MS la F h L hc hs)
theorem R_iconst {n : Int} (hd : decode M.2.1 pc = .ok (.iconst n, 1)) (kk : Ex G w M d mc ms (pc + 1) ls (vI n :: st) σ Q) : Ex G w M d mc ms pc ls st σ Q := by
  intro p e s m args below meth c H locs cells slots MC MS la F h L hc hs
  exact lv_iconst F.1 F.2.1 hd rfl (kk p e s m args below meth c H locs cells slots MC MS la F h L hc hs)
theorem R_bipush {n : Int} (hd : decode M.2.1 pc = .ok (.bipush n, 2)) (hv : (Int8.ofInt n).toInt32 = Int32.ofInt n) (kk : Ex G w M d mc ms (pc + 2) ls (vI n :: st) σ Q) : Ex G w M d mc ms pc ls st σ Q := by
  intro p e s m args below meth c H locs cells slots MC MS la F h L hc hs
  exact lv_bipush F.1 F.2.1 hd hv (kk p e s m args below meth c H locs cells slots MC MS la F h L hc hs)
theorem R_sipush {n : Int} (hd : decode M.2.1 pc = .ok (.sipush n, 3)) (hv : (Int16.ofInt n).toInt32 = Int32.ofInt n) (kk : Ex G w M d mc ms (pc + 3) ls (vI n :: st) σ Q) : Ex G w M d mc ms pc ls st σ Q := by
  intro p e s m args below meth c H locs cells slots MC MS la F h L hc hs
  exact lv_sipush F.1 F.2.1 hd hv (kk p e s m args below meth c H locs cells slots MC MS la F h L hc hs)
theorem R_lconst {n : Fin 2} (k : Int) (hd : decode M.2.1 pc = .ok (.lconst n, 1)) (hv : Int64.ofNat (n : Nat) = Int64.ofInt k) (kk : Ex G w M d mc ms (pc + 1) ls (vL k :: st) σ Q) : Ex G w M d mc ms pc ls st σ Q := by
  intro p e s m args below meth c H locs cells slots MC MS la F h L hc hs
  exact lv_lconst F.1 F.2.1 hd hv (kk p e s m args below meth c H locs cells slots MC MS la F h L hc hs)
theorem R_ldc {idx : Nat} (k : Int) (hw : Cond.constant M.1.cls idx (Int32.ofInt k) ∈ kTbl) (hd : decode M.2.1 pc = .ok (.ldc idx, 2)) (kk : Ex G w M d mc ms (pc + 2) ls (vI k :: st) σ Q) : Ex G w M d mc ms pc ls st σ Q := by
  intro p e s m args below meth c H locs cells slots MC MS la F h L hc hs
  exact lv_ldc F.1 F.2.1 F.2.2.2.2.2.1 (F.2.2.2.2.2.2.1 _ hw) hd (kk p e s m args below meth c H locs cells slots MC MS la F h L hc hs)
theorem R_ldc_w {idx : Nat} (k : Int) (hw : Cond.constant M.1.cls idx (Int32.ofInt k) ∈ kTbl) (hd : decode M.2.1 pc = .ok (.ldc_w idx, 3)) (kk : Ex G w M d mc ms (pc + 3) ls (vI k :: st) σ Q) : Ex G w M d mc ms pc ls st σ Q := by
  intro p e s m args below meth c H locs cells slots MC MS la F h L hc hs
  exact lv_ldcw F.1 F.2.1 F.2.2.2.2.2.1 (F.2.2.2.2.2.2.1 _ hw) hd (kk p e s m args below meth c H locs cells slots MC MS la F h L hc hs)
theorem R_ldc2 {idx : Nat} (k : Int) (hw : Cond.constantLong M.1.cls idx (Int64.ofInt k) ∈ kTbl) (hd : decode M.2.1 pc = .ok (.ldc2_w idx, 3)) (kk : Ex G w M d mc ms (pc + 3) ls (vL k :: st) σ Q) : Ex G w M d mc ms pc ls st σ Q := by
  intro p e s m args below meth c H locs cells slots MC MS la F h L hc hs
  exact lv_ldc2 F.1 F.2.1 F.2.2.2.2.2.1 (F.2.2.2.2.2.2.1 _ hw) hd (kk p e s m args below meth c H locs cells slots MC MS la F h L hc hs)
theorem R_iadd {a b : Int} (hd : decode M.2.1 pc = .ok (.iadd, 1)) (kk : Ex G w M d mc ms (pc + 1) ls (vI (a + b) :: st) σ Q) : Ex G w M d mc ms pc ls (vI b :: vI a :: st) σ Q := by
  intro p e s m args below meth c H locs cells slots MC MS la F h L hc hs
  have q := (kk p e s m args below meth c H locs cells slots MC MS la F h L hc hs)
  rw [vI, ← i32_add a b] at q
  exact lv_iadd F.1 F.2.1 hd q
theorem R_isub {a b : Int} (hd : decode M.2.1 pc = .ok (.isub, 1)) (kk : Ex G w M d mc ms (pc + 1) ls (vI (a - b) :: st) σ Q) : Ex G w M d mc ms pc ls (vI b :: vI a :: st) σ Q := by
  intro p e s m args below meth c H locs cells slots MC MS la F h L hc hs
  have q := (kk p e s m args below meth c H locs cells slots MC MS la F h L hc hs)
  rw [vI, ← i32_sub a b] at q
  exact lv_isub F.1 F.2.1 hd q
theorem R_imul {a b : Int} (hd : decode M.2.1 pc = .ok (.imul, 1)) (kk : Ex G w M d mc ms (pc + 1) ls (vI (a * b) :: st) σ Q) : Ex G w M d mc ms pc ls (vI b :: vI a :: st) σ Q := by
  intro p e s m args below meth c H locs cells slots MC MS la F h L hc hs
  have q := (kk p e s m args below meth c H locs cells slots MC MS la F h L hc hs)
  rw [vI, ← i32_mul a b] at q
  exact lv_imul F.1 F.2.1 hd q
theorem R_ineg {a : Int} (hd : decode M.2.1 pc = .ok (.ineg, 1)) (kk : Ex G w M d mc ms (pc + 1) ls (vI (-a) :: st) σ Q) : Ex G w M d mc ms pc ls (vI a :: st) σ Q := by
  intro p e s m args below meth c H locs cells slots MC MS la F h L hc hs
  have q := (kk p e s m args below meth c H locs cells slots MC MS la F h L hc hs)
  rw [vI, ← i32_neg] at q
  exact lv_ineg F.1 F.2.1 hd q
theorem R_iand {a b : Int} (hd : decode M.2.1 pc = .ok (.iand, 1)) (kk : Ex G w M d mc ms (pc + 1) ls (vI (kand a b) :: st) σ Q) : Ex G w M d mc ms pc ls (vI b :: vI a :: st) σ Q := by
  intro p e s m args below meth c H locs cells slots MC MS la F h L hc hs
  have q := (kk p e s m args below meth c H locs cells slots MC MS la F h L hc hs)
  rw [vI, kand, i32_back] at q
  exact lv_iand F.1 F.2.1 hd q
theorem R_ior {a b : Int} (hd : decode M.2.1 pc = .ok (.ior, 1)) (kk : Ex G w M d mc ms (pc + 1) ls (vI (kor a b) :: st) σ Q) : Ex G w M d mc ms pc ls (vI b :: vI a :: st) σ Q := by
  intro p e s m args below meth c H locs cells slots MC MS la F h L hc hs
  have q := (kk p e s m args below meth c H locs cells slots MC MS la F h L hc hs)
  rw [vI, kor, i32_back] at q
  exact lv_ior F.1 F.2.1 hd q
theorem R_ixor {a b : Int} (hd : decode M.2.1 pc = .ok (.ixor, 1)) (kk : Ex G w M d mc ms (pc + 1) ls (vI (kxor a b) :: st) σ Q) : Ex G w M d mc ms pc ls (vI b :: vI a :: st) σ Q := by
  intro p e s m args below meth c H locs cells slots MC MS la F h L hc hs
  have q := (kk p e s m args below meth c H locs cells slots MC MS la F h L hc hs)
  rw [vI, kxor, i32_back] at q
  exact lv_ixor F.1 F.2.1 hd q
theorem R_ishl {a b : Int} (hd : decode M.2.1 pc = .ok (.ishl, 1)) (kk : Ex G w M d mc ms (pc + 1) ls (vI (kshl a b) :: st) σ Q) : Ex G w M d mc ms pc ls (vI b :: vI a :: st) σ Q := by
  intro p e s m args below meth c H locs cells slots MC MS la F h L hc hs
  have q := (kk p e s m args below meth c H locs cells slots MC MS la F h L hc hs)
  rw [vI, kshl, i32_back] at q
  exact lv_ishl F.1 F.2.1 hd q
theorem R_ishr {a b : Int} (hd : decode M.2.1 pc = .ok (.ishr, 1)) (kk : Ex G w M d mc ms (pc + 1) ls (vI (kshr a b) :: st) σ Q) : Ex G w M d mc ms pc ls (vI b :: vI a :: st) σ Q := by
  intro p e s m args below meth c H locs cells slots MC MS la F h L hc hs
  have q := (kk p e s m args below meth c H locs cells slots MC MS la F h L hc hs)
  rw [vI, kshr, i32_back] at q
  exact lv_ishr F.1 F.2.1 hd q
theorem R_idiv {a b : Int} (hd : decode M.2.1 pc = .ok (.idiv, 1)) (ha : 0 ≤ a ∧ a ≤ 2147483647) (hb : 0 < b ∧ b ≤ 2147483647) (kk : Ex G w M d mc ms (pc + 1) ls (vI (a / b) :: st) σ Q) : Ex G w M d mc ms pc ls (vI b :: vI a :: st) σ Q := by
  intro p e s m args below meth c H locs cells slots MC MS la F h L hc hs
  have q := (kk p e s m args below meth c H locs cells slots MC MS la F h L hc hs)
  rw [vI, ← i32_divn ha hb] at q
  exact lv_idiv F.1 F.2.1 hd (i32_nz ⟨by omega, hb.2⟩ (by omega)) q
theorem R_irem {a b : Int} (hd : decode M.2.1 pc = .ok (.irem, 1)) (ha : 0 ≤ a ∧ a ≤ 2147483647) (hb : 0 < b ∧ b ≤ 2147483647) (kk : Ex G w M d mc ms (pc + 1) ls (vI (a % b) :: st) σ Q) : Ex G w M d mc ms pc ls (vI b :: vI a :: st) σ Q := by
  intro p e s m args below meth c H locs cells slots MC MS la F h L hc hs
  have q := (kk p e s m args below meth c H locs cells slots MC MS la F h L hc hs)
  rw [vI, ← i32_remn ha hb] at q
  exact lv_irem F.1 F.2.1 hd (i32_nz ⟨by omega, hb.2⟩ (by omega)) q
theorem R_ladd {a b : Int} (hd : decode M.2.1 pc = .ok (.ladd, 1)) (kk : Ex G w M d mc ms (pc + 1) ls (vL (a + b) :: st) σ Q) : Ex G w M d mc ms pc ls (vL b :: vL a :: st) σ Q := by
  intro p e s m args below meth c H locs cells slots MC MS la F h L hc hs
  have q := (kk p e s m args below meth c H locs cells slots MC MS la F h L hc hs)
  rw [vL, ← i64_add a b] at q
  exact lv_ladd F.1 F.2.1 hd q
theorem R_lmul {a b : Int} (hd : decode M.2.1 pc = .ok (.lmul, 1)) (kk : Ex G w M d mc ms (pc + 1) ls (vL (a * b) :: st) σ Q) : Ex G w M d mc ms pc ls (vL b :: vL a :: st) σ Q := by
  intro p e s m args below meth c H locs cells slots MC MS la F h L hc hs
  have q := (kk p e s m args below meth c H locs cells slots MC MS la F h L hc hs)
  rw [vL, ← i64_mul a b] at q
  exact lv_lmul F.1 F.2.1 hd q
theorem R_land {a b : Int} (hd : decode M.2.1 pc = .ok (.land, 1)) (kk : Ex G w M d mc ms (pc + 1) ls (vL (kland a b) :: st) σ Q) : Ex G w M d mc ms pc ls (vL b :: vL a :: st) σ Q := by
  intro p e s m args below meth c H locs cells slots MC MS la F h L hc hs
  have q := (kk p e s m args below meth c H locs cells slots MC MS la F h L hc hs)
  rw [vL, kland, i64_back] at q
  exact lv_land F.1 F.2.1 hd q
theorem R_lor {a b : Int} (hd : decode M.2.1 pc = .ok (.lor, 1)) (kk : Ex G w M d mc ms (pc + 1) ls (vL (klor a b) :: st) σ Q) : Ex G w M d mc ms pc ls (vL b :: vL a :: st) σ Q := by
  intro p e s m args below meth c H locs cells slots MC MS la F h L hc hs
  have q := (kk p e s m args below meth c H locs cells slots MC MS la F h L hc hs)
  rw [vL, klor, i64_back] at q
  exact lv_lor F.1 F.2.1 hd q
theorem R_lshl {a b : Int} (hd : decode M.2.1 pc = .ok (.lshl, 1)) (kk : Ex G w M d mc ms (pc + 1) ls (vL (klshl a b) :: st) σ Q) : Ex G w M d mc ms pc ls (vI b :: vL a :: st) σ Q := by
  intro p e s m args below meth c H locs cells slots MC MS la F h L hc hs
  exact lv_lshl F.1 F.2.1 hd (i64_back _).symm (kk p e s m args below meth c H locs cells slots MC MS la F h L hc hs)
theorem R_ldiv {a b : Int} (hd : decode M.2.1 pc = .ok (.ldiv, 1)) (ha : 0 ≤ a ∧ a ≤ 9223372036854775807) (hb : 0 < b ∧ b ≤ 9223372036854775807) (kk : Ex G w M d mc ms (pc + 1) ls (vL (a / b) :: st) σ Q) : Ex G w M d mc ms pc ls (vL b :: vL a :: st) σ Q := by
  intro p e s m args below meth c H locs cells slots MC MS la F h L hc hs
  have q := (kk p e s m args below meth c H locs cells slots MC MS la F h L hc hs)
  rw [vL, ← i64_divn ha hb] at q
  exact lv_ldiv F.1 F.2.1 hd (i64_nz ⟨by omega, hb.2⟩ (by omega)) q
theorem R_lrem {a b : Int} (hd : decode M.2.1 pc = .ok (.lrem, 1)) (ha : 0 ≤ a ∧ a ≤ 9223372036854775807) (hb : 0 < b ∧ b ≤ 9223372036854775807) (kk : Ex G w M d mc ms (pc + 1) ls (vL (a % b) :: st) σ Q) : Ex G w M d mc ms pc ls (vL b :: vL a :: st) σ Q := by
  intro p e s m args below meth c H locs cells slots MC MS la F h L hc hs
  have q := (kk p e s m args below meth c H locs cells slots MC MS la F h L hc hs)
  rw [vL, ← i64_remn ha hb] at q
  exact lv_lrem F.1 F.2.1 hd (i64_nz ⟨by omega, hb.2⟩ (by omega)) q
theorem R_i2l {a : Int} (hd : decode M.2.1 pc = .ok (.i2l, 1)) (ha : rI a) (kk : Ex G w M d mc ms (pc + 1) ls (vL a :: st) σ Q) : Ex G w M d mc ms pc ls (vI a :: st) σ Q := by
  intro p e s m args below meth c H locs cells slots MC MS la F h L hc hs
  exact lv_i2l F.1 F.2.1 hd (i2l_of ha) (kk p e s m args below meth c H locs cells slots MC MS la F h L hc hs)
theorem R_l2i {a : Int} (hd : decode M.2.1 pc = .ok (.l2i, 1)) (kk : Ex G w M d mc ms (pc + 1) ls (vI a :: st) σ Q) : Ex G w M d mc ms pc ls (vL a :: st) σ Q := by
  intro p e s m args below meth c H locs cells slots MC MS la F h L hc hs
  exact lv_l2i F.1 F.2.1 hd (l2i_of a) (kk p e s m args below meth c H locs cells slots MC MS la F h L hc hs)
theorem R_i2b {a : Int} (hd : decode M.2.1 pc = .ok (.i2b, 1)) (kk : Ex G w M d mc ms (pc + 1) ls (vI (ki2b a) :: st) σ Q) : Ex G w M d mc ms pc ls (vI a :: st) σ Q := by
  intro p e s m args below meth c H locs cells slots MC MS la F h L hc hs
  exact lv_i2b F.1 F.2.1 hd (i32_back _).symm (kk p e s m args below meth c H locs cells slots MC MS la F h L hc hs)
theorem R_i2s {a : Int} (hd : decode M.2.1 pc = .ok (.i2s, 1)) (kk : Ex G w M d mc ms (pc + 1) ls (vI (ki2s a) :: st) σ Q) : Ex G w M d mc ms pc ls (vI a :: st) σ Q := by
  intro p e s m args below meth c H locs cells slots MC MS la F h L hc hs
  exact lv_i2s F.1 F.2.1 hd (i32_back _).symm (kk p e s m args below meth c H locs cells slots MC MS la F h L hc hs)
def kcmp (a b : Int) : Int := if a < b then -1 else if a = b then 0 else 1
theorem R_lcmp {a b : Int} (hd : decode M.2.1 pc = .ok (.lcmp, 1)) (ha : rL a) (hb : rL b) (kk : Ex G w M d mc ms (pc + 1) ls (vI (kcmp a b) :: st) σ Q) : Ex G w M d mc ms pc ls (vL b :: vL a :: st) σ Q := by
  intro p e s m args below meth c H locs cells slots MC MS la F h L hc hs
  have q := (kk p e s m args below meth c H locs cells slots MC MS la F h L hc hs)
  have e : lg_cmp (Int64.ofInt a) (Int64.ofInt b) = Int32.ofInt (kcmp a b) := by
    unfold lg_cmp kcmp
    simp only [i64_lt ha hb, i64_eq ha hb, gt_iff_lt, i64_lt hb ha]
    (repeat' split) <;> first | rfl | omega
  rw [vI, ← e] at q
  exact W.lcmp F.1 F.2.1 hd q
theorem R_icmp_eq {a b off : Int} (tgt : Nat) (hd : decode M.2.1 pc = .ok (.if_icmp .eq off, 3)) (ht : (pc : Int) + off = (tgt : Int)) (ha : rI a) (hb : rI b) (kt : a = b → Ex G w M d mc ms (tgt) ls st σ Q) (kf : a ≠ b → Ex G w M d mc ms (pc + 3) ls st σ Q) : Ex G w M d mc ms pc ls (vI b :: vI a :: st) σ Q := by
  intro p e s m args below meth c H locs cells slots MC MS la F h L hc hs
  exact lv_icmp_eq F.1 F.2.1 hd ht (fun q => kt ((i32_eq ha hb).mp q) p e s m args below meth c H locs cells slots MC MS la F h L hc hs) (fun q => kf (fun z => q ((i32_eq ha hb).mpr z)) p e s m args below meth c H locs cells slots MC MS la F h L hc hs)
theorem R_if_eq {a off : Int} (tgt : Nat) (hd : decode M.2.1 pc = .ok (.ifCond .eq off, 3)) (ht : (pc : Int) + off = (tgt : Int)) (ha : rI a) (kt : a = 0 → Ex G w M d mc ms (tgt) ls st σ Q) (kf : a ≠ 0 → Ex G w M d mc ms (pc + 3) ls st σ Q) : Ex G w M d mc ms pc ls (vI a :: st) σ Q := by
  intro p e s m args below meth c H locs cells slots MC MS la F h L hc hs
  have hb := rI_0
  exact lv_if_eq F.1 F.2.1 hd ht (fun q => kt ((i32_eq ha hb).mp q) p e s m args below meth c H locs cells slots MC MS la F h L hc hs) (fun q => kf (fun z => q ((i32_eq ha hb).mpr z)) p e s m args below meth c H locs cells slots MC MS la F h L hc hs)
theorem R_icmp_ne {a b off : Int} (tgt : Nat) (hd : decode M.2.1 pc = .ok (.if_icmp .ne off, 3)) (ht : (pc : Int) + off = (tgt : Int)) (ha : rI a) (hb : rI b) (kt : a ≠ b → Ex G w M d mc ms (tgt) ls st σ Q) (kf : a = b → Ex G w M d mc ms (pc + 3) ls st σ Q) : Ex G w M d mc ms pc ls (vI b :: vI a :: st) σ Q := by
  intro p e s m args below meth c H locs cells slots MC MS la F h L hc hs
  exact lv_icmp_ne F.1 F.2.1 hd ht (fun q => kt (fun z => q ((i32_eq ha hb).mpr z)) p e s m args below meth c H locs cells slots MC MS la F h L hc hs) (fun q => kf ((i32_eq ha hb).mp q) p e s m args below meth c H locs cells slots MC MS la F h L hc hs)
theorem R_if_ne {a off : Int} (tgt : Nat) (hd : decode M.2.1 pc = .ok (.ifCond .ne off, 3)) (ht : (pc : Int) + off = (tgt : Int)) (ha : rI a) (kt : a ≠ 0 → Ex G w M d mc ms (tgt) ls st σ Q) (kf : a = 0 → Ex G w M d mc ms (pc + 3) ls st σ Q) : Ex G w M d mc ms pc ls (vI a :: st) σ Q := by
  intro p e s m args below meth c H locs cells slots MC MS la F h L hc hs
  have hb := rI_0
  exact lv_if_ne F.1 F.2.1 hd ht (fun q => kt (fun z => q ((i32_eq ha hb).mpr z)) p e s m args below meth c H locs cells slots MC MS la F h L hc hs) (fun q => kf ((i32_eq ha hb).mp q) p e s m args below meth c H locs cells slots MC MS la F h L hc hs)
theorem R_icmp_lt {a b off : Int} (tgt : Nat) (hd : decode M.2.1 pc = .ok (.if_icmp .lt off, 3)) (ht : (pc : Int) + off = (tgt : Int)) (ha : rI a) (hb : rI b) (kt : a < b → Ex G w M d mc ms (tgt) ls st σ Q) (kf : b ≤ a → Ex G w M d mc ms (pc + 3) ls st σ Q) : Ex G w M d mc ms pc ls (vI b :: vI a :: st) σ Q := by
  intro p e s m args below meth c H locs cells slots MC MS la F h L hc hs
  exact lv_icmp_lt F.1 F.2.1 hd ht (fun q => kt ((i32_lt ha hb).mp q) p e s m args below meth c H locs cells slots MC MS la F h L hc hs) (fun q => kf (Int.not_lt.mp (fun z => q ((i32_lt ha hb).mpr z))) p e s m args below meth c H locs cells slots MC MS la F h L hc hs)
theorem R_if_lt {a off : Int} (tgt : Nat) (hd : decode M.2.1 pc = .ok (.ifCond .lt off, 3)) (ht : (pc : Int) + off = (tgt : Int)) (ha : rI a) (kt : a < 0 → Ex G w M d mc ms (tgt) ls st σ Q) (kf : 0 ≤ a → Ex G w M d mc ms (pc + 3) ls st σ Q) : Ex G w M d mc ms pc ls (vI a :: st) σ Q := by
  intro p e s m args below meth c H locs cells slots MC MS la F h L hc hs
  have hb := rI_0
  exact lv_if_lt F.1 F.2.1 hd ht (fun q => kt ((i32_lt ha hb).mp q) p e s m args below meth c H locs cells slots MC MS la F h L hc hs) (fun q => kf (Int.not_lt.mp (fun z => q ((i32_lt ha hb).mpr z))) p e s m args below meth c H locs cells slots MC MS la F h L hc hs)
theorem R_icmp_ge {a b off : Int} (tgt : Nat) (hd : decode M.2.1 pc = .ok (.if_icmp .ge off, 3)) (ht : (pc : Int) + off = (tgt : Int)) (ha : rI a) (hb : rI b) (kt : b ≤ a → Ex G w M d mc ms (tgt) ls st σ Q) (kf : a < b → Ex G w M d mc ms (pc + 3) ls st σ Q) : Ex G w M d mc ms pc ls (vI b :: vI a :: st) σ Q := by
  intro p e s m args below meth c H locs cells slots MC MS la F h L hc hs
  exact lv_icmp_ge F.1 F.2.1 hd ht (fun q => kt ((i32_le hb ha).mp q) p e s m args below meth c H locs cells slots MC MS la F h L hc hs) (fun q => kf (Int.not_le.mp (fun z => q ((i32_le hb ha).mpr z))) p e s m args below meth c H locs cells slots MC MS la F h L hc hs)
theorem R_if_ge {a off : Int} (tgt : Nat) (hd : decode M.2.1 pc = .ok (.ifCond .ge off, 3)) (ht : (pc : Int) + off = (tgt : Int)) (ha : rI a) (kt : 0 ≤ a → Ex G w M d mc ms (tgt) ls st σ Q) (kf : a < 0 → Ex G w M d mc ms (pc + 3) ls st σ Q) : Ex G w M d mc ms pc ls (vI a :: st) σ Q := by
  intro p e s m args below meth c H locs cells slots MC MS la F h L hc hs
  have hb := rI_0
  exact lv_if_ge F.1 F.2.1 hd ht (fun q => kt ((i32_le hb ha).mp q) p e s m args below meth c H locs cells slots MC MS la F h L hc hs) (fun q => kf (Int.not_le.mp (fun z => q ((i32_le hb ha).mpr z))) p e s m args below meth c H locs cells slots MC MS la F h L hc hs)
theorem R_icmp_gt {a b off : Int} (tgt : Nat) (hd : decode M.2.1 pc = .ok (.if_icmp .gt off, 3)) (ht : (pc : Int) + off = (tgt : Int)) (ha : rI a) (hb : rI b) (kt : b < a → Ex G w M d mc ms (tgt) ls st σ Q) (kf : a ≤ b → Ex G w M d mc ms (pc + 3) ls st σ Q) : Ex G w M d mc ms pc ls (vI b :: vI a :: st) σ Q := by
  intro p e s m args below meth c H locs cells slots MC MS la F h L hc hs
  exact lv_icmp_gt F.1 F.2.1 hd ht (fun q => kt ((i32_lt hb ha).mp q) p e s m args below meth c H locs cells slots MC MS la F h L hc hs) (fun q => kf (Int.not_lt.mp (fun z => q ((i32_lt hb ha).mpr z))) p e s m args below meth c H locs cells slots MC MS la F h L hc hs)
theorem R_if_gt {a off : Int} (tgt : Nat) (hd : decode M.2.1 pc = .ok (.ifCond .gt off, 3)) (ht : (pc : Int) + off = (tgt : Int)) (ha : rI a) (kt : 0 < a → Ex G w M d mc ms (tgt) ls st σ Q) (kf : a ≤ 0 → Ex G w M d mc ms (pc + 3) ls st σ Q) : Ex G w M d mc ms pc ls (vI a :: st) σ Q := by
  intro p e s m args below meth c H locs cells slots MC MS la F h L hc hs
  have hb := rI_0
  exact lv_if_gt F.1 F.2.1 hd ht (fun q => kt ((i32_lt hb ha).mp q) p e s m args below meth c H locs cells slots MC MS la F h L hc hs) (fun q => kf (Int.not_lt.mp (fun z => q ((i32_lt hb ha).mpr z))) p e s m args below meth c H locs cells slots MC MS la F h L hc hs)
theorem R_icmp_le {a b off : Int} (tgt : Nat) (hd : decode M.2.1 pc = .ok (.if_icmp .le off, 3)) (ht : (pc : Int) + off = (tgt : Int)) (ha : rI a) (hb : rI b) (kt : a ≤ b → Ex G w M d mc ms (tgt) ls st σ Q) (kf : b < a → Ex G w M d mc ms (pc + 3) ls st σ Q) : Ex G w M d mc ms pc ls (vI b :: vI a :: st) σ Q := by
  intro p e s m args below meth c H locs cells slots MC MS la F h L hc hs
  exact lv_icmp_le F.1 F.2.1 hd ht (fun q => kt ((i32_le ha hb).mp q) p e s m args below meth c H locs cells slots MC MS la F h L hc hs) (fun q => kf (Int.not_le.mp (fun z => q ((i32_le ha hb).mpr z))) p e s m args below meth c H locs cells slots MC MS la F h L hc hs)
theorem R_if_le {a off : Int} (tgt : Nat) (hd : decode M.2.1 pc = .ok (.ifCond .le off, 3)) (ht : (pc : Int) + off = (tgt : Int)) (ha : rI a) (kt : a ≤ 0 → Ex G w M d mc ms (tgt) ls st σ Q) (kf : 0 < a → Ex G w M d mc ms (pc + 3) ls st σ Q) : Ex G w M d mc ms pc ls (vI a :: st) σ Q := by
  intro p e s m args below meth c H locs cells slots MC MS la F h L hc hs
  have hb := rI_0
  exact lv_if_le F.1 F.2.1 hd ht (fun q => kt ((i32_le ha hb).mp q) p e s m args below meth c H locs cells slots MC MS la F h L hc hs) (fun q => kf (Int.not_le.mp (fun z => q ((i32_le ha hb).mpr z))) p e s m args below meth c H locs cells slots MC MS la F h L hc hs)
theorem R_goto {off : Int} (tgt : Nat) (hd : decode M.2.1 pc = .ok (.goto off, 3)) (ht : (pc : Int) + off = (tgt : Int)) (kk : Ex G w M d mc ms (tgt) ls st σ Q) : Ex G w M d mc ms pc ls st σ Q := by
  intro p e s m args below meth c H locs cells slots MC MS la F h L hc hs
  exact lv_goto F.1 F.2.1 hd ht (kk p e s m args below meth c H locs cells slots MC MS la F h L hc hs)
theorem R_tableIn {dflt lo hi : Int} {offs : Array Int} {len : Nat} {a off : Int} (tgt : Nat) (hd : decode M.2.1 pc = .ok (.tableswitch dflt lo hi offs, len)) (ha : rI a) (h1 : lo ≤ a) (h2 : a ≤ hi) (ho : offs[(a - lo).toNat]? = some off) (ht : (pc : Int) + off = (tgt : Int)) (kk : Ex G w M d mc ms (tgt) ls st σ Q) : Ex G w M d mc ms pc ls (vI a :: st) σ Q := by
  intro p e s m args below meth c H locs cells slots MC MS la F h L hc hs
  have e0 := i32_to ha.1 ha.2
  exact lv_tableIn F.1 F.2.1 hd (by rw [e0]; omega) (by rw [e0]; omega) (by rw [e0]; exact ho) ht (kk p e s m args below meth c H locs cells slots MC MS la F h L hc hs)
theorem R_tableOut {dflt lo hi : Int} {offs : Array Int} {len : Nat} {a : Int} (tgt : Nat) (hd : decode M.2.1 pc = .ok (.tableswitch dflt lo hi offs, len)) (ha : rI a) (h1 : a < lo ∨ hi < a) (ht : (pc : Int) + dflt = (tgt : Int)) (kk : Ex G w M d mc ms (tgt) ls st σ Q) : Ex G w M d mc ms pc ls (vI a :: st) σ Q := by
  intro p e s m args below meth c H locs cells slots MC MS la F h L hc hs
  have e0 := i32_to ha.1 ha.2
  exact lv_tableOut F.1 F.2.1 hd (by rw [e0]; exact h1) ht (kk p e s m args below meth c H locs cells slots MC MS la F h L hc hs)
theorem R_dup {v : Value} (hd : decode M.2.1 pc = .ok (.dup, 1)) (hv : v.category = 1) (kk : Ex G w M d mc ms (pc + 1) ls (v :: v :: st) σ Q) : Ex G w M d mc ms pc ls (v :: st) σ Q := by
  intro p e s m args below meth c H locs cells slots MC MS la F h L hc hs
  exact lv_dup F.1 F.2.1 hd hv (kk p e s m args below meth c H locs cells slots MC MS la F h L hc hs)
theorem R_pop {v : Value} (hd : decode M.2.1 pc = .ok (.pop, 1)) (hv : v.category = 1) (kk : Ex G w M d mc ms (pc + 1) ls st σ Q) : Ex G w M d mc ms pc ls (v :: st) σ Q := by
  intro p e s m args below meth c H locs cells slots MC MS la F h L hc hs
  exact lv_pop F.1 F.2.1 hd hv (kk p e s m args below meth c H locs cells slots MC MS la F h L hc hs)
theorem R_dup2 {v u : Value} (hd : decode M.2.1 pc = .ok (.dup2, 1)) (hv : v.category = 1) (hu : u.category = 1) (kk : Ex G w M d mc ms (pc + 1) ls (v :: u :: v :: u :: st) σ Q) : Ex G w M d mc ms pc ls (v :: u :: st) σ Q := by
  intro p e s m args below meth c H locs cells slots MC MS la F h L hc hs
  exact lv_dup2_11 F.1 F.2.1 hd hv hu (kk p e s m args below meth c H locs cells slots MC MS la F h L hc hs)
