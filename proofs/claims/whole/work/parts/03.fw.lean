/-! THE FRAMEWORK: a small memory over the machine's heap, a judgement Ex for a place in a method, Run for a whole call -/
abbrev Kmem : Type := Int → Int → Int
def kup (σ : Kmem) (a j v : Int) : Kmem := fun b k => if b = a ∧ k = j then v else σ b k
/-- launch, base, the classes' tables, the array classes by code, addresses of what lies outside -/
abbrev Kg : Type := Launch × Nat × va_G × (Nat → ClassId) × (Nat → Nat)
/-- a world: shape of each cell (code, length), the reader of references, does it grow, its cap -/
abbrev Kw : Type := (Nat → Nat × Nat) × (Kmem → Int → Int → Int) × Bool × Nat
/-- a method: name, code, locals, what it returns -/
abbrev Km : Type := MethodName × ByteArray × Nat × Option FieldType
def kaTy (i : Nat) : FieldType := match i with
  | 0 => .int | 1 => .long | 2 => .byte | 3 => .boolean | 4 => .object RX10 | 5 => .object RX0 | 6 => .object RX7 | 7 => .object RX3 | 8 => .object RX2 | 9 => .object RX9 | _ => .array .int
def kAd (G : Kg) (k : Int) : Nat := if 0 ≤ k then G.2.1 + k.toNat else G.2.2.2.2 (-k).toNat
def kRo (G : Kg) (f : Int) : Option Nat := if f = 0 then none else some (kAd G f)
def kRf (G : Kg) (f : Int) : Value := va_rf (kRo G f)
def kEnc (G : Kg) (ty : FieldType) (f v : Int) : Value := match ty with
  | .long => .long (Int64.ofInt v)
  | .object _ => kRf G f
  | .array _ => kRf G f
  | _ => .int (Int32.ofInt v)
def kObj (G : Kg) (w : Kw) (σ : Kmem) (a ci : Nat) : List Value := (List.range (knf ci)).map (fun j => kEnc G (kfty ci j) (w.2.1 σ a j) (σ a j))
def kArC (G : Kg) (w : Kw) (σ : Kmem) (a code : Nat) : (Nat → Int32) ⊕ (Nat → Int64) ⊕ (Nat → UInt32) ⊕ (Nat → UInt64) ⊕ (Nat → Option Nat) :=
  if code = 21 then .inr (.inl (fun j => Int64.ofInt (σ a j))) else if 24 ≤ code then .inr (.inr (.inr (.inr (fun j => kRo G (w.2.1 σ a j))))) else .inl (fun j => Int32.ofInt (σ a j))
def kCell (G : Kg) (w : Kw) (σ : Kmem) (a : Nat) : va_E := if (w.1 a).1 < 20 then .inr ((w.1 a).1, kObj G w σ a (w.1 a).1) else .inl (G.2.2.2.1 (w.1 a).1, ((w.1 a).2, kArC G w σ a (w.1 a).1))
def kWL (G : Kg) (w : Kw) (σ : Kmem) (n : Nat) : va_W := (List.range n).map (fun a => (G.2.1 + a, kCell G w σ a))
def kN (w : Kw) (σ : Kmem) : Nat := if w.2.2.1 = true then (σ (-7) 0).toNat else w.2.2.2
def kA (G : Kg) (w : Kw) : Nat → Prop := fun q => G.2.1 ≤ q ∧ (w.2.2.1 = true ∨ q < G.2.1 + w.2.2.2)
def kTys (G : Kg) : List (ClassId × FieldType) := (List.range 11).map (fun i => (G.2.2.2.1 (20 + i), kaTy i))
/-- the nest words -/
def kNest : List Cond := lw_tbl.filter (fun w => match w with | .fieldLinkNest .. => true | .methodLinkNest .. => true | .arrayOver (.object _) => true | .arrayOver (.array _) => true | _ => false)
/-- the words that every method is given -/
def kTbl : List Cond := lw_tbl.filter goodWord
theorem kTbl_good : ∀ w ∈ kTbl, w ∈ lw_tbl ∧ goodWord w = true := fun w h => ⟨(List.mem_filter.mp h).1, (List.mem_filter.mp h).2⟩
theorem kTbl_in {w : Cond} (h : w ∈ lw_tbl) (g : goodWord w = true) : w ∈ kTbl := List.mem_filter.mpr ⟨h, g⟩
/-- what the tables say, of a state -/
def kTb (G : Kg) (s : State) : Prop := va_K G.2.2.1 vwCl (kTys G) s ∧ ∀ w ∈ kNest, va_Nw w s
/-- what lies outside (strings, static arrays): filled in later parts by XX -/
def kHp (G : Kg) (w : Kw) (σ : Kmem) (s : State) (H : Heap) (locs : List Loc) : Prop :=
  va_P G.2.2.1 vwCl (kWL G w σ (kN w σ)) H ∧ kN w σ ≤ w.2.2.2 ∧ (w.2.2.1 = true → H.size = G.2.1 + kN w σ) ∧ va_S (kA G w) s.heap H locs
theorem kWL_at {G : Kg} {w : Kw} {σ : Kmem} {n a : Nat} (h : a < n) : (kWL G w σ n)[a]? = some (G.2.1 + a, kCell G w σ a) := by
  simp [kWL, List.getElem?_map, List.getElem?_range h]
theorem kWL_len {G : Kg} {w : Kw} {σ : Kmem} {n : Nat} : (kWL G w σ n).length = n := by simp [kWL]
theorem kWL_of {G : Kg} {w : Kw} {σ : Kmem} {n k : Nat} {q : Nat × va_E} (h : (kWL G w σ n)[k]? = some q) : k < n ∧ q = (G.2.1 + k, kCell G w σ k) := by
  have hl : k < n := by have := (List.getElem?_eq_some_iff.mp h).1; rwa [kWL_len] at this
  rw [kWL_at hl] at h
  exact ⟨hl, (Option.some.inj h).symm⟩
theorem kWL_D {G : Kg} {w : Kw} {σ : Kmem} {n : Nat} (h : n ≤ w.2.2.2) : va_D (kA G w) (kWL G w σ n) := by
  refine ⟨fun i j p q hp hq e => ?_, fun k q hk => ?_⟩
  · obtain ⟨-, rfl⟩ := kWL_of hp
    obtain ⟨-, rfl⟩ := kWL_of hq
    simp at e; exact e
  · obtain ⟨h1, rfl⟩ := kWL_of hk
    exact ⟨Nat.le_add_right _ _, Or.inr (Nat.add_lt_add_left (Nat.lt_of_lt_of_le h1 h) _)⟩
/-- the 29 String constants: class, entry, text -/
def kStrs : List (String × Nat × String × List Int32) := [("KiteLand$CountyReader", 114, "by", [98, 121]), ("KiteLand$CountyReader", 152, "size", [115, 105, 122, 101]), ("KiteLand$CountyReader", 160, "string", [115, 116, 114, 105, 110, 103]), ("KiteLand$CountyReader", 164, "needs", [110, 101, 101, 100, 115]), ("KiteLand$CountyReader", 168, "veers", [118, 101, 101, 114, 115]), ("KiteLand$CountyReader", 178, "wants", [119, 97, 110, 116, 115]), ("KiteLand$CountyReader", 192, "of", [111, 102]), ("KiteLand$CountyReader", 213, "at", [97, 116]), ("KiteLand$CountyReader", 61, "wind", [119, 105, 110, 100]), ("KiteLand$CountyReader", 70, "noon", [110, 111, 111, 110]), ("KiteLand$CountyReader", 75, "law", [108, 97, 119]), ("KiteLand$CountyReader", 80, "kite", [107, 105, 116, 101]), ("KiteLand$CountyReader", 85, "crop", [99, 114, 111, 112]), ("KiteLand$CountyReader", 90, "tenant", [116, 101, 110, 97, 110, 116]), ("KiteLand$CountyReader", 95, "land", [108, 97, 110, 100]), ("KiteLand$Scanner", 74, "land by wind noon law kite at size string needs veers crop wants tenant of hour walk cut mend any when purse ripe up loop end stop ", [108, 97, 110, 100, 32, 98, 121, 32, 119, 105, 110, 100, 32, 110, 111, 111, 110, 32, 108, 97, 119, 32, 107, 105, 116, 101, 32, 97, 116, 32, 115, 105, 122, 101, 32, 115, 116, 114, 105, 110, 103, 32, 110, 101, 101, 100, 115, 32, 118, 101, 101, 114, 115, 32, 99, 114, 111, 112, 32, 119, 97, 110, 116, 115, 32, 116, 101, 110, 97, 110, 116, 32, 111, 102, 32, 104, 111, 117, 114, 32, 119, 97, 108, 107, 32, 99, 117, 116, 32, 109, 101, 110, 100, 32, 97, 110, 121, 32, 119, 104, 101, 110, 32, 112, 117, 114, 115, 101, 32, 114, 105, 112, 101, 32, 117, 112, 32, 108, 111, 111, 112, 32, 101, 110, 100, 32, 115, 116, 111, 112, 32]), ("KiteLand$Seasons", 101, "when", [119, 104, 101, 110]), ("KiteLand$Seasons", 103, "loop", [108, 111, 111, 112]), ("KiteLand$Seasons", 105, "stop", [115, 116, 111, 112]), ("KiteLand$Seasons", 117, "ripe", [114, 105, 112, 101]), ("KiteLand$Seasons", 136, "up", [117, 112]), ("KiteLand$Seasons", 138, "purse", [112, 117, 114, 115, 101]), ("KiteLand$Seasons", 59, "end", [101, 110, 100]), ("KiteLand$Seasons", 91, "hour", [104, 111, 117, 114]), ("KiteLand$Seasons", 93, "walk", [119, 97, 108, 107]), ("KiteLand$Seasons", 95, "cut", [99, 117, 116]), ("KiteLand$Seasons", 97, "mend", [109, 101, 110, 100]), ("KiteLand$Seasons", 99, "any", [97, 110, 121]), ("KiteLandModel", 186, " land wind noon law kite crop tenant by at size string needs veers wants of hour walk cut mend any when loop end stop purse ripe up ", [32, 108, 97, 110, 100, 32, 119, 105, 110, 100, 32, 110, 111, 111, 110, 32, 108, 97, 119, 32, 107, 105, 116, 101, 32, 99, 114, 111, 112, 32, 116, 101, 110, 97, 110, 116, 32, 98, 121, 32, 97, 116, 32, 115, 105, 122, 101, 32, 115, 116, 114, 105, 110, 103, 32, 110, 101, 101, 100, 115, 32, 118, 101, 101, 114, 115, 32, 119, 97, 110, 116, 115, 32, 111, 102, 32, 104, 111, 117, 114, 32, 119, 97, 108, 107, 32, 99, 117, 116, 32, 109, 101, 110, 100, 32, 97, 110, 121, 32, 119, 104, 101, 110, 32, 108, 111, 111, 112, 32, 101, 110, 100, 32, 115, 116, 111, 112, 32, 112, 117, 114, 115, 101, 32, 114, 105, 112, 101, 32, 117, 112, 32])]
def kStA : List (String × List Int32) := [("STEP_ACROSS", [0, 0, 1, 0, -1]), ("STEP_DOWN", [0, -1, 0, 1, 0]), ("WIND_ACROSS", [0, 1, 1, 1, 0, -1, -1, -1]), ("WIND_DOWN", [-1, -1, 0, 1, 1, 1, 0, -1])]
/-- what lies outside: four static arrays at 1 .., the String constants at 10 .., their bytes at 50 .. -/
def kX (G : Kg) (w : Kw) (U : State) (H : Heap) : Prop :=
  (∀ (i : Nat) (q : String × List Int32), kStA[i]? = some q → va_Z "KiteLand" q.1 "[I" (.ref (G.2.2.2.2 (1 + i))) (kA G w) U H ∧ va_T .int (G.2.2.2.2 (1 + i)) q.2.length (fun j => .int (q.2.getD j 0)) (kA G w) U H) ∧
  (∀ (i : Nat) (q : String × Nat × String × List Int32), kStrs[i]? = some q → vk_R q.1 q.2.1 q.2.2.1 (G.2.2.2.2 (10 + i)) U ∧ va_O "java/lang/String" (G.2.2.2.2 (10 + i)) (kA G w) U H ∧ va_OF "java/lang/String" "coder" "B" (.int 0) (G.2.2.2.2 (10 + i)) (kA G w) U H ∧ va_OF "java/lang/String" "value" "[B" (.ref (G.2.2.2.2 (50 + i))) (G.2.2.2.2 (10 + i)) (kA G w) U H ∧ va_T .byte (G.2.2.2.2 (50 + i)) q.2.2.2.length (fun j => .int (q.2.2.2.getD j 0)) (kA G w) U H) ∧
  va_Z "java/lang/String" "COMPACT_STRINGS" "Z" (.int 1) (kA G w) U H ∧ va_Zq "jdk/internal/util/Preconditions" "SIOOBE_FORMATTER" "Ljava/util/function/BiFunction;" (kA G w) U H
theorem kX_kept {G : Kg} {w : Kw} {U : State} {H H1 : Heap} (h : kX G w U H) (hq : ∀ a : Nat, a < H.size → ¬ kA G w a → H1[a]? = H[a]?) : kX G w U H1 :=
  ⟨fun i q e => ⟨(h.1 i q e).1.kept hq, (h.1 i q e).2.kept hq⟩, fun i q e => ⟨(h.2.1 i q e).1, (h.2.1 i q e).2.1.kept hq, (h.2.1 i q e).2.2.1.kept hq, (h.2.1 i q e).2.2.2.1.kept hq, (h.2.1 i q e).2.2.2.2.kept hq⟩, h.2.2.1.kept hq, h.2.2.2.kept hq⟩
theorem kX_warm {G : Kg} {w : Kw} {s U : State} {H : Heap} (hW : s.WarmedH U.vm) (h : kX G w s H) : kX G w U H :=
  ⟨fun i q e => ⟨(h.1 i q e).1.moved hW.alike, (h.1 i q e).2.moved hW.alike⟩, fun i q e => ⟨(h.2.1 i q e).1.warm hW, va_O.moved hW.alike (h.2.1 i q e).2.1, va_OF.moved hW.alike (h.2.1 i q e).2.2.1, va_OF.moved hW.alike (h.2.1 i q e).2.2.2.1, (h.2.1 i q e).2.2.2.2.moved hW.alike⟩, h.2.2.1.moved hW.alike, h.2.2.2.moved hW.alike⟩
theorem kidx_bare (vm : Vm) (comp : ClassId) : (vm.bare.classes.findIdx? fun (x : Class) => match x.kind with | .array component _ => component == comp | _ => false) = (vm.classes.findIdx? fun (x : Class) => match x.kind with | .array component _ => component == comp | _ => false) := by
  simp only [Vm.bare, Array.findIdx?_map]
  rfl
theorem kAOA_moved {t : FieldType} {u U : State} (hvm : u.vm.Alike U.vm) (h : (Cond.arrayOver (.array t)).before #[] u = true) : (Cond.arrayOver (.array t)).before #[] U = true := by
  obtain ⟨comp, c, k, h1, h2, h3, h4, h5⟩ := arrayOverA_spec h
  obtain ⟨k', hk', he⟩ := hvm.2.2 _ _ h3
  have hi : (U.vm.classes.findIdx? fun (x : Class) => match x.kind with | .array component _ => component == comp | _ => false) = some c := by
    rw [← kidx_bare]
    first | rw [hvm.bare_eq] | rw [← hvm.bare_eq]
    rw [kidx_bare]
    exact h2
  have hkind : k'.kind = .array comp (.array t) := by rw [he]; exact h4
  have f1 : U.vm.findClass (FieldType.array t).toString = some comp := by rw [hvm.findClass]; exact h1
  have f2 : U.vm.findClass ("[" ++ (FieldType.array t).toString) = some c := by rw [hvm.findClass]; exact h5
  unfold Cond.before Cond.holds
  simp only [Cond.value]
  rw [f1, Option.bind_some]
  refine (congrArg (fun o : Option Nat => (o.bind (fun c => (U.vm.classes[c]?).map fun (k : Class) => match k.kind with | .array _ ty => decide (ty = FieldType.array t) && decide (U.vm.findClass ("[" ++ (FieldType.array t).toString) = some c) | _ => false) == some true)) hi).trans ?_
  simp [hk', hkind, f2]
theorem kTb_warm {G : Kg} {s U : State} (hW : s.WarmedH U.vm) (h : kTb G s) : kTb G U := by
  refine ⟨va_K.moved hW.alike h.1, fun w hw => ?_⟩
  have h1 := h.2 w hw
  have h2 := (List.mem_filter.mp hw).2
  cases w <;> first | (cases h2; done) | exact va_Nw.warmF hW h1 | exact va_Nw.warmM hW h1 | (rename_i t; cases t <;> first | (cases h2; done) | exact va_AO.moved hW.alike h1 | exact kAOA_moved hW.alike h1)
/-- the fixed of an invocation -/
def kFx (G : Kg) (w : Kw) (M : Km) (p : Program) (s : State) (m : MethodId) (args : Array Value) (meth : Method) (c : Code) : Prop :=
  p.tables.exec = Jvm.exec ∧ c.code = M.2.1 ∧ c.maxLocals = M.2.2.1 ∧ meth.sig.returnType = M.2.2.2 ∧ meth.locks = false ∧ s.vm.findClass M.1.cls = some m.cls ∧ (∀ w ∈ kTbl, w.before args s = true) ∧ kTb G s ∧ kX G w s s.heap ∧ meth.name = M.1.name
def kRm (d mc ms : Nat) : Room := { frames := d, cells := mc, slots := ms, locals := 64 * d }
def kRet (G : Kg) (ret : Option FieldType) (r : Int) : Option Value := match ret with
  | none => none
  | some ty => some (kEnc G ty r r)
/-- the end of an invocation -/
def kQ (G : Kg) (w : Kw) (ret : Option FieldType) (Q : Int → Kmem → Prop) : Array Value → State → Outcome → State → Prop := fun _ st o t =>
  (∃ (r : Int) (σ : Kmem), o = .returned (kRet G ret r) ∧ Q r σ ∧ va_P G.2.2.1 vwCl (kWL G w σ (kN w σ)) t.heap ∧ kN w σ ≤ w.2.2.2 ∧ (w.2.2.1 = true → t.heap.size = G.2.1 + kN w σ)) ∧ va_F (kA G w) st t
/-- a place in a method: from here, whatever stands around, it comes to its end with Q; it may still make mc cells of ms slots -/
def Ex (G : Kg) (w : Kw) (M : Km) (d mc ms pc : Nat) (ls : List (Nat × Value)) (st : List Value) (σ : Kmem) (Q : Int → Kmem → Prop) : Prop :=
  ∀ (p : Program) (e : Env) (s : State) (m : MethodId) (args : Array Value) (below : List Frame) (meth : Method) (c : Code) (H : Heap) (locs : List Loc) (cells slots MC MS : Nat) (la : Array Slot),
    kFx G w M p s m args meth c → kHp G w σ s H locs → lv_has la M.2.2.1 ls → cells + mc ≤ MC → slots + ms ≤ MS →
    W p G.1 e (kRm d MC MS) s m args below meth c H locs cells slots (MQ below (kQ G w M.2.2.2 Q) args s MC MS (kA G w)) (F0 m pc la st)
def kPc (G : Kg) (w : Kw) (as : List Value) (σ : Kmem) : Array Value → State → Prop := fun v U => v = as.toArray ∧ va_P G.2.2.1 vwCl (kWL G w σ (kN w σ)) U.heap ∧ kN w σ ≤ w.2.2.2 ∧ (w.2.2.1 = true → U.heap.size = G.2.1 + kN w σ) ∧ kTb G U ∧ kX G w U U.heap
/-- a whole call -/
def Run (G : Kg) (w : Kw) (M : Km) (d mc ms : Nat) (as : List Value) (σ : Kmem) (Q : Int → Kmem → Prop) : Prop :=
  Met G.1 M.1 (Cond.code M.1 M.2.1 M.2.2.1 M.2.2.2 :: kTbl) (kRm d mc ms) (kPc G w as σ) (kQ G w M.2.2.2 Q) mc ms (kA G w)
theorem Run.mono {G : Kg} {w : Kw} {M : Km} {d mc ms : Nat} {as : List Value} {σ : Kmem} {Q Q' : Int → Kmem → Prop} (h : Run G w M d mc ms as σ Q) (k : ∀ r σ', Q r σ' → Q' r σ') : Run G w M d mc ms as σ Q' := by
  unfold Run Met MetFree at h ⊢
  intro p e h1 h2 h3 s m args below h4 h5 h6 h7
  obtain ⟨t, o, g1, g2, g3, ⟨⟨r, σ', q1, q2, q3⟩, q4⟩, g5⟩ := h p e h1 h2 h3 s m args below h4 h5 h6 h7
  exact ⟨t, o, g1, g2, g3, ⟨⟨r, σ', q1, k r σ' q2, q3⟩, q4⟩, g5⟩
