/-! a long cut to an int -/
def ki2i (a : Int) : Int := (Int32.ofInt a).toInt
theorem vI_ki2i {a : Int} : vI a = vI (ki2i a) := by show Value.int _ = Value.int _; rw [ki2i, i32_back]
theorem ki2i_r (a : Int) : rI (ki2i a) := by
  have h1 := (Int32.ofInt a).le_toInt
  have h2 := (Int32.ofInt a).toInt_lt
  unfold ki2i
  constructor <;> omega
theorem ki2b_r (a : Int) : rI (ki2b a) := by
  have h1 := ((Int32.ofInt a).toInt8.toInt32).le_toInt
  have h2 := ((Int32.ofInt a).toInt8.toInt32).toInt_lt
  unfold ki2b
  constructor <;> omega
theorem ki2s_r (a : Int) : rI (ki2s a) := by
  have h1 := ((Int32.ofInt a).toInt16.toInt32).le_toInt
  have h2 := ((Int32.ofInt a).toInt16.toInt32).toInt_lt
  unfold ki2s
  constructor <;> omega
