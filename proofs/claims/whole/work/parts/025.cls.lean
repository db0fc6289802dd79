/-! classes: names, fields, types; the heavy decisions over the tables -/
abbrev vwCl : List vw_C := [(RX0, TX0, 13), (RX1, TX1, 7), (RX2, TX2, 5), (RX3, TX3, 10), (RX4, TX4, 9), (RX5, TX5, 18), (RX6, TX6, 10), (RX7, TX7, 10), (RX8, TX8, 7), (RX9, TX9, 6), (RX10, TX10, 4), (RX11, TX11, 19), (RX12, TX12, 42)]
def kfty (ci : Nat) : Nat → FieldType := match ci with
  | 0 => tyX0 | 1 => tyX1 | 2 => tyX2 | 3 => tyX3 | 4 => tyX4 | 5 => tyX5 | 6 => tyX6 | 7 => tyX7 | 8 => tyX8 | 9 => tyX9 | 10 => tyX10 | 11 => tyX11 | _ => tyX12
def knf (ci : Nat) : Nat := match ci with
  | 0 => 13 | 1 => 7 | 2 => 5 | 3 => 10 | 4 => 9 | 5 => 18 | 6 => 10 | 7 => 10 | 8 => 7 | 9 => 6 | 10 => 4 | 11 => 19 | _ => 42
def kCn (ci : Nat) : String := match ci with
  | 0 => RX0 | 1 => RX1 | 2 => RX2 | 3 => RX3 | 4 => RX4 | 5 => RX5 | 6 => RX6 | 7 => RX7 | 8 => RX8 | 9 => RX9 | 10 => RX10 | 11 => RX11 | _ => RX12
def kCT (ci : Nat) : u_T := match ci with
  | 0 => TX0 | 1 => TX1 | 2 => TX2 | 3 => TX3 | 4 => TX4 | 5 => TX5 | 6 => TX6 | 7 => TX7 | 8 => TX8 | 9 => TX9 | 10 => TX10 | 11 => TX11 | _ => TX12
theorem kCl_at {ci : Nat} (h : ci < 13) : vwCl[ci]? = some (kCn ci, kCT ci, knf ci) := by
  match ci, h with
  | 0, _ => rfl | 1, _ => rfl | 2, _ => rfl | 3, _ => rfl | 4, _ => rfl | 5, _ => rfl | 6, _ => rfl | 7, _ => rfl | 8, _ => rfl | 9, _ => rfl | 10, _ => rfl | 11, _ => rfl | 12, _ => rfl
theorem kTbl_cls0 : ∀ ci, ci < 13 → ∀ w ∈ u_ws (kCn ci) (kCT ci) (knf ci), w ∈ lw_tbl ∧ goodWord w = true := by decide +kernel
theorem kCT_ok : ∀ ci, ci < 13 → ∀ k, k < knf ci → parseFieldDescriptor (kCT ci k).2.2.1 = some (kfty ci k) := by decide +kernel
theorem kCT_nm : ∀ ci, ci < 13 → ∀ a, a < knf ci → ∀ b, b < knf ci → a ≠ b → (kCT ci a).2.1 ≠ (kCT ci b).2.1 := by decide +kernel
