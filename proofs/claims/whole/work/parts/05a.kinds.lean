def xC (t : Nat) : vw_C := xcl.getD t (RX0, TX0, 0)
def vV0 (ty : FieldType) : Value := match ty with
  | .long => .long 0
  | .object _ => .null
  | .array _ => .null
  | _ => .int 0
def xCok (t : Nat) : Prop := (t ≠ 0 ∧ t < 100) ∧ xcl[t]? = some (xC t) ∧ (∀ w ∈ u_ws (xC t).1 (xC t).2.1 (xC t).2.2, w ∈ xtb) ∧ (∀ k, k < (xC t).2.2 → parseFieldDescriptor ((xC t).2.1 k).2.2.1 = some (xF t k)) ∧ (∀ a, a < (xC t).2.2 → ∀ b, b < (xC t).2.2 → a ≠ b → ((xC t).2.1 a).2.1 ≠ ((xC t).2.1 b).2.1) ∧ (∀ k, k < (xC t).2.2 → defaultValue (xF t k) = vV0 (xF t k)) ∧ Cond.instantiable (xC t).1 (xC t).2.2 ∈ xtb ∧ Cond.initialized (xC t).1 ∈ xtb
set_option maxRecDepth 100000 in
theorem xc1 : xCok 1 := ⟨by decide, rfl, by decide +kernel, tyJx4a65c_ok, nmJx4a65c, by decide +kernel, by decide +kernel, by decide +kernel⟩
set_option maxRecDepth 100000 in
theorem xc2 : xCok 2 := ⟨by decide, rfl, by decide +kernel, tyX0_ok, nmX0, by decide +kernel, by decide +kernel, by decide +kernel⟩
set_option maxRecDepth 100000 in
theorem xc3 : xCok 3 := ⟨by decide, rfl, by decide +kernel, tyX1_ok, nmX1, by decide +kernel, by decide +kernel, by decide +kernel⟩
set_option maxRecDepth 100000 in
theorem xc4 : xCok 4 := ⟨by decide, rfl, by decide +kernel, tyX2_ok, nmX2, by decide +kernel, by decide +kernel, by decide +kernel⟩
set_option maxRecDepth 100000 in
theorem xc5 : xCok 5 := ⟨by decide, rfl, by decide +kernel, tyX3_ok, nmX3, by decide +kernel, by decide +kernel, by decide +kernel⟩
set_option maxRecDepth 100000 in
theorem xc6 : xCok 6 := ⟨by decide, rfl, by decide +kernel, tyX4_ok, nmX4, by decide +kernel, by decide +kernel, by decide +kernel⟩
set_option maxRecDepth 100000 in
theorem xc7 : xCok 7 := ⟨by decide, rfl, by decide +kernel, tyX5_ok, nmX5, by decide +kernel, by decide +kernel, by decide +kernel⟩
set_option maxRecDepth 100000 in
theorem xc8 : xCok 8 := ⟨by decide, rfl, by decide +kernel, tyX6_ok, nmX6, by decide +kernel, by decide +kernel, by decide +kernel⟩
set_option maxRecDepth 100000 in
theorem xc9 : xCok 9 := ⟨by decide, rfl, by decide +kernel, tyX7_ok, nmX7, by decide +kernel, by decide +kernel, by decide +kernel⟩
set_option maxRecDepth 100000 in
theorem xc10 : xCok 10 := ⟨by decide, rfl, by decide +kernel, tyX8_ok, nmX8, by decide +kernel, by decide +kernel, by decide +kernel⟩
set_option maxRecDepth 100000 in
theorem xc11 : xCok 11 := ⟨by decide, rfl, by decide +kernel, tyX9_ok, nmX9, by decide +kernel, by decide +kernel, by decide +kernel⟩
set_option maxRecDepth 100000 in
theorem xc12 : xCok 12 := ⟨by decide, rfl, by decide +kernel, tyX10_ok, nmX10, by decide +kernel, by decide +kernel, by decide +kernel⟩
set_option maxRecDepth 100000 in
theorem xc13 : xCok 13 := ⟨by decide, rfl, by decide +kernel, tyX11_ok, nmX11, by decide +kernel, by decide +kernel, by decide +kernel⟩
set_option maxRecDepth 100000 in
theorem xc14 : xCok 14 := ⟨by decide, rfl, by decide +kernel, tyX12_ok, nmX12, by decide +kernel, by decide +kernel, by decide +kernel⟩
