/-! the constructors -/
theorem aw_20 : Cond.arrayClass (newarray.typeOf .int) ∈ gw := (gw_1 (i := 117) rfl rfl)
theorem aw_21 : Cond.arrayClass (newarray.typeOf .byte) ∈ gw := (gw_1 (i := 116) rfl rfl)
theorem aw_22 : Cond.arrayClass (newarray.typeOf .boolean) ∈ gw := (gw_1 (i := 239) rfl rfl)
abbrev ap (u v : List va_E) : List va_E := u ++ v
theorem va_RA_o {U : State} {q : ClassId} {C : String} (h : va_RA U q (.object C)) : U.vm.findClass ("[" ++ (FieldType.object C).toString) = some q := by
  obtain ⟨_, _, _, _, _, h4⟩ := h
  exact h4
theorem dv_Bk : ∀ j, j < 4 → defaultValue (tyX0 j) = vp_V [.int 0, .null, .null, .null] j := by decide +kernel
theorem dv_Ha : ∀ j, j < 5 → defaultValue (tyX1 j) = vp_V [.null, .null, .null, .null, .int 0] j := by decide +kernel
theorem dv_Pl : ∀ j, j < 13 → defaultValue (tyX2 j) = vp_V [.int 0, .int 0, .int 0, .int 0, .int 0, .int 0, .int 0, .int 0, .int 0, .null, .null, .null, .null] j := by decide +kernel
theorem dv_Re : ∀ j, j < 17 → defaultValue (tyX3 j) = vp_V [.null, .null, .int 0, .int 0, .null, .null, .int 0, .int 0, .int 0, .int 0, .int 0, .int 0, .int 0, .int 0, .int 0, .int 0, .int 0] j := by decide +kernel
theorem dv_Ru : ∀ j, j < 13 → defaultValue (tyX4 j) = vp_V [.int 0, .int 0, .int 0, .int 0, .null, .null, .null, .null, .null, .null, .null, .null, .int 0] j := by decide +kernel
theorem dv_To : ∀ j, j < 8 → defaultValue (tyX5 j) = vp_V [.null, .null, .null, .int 0, .int 0, .int 0, .int 0, .int 0] j := by decide +kernel
theorem dv_Tw : ∀ j, j < 16 → defaultValue (tyX6 j) = vp_V [.int 0, .int 0, .int 0, .int 0, .int 0, .int 0, .int 0, .int 0, .null, .null, .null, .null, .null, .null, .null, .null] j := by decide +kernel
theorem dv_Tr : ∀ j, j < 4 → defaultValue (tyX7 j) = vp_V [.null, .null, .null, .null] j := by decide +kernel
theorem dv_Wo : ∀ j, j < 8 → defaultValue (tyX8 j) = vp_V [.int 0, .int 0, .int 0, .int 0, .null, .null, .null, .null] j := by decide +kernel
theorem dv_Sb : ∀ j, j < 11 → defaultValue (tyX9 j) = vp_V [.null, .null, .null, .null, .null, .null, .null, .null, .null, .int 0, .int 0] j := by decide +kernel
