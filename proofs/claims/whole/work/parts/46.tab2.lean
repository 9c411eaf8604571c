/-! ===== words for making cells ===== -/
theorem ck_L_7 : Cond.classLink RL 7 RX11 ∈ gw := gw_in (w := .classLink RL 7 RX11) 44 (by decide +kernel) (by decide +kernel)
theorem ck_X11_9 : Cond.classLink RX11 9 RX9 ∈ gw := gw_in (w := .classLink RX11 9 RX9) 52 (by decide +kernel) (by decide +kernel)
theorem ck_X11_12 : Cond.classLink RX11 12 RX2 ∈ gw := gw_in (w := .classLink RX11 12 RX2) 67 (by decide +kernel) (by decide +kernel)
theorem ck_X2_15 : Cond.classLink RX2 15 "[[I" ∈ gw := gw_in (w := .classLink RX2 15 "[[I") 73 (by decide +kernel) (by decide +kernel)
theorem ck_X11_19 : Cond.classLink RX11 19 RX6 ∈ gw := gw_in (w := .classLink RX11 19 RX6) 107 (by decide +kernel) (by decide +kernel)
theorem ck_X11_26 : Cond.classLink RX11 26 RX1 ∈ gw := gw_in (w := .classLink RX11 26 RX1) 127 (by decide +kernel) (by decide +kernel)
theorem ck_X1_9 : Cond.classLink RX1 9 "[[I" ∈ gw := gw_in (w := .classLink RX1 9 "[[I") 133 (by decide +kernel) (by decide +kernel)
theorem ck_X11_33 : Cond.classLink RX11 33 RX7 ∈ gw := gw_in (w := .classLink RX11 33 RX7) 147 (by decide +kernel) (by decide +kernel)
theorem ck_X11_42 : Cond.classLink RX11 42 RX10 ∈ gw := gw_in (w := .classLink RX11 42 RX10) 171 (by decide +kernel) (by decide +kernel)
theorem ck_X10_9 : Cond.classLink RX10 9 "[[I" ∈ gw := gw_in (w := .classLink RX10 9 "[[I") 177 (by decide +kernel) (by decide +kernel)
theorem ck_X11_51 : Cond.classLink RX11 51 RX0 ∈ gw := gw_in (w := .classLink RX11 51 RX0) 210 (by decide +kernel) (by decide +kernel)
theorem ck_X11_60 : Cond.classLink RX11 60 RX4 ∈ gw := gw_in (w := .classLink RX11 60 RX4) 241 (by decide +kernel) (by decide +kernel)
theorem ck_X11_67 : Cond.classLink RX11 67 RX5 ∈ gw := gw_in (w := .classLink RX11 67 RX5) 263 (by decide +kernel) (by decide +kernel)
theorem ck_X11_74 : Cond.classLink RX11 74 RX3 ∈ gw := gw_in (w := .classLink RX11 74 RX3) 303 (by decide +kernel) (by decide +kernel)
theorem ck_X3_9 : Cond.classLink RX3 9 RX4 ∈ gw := gw_in (w := .classLink RX3 9 RX4) 309 (by decide +kernel) (by decide +kernel)
theorem ck_X11_83 : Cond.classLink RX11 83 RX8 ∈ gw := gw_in (w := .classLink RX11 83 RX8) 330 (by decide +kernel) (by decide +kernel)
theorem ck_X8_9 : Cond.classLink RX8 9 "[[I" ∈ gw := gw_in (w := .classLink RX8 9 "[[I") 336 (by decide +kernel) (by decide +kernel)
theorem ck_L_10 : Cond.classLink RL 10 RX12 ∈ gw := gw_in (w := .classLink RL 10 RX12) 691 (by decide +kernel) (by decide +kernel)
theorem it_X11 : Cond.instantiable RX11 11 ∈ gw := gw_in (w := .instantiable RX11 11) 45 (by decide +kernel) (by decide +kernel)
theorem ii_X11 : Cond.initialized RX11 ∈ gw := gw_in (w := .initialized RX11) 29 (by decide +kernel) (by decide +kernel)
abbrev dX11 : List Value := [.null, .null, .null, .null, .null, .null, .null, .null, .null, .null, .int (nI 0)]
theorem df_X11 : ∀ j, j < 11 → defaultValue (tyX11 j) = vp_V dX11 j := by
  intro j hj
  rcases (by omega : j = 0 ∨ j = 1 ∨ j = 2 ∨ j = 3 ∨ j = 4 ∨ j = 5 ∨ j = 6 ∨ j = 7 ∨ j = 8 ∨ j = 9 ∨ j = 10) with rfl | rfl | rfl | rfl | rfl | rfl | rfl | rfl | rfl | rfl | rfl <;> rfl
theorem it_X9 : Cond.instantiable RX9 2 ∈ gw := gw_in (w := .instantiable RX9 2) 53 (by decide +kernel) (by decide +kernel)
theorem ii_X9 : Cond.initialized RX9 ∈ gw := gw_in (w := .initialized RX9) 30 (by decide +kernel) (by decide +kernel)
abbrev dX9 : List Value := [.null, .null]
theorem df_X9 : ∀ j, j < 2 → defaultValue (tyX9 j) = vp_V dX9 j := by
  intro j hj
  rcases (by omega : j = 0 ∨ j = 1) with rfl | rfl <;> rfl
theorem it_X2 : Cond.instantiable RX2 6 ∈ gw := gw_in (w := .instantiable RX2 6) 68 (by decide +kernel) (by decide +kernel)
theorem ii_X2 : Cond.initialized RX2 ∈ gw := gw_in (w := .initialized RX2) 31 (by decide +kernel) (by decide +kernel)
abbrev dX2 : List Value := [.int (nI 0), .null, .null, .null, .null, .null]
theorem df_X2 : ∀ j, j < 6 → defaultValue (tyX2 j) = vp_V dX2 j := by
  intro j hj
  rcases (by omega : j = 0 ∨ j = 1 ∨ j = 2 ∨ j = 3 ∨ j = 4 ∨ j = 5) with rfl | rfl | rfl | rfl | rfl | rfl <;> rfl
theorem it_X6 : Cond.instantiable RX6 3 ∈ gw := gw_in (w := .instantiable RX6 3) 108 (by decide +kernel) (by decide +kernel)
theorem ii_X6 : Cond.initialized RX6 ∈ gw := gw_in (w := .initialized RX6) 32 (by decide +kernel) (by decide +kernel)
abbrev dX6 : List Value := [.int (nI 0), .null, .null]
theorem df_X6 : ∀ j, j < 3 → defaultValue (tyX6 j) = vp_V dX6 j := by
  intro j hj
  rcases (by omega : j = 0 ∨ j = 1 ∨ j = 2) with rfl | rfl | rfl <;> rfl
theorem it_X1 : Cond.instantiable RX1 3 ∈ gw := gw_in (w := .instantiable RX1 3) 128 (by decide +kernel) (by decide +kernel)
theorem ii_X1 : Cond.initialized RX1 ∈ gw := gw_in (w := .initialized RX1) 33 (by decide +kernel) (by decide +kernel)
abbrev dX1 : List Value := [.int (nI 0), .null, .null]
theorem df_X1 : ∀ j, j < 3 → defaultValue (tyX1 j) = vp_V dX1 j := by
  intro j hj
  rcases (by omega : j = 0 ∨ j = 1 ∨ j = 2) with rfl | rfl | rfl <;> rfl
theorem it_X7 : Cond.instantiable RX7 5 ∈ gw := gw_in (w := .instantiable RX7 5) 148 (by decide +kernel) (by decide +kernel)
theorem ii_X7 : Cond.initialized RX7 ∈ gw := gw_in (w := .initialized RX7) 34 (by decide +kernel) (by decide +kernel)
abbrev dX7 : List Value := [.null, .null, .null, .null, .int (nI 0)]
theorem df_X7 : ∀ j, j < 5 → defaultValue (tyX7 j) = vp_V dX7 j := by
  intro j hj
  rcases (by omega : j = 0 ∨ j = 1 ∨ j = 2 ∨ j = 3 ∨ j = 4) with rfl | rfl | rfl | rfl | rfl <;> rfl
theorem it_X10 : Cond.instantiable RX10 8 ∈ gw := gw_in (w := .instantiable RX10 8) 172 (by decide +kernel) (by decide +kernel)
theorem ii_X10 : Cond.initialized RX10 ∈ gw := gw_in (w := .initialized RX10) 35 (by decide +kernel) (by decide +kernel)
abbrev dX10 : List Value := [.null, .null, .null, .int (nI 0), .int (nI 0), .int (nI 0), .int (nI 0), .int (nI 0)]
theorem df_X10 : ∀ j, j < 8 → defaultValue (tyX10 j) = vp_V dX10 j := by
  intro j hj
  rcases (by omega : j = 0 ∨ j = 1 ∨ j = 2 ∨ j = 3 ∨ j = 4 ∨ j = 5 ∨ j = 6 ∨ j = 7) with rfl | rfl | rfl | rfl | rfl | rfl | rfl | rfl <;> rfl
theorem it_X0 : Cond.instantiable RX0 7 ∈ gw := gw_in (w := .instantiable RX0 7) 211 (by decide +kernel) (by decide +kernel)
theorem ii_X0 : Cond.initialized RX0 ∈ gw := gw_in (w := .initialized RX0) 36 (by decide +kernel) (by decide +kernel)
abbrev dX0 : List Value := [.null, .null, .null, .null, .null, .null, .int (nI 0)]
theorem df_X0 : ∀ j, j < 7 → defaultValue (tyX0 j) = vp_V dX0 j := by
  intro j hj
  rcases (by omega : j = 0 ∨ j = 1 ∨ j = 2 ∨ j = 3 ∨ j = 4 ∨ j = 5 ∨ j = 6) with rfl | rfl | rfl | rfl | rfl | rfl | rfl <;> rfl
theorem it_X4 : Cond.instantiable RX4 3 ∈ gw := gw_in (w := .instantiable RX4 3) 242 (by decide +kernel) (by decide +kernel)
theorem ii_X4 : Cond.initialized RX4 ∈ gw := gw_in (w := .initialized RX4) 37 (by decide +kernel) (by decide +kernel)
abbrev dX4 : List Value := [.null, .null, .int (nI 0)]
theorem df_X4 : ∀ j, j < 3 → defaultValue (tyX4 j) = vp_V dX4 j := by
  intro j hj
  rcases (by omega : j = 0 ∨ j = 1 ∨ j = 2) with rfl | rfl | rfl <;> rfl
theorem it_X5 : Cond.instantiable RX5 8 ∈ gw := gw_in (w := .instantiable RX5 8) 264 (by decide +kernel) (by decide +kernel)
theorem ii_X5 : Cond.initialized RX5 ∈ gw := gw_in (w := .initialized RX5) 38 (by decide +kernel) (by decide +kernel)
abbrev dX5 : List Value := [.int (nI 0), .int (nI 0), .int (nI 0), .null, .null, .null, .null, .null]
theorem df_X5 : ∀ j, j < 8 → defaultValue (tyX5 j) = vp_V dX5 j := by
  intro j hj
  rcases (by omega : j = 0 ∨ j = 1 ∨ j = 2 ∨ j = 3 ∨ j = 4 ∨ j = 5 ∨ j = 6 ∨ j = 7) with rfl | rfl | rfl | rfl | rfl | rfl | rfl | rfl <;> rfl
theorem it_X3 : Cond.instantiable RX3 6 ∈ gw := gw_in (w := .instantiable RX3 6) 304 (by decide +kernel) (by decide +kernel)
theorem ii_X3 : Cond.initialized RX3 ∈ gw := gw_in (w := .initialized RX3) 39 (by decide +kernel) (by decide +kernel)
abbrev dX3 : List Value := [.null, .null, .null, .null, .null, .null]
theorem df_X3 : ∀ j, j < 6 → defaultValue (tyX3 j) = vp_V dX3 j := by
  intro j hj
  rcases (by omega : j = 0 ∨ j = 1 ∨ j = 2 ∨ j = 3 ∨ j = 4 ∨ j = 5) with rfl | rfl | rfl | rfl | rfl | rfl <;> rfl
theorem it_X8 : Cond.instantiable RX8 4 ∈ gw := gw_in (w := .instantiable RX8 4) 331 (by decide +kernel) (by decide +kernel)
theorem ii_X8 : Cond.initialized RX8 ∈ gw := gw_in (w := .initialized RX8) 40 (by decide +kernel) (by decide +kernel)
abbrev dX8 : List Value := [.null, .null, .int (nI 0), .null]
theorem df_X8 : ∀ j, j < 4 → defaultValue (tyX8 j) = vp_V dX8 j := by
  intro j hj
  rcases (by omega : j = 0 ∨ j = 1 ∨ j = 2 ∨ j = 3) with rfl | rfl | rfl | rfl <;> rfl
theorem it_X12 : Cond.instantiable RX12 40 ∈ gw := gw_in (w := .instantiable RX12 40) 692 (by decide +kernel) (by decide +kernel)
theorem ii_X12 : Cond.initialized RX12 ∈ gw := gw_in (w := .initialized RX12) 41 (by decide +kernel) (by decide +kernel)
abbrev dX12 : List Value := [.int (nI 0), .int (nI 0), .null, .null, .null, .null, .null, .null, .null, .int (nI 0), .int (nI 0), .int (nI 0), .int (nI 0), .int (nI 0), .int (nI 0), .null, .null, .null, .null, .null, .null, .null, .null, .int (nI 0), .long (lN 0), .long (lN 0), .null, .null, .null, .null, .null, .null, .null, .null, .null, .null, .null, .null, .null, .int (nI 0)]
theorem df_X12 : ∀ j, j < 40 → defaultValue (tyX12 j) = vp_V dX12 j := by
  intro j hj
  rcases (by omega : j = 0 ∨ j = 1 ∨ j = 2 ∨ j = 3 ∨ j = 4 ∨ j = 5 ∨ j = 6 ∨ j = 7 ∨ j = 8 ∨ j = 9 ∨ j = 10 ∨ j = 11 ∨ j = 12 ∨ j = 13 ∨ j = 14 ∨ j = 15 ∨ j = 16 ∨ j = 17 ∨ j = 18 ∨ j = 19 ∨ j = 20 ∨ j = 21 ∨ j = 22 ∨ j = 23 ∨ j = 24 ∨ j = 25 ∨ j = 26 ∨ j = 27 ∨ j = 28 ∨ j = 29 ∨ j = 30 ∨ j = 31 ∨ j = 32 ∨ j = 33 ∨ j = 34 ∨ j = 35 ∨ j = 36 ∨ j = 37 ∨ j = 38 ∨ j = 39) with rfl | rfl | rfl | rfl | rfl | rfl | rfl | rfl | rfl | rfl | rfl | rfl | rfl | rfl | rfl | rfl | rfl | rfl | rfl | rfl | rfl | rfl | rfl | rfl | rfl | rfl | rfl | rfl | rfl | rfl | rfl | rfl | rfl | rfl | rfl | rfl | rfl | rfl | rfl | rfl <;> rfl
theorem ac_int : Cond.arrayClass .int ∈ gw := gw_in (w := .arrayClass .int) 66 (by decide +kernel) (by decide +kernel)
theorem ac_long : Cond.arrayClass .long ∈ gw := gw_in (w := .arrayClass .long) 65 (by decide +kernel) (by decide +kernel)
theorem ac_boolean : Cond.arrayClass .boolean ∈ gw := gw_in (w := .arrayClass .boolean) 302 (by decide +kernel) (by decide +kernel)
