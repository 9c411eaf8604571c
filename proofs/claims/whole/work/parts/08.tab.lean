theorem inG {C : String} {T : u_T} {N : Nat} (h : (u_ws C T N).all (fun w => goodWord w && lw_tbl.contains w) = true) : ∀ w ∈ u_ws C T N, w ∈ gw := fun w hw => by
  have h1 := List.all_eq_true.mp h w hw
  simp only [Bool.and_eq_true] at h1
  exact List.mem_filter.mpr ⟨List.contains_iff_mem.mp h1.2, h1.1⟩
theorem inX0 : ∀ w ∈ u_ws RX0 TX0 7, w ∈ gw := inG (by decide +kernel)
theorem inX1 : ∀ w ∈ u_ws RX1 TX1 3, w ∈ gw := inG (by decide +kernel)
theorem inX2 : ∀ w ∈ u_ws RX2 TX2 6, w ∈ gw := inG (by decide +kernel)
theorem inX3 : ∀ w ∈ u_ws RX3 TX3 6, w ∈ gw := inG (by decide +kernel)
theorem inX4 : ∀ w ∈ u_ws RX4 TX4 3, w ∈ gw := inG (by decide +kernel)
theorem inX5 : ∀ w ∈ u_ws RX5 TX5 8, w ∈ gw := inG (by decide +kernel)
theorem inX6 : ∀ w ∈ u_ws RX6 TX6 3, w ∈ gw := inG (by decide +kernel)
theorem inX7 : ∀ w ∈ u_ws RX7 TX7 5, w ∈ gw := inG (by decide +kernel)
theorem inX8 : ∀ w ∈ u_ws RX8 TX8 4, w ∈ gw := inG (by decide +kernel)
theorem inX9 : ∀ w ∈ u_ws RX9 TX9 2, w ∈ gw := inG (by decide +kernel)
theorem inX10 : ∀ w ∈ u_ws RX10 TX10 8, w ∈ gw := inG (by decide +kernel)
theorem inX11 : ∀ w ∈ u_ws RX11 TX11 11, w ∈ gw := inG (by decide +kernel)
theorem inX12 : ∀ w ∈ u_ws RX12 TX12 40, w ∈ gw := inG (by decide +kernel)
abbrev mX0_init : MI := (yX0_init, cX0_init, 4, none, { frames := 2, cells := 3, slots := 48, locals := 80 })
abbrev mX0_measure : MI := (yX0_measure, cX0_measure, 5, none, { frames := 3, cells := 0, slots := 0, locals := 120 })
abbrev mX1_init : MI := (yX1_init, cX1_init, 1, none, { frames := 2, cells := 14, slots := 60, locals := 80 })
abbrev mX1_has : MI := (yX1_has, cX1_has, 2, (some .boolean), { frames := 1, cells := 0, slots := 0, locals := 40 })
abbrev mX1_add : MI := (yX1_add, cX1_add, 2, (some .int), { frames := 1, cells := 0, slots := 0, locals := 40 })
abbrev mX1_fits : MI := (yX1_fits, cX1_fits, 5, (some .boolean), { frames := 1, cells := 0, slots := 0, locals := 40 })
abbrev mX1_nameOf : MI := (yX1_nameOf, cX1_nameOf, 3, (some .int), { frames := 2, cells := 0, slots := 0, locals := 80 })
abbrev mX1_isSure : MI := (yX1_isSure, cX1_isSure, 9, (some .boolean), { frames := 2, cells := 0, slots := 0, locals := 80 })
abbrev mX2_init : MI := (yX2_init, cX2_init, 1, none, { frames := 2, cells := 13, slots := 72, locals := 80 })
abbrev mX2_has : MI := (yX2_has, cX2_has, 2, (some .boolean), { frames := 1, cells := 0, slots := 0, locals := 40 })
abbrev mX2_add : MI := (yX2_add, cX2_add, 9, (some .int), { frames := 1, cells := 0, slots := 0, locals := 40 })
abbrev mX2_haveAll : MI := (yX2_haveAll, cX2_haveAll, 3, (some .boolean), { frames := 1, cells := 0, slots := 0, locals := 40 })
abbrev mX2_takeAll : MI := (yX2_takeAll, cX2_takeAll, 3, none, { frames := 1, cells := 0, slots := 0, locals := 40 })
abbrev mX2_takeBack : MI := (yX2_takeBack, cX2_takeBack, 3, none, { frames := 2, cells := 0, slots := 0, locals := 80 })
abbrev mX3_init : MI := (yX3_init, cX3_init, 6, none, { frames := 3, cells := 3, slots := 15, locals := 120 })
abbrev mX3_firstHour : MI := (yX3_firstHour, cX3_firstHour, 2, (some .int), { frames := 6, cells := 0, slots := 0, locals := 240 })
abbrev mX3_hoursWithoutName : MI := (yX3_hoursWithoutName, cX3_hoursWithoutName, 3, (some .int), { frames := 5, cells := 0, slots := 0, locals := 200 })
abbrev mX3_bestDose : MI := (yX3_bestDose, cX3_bestDose, 9, (some .int), { frames := 7, cells := 0, slots := 0, locals := 280 })
abbrev mX3_firstHourWithDose : MI := (yX3_firstHourWithDose, cX3_firstHourWithDose, 5, (some .int), { frames := 5, cells := 0, slots := 0, locals := 200 })
abbrev mX3_passHour : MI := (yX3_passHour, cX3_passHour, 2, none, { frames := 4, cells := 0, slots := 0, locals := 160 })
abbrev mX4_init : MI := (yX4_init, cX4_init, 1, none, { frames := 2, cells := 2, slots := 12, locals := 80 })
abbrev mX4_read : MI := (yX4_read, cX4_read, 7, none, { frames := 2, cells := 0, slots := 0, locals := 80 })
abbrev mX5_init : MI := (yX5_init, cX5_init, 1, none, { frames := 2, cells := 5, slots := 6000, locals := 80 })
abbrev mX5_has : MI := (yX5_has, cX5_has, 2, (some .boolean), { frames := 1, cells := 0, slots := 0, locals := 40 })
abbrev mX5_clear : MI := (yX5_clear, cX5_clear, 1, none, { frames := 1, cells := 0, slots := 0, locals := 40 })
abbrev mX5_add : MI := (yX5_add, cX5_add, 4, none, { frames := 2, cells := 0, slots := 0, locals := 80 })
abbrev mX6_init : MI := (yX6_init, cX6_init, 1, none, { frames := 2, cells := 2, slots := 16, locals := 80 })
abbrev mX6_become : MI := (yX6_become, cX6_become, 3, none, { frames := 1, cells := 0, slots := 0, locals := 40 })
abbrev mX7_init : MI := (yX7_init, cX7_init, 3, none, { frames := 2, cells := 2, slots := 16, locals := 80 })
abbrev mX7_find : MI := (yX7_find, cX7_find, 6, (some .boolean), { frames := 3, cells := 0, slots := 0, locals := 120 })
abbrev mX7_costOfTrial : MI := (yX7_costOfTrial, cX7_costOfTrial, 3, (some .int), { frames := 1, cells := 0, slots := 0, locals := 40 })
abbrev mX7_keepTrial : MI := (yX7_keepTrial, cX7_keepTrial, 3, none, { frames := 1, cells := 0, slots := 0, locals := 40 })
abbrev mX7_advance : MI := (yX7_advance, cX7_advance, 4, (some .boolean), { frames := 1, cells := 0, slots := 0, locals := 40 })
abbrev mX8_init : MI := (yX8_init, cX8_init, 1, none, { frames := 2, cells := 9, slots := 54, locals := 80 })
abbrev mX8_leastSum : MI := (yX8_leastSum, cX8_leastSum, 7, (some .int), { frames := 3, cells := 0, slots := 0, locals := 120 })
abbrev mX8_gather : MI := (yX8_gather, cX8_gather, 4, (some .int), { frames := 1, cells := 0, slots := 0, locals := 40 })
abbrev mX8_sumOfOrder : MI := (yX8_sumOfOrder, cX8_sumOfOrder, 5, (some .int), { frames := 1, cells := 0, slots := 0, locals := 40 })
abbrev mX8_keepOrder : MI := (yX8_keepOrder, cX8_keepOrder, 2, none, { frames := 2, cells := 0, slots := 0, locals := 80 })
abbrev mX8_advance : MI := (yX8_advance, cX8_advance, 6, (some .boolean), { frames := 2, cells := 0, slots := 0, locals := 80 })
abbrev mX8_swap : MI := (yX8_swap, cX8_swap, 4, none, { frames := 1, cells := 0, slots := 0, locals := 40 })
abbrev mX9_init : MI := (yX9_init, cX9_init, 1, none, { frames := 2, cells := 2, slots := 64, locals := 80 })
abbrev mX9_split : MI := (yX9_split, cX9_split, 16, none, { frames := 2, cells := 0, slots := 0, locals := 80 })
abbrev mX9_giveLeft : MI := (yX9_giveLeft, cX9_giveLeft, 7, none, { frames := 1, cells := 0, slots := 0, locals := 40 })
abbrev mX10_init : MI := (yX10_init, cX10_init, 2, none, { frames := 2, cells := 15, slots := 429, locals := 80 })
abbrev mX10_fill : MI := (yX10_fill, cX10_fill, 7, none, { frames := 3, cells := 0, slots := 0, locals := 120 })
abbrev mX10_copy : MI := (yX10_copy, cX10_copy, 3, none, { frames := 2, cells := 0, slots := 0, locals := 80 })
abbrev mX10_pass : MI := (yX10_pass, cX10_pass, 3, none, { frames := 3, cells := 0, slots := 0, locals := 120 })
abbrev mX10_move : MI := (yX10_move, cX10_move, 5, none, { frames := 1, cells := 0, slots := 0, locals := 40 })
abbrev mX10_outOfLast : MI := (yX10_outOfLast, cX10_outOfLast, 1, (some (.array .int)), { frames := 1, cells := 0, slots := 0, locals := 40 })
abbrev mX10_gramsIn : MI := (yX10_gramsIn, cX10_gramsIn, 6, (some .int), { frames := 1, cells := 0, slots := 0, locals := 40 })
abbrev mX10_allGrams : MI := (yX10_allGrams, cX10_allGrams, 1, (some .int), { frames := 1, cells := 0, slots := 0, locals := 40 })
abbrev mX11_init : MI := (yX11_init, cX11_init, 2, none, { frames := 4, cells := 105, slots := 7388, locals := 160 })
abbrev mX11_feed : MI := (yX11_feed, cX11_feed, 8, (some .int), { frames := 2, cells := 0, slots := 0, locals := 80 })
abbrev mX11_stock : MI := (yX11_stock, cX11_stock, 3, (some .int), { frames := 2, cells := 0, slots := 0, locals := 80 })
abbrev mX11_of : MI := (yX11_of, cX11_of, 3, (some .int), { frames := 2, cells := 0, slots := 0, locals := 80 })
abbrev mX11_tank : MI := (yX11_tank, cX11_tank, 5, (some .int), { frames := 4, cells := 0, slots := 0, locals := 160 })
abbrev mX11_pull : MI := (yX11_pull, cX11_pull, 3, (some .int), { frames := 2, cells := 0, slots := 0, locals := 80 })
abbrev mX11_cell : MI := (yX11_cell, cX11_cell, 4, (some .int), { frames := 3, cells := 0, slots := 0, locals := 120 })
abbrev mX11_share : MI := (yX11_share, cX11_share, 4, (some .int), { frames := 2, cells := 0, slots := 0, locals := 80 })
abbrev mX11_mix : MI := (yX11_mix, cX11_mix, 1, (some .int), { frames := 2, cells := 0, slots := 0, locals := 80 })
abbrev mX11_colour : MI := (yX11_colour, cX11_colour, 1, (some .int), { frames := 2, cells := 0, slots := 0, locals := 80 })
abbrev mX11_span : MI := (yX11_span, cX11_span, 5, (some .int), { frames := 3, cells := 0, slots := 0, locals := 120 })
abbrev mX11_sure : MI := (yX11_sure, cX11_sure, 2, (some .int), { frames := 3, cells := 0, slots := 0, locals := 120 })
abbrev mX11_cheapest : MI := (yX11_cheapest, cX11_cheapest, 2, (some .int), { frames := 4, cells := 0, slots := 0, locals := 160 })
abbrev mX11_want : MI := (yX11_want, cX11_want, 3, (some .int), { frames := 2, cells := 0, slots := 0, locals := 80 })
abbrev mX11_hours : MI := (yX11_hours, cX11_hours, 3, (some .int), { frames := 5, cells := 0, slots := 0, locals := 200 })
abbrev mX11_glass : MI := (yX11_glass, cX11_glass, 3, (some .int), { frames := 2, cells := 0, slots := 0, locals := 80 })
abbrev mX11_lead : MI := (yX11_lead, cX11_lead, 3, (some .int), { frames := 2, cells := 0, slots := 0, locals := 80 })
abbrev mX11_when : MI := (yX11_when, cX11_when, 2, (some .int), { frames := 7, cells := 0, slots := 0, locals := 280 })
abbrev mX11_between : MI := (yX11_between, cX11_between, 1, (some .int), { frames := 6, cells := 0, slots := 0, locals := 240 })
abbrev mX11_dose : MI := (yX11_dose, cX11_dose, 3, (some .int), { frames := 8, cells := 0, slots := 0, locals := 320 })
abbrev mX11_change : MI := (yX11_change, cX11_change, 5, (some .int), { frames := 2, cells := 0, slots := 0, locals := 80 })
abbrev mX11_ring : MI := (yX11_ring, cX11_ring, 2, (some .int), { frames := 4, cells := 0, slots := 0, locals := 160 })
abbrev mX11_next : MI := (yX11_next, cX11_next, 2, (some .int), { frames := 2, cells := 0, slots := 0, locals := 80 })
abbrev mX11_told : MI := (yX11_told, cX11_told, 2, (some .int), { frames := 2, cells := 0, slots := 0, locals := 80 })
abbrev mX11_isWithin : MI := (yX11_isWithin, cX11_isWithin, 3, (some .boolean), { frames := 1, cells := 0, slots := 0, locals := 40 })
abbrev mX11_isThing : MI := (yX11_isThing, cX11_isThing, 1, (some .boolean), { frames := 2, cells := 0, slots := 0, locals := 80 })
abbrev mX11_isMakeUp : MI := (yX11_isMakeUp, cX11_isMakeUp, 4, (some .boolean), { frames := 1, cells := 0, slots := 0, locals := 40 })
abbrev mX11_mostDoubt : MI := (yX11_mostDoubt, cX11_mostDoubt, 1, (some .int), { frames := 1, cells := 0, slots := 0, locals := 40 })
abbrev mX11_sumOf : MI := (yX11_sumOf, cX11_sumOf, 6, (some .int), { frames := 1, cells := 0, slots := 0, locals := 40 })
abbrev mX11_canRun : MI := (yX11_canRun, cX11_canRun, 1, (some .boolean), { frames := 1, cells := 0, slots := 0, locals := 40 })
abbrev mX11_passHour : MI := (yX11_passHour, cX11_passHour, 3, none, { frames := 4, cells := 0, slots := 0, locals := 160 })
abbrev mX12_init : MI := (yX12_init, cX12_init, 1, none, { frames := 2, cells := 28, slots := 6936, locals := 80 })
abbrev mX12_in : MI := (yX12_in, cX12_in, 3, (some .boolean), { frames := 1, cells := 0, slots := 0, locals := 40 })
abbrev mX12_isFeed : MI := (yX12_isFeed, cX12_isFeed, 2, (some .boolean), { frames := 2, cells := 0, slots := 0, locals := 80 })
abbrev mX12_isColour : MI := (yX12_isColour, cX12_isColour, 2, (some .boolean), { frames := 2, cells := 0, slots := 0, locals := 80 })
abbrev mX12_feed : MI := (yX12_feed, cX12_feed, 10, (some .int), { frames := 2, cells := 0, slots := 0, locals := 80 })
abbrev mX12_stock : MI := (yX12_stock, cX12_stock, 3, (some .int), { frames := 3, cells := 0, slots := 0, locals := 120 })
abbrev mX12_of : MI := (yX12_of, cX12_of, 3, (some .int), { frames := 3, cells := 0, slots := 0, locals := 120 })
abbrev mX12_shareOut : MI := (yX12_shareOut, cX12_shareOut, 8, none, { frames := 1, cells := 0, slots := 0, locals := 40 })
abbrev mX12_byThings : MI := (yX12_byThings, cX12_byThings, 6, none, { frames := 2, cells := 0, slots := 0, locals := 80 })
abbrev mX12_tank : MI := (yX12_tank, cX12_tank, 6, (some .int), { frames := 3, cells := 0, slots := 0, locals := 120 })
abbrev mX12_pull : MI := (yX12_pull, cX12_pull, 3, (some .int), { frames := 2, cells := 0, slots := 0, locals := 80 })
abbrev mX12_cell : MI := (yX12_cell, cX12_cell, 6, (some .int), { frames := 3, cells := 0, slots := 0, locals := 120 })
abbrev mX12_share : MI := (yX12_share, cX12_share, 4, (some .int), { frames := 3, cells := 0, slots := 0, locals := 120 })
abbrev mX12_mix : MI := (yX12_mix, cX12_mix, 3, (some .int), { frames := 1, cells := 0, slots := 0, locals := 40 })
abbrev mX12_colour : MI := (yX12_colour, cX12_colour, 2, (some .int), { frames := 1, cells := 0, slots := 0, locals := 40 })
abbrev mX12_span : MI := (yX12_span, cX12_span, 5, (some .int), { frames := 3, cells := 0, slots := 0, locals := 120 })
abbrev mX12_isSure : MI := (yX12_isSure, cX12_isSure, 8, (some .boolean), { frames := 1, cells := 0, slots := 0, locals := 40 })
abbrev mX12_sure : MI := (yX12_sure, cX12_sure, 2, (some .int), { frames := 3, cells := 0, slots := 0, locals := 120 })
abbrev mX12_cheapest : MI := (yX12_cheapest, cX12_cheapest, 7, (some .int), { frames := 3, cells := 0, slots := 0, locals := 120 })
abbrev mX12_want : MI := (yX12_want, cX12_want, 3, (some .int), { frames := 3, cells := 0, slots := 0, locals := 120 })
abbrev mX12_comes : MI := (yX12_comes, cX12_comes, 5, none, { frames := 3, cells := 0, slots := 0, locals := 120 })
abbrev mX12_goes : MI := (yX12_goes, cX12_goes, 4, none, { frames := 2, cells := 0, slots := 0, locals := 80 })
abbrev mX12_glassOf : MI := (yX12_glassOf, cX12_glassOf, 4, (some .int), { frames := 1, cells := 0, slots := 0, locals := 40 })
abbrev mX12_isOf : MI := (yX12_isOf, cX12_isOf, 5, (some .boolean), { frames := 2, cells := 0, slots := 0, locals := 80 })
abbrev mX12_nameOf : MI := (yX12_nameOf, cX12_nameOf, 2, (some .int), { frames := 3, cells := 0, slots := 0, locals := 120 })
abbrev mX12_goesBy : MI := (yX12_goesBy, cX12_goesBy, 4, (some .boolean), { frames := 4, cells := 0, slots := 0, locals := 160 })
abbrev mX12_hours : MI := (yX12_hours, cX12_hours, 3, (some .int), { frames := 5, cells := 0, slots := 0, locals := 200 })
abbrev mX12_isHour : MI := (yX12_isHour, cX12_isHour, 2, (some .boolean), { frames := 2, cells := 0, slots := 0, locals := 80 })
abbrev mX12_glass : MI := (yX12_glass, cX12_glass, 3, (some .int), { frames := 3, cells := 0, slots := 0, locals := 120 })
abbrev mX12_lead : MI := (yX12_lead, cX12_lead, 3, (some .int), { frames := 3, cells := 0, slots := 0, locals := 120 })
abbrev mX12_first : MI := (yX12_first, cX12_first, 6, (some .int), { frames := 4, cells := 0, slots := 0, locals := 160 })
abbrev mX12_when : MI := (yX12_when, cX12_when, 2, (some .int), { frames := 5, cells := 0, slots := 0, locals := 200 })
abbrev mX12_between : MI := (yX12_between, cX12_between, 3, (some .int), { frames := 4, cells := 0, slots := 0, locals := 160 })
abbrev mX12_dose : MI := (yX12_dose, cX12_dose, 8, (some .int), { frames := 5, cells := 0, slots := 0, locals := 200 })
abbrev mX12_change : MI := (yX12_change, cX12_change, 5, (some .int), { frames := 3, cells := 0, slots := 0, locals := 120 })
abbrev mX12_ring : MI := (yX12_ring, cX12_ring, 7, (some .int), { frames := 2, cells := 0, slots := 0, locals := 80 })
abbrev mX12_turns : MI := (yX12_turns, cX12_turns, 7, (some .boolean), { frames := 1, cells := 0, slots := 0, locals := 40 })
abbrev mX12_next : MI := (yX12_next, cX12_next, 2, (some .int), { frames := 2, cells := 0, slots := 0, locals := 80 })
abbrev mX12_told : MI := (yX12_told, cX12_told, 2, (some .int), { frames := 1, cells := 0, slots := 0, locals := 40 })
abbrev mL_law : MI := (yL_law, cL_law, 4, some .boolean, room_1)
theorem cl_X0_init : CL mX0_init 3 := ⟨gw_in (w := .initialized RX0) 36 (by decide +kernel) (by decide +kernel), gw_in (w := .code yX0_init cX0_init 4 none) 214 (by decide +kernel) (by decide +kernel), by decide +kernel⟩
theorem iv_X0_init : Cond.instanceMethod (mX0_init).1 ∈ gw := gw_in (w := .instanceMethod yX0_init) 213 (by decide +kernel) (by decide +kernel)
theorem cl_X0_measure : CL mX0_measure 3 := ⟨gw_in (w := .initialized RX0) 36 (by decide +kernel) (by decide +kernel), gw_in (w := .code yX0_measure cX0_measure 5 none) 538 (by decide +kernel) (by decide +kernel), by decide +kernel⟩
theorem iv_X0_measure : Cond.instanceMethod (mX0_measure).1 ∈ gw := gw_in (w := .instanceMethod yX0_measure) 536 (by decide +kernel) (by decide +kernel)
theorem vl_X0_measure : VLk mX0_measure := ⟨iv_X0_measure, gw_in (w := .selects RX0 yX0_measure yX0_measure) 537 (by decide +kernel) (by decide +kernel)⟩
theorem cl_X1_init : CL mX1_init 0 := ⟨gw_in (w := .initialized RX1) 33 (by decide +kernel) (by decide +kernel), gw_in (w := .code yX1_init cX1_init 1 none) 131 (by decide +kernel) (by decide +kernel), by decide +kernel⟩
theorem iv_X1_init : Cond.instanceMethod (mX1_init).1 ∈ gw := gw_in (w := .instanceMethod yX1_init) 130 (by decide +kernel) (by decide +kernel)
theorem cl_X1_has : CL mX1_has 1 := ⟨gw_in (w := .initialized RX1) 33 (by decide +kernel) (by decide +kernel), gw_in (w := .code yX1_has cX1_has 2 (some .boolean)) 487 (by decide +kernel) (by decide +kernel), by decide +kernel⟩
theorem iv_X1_has : Cond.instanceMethod (mX1_has).1 ∈ gw := gw_in (w := .instanceMethod yX1_has) 485 (by decide +kernel) (by decide +kernel)
theorem vl_X1_has : VLk mX1_has := ⟨iv_X1_has, gw_in (w := .selects RX1 yX1_has yX1_has) 486 (by decide +kernel) (by decide +kernel)⟩
theorem cl_X1_add : CL mX1_add 0 := ⟨gw_in (w := .initialized RX1) 33 (by decide +kernel) (by decide +kernel), gw_in (w := .code yX1_add cX1_add 2 (some .int)) 478 (by decide +kernel) (by decide +kernel), by decide +kernel⟩
theorem iv_X1_add : Cond.instanceMethod (mX1_add).1 ∈ gw := gw_in (w := .instanceMethod yX1_add) 476 (by decide +kernel) (by decide +kernel)
theorem vl_X1_add : VLk mX1_add := ⟨iv_X1_add, gw_in (w := .selects RX1 yX1_add yX1_add) 477 (by decide +kernel) (by decide +kernel)⟩
theorem cl_X1_fits : CL mX1_fits 2 := ⟨gw_in (w := .initialized RX1) 33 (by decide +kernel) (by decide +kernel), gw_in (w := .code yX1_fits cX1_fits 5 (some .boolean)) 579 (by decide +kernel) (by decide +kernel), by decide +kernel⟩
theorem iv_X1_fits : Cond.instanceMethod (mX1_fits).1 ∈ gw := gw_in (w := .instanceMethod yX1_fits) 577 (by decide +kernel) (by decide +kernel)
theorem vl_X1_fits : VLk mX1_fits := ⟨iv_X1_fits, gw_in (w := .selects RX1 yX1_fits yX1_fits) 578 (by decide +kernel) (by decide +kernel)⟩
theorem cl_X1_nameOf : CL mX1_nameOf 1 := ⟨gw_in (w := .initialized RX1) 33 (by decide +kernel) (by decide +kernel), gw_in (w := .code yX1_nameOf cX1_nameOf 3 (some .int)) 575 (by decide +kernel) (by decide +kernel), by decide +kernel⟩
theorem iv_X1_nameOf : Cond.instanceMethod (mX1_nameOf).1 ∈ gw := gw_in (w := .instanceMethod yX1_nameOf) 573 (by decide +kernel) (by decide +kernel)
theorem vl_X1_nameOf : VLk mX1_nameOf := ⟨iv_X1_nameOf, gw_in (w := .selects RX1 yX1_nameOf yX1_nameOf) 574 (by decide +kernel) (by decide +kernel)⟩
theorem cl_X1_isSure : CL mX1_isSure 3 := ⟨gw_in (w := .initialized RX1) 33 (by decide +kernel) (by decide +kernel), gw_in (w := .code yX1_isSure cX1_isSure 9 (some .boolean)) 495 (by decide +kernel) (by decide +kernel), by decide +kernel⟩
theorem iv_X1_isSure : Cond.instanceMethod (mX1_isSure).1 ∈ gw := gw_in (w := .instanceMethod yX1_isSure) 493 (by decide +kernel) (by decide +kernel)
theorem vl_X1_isSure : VLk mX1_isSure := ⟨iv_X1_isSure, gw_in (w := .selects RX1 yX1_isSure yX1_isSure) 494 (by decide +kernel) (by decide +kernel)⟩
theorem cl_X2_init : CL mX2_init 0 := ⟨gw_in (w := .initialized RX2) 31 (by decide +kernel) (by decide +kernel), gw_in (w := .code yX2_init cX2_init 1 none) 71 (by decide +kernel) (by decide +kernel), by decide +kernel⟩
theorem iv_X2_init : Cond.instanceMethod (mX2_init).1 ∈ gw := gw_in (w := .instanceMethod yX2_init) 70 (by decide +kernel) (by decide +kernel)
theorem cl_X2_has : CL mX2_has 1 := ⟨gw_in (w := .initialized RX2) 31 (by decide +kernel) (by decide +kernel), gw_in (w := .code yX2_has cX2_has 2 (some .boolean)) 414 (by decide +kernel) (by decide +kernel), by decide +kernel⟩
theorem iv_X2_has : Cond.instanceMethod (mX2_has).1 ∈ gw := gw_in (w := .instanceMethod yX2_has) 412 (by decide +kernel) (by decide +kernel)
theorem vl_X2_has : VLk mX2_has := ⟨iv_X2_has, gw_in (w := .selects RX2 yX2_has yX2_has) 413 (by decide +kernel) (by decide +kernel)⟩
theorem cl_X2_add : CL mX2_add 7 := ⟨gw_in (w := .initialized RX2) 31 (by decide +kernel) (by decide +kernel), gw_in (w := .code yX2_add cX2_add 9 (some .int)) 405 (by decide +kernel) (by decide +kernel), by decide +kernel⟩
theorem iv_X2_add : Cond.instanceMethod (mX2_add).1 ∈ gw := gw_in (w := .instanceMethod yX2_add) 403 (by decide +kernel) (by decide +kernel)
theorem vl_X2_add : VLk mX2_add := ⟨iv_X2_add, gw_in (w := .selects RX2 yX2_add yX2_add) 404 (by decide +kernel) (by decide +kernel)⟩
theorem cl_X2_haveAll : CL mX2_haveAll 1 := ⟨gw_in (w := .initialized RX2) 31 (by decide +kernel) (by decide +kernel), gw_in (w := .code yX2_haveAll cX2_haveAll 3 (some .boolean)) 544 (by decide +kernel) (by decide +kernel), by decide +kernel⟩
theorem iv_X2_haveAll : Cond.instanceMethod (mX2_haveAll).1 ∈ gw := gw_in (w := .instanceMethod yX2_haveAll) 542 (by decide +kernel) (by decide +kernel)
theorem vl_X2_haveAll : VLk mX2_haveAll := ⟨iv_X2_haveAll, gw_in (w := .selects RX2 yX2_haveAll yX2_haveAll) 543 (by decide +kernel) (by decide +kernel)⟩
theorem cl_X2_takeAll : CL mX2_takeAll 1 := ⟨gw_in (w := .initialized RX2) 31 (by decide +kernel) (by decide +kernel), gw_in (w := .code yX2_takeAll cX2_takeAll 3 none) 552 (by decide +kernel) (by decide +kernel), by decide +kernel⟩
theorem iv_X2_takeAll : Cond.instanceMethod (mX2_takeAll).1 ∈ gw := gw_in (w := .instanceMethod yX2_takeAll) 550 (by decide +kernel) (by decide +kernel)
theorem vl_X2_takeAll : VLk mX2_takeAll := ⟨iv_X2_takeAll, gw_in (w := .selects RX2 yX2_takeAll yX2_takeAll) 551 (by decide +kernel) (by decide +kernel)⟩
theorem cl_X2_takeBack : CL mX2_takeBack 1 := ⟨gw_in (w := .initialized RX2) 31 (by decide +kernel) (by decide +kernel), gw_in (w := .code yX2_takeBack cX2_takeBack 3 none) 588 (by decide +kernel) (by decide +kernel), by decide +kernel⟩
theorem iv_X2_takeBack : Cond.instanceMethod (mX2_takeBack).1 ∈ gw := gw_in (w := .instanceMethod yX2_takeBack) 586 (by decide +kernel) (by decide +kernel)
theorem vl_X2_takeBack : VLk mX2_takeBack := ⟨iv_X2_takeBack, gw_in (w := .selects RX2 yX2_takeBack yX2_takeBack) 587 (by decide +kernel) (by decide +kernel)⟩
theorem cl_X3_init : CL mX3_init 5 := ⟨gw_in (w := .initialized RX3) 39 (by decide +kernel) (by decide +kernel), gw_in (w := .code yX3_init cX3_init 6 none) 307 (by decide +kernel) (by decide +kernel), by decide +kernel⟩
theorem iv_X3_init : Cond.instanceMethod (mX3_init).1 ∈ gw := gw_in (w := .instanceMethod yX3_init) 306 (by decide +kernel) (by decide +kernel)
theorem cl_X3_firstHour : CL mX3_firstHour 1 := ⟨gw_in (w := .initialized RX3) 39 (by decide +kernel) (by decide +kernel), gw_in (w := .code yX3_firstHour cX3_firstHour 2 (some .int)) 610 (by decide +kernel) (by decide +kernel), by decide +kernel⟩
theorem iv_X3_firstHour : Cond.instanceMethod (mX3_firstHour).1 ∈ gw := gw_in (w := .instanceMethod yX3_firstHour) 608 (by decide +kernel) (by decide +kernel)
theorem vl_X3_firstHour : VLk mX3_firstHour := ⟨iv_X3_firstHour, gw_in (w := .selects RX3 yX3_firstHour yX3_firstHour) 609 (by decide +kernel) (by decide +kernel)⟩
theorem cl_X3_hoursWithoutName : CL mX3_hoursWithoutName 0 := ⟨gw_in (w := .initialized RX3) 39 (by decide +kernel) (by decide +kernel), gw_in (w := .code yX3_hoursWithoutName cX3_hoursWithoutName 3 (some .int)) 634 (by decide +kernel) (by decide +kernel), by decide +kernel⟩
theorem iv_X3_hoursWithoutName : Cond.instanceMethod (mX3_hoursWithoutName).1 ∈ gw := gw_in (w := .instanceMethod yX3_hoursWithoutName) 632 (by decide +kernel) (by decide +kernel)
theorem vl_X3_hoursWithoutName : VLk mX3_hoursWithoutName := ⟨iv_X3_hoursWithoutName, gw_in (w := .selects RX3 yX3_hoursWithoutName yX3_hoursWithoutName) 633 (by decide +kernel) (by decide +kernel)⟩
theorem cl_X3_bestDose : CL mX3_bestDose 2 := ⟨gw_in (w := .initialized RX3) 39 (by decide +kernel) (by decide +kernel), gw_in (w := .code yX3_bestDose cX3_bestDose 9 (some .int)) 643 (by decide +kernel) (by decide +kernel), by decide +kernel⟩
theorem iv_X3_bestDose : Cond.instanceMethod (mX3_bestDose).1 ∈ gw := gw_in (w := .instanceMethod yX3_bestDose) 641 (by decide +kernel) (by decide +kernel)
theorem vl_X3_bestDose : VLk mX3_bestDose := ⟨iv_X3_bestDose, gw_in (w := .selects RX3 yX3_bestDose yX3_bestDose) 642 (by decide +kernel) (by decide +kernel)⟩
theorem cl_X3_firstHourWithDose : CL mX3_firstHourWithDose 3 := ⟨gw_in (w := .initialized RX3) 39 (by decide +kernel) (by decide +kernel), gw_in (w := .code yX3_firstHourWithDose cX3_firstHourWithDose 5 (some .int)) 615 (by decide +kernel) (by decide +kernel), by decide +kernel⟩
theorem iv_X3_firstHourWithDose : Cond.instanceMethod (mX3_firstHourWithDose).1 ∈ gw := gw_in (w := .instanceMethod yX3_firstHourWithDose) 614 (by decide +kernel) (by decide +kernel)
theorem vl_X3_firstHourWithDose : VLk mX3_firstHourWithDose := ⟨iv_X3_firstHourWithDose, gw_in (w := .selects RX3 yX3_firstHourWithDose yX3_firstHourWithDose) 7 (by decide +kernel) (by decide +kernel)⟩
theorem cl_X3_passHour : CL mX3_passHour 1 := ⟨gw_in (w := .initialized RX3) 39 (by decide +kernel) (by decide +kernel), gw_in (w := .code yX3_passHour cX3_passHour 2 none) 623 (by decide +kernel) (by decide +kernel), by decide +kernel⟩
theorem iv_X3_passHour : Cond.instanceMethod (mX3_passHour).1 ∈ gw := gw_in (w := .instanceMethod yX3_passHour) 622 (by decide +kernel) (by decide +kernel)
theorem vl_X3_passHour : VLk mX3_passHour := ⟨iv_X3_passHour, gw_in (w := .selects RX3 yX3_passHour yX3_passHour) 8 (by decide +kernel) (by decide +kernel)⟩
theorem cl_X4_init : CL mX4_init 0 := ⟨gw_in (w := .initialized RX4) 37 (by decide +kernel) (by decide +kernel), gw_in (w := .code yX4_init cX4_init 1 none) 245 (by decide +kernel) (by decide +kernel), by decide +kernel⟩
theorem iv_X4_init : Cond.instanceMethod (mX4_init).1 ∈ gw := gw_in (w := .instanceMethod yX4_init) 244 (by decide +kernel) (by decide +kernel)
theorem cl_X4_read : CL mX4_read 1 := ⟨gw_in (w := .initialized RX4) 37 (by decide +kernel) (by decide +kernel), gw_in (w := .code yX4_read cX4_read 7 none) 567 (by decide +kernel) (by decide +kernel), by decide +kernel⟩
theorem iv_X4_read : Cond.instanceMethod (mX4_read).1 ∈ gw := gw_in (w := .instanceMethod yX4_read) 565 (by decide +kernel) (by decide +kernel)
theorem vl_X4_read : VLk mX4_read := ⟨iv_X4_read, gw_in (w := .selects RX4 yX4_read yX4_read) 566 (by decide +kernel) (by decide +kernel)⟩
theorem cl_X5_init : CL mX5_init 0 := ⟨gw_in (w := .initialized RX5) 38 (by decide +kernel) (by decide +kernel), gw_in (w := .code yX5_init cX5_init 1 none) 267 (by decide +kernel) (by decide +kernel), by decide +kernel⟩
theorem iv_X5_init : Cond.instanceMethod (mX5_init).1 ∈ gw := gw_in (w := .instanceMethod yX5_init) 266 (by decide +kernel) (by decide +kernel)
theorem cl_X5_has : CL mX5_has 1 := ⟨gw_in (w := .initialized RX5) 38 (by decide +kernel) (by decide +kernel), gw_in (w := .code yX5_has cX5_has 2 (some .boolean)) 598 (by decide +kernel) (by decide +kernel), by decide +kernel⟩
theorem iv_X5_has : Cond.instanceMethod (mX5_has).1 ∈ gw := gw_in (w := .instanceMethod yX5_has) 596 (by decide +kernel) (by decide +kernel)
theorem vl_X5_has : VLk mX5_has := ⟨iv_X5_has, gw_in (w := .selects RX5 yX5_has yX5_has) 597 (by decide +kernel) (by decide +kernel)⟩
theorem cl_X5_clear : CL mX5_clear 0 := ⟨gw_in (w := .initialized RX5) 38 (by decide +kernel) (by decide +kernel), gw_in (w := .code yX5_clear cX5_clear 1 none) 440 (by decide +kernel) (by decide +kernel), by decide +kernel⟩
theorem iv_X5_clear : Cond.instanceMethod (mX5_clear).1 ∈ gw := gw_in (w := .instanceMethod yX5_clear) 438 (by decide +kernel) (by decide +kernel)
theorem vl_X5_clear : VLk mX5_clear := ⟨iv_X5_clear, gw_in (w := .selects RX5 yX5_clear yX5_clear) 439 (by decide +kernel) (by decide +kernel)⟩
theorem cl_X5_add : CL mX5_add 3 := ⟨gw_in (w := .initialized RX5) 38 (by decide +kernel) (by decide +kernel), gw_in (w := .code yX5_add cX5_add 4 none) 583 (by decide +kernel) (by decide +kernel), by decide +kernel⟩
theorem iv_X5_add : Cond.instanceMethod (mX5_add).1 ∈ gw := gw_in (w := .instanceMethod yX5_add) 581 (by decide +kernel) (by decide +kernel)
theorem vl_X5_add : VLk mX5_add := ⟨iv_X5_add, gw_in (w := .selects RX5 yX5_add yX5_add) 582 (by decide +kernel) (by decide +kernel)⟩
theorem cl_X6_init : CL mX6_init 0 := ⟨gw_in (w := .initialized RX6) 32 (by decide +kernel) (by decide +kernel), gw_in (w := .code yX6_init cX6_init 1 none) 111 (by decide +kernel) (by decide +kernel), by decide +kernel⟩
theorem iv_X6_init : Cond.instanceMethod (mX6_init).1 ∈ gw := gw_in (w := .instanceMethod yX6_init) 110 (by decide +kernel) (by decide +kernel)
theorem cl_X6_become : CL mX6_become 1 := ⟨gw_in (w := .initialized RX6) 32 (by decide +kernel) (by decide +kernel), gw_in (w := .code yX6_become cX6_become 3 none) 470 (by decide +kernel) (by decide +kernel), by decide +kernel⟩
theorem iv_X6_become : Cond.instanceMethod (mX6_become).1 ∈ gw := gw_in (w := .instanceMethod yX6_become) 468 (by decide +kernel) (by decide +kernel)
theorem vl_X6_become : VLk mX6_become := ⟨iv_X6_become, gw_in (w := .selects RX6 yX6_become yX6_become) 469 (by decide +kernel) (by decide +kernel)⟩
theorem cl_X7_init : CL mX7_init 2 := ⟨gw_in (w := .initialized RX7) 34 (by decide +kernel) (by decide +kernel), gw_in (w := .code yX7_init cX7_init 3 none) 151 (by decide +kernel) (by decide +kernel), by decide +kernel⟩
theorem iv_X7_init : Cond.instanceMethod (mX7_init).1 ∈ gw := gw_in (w := .instanceMethod yX7_init) 150 (by decide +kernel) (by decide +kernel)
theorem cl_X7_find : CL mX7_find 1 := ⟨gw_in (w := .initialized RX7) 34 (by decide +kernel) (by decide +kernel), gw_in (w := .code yX7_find cX7_find 6 (some .boolean)) 509 (by decide +kernel) (by decide +kernel), by decide +kernel⟩
theorem iv_X7_find : Cond.instanceMethod (mX7_find).1 ∈ gw := gw_in (w := .instanceMethod yX7_find) 507 (by decide +kernel) (by decide +kernel)
theorem vl_X7_find : VLk mX7_find := ⟨iv_X7_find, gw_in (w := .selects RX7 yX7_find yX7_find) 508 (by decide +kernel) (by decide +kernel)⟩
theorem cl_X7_costOfTrial : CL mX7_costOfTrial 0 := ⟨gw_in (w := .initialized RX7) 34 (by decide +kernel) (by decide +kernel), gw_in (w := .code yX7_costOfTrial cX7_costOfTrial 3 (some .int)) 513 (by decide +kernel) (by decide +kernel), by decide +kernel⟩
theorem iv_X7_costOfTrial : Cond.instanceMethod (mX7_costOfTrial).1 ∈ gw := gw_in (w := .instanceMethod yX7_costOfTrial) 512 (by decide +kernel) (by decide +kernel)
theorem vl_X7_costOfTrial : VLk mX7_costOfTrial := ⟨iv_X7_costOfTrial, gw_in (w := .selects RX7 yX7_costOfTrial yX7_costOfTrial) 1 (by decide +kernel) (by decide +kernel)⟩
theorem cl_X7_keepTrial : CL mX7_keepTrial 1 := ⟨gw_in (w := .initialized RX7) 34 (by decide +kernel) (by decide +kernel), gw_in (w := .code yX7_keepTrial cX7_keepTrial 3 none) 518 (by decide +kernel) (by decide +kernel), by decide +kernel⟩
theorem iv_X7_keepTrial : Cond.instanceMethod (mX7_keepTrial).1 ∈ gw := gw_in (w := .instanceMethod yX7_keepTrial) 517 (by decide +kernel) (by decide +kernel)
theorem vl_X7_keepTrial : VLk mX7_keepTrial := ⟨iv_X7_keepTrial, gw_in (w := .selects RX7 yX7_keepTrial yX7_keepTrial) 2 (by decide +kernel) (by decide +kernel)⟩
theorem cl_X7_advance : CL mX7_advance 0 := ⟨gw_in (w := .initialized RX7) 34 (by decide +kernel) (by decide +kernel), gw_in (w := .code yX7_advance cX7_advance 4 (some .boolean)) 522 (by decide +kernel) (by decide +kernel), by decide +kernel⟩
theorem iv_X7_advance : Cond.instanceMethod (mX7_advance).1 ∈ gw := gw_in (w := .instanceMethod yX7_advance) 521 (by decide +kernel) (by decide +kernel)
theorem vl_X7_advance : VLk mX7_advance := ⟨iv_X7_advance, gw_in (w := .selects RX7 yX7_advance yX7_advance) 3 (by decide +kernel) (by decide +kernel)⟩
theorem cl_X8_init : CL mX8_init 0 := ⟨gw_in (w := .initialized RX8) 40 (by decide +kernel) (by decide +kernel), gw_in (w := .code yX8_init cX8_init 1 none) 334 (by decide +kernel) (by decide +kernel), by decide +kernel⟩
theorem iv_X8_init : Cond.instanceMethod (mX8_init).1 ∈ gw := gw_in (w := .instanceMethod yX8_init) 333 (by decide +kernel) (by decide +kernel)
theorem cl_X8_leastSum : CL mX8_leastSum 1 := ⟨gw_in (w := .initialized RX8) 40 (by decide +kernel) (by decide +kernel), gw_in (w := .code yX8_leastSum cX8_leastSum 7 (some .int)) 657 (by decide +kernel) (by decide +kernel), by decide +kernel⟩
theorem iv_X8_leastSum : Cond.instanceMethod (mX8_leastSum).1 ∈ gw := gw_in (w := .instanceMethod yX8_leastSum) 655 (by decide +kernel) (by decide +kernel)
theorem vl_X8_leastSum : VLk mX8_leastSum := ⟨iv_X8_leastSum, gw_in (w := .selects RX8 yX8_leastSum yX8_leastSum) 656 (by decide +kernel) (by decide +kernel)⟩
theorem cl_X8_gather : CL mX8_gather 1 := ⟨gw_in (w := .initialized RX8) 40 (by decide +kernel) (by decide +kernel), gw_in (w := .code yX8_gather cX8_gather 4 (some .int)) 661 (by decide +kernel) (by decide +kernel), by decide +kernel⟩
theorem iv_X8_gather : Cond.instanceMethod (mX8_gather).1 ∈ gw := gw_in (w := .instanceMethod yX8_gather) 660 (by decide +kernel) (by decide +kernel)
theorem vl_X8_gather : VLk mX8_gather := ⟨iv_X8_gather, gw_in (w := .selects RX8 yX8_gather yX8_gather) 9 (by decide +kernel) (by decide +kernel)⟩
theorem cl_X8_sumOfOrder : CL mX8_sumOfOrder 1 := ⟨gw_in (w := .initialized RX8) 40 (by decide +kernel) (by decide +kernel), gw_in (w := .code yX8_sumOfOrder cX8_sumOfOrder 5 (some .int)) 665 (by decide +kernel) (by decide +kernel), by decide +kernel⟩
theorem iv_X8_sumOfOrder : Cond.instanceMethod (mX8_sumOfOrder).1 ∈ gw := gw_in (w := .instanceMethod yX8_sumOfOrder) 664 (by decide +kernel) (by decide +kernel)
theorem vl_X8_sumOfOrder : VLk mX8_sumOfOrder := ⟨iv_X8_sumOfOrder, gw_in (w := .selects RX8 yX8_sumOfOrder yX8_sumOfOrder) 10 (by decide +kernel) (by decide +kernel)⟩
theorem cl_X8_keepOrder : CL mX8_keepOrder 1 := ⟨gw_in (w := .initialized RX8) 40 (by decide +kernel) (by decide +kernel), gw_in (w := .code yX8_keepOrder cX8_keepOrder 2 none) 669 (by decide +kernel) (by decide +kernel), by decide +kernel⟩
theorem iv_X8_keepOrder : Cond.instanceMethod (mX8_keepOrder).1 ∈ gw := gw_in (w := .instanceMethod yX8_keepOrder) 668 (by decide +kernel) (by decide +kernel)
theorem vl_X8_keepOrder : VLk mX8_keepOrder := ⟨iv_X8_keepOrder, gw_in (w := .selects RX8 yX8_keepOrder yX8_keepOrder) 11 (by decide +kernel) (by decide +kernel)⟩
theorem cl_X8_advance : CL mX8_advance 1 := ⟨gw_in (w := .initialized RX8) 40 (by decide +kernel) (by decide +kernel), gw_in (w := .code yX8_advance cX8_advance 6 (some .boolean)) 674 (by decide +kernel) (by decide +kernel), by decide +kernel⟩
theorem iv_X8_advance : Cond.instanceMethod (mX8_advance).1 ∈ gw := gw_in (w := .instanceMethod yX8_advance) 673 (by decide +kernel) (by decide +kernel)
theorem vl_X8_advance : VLk mX8_advance := ⟨iv_X8_advance, gw_in (w := .selects RX8 yX8_advance yX8_advance) 12 (by decide +kernel) (by decide +kernel)⟩
theorem cl_X8_swap : CL mX8_swap 2 := ⟨gw_in (w := .initialized RX8) 40 (by decide +kernel) (by decide +kernel), gw_in (w := .code yX8_swap cX8_swap 4 none) 678 (by decide +kernel) (by decide +kernel), by decide +kernel⟩
theorem iv_X8_swap : Cond.instanceMethod (mX8_swap).1 ∈ gw := gw_in (w := .instanceMethod yX8_swap) 677 (by decide +kernel) (by decide +kernel)
theorem vl_X8_swap : VLk mX8_swap := ⟨iv_X8_swap, gw_in (w := .selects RX8 yX8_swap yX8_swap) 13 (by decide +kernel) (by decide +kernel)⟩
theorem cl_X9_init : CL mX9_init 0 := ⟨gw_in (w := .initialized RX9) 30 (by decide +kernel) (by decide +kernel), gw_in (w := .code yX9_init cX9_init 1 none) 56 (by decide +kernel) (by decide +kernel), by decide +kernel⟩
theorem iv_X9_init : Cond.instanceMethod (mX9_init).1 ∈ gw := gw_in (w := .instanceMethod yX9_init) 55 (by decide +kernel) (by decide +kernel)
theorem cl_X9_split : CL mX9_split 5 := ⟨gw_in (w := .initialized RX9) 30 (by decide +kernel) (by decide +kernel), gw_in (w := .code yX9_split cX9_split 16 none) 432 (by decide +kernel) (by decide +kernel), by decide +kernel⟩
theorem iv_X9_split : Cond.instanceMethod (mX9_split).1 ∈ gw := gw_in (w := .instanceMethod yX9_split) 430 (by decide +kernel) (by decide +kernel)
theorem vl_X9_split : VLk mX9_split := ⟨iv_X9_split, gw_in (w := .selects RX9 yX9_split yX9_split) 431 (by decide +kernel) (by decide +kernel)⟩
theorem cl_X9_giveLeft : CL mX9_giveLeft 3 := ⟨gw_in (w := .initialized RX9) 30 (by decide +kernel) (by decide +kernel), gw_in (w := .code yX9_giveLeft cX9_giveLeft 7 none) 436 (by decide +kernel) (by decide +kernel), by decide +kernel⟩
theorem iv_X9_giveLeft : Cond.instanceMethod (mX9_giveLeft).1 ∈ gw := gw_in (w := .instanceMethod yX9_giveLeft) 435 (by decide +kernel) (by decide +kernel)
theorem vl_X9_giveLeft : VLk mX9_giveLeft := ⟨iv_X9_giveLeft, gw_in (w := .selects RX9 yX9_giveLeft yX9_giveLeft) 0 (by decide +kernel) (by decide +kernel)⟩
theorem cl_X10_init : CL mX10_init 1 := ⟨gw_in (w := .initialized RX10) 35 (by decide +kernel) (by decide +kernel), gw_in (w := .code yX10_init cX10_init 2 none) 175 (by decide +kernel) (by decide +kernel), by decide +kernel⟩
theorem iv_X10_init : Cond.instanceMethod (mX10_init).1 ∈ gw := gw_in (w := .instanceMethod yX10_init) 174 (by decide +kernel) (by decide +kernel)
theorem cl_X10_fill : CL mX10_fill 4 := ⟨gw_in (w := .initialized RX10) 35 (by decide +kernel) (by decide +kernel), gw_in (w := .code yX10_fill cX10_fill 7 none) 428 (by decide +kernel) (by decide +kernel), by decide +kernel⟩
theorem iv_X10_fill : Cond.instanceMethod (mX10_fill).1 ∈ gw := gw_in (w := .instanceMethod yX10_fill) 426 (by decide +kernel) (by decide +kernel)
theorem vl_X10_fill : VLk mX10_fill := ⟨iv_X10_fill, gw_in (w := .selects RX10 yX10_fill yX10_fill) 427 (by decide +kernel) (by decide +kernel)⟩
theorem cl_X10_copy : CL mX10_copy 1 := ⟨gw_in (w := .initialized RX10) 35 (by decide +kernel) (by decide +kernel), gw_in (w := .code yX10_copy cX10_copy 3 none) 619 (by decide +kernel) (by decide +kernel), by decide +kernel⟩
theorem iv_X10_copy : Cond.instanceMethod (mX10_copy).1 ∈ gw := gw_in (w := .instanceMethod yX10_copy) 617 (by decide +kernel) (by decide +kernel)
theorem vl_X10_copy : VLk mX10_copy := ⟨iv_X10_copy, gw_in (w := .selects RX10 yX10_copy yX10_copy) 618 (by decide +kernel) (by decide +kernel)⟩
theorem cl_X10_pass : CL mX10_pass 1 := ⟨gw_in (w := .initialized RX10) 35 (by decide +kernel) (by decide +kernel), gw_in (w := .code yX10_pass cX10_pass 3 none) 556 (by decide +kernel) (by decide +kernel), by decide +kernel⟩
theorem iv_X10_pass : Cond.instanceMethod (mX10_pass).1 ∈ gw := gw_in (w := .instanceMethod yX10_pass) 554 (by decide +kernel) (by decide +kernel)
theorem vl_X10_pass : VLk mX10_pass := ⟨iv_X10_pass, gw_in (w := .selects RX10 yX10_pass yX10_pass) 555 (by decide +kernel) (by decide +kernel)⟩
theorem cl_X10_move : CL mX10_move 2 := ⟨gw_in (w := .initialized RX10) 35 (by decide +kernel) (by decide +kernel), gw_in (w := .code yX10_move cX10_move 5 none) 563 (by decide +kernel) (by decide +kernel), by decide +kernel⟩
theorem iv_X10_move : Cond.instanceMethod (mX10_move).1 ∈ gw := gw_in (w := .instanceMethod yX10_move) 562 (by decide +kernel) (by decide +kernel)
theorem vl_X10_move : VLk mX10_move := ⟨iv_X10_move, gw_in (w := .selects RX10 yX10_move yX10_move) 6 (by decide +kernel) (by decide +kernel)⟩
theorem cl_X10_outOfLast : CL mX10_outOfLast 0 := ⟨gw_in (w := .initialized RX10) 35 (by decide +kernel) (by decide +kernel), gw_in (w := .code yX10_outOfLast cX10_outOfLast 1 (some (.array .int))) 571 (by decide +kernel) (by decide +kernel), by decide +kernel⟩
theorem iv_X10_outOfLast : Cond.instanceMethod (mX10_outOfLast).1 ∈ gw := gw_in (w := .instanceMethod yX10_outOfLast) 569 (by decide +kernel) (by decide +kernel)
theorem vl_X10_outOfLast : VLk mX10_outOfLast := ⟨iv_X10_outOfLast, gw_in (w := .selects RX10 yX10_outOfLast yX10_outOfLast) 570 (by decide +kernel) (by decide +kernel)⟩
theorem cl_X10_gramsIn : CL mX10_gramsIn 3 := ⟨gw_in (w := .initialized RX10) 35 (by decide +kernel) (by decide +kernel), gw_in (w := .code yX10_gramsIn cX10_gramsIn 6 (some .int)) 455 (by decide +kernel) (by decide +kernel), by decide +kernel⟩
theorem iv_X10_gramsIn : Cond.instanceMethod (mX10_gramsIn).1 ∈ gw := gw_in (w := .instanceMethod yX10_gramsIn) 453 (by decide +kernel) (by decide +kernel)
theorem vl_X10_gramsIn : VLk mX10_gramsIn := ⟨iv_X10_gramsIn, gw_in (w := .selects RX10 yX10_gramsIn yX10_gramsIn) 454 (by decide +kernel) (by decide +kernel)⟩
theorem cl_X10_allGrams : CL mX10_allGrams 0 := ⟨gw_in (w := .initialized RX10) 35 (by decide +kernel) (by decide +kernel), gw_in (w := .code yX10_allGrams cX10_allGrams 1 (some .int)) 690 (by decide +kernel) (by decide +kernel), by decide +kernel⟩
theorem iv_X10_allGrams : Cond.instanceMethod (mX10_allGrams).1 ∈ gw := gw_in (w := .instanceMethod yX10_allGrams) 688 (by decide +kernel) (by decide +kernel)
theorem vl_X10_allGrams : VLk mX10_allGrams := ⟨iv_X10_allGrams, gw_in (w := .selects RX10 yX10_allGrams yX10_allGrams) 689 (by decide +kernel) (by decide +kernel)⟩
theorem cl_X11_init : CL mX11_init 0 := ⟨gw_in (w := .initialized RX11) 29 (by decide +kernel) (by decide +kernel), gw_in (w := .code yX11_init cX11_init 2 none) 48 (by decide +kernel) (by decide +kernel), by decide +kernel⟩
theorem iv_X11_init : Cond.instanceMethod (mX11_init).1 ∈ gw := gw_in (w := .instanceMethod yX11_init) 47 (by decide +kernel) (by decide +kernel)
theorem cl_X11_feed : CL mX11_feed 7 := ⟨gw_in (w := .initialized RX11) 29 (by decide +kernel) (by decide +kernel), gw_in (w := .code yX11_feed cX11_feed 8 (some .int)) 390 (by decide +kernel) (by decide +kernel), by decide +kernel⟩
theorem iv_X11_feed : Cond.instanceMethod (mX11_feed).1 ∈ gw := gw_in (w := .instanceMethod yX11_feed) 388 (by decide +kernel) (by decide +kernel)
theorem vl_X11_feed : VLk mX11_feed := ⟨iv_X11_feed, gw_in (w := .selects RX11 yX11_feed yX11_feed) 389 (by decide +kernel) (by decide +kernel)⟩
theorem cl_X11_stock : CL mX11_stock 2 := ⟨gw_in (w := .initialized RX11) 29 (by decide +kernel) (by decide +kernel), gw_in (w := .code yX11_stock cX11_stock 3 (some .int)) 410 (by decide +kernel) (by decide +kernel), by decide +kernel⟩
theorem iv_X11_stock : Cond.instanceMethod (mX11_stock).1 ∈ gw := gw_in (w := .instanceMethod yX11_stock) 408 (by decide +kernel) (by decide +kernel)
theorem vl_X11_stock : VLk mX11_stock := ⟨iv_X11_stock, gw_in (w := .selects RX11 yX11_stock yX11_stock) 409 (by decide +kernel) (by decide +kernel)⟩
theorem cl_X11_of : CL mX11_of 2 := ⟨gw_in (w := .initialized RX11) 29 (by decide +kernel) (by decide +kernel), gw_in (w := .code yX11_of cX11_of 3 (some .int)) 419 (by decide +kernel) (by decide +kernel), by decide +kernel⟩
theorem iv_X11_of : Cond.instanceMethod (mX11_of).1 ∈ gw := gw_in (w := .instanceMethod yX11_of) 417 (by decide +kernel) (by decide +kernel)
theorem vl_X11_of : VLk mX11_of := ⟨iv_X11_of, gw_in (w := .selects RX11 yX11_of yX11_of) 418 (by decide +kernel) (by decide +kernel)⟩
theorem cl_X11_tank : CL mX11_tank 4 := ⟨gw_in (w := .initialized RX11) 29 (by decide +kernel) (by decide +kernel), gw_in (w := .code yX11_tank cX11_tank 5 (some .int)) 423 (by decide +kernel) (by decide +kernel), by decide +kernel⟩
theorem iv_X11_tank : Cond.instanceMethod (mX11_tank).1 ∈ gw := gw_in (w := .instanceMethod yX11_tank) 421 (by decide +kernel) (by decide +kernel)
theorem vl_X11_tank : VLk mX11_tank := ⟨iv_X11_tank, gw_in (w := .selects RX11 yX11_tank yX11_tank) 422 (by decide +kernel) (by decide +kernel)⟩
theorem cl_X11_pull : CL mX11_pull 1 := ⟨gw_in (w := .initialized RX11) 29 (by decide +kernel) (by decide +kernel), gw_in (w := .code yX11_pull cX11_pull 3 (some .int)) 444 (by decide +kernel) (by decide +kernel), by decide +kernel⟩
theorem iv_X11_pull : Cond.instanceMethod (mX11_pull).1 ∈ gw := gw_in (w := .instanceMethod yX11_pull) 442 (by decide +kernel) (by decide +kernel)
theorem vl_X11_pull : VLk mX11_pull := ⟨iv_X11_pull, gw_in (w := .selects RX11 yX11_pull yX11_pull) 443 (by decide +kernel) (by decide +kernel)⟩
theorem cl_X11_cell : CL mX11_cell 3 := ⟨gw_in (w := .initialized RX11) 29 (by decide +kernel) (by decide +kernel), gw_in (w := .code yX11_cell cX11_cell 4 (some .int)) 448 (by decide +kernel) (by decide +kernel), by decide +kernel⟩
theorem iv_X11_cell : Cond.instanceMethod (mX11_cell).1 ∈ gw := gw_in (w := .instanceMethod yX11_cell) 446 (by decide +kernel) (by decide +kernel)
theorem vl_X11_cell : VLk mX11_cell := ⟨iv_X11_cell, gw_in (w := .selects RX11 yX11_cell yX11_cell) 447 (by decide +kernel) (by decide +kernel)⟩
theorem cl_X11_share : CL mX11_share 2 := ⟨gw_in (w := .initialized RX11) 29 (by decide +kernel) (by decide +kernel), gw_in (w := .code yX11_share cX11_share 4 (some .int)) 459 (by decide +kernel) (by decide +kernel), by decide +kernel⟩
theorem iv_X11_share : Cond.instanceMethod (mX11_share).1 ∈ gw := gw_in (w := .instanceMethod yX11_share) 457 (by decide +kernel) (by decide +kernel)
theorem vl_X11_share : VLk mX11_share := ⟨iv_X11_share, gw_in (w := .selects RX11 yX11_share yX11_share) 458 (by decide +kernel) (by decide +kernel)⟩
theorem cl_X11_mix : CL mX11_mix 0 := ⟨gw_in (w := .initialized RX11) 29 (by decide +kernel) (by decide +kernel), gw_in (w := .code yX11_mix cX11_mix 1 (some .int)) 463 (by decide +kernel) (by decide +kernel), by decide +kernel⟩
theorem iv_X11_mix : Cond.instanceMethod (mX11_mix).1 ∈ gw := gw_in (w := .instanceMethod yX11_mix) 461 (by decide +kernel) (by decide +kernel)
theorem vl_X11_mix : VLk mX11_mix := ⟨iv_X11_mix, gw_in (w := .selects RX11 yX11_mix yX11_mix) 462 (by decide +kernel) (by decide +kernel)⟩
theorem cl_X11_colour : CL mX11_colour 0 := ⟨gw_in (w := .initialized RX11) 29 (by decide +kernel) (by decide +kernel), gw_in (w := .code yX11_colour cX11_colour 1 (some .int)) 474 (by decide +kernel) (by decide +kernel), by decide +kernel⟩
theorem iv_X11_colour : Cond.instanceMethod (mX11_colour).1 ∈ gw := gw_in (w := .instanceMethod yX11_colour) 472 (by decide +kernel) (by decide +kernel)
theorem vl_X11_colour : VLk mX11_colour := ⟨iv_X11_colour, gw_in (w := .selects RX11 yX11_colour yX11_colour) 473 (by decide +kernel) (by decide +kernel)⟩
theorem cl_X11_span : CL mX11_span 4 := ⟨gw_in (w := .initialized RX11) 29 (by decide +kernel) (by decide +kernel), gw_in (w := .code yX11_span cX11_span 5 (some .int)) 483 (by decide +kernel) (by decide +kernel), by decide +kernel⟩
theorem iv_X11_span : Cond.instanceMethod (mX11_span).1 ∈ gw := gw_in (w := .instanceMethod yX11_span) 481 (by decide +kernel) (by decide +kernel)
theorem vl_X11_span : VLk mX11_span := ⟨iv_X11_span, gw_in (w := .selects RX11 yX11_span yX11_span) 482 (by decide +kernel) (by decide +kernel)⟩
theorem cl_X11_sure : CL mX11_sure 1 := ⟨gw_in (w := .initialized RX11) 29 (by decide +kernel) (by decide +kernel), gw_in (w := .code yX11_sure cX11_sure 2 (some .int)) 491 (by decide +kernel) (by decide +kernel), by decide +kernel⟩
theorem iv_X11_sure : Cond.instanceMethod (mX11_sure).1 ∈ gw := gw_in (w := .instanceMethod yX11_sure) 489 (by decide +kernel) (by decide +kernel)
theorem vl_X11_sure : VLk mX11_sure := ⟨iv_X11_sure, gw_in (w := .selects RX11 yX11_sure yX11_sure) 490 (by decide +kernel) (by decide +kernel)⟩
theorem cl_X11_cheapest : CL mX11_cheapest 1 := ⟨gw_in (w := .initialized RX11) 29 (by decide +kernel) (by decide +kernel), gw_in (w := .code yX11_cheapest cX11_cheapest 2 (some .int)) 505 (by decide +kernel) (by decide +kernel), by decide +kernel⟩
theorem iv_X11_cheapest : Cond.instanceMethod (mX11_cheapest).1 ∈ gw := gw_in (w := .instanceMethod yX11_cheapest) 503 (by decide +kernel) (by decide +kernel)
theorem vl_X11_cheapest : VLk mX11_cheapest := ⟨iv_X11_cheapest, gw_in (w := .selects RX11 yX11_cheapest yX11_cheapest) 504 (by decide +kernel) (by decide +kernel)⟩
theorem cl_X11_want : CL mX11_want 1 := ⟨gw_in (w := .initialized RX11) 29 (by decide +kernel) (by decide +kernel), gw_in (w := .code yX11_want cX11_want 3 (some .int)) 526 (by decide +kernel) (by decide +kernel), by decide +kernel⟩
theorem iv_X11_want : Cond.instanceMethod (mX11_want).1 ∈ gw := gw_in (w := .instanceMethod yX11_want) 524 (by decide +kernel) (by decide +kernel)
theorem vl_X11_want : VLk mX11_want := ⟨iv_X11_want, gw_in (w := .selects RX11 yX11_want yX11_want) 525 (by decide +kernel) (by decide +kernel)⟩
theorem cl_X11_hours : CL mX11_hours 1 := ⟨gw_in (w := .initialized RX11) 29 (by decide +kernel) (by decide +kernel), gw_in (w := .code yX11_hours cX11_hours 3 (some .int)) 530 (by decide +kernel) (by decide +kernel), by decide +kernel⟩
theorem iv_X11_hours : Cond.instanceMethod (mX11_hours).1 ∈ gw := gw_in (w := .instanceMethod yX11_hours) 528 (by decide +kernel) (by decide +kernel)
theorem vl_X11_hours : VLk mX11_hours := ⟨iv_X11_hours, gw_in (w := .selects RX11 yX11_hours yX11_hours) 529 (by decide +kernel) (by decide +kernel)⟩
theorem cl_X11_glass : CL mX11_glass 2 := ⟨gw_in (w := .initialized RX11) 29 (by decide +kernel) (by decide +kernel), gw_in (w := .code yX11_glass cX11_glass 3 (some .int)) 594 (by decide +kernel) (by decide +kernel), by decide +kernel⟩
theorem iv_X11_glass : Cond.instanceMethod (mX11_glass).1 ∈ gw := gw_in (w := .instanceMethod yX11_glass) 592 (by decide +kernel) (by decide +kernel)
theorem vl_X11_glass : VLk mX11_glass := ⟨iv_X11_glass, gw_in (w := .selects RX11 yX11_glass yX11_glass) 593 (by decide +kernel) (by decide +kernel)⟩
theorem cl_X11_lead : CL mX11_lead 2 := ⟨gw_in (w := .initialized RX11) 29 (by decide +kernel) (by decide +kernel), gw_in (w := .code yX11_lead cX11_lead 3 (some .int)) 602 (by decide +kernel) (by decide +kernel), by decide +kernel⟩
theorem iv_X11_lead : Cond.instanceMethod (mX11_lead).1 ∈ gw := gw_in (w := .instanceMethod yX11_lead) 600 (by decide +kernel) (by decide +kernel)
theorem vl_X11_lead : VLk mX11_lead := ⟨iv_X11_lead, gw_in (w := .selects RX11 yX11_lead yX11_lead) 601 (by decide +kernel) (by decide +kernel)⟩
theorem cl_X11_when : CL mX11_when 1 := ⟨gw_in (w := .initialized RX11) 29 (by decide +kernel) (by decide +kernel), gw_in (w := .code yX11_when cX11_when 2 (some .int)) 606 (by decide +kernel) (by decide +kernel), by decide +kernel⟩
theorem iv_X11_when : Cond.instanceMethod (mX11_when).1 ∈ gw := gw_in (w := .instanceMethod yX11_when) 604 (by decide +kernel) (by decide +kernel)
theorem vl_X11_when : VLk mX11_when := ⟨iv_X11_when, gw_in (w := .selects RX11 yX11_when yX11_when) 605 (by decide +kernel) (by decide +kernel)⟩
theorem cl_X11_between : CL mX11_between 0 := ⟨gw_in (w := .initialized RX11) 29 (by decide +kernel) (by decide +kernel), gw_in (w := .code yX11_between cX11_between 1 (some .int)) 630 (by decide +kernel) (by decide +kernel), by decide +kernel⟩
theorem iv_X11_between : Cond.instanceMethod (mX11_between).1 ∈ gw := gw_in (w := .instanceMethod yX11_between) 628 (by decide +kernel) (by decide +kernel)
theorem vl_X11_between : VLk mX11_between := ⟨iv_X11_between, gw_in (w := .selects RX11 yX11_between yX11_between) 629 (by decide +kernel) (by decide +kernel)⟩
theorem cl_X11_dose : CL mX11_dose 2 := ⟨gw_in (w := .initialized RX11) 29 (by decide +kernel) (by decide +kernel), gw_in (w := .code yX11_dose cX11_dose 3 (some .int)) 639 (by decide +kernel) (by decide +kernel), by decide +kernel⟩
theorem iv_X11_dose : Cond.instanceMethod (mX11_dose).1 ∈ gw := gw_in (w := .instanceMethod yX11_dose) 637 (by decide +kernel) (by decide +kernel)
theorem vl_X11_dose : VLk mX11_dose := ⟨iv_X11_dose, gw_in (w := .selects RX11 yX11_dose yX11_dose) 638 (by decide +kernel) (by decide +kernel)⟩
theorem cl_X11_change : CL mX11_change 3 := ⟨gw_in (w := .initialized RX11) 29 (by decide +kernel) (by decide +kernel), gw_in (w := .code yX11_change cX11_change 5 (some .int)) 649 (by decide +kernel) (by decide +kernel), by decide +kernel⟩
theorem iv_X11_change : Cond.instanceMethod (mX11_change).1 ∈ gw := gw_in (w := .instanceMethod yX11_change) 647 (by decide +kernel) (by decide +kernel)
theorem vl_X11_change : VLk mX11_change := ⟨iv_X11_change, gw_in (w := .selects RX11 yX11_change yX11_change) 648 (by decide +kernel) (by decide +kernel)⟩
theorem cl_X11_ring : CL mX11_ring 1 := ⟨gw_in (w := .initialized RX11) 29 (by decide +kernel) (by decide +kernel), gw_in (w := .code yX11_ring cX11_ring 2 (some .int)) 653 (by decide +kernel) (by decide +kernel), by decide +kernel⟩
theorem iv_X11_ring : Cond.instanceMethod (mX11_ring).1 ∈ gw := gw_in (w := .instanceMethod yX11_ring) 651 (by decide +kernel) (by decide +kernel)
theorem vl_X11_ring : VLk mX11_ring := ⟨iv_X11_ring, gw_in (w := .selects RX11 yX11_ring yX11_ring) 652 (by decide +kernel) (by decide +kernel)⟩
theorem cl_X11_next : CL mX11_next 1 := ⟨gw_in (w := .initialized RX11) 29 (by decide +kernel) (by decide +kernel), gw_in (w := .code yX11_next cX11_next 2 (some .int)) 682 (by decide +kernel) (by decide +kernel), by decide +kernel⟩
theorem iv_X11_next : Cond.instanceMethod (mX11_next).1 ∈ gw := gw_in (w := .instanceMethod yX11_next) 680 (by decide +kernel) (by decide +kernel)
theorem vl_X11_next : VLk mX11_next := ⟨iv_X11_next, gw_in (w := .selects RX11 yX11_next yX11_next) 681 (by decide +kernel) (by decide +kernel)⟩
theorem cl_X11_told : CL mX11_told 1 := ⟨gw_in (w := .initialized RX11) 29 (by decide +kernel) (by decide +kernel), gw_in (w := .code yX11_told cX11_told 2 (some .int)) 686 (by decide +kernel) (by decide +kernel), by decide +kernel⟩
theorem iv_X11_told : Cond.instanceMethod (mX11_told).1 ∈ gw := gw_in (w := .instanceMethod yX11_told) 684 (by decide +kernel) (by decide +kernel)
theorem vl_X11_told : VLk mX11_told := ⟨iv_X11_told, gw_in (w := .selects RX11 yX11_told yX11_told) 685 (by decide +kernel) (by decide +kernel)⟩
theorem cl_X11_isWithin : CL mX11_isWithin 3 := ⟨gw_in (w := .initialized RX11) 29 (by decide +kernel) (by decide +kernel), gw_in (w := .code yX11_isWithin cX11_isWithin 3 (some .boolean)) 393 (by decide +kernel) (by decide +kernel), by decide +kernel⟩
theorem sv_X11_isWithin : Cond.static (mX11_isWithin).1 ∈ gw := gw_in (w := .static yX11_isWithin) 392 (by decide +kernel) (by decide +kernel)
theorem cl_X11_isThing : CL mX11_isThing 1 := ⟨gw_in (w := .initialized RX11) 29 (by decide +kernel) (by decide +kernel), gw_in (w := .code yX11_isThing cX11_isThing 1 (some .boolean)) 451 (by decide +kernel) (by decide +kernel), by decide +kernel⟩
theorem sv_X11_isThing : Cond.static (mX11_isThing).1 ∈ gw := gw_in (w := .static yX11_isThing) 450 (by decide +kernel) (by decide +kernel)
theorem cl_X11_isMakeUp : CL mX11_isMakeUp 4 := ⟨gw_in (w := .initialized RX11) 29 (by decide +kernel) (by decide +kernel), gw_in (w := .code yX11_isMakeUp cX11_isMakeUp 4 (some .boolean)) 396 (by decide +kernel) (by decide +kernel), by decide +kernel⟩
theorem sv_X11_isMakeUp : Cond.static (mX11_isMakeUp).1 ∈ gw := gw_in (w := .static yX11_isMakeUp) 395 (by decide +kernel) (by decide +kernel)
theorem cl_X11_mostDoubt : CL mX11_mostDoubt 1 := ⟨gw_in (w := .initialized RX11) 29 (by decide +kernel) (by decide +kernel), gw_in (w := .code yX11_mostDoubt cX11_mostDoubt 1 (some .int)) 401 (by decide +kernel) (by decide +kernel), by decide +kernel⟩
theorem sv_X11_mostDoubt : Cond.static (mX11_mostDoubt).1 ∈ gw := gw_in (w := .static yX11_mostDoubt) 400 (by decide +kernel) (by decide +kernel)
theorem cl_X11_sumOf : CL mX11_sumOf 1 := ⟨gw_in (w := .initialized RX11) 29 (by decide +kernel) (by decide +kernel), gw_in (w := .code yX11_sumOf cX11_sumOf 6 (some .int)) 466 (by decide +kernel) (by decide +kernel), by decide +kernel⟩
theorem sv_X11_sumOf : Cond.static (mX11_sumOf).1 ∈ gw := gw_in (w := .static yX11_sumOf) 465 (by decide +kernel) (by decide +kernel)
theorem cl_X11_canRun : CL mX11_canRun 0 := ⟨gw_in (w := .initialized RX11) 29 (by decide +kernel) (by decide +kernel), gw_in (w := .code yX11_canRun cX11_canRun 1 (some .boolean)) 534 (by decide +kernel) (by decide +kernel), by decide +kernel⟩
theorem iv_X11_canRun : Cond.instanceMethod (mX11_canRun).1 ∈ gw := gw_in (w := .instanceMethod yX11_canRun) 533 (by decide +kernel) (by decide +kernel)
theorem vl_X11_canRun : VLk mX11_canRun := ⟨iv_X11_canRun, gw_in (w := .selects RX11 yX11_canRun yX11_canRun) 4 (by decide +kernel) (by decide +kernel)⟩
theorem cl_X11_passHour : CL mX11_passHour 0 := ⟨gw_in (w := .initialized RX11) 29 (by decide +kernel) (by decide +kernel), gw_in (w := .code yX11_passHour cX11_passHour 3 none) 548 (by decide +kernel) (by decide +kernel), by decide +kernel⟩
theorem iv_X11_passHour : Cond.instanceMethod (mX11_passHour).1 ∈ gw := gw_in (w := .instanceMethod yX11_passHour) 547 (by decide +kernel) (by decide +kernel)
theorem vl_X11_passHour : VLk mX11_passHour := ⟨iv_X11_passHour, gw_in (w := .selects RX11 yX11_passHour yX11_passHour) 5 (by decide +kernel) (by decide +kernel)⟩
theorem cl_X12_init : CL mX12_init 0 := ⟨gw_in (w := .initialized RX12) 41 (by decide +kernel) (by decide +kernel), gw_in (w := .code yX12_init cX12_init 1 none) 695 (by decide +kernel) (by decide +kernel), by decide +kernel⟩
theorem iv_X12_init : Cond.instanceMethod (mX12_init).1 ∈ gw := gw_in (w := .instanceMethod yX12_init) 694 (by decide +kernel) (by decide +kernel)
theorem cl_X12_in : CL mX12_in 3 := ⟨gw_in (w := .initialized RX12) 41 (by decide +kernel) (by decide +kernel), gw_in (w := .code yX12_in cX12_in 3 (some .boolean)) 824 (by decide +kernel) (by decide +kernel), by decide +kernel⟩
theorem sv_X12_in : Cond.static (mX12_in).1 ∈ gw := gw_in (w := .static yX12_in) 823 (by decide +kernel) (by decide +kernel)
theorem cl_X12_isFeed : CL mX12_isFeed 1 := ⟨gw_in (w := .initialized RX12) 41 (by decide +kernel) (by decide +kernel), gw_in (w := .code yX12_isFeed cX12_isFeed 2 (some .boolean)) 833 (by decide +kernel) (by decide +kernel), by decide +kernel⟩
theorem iv_X12_isFeed : Cond.instanceMethod (mX12_isFeed).1 ∈ gw := gw_in (w := .instanceMethod yX12_isFeed) 832 (by decide +kernel) (by decide +kernel)
theorem vl_X12_isFeed : VLk mX12_isFeed := ⟨iv_X12_isFeed, gw_in (w := .selects RX12 yX12_isFeed yX12_isFeed) 14 (by decide +kernel) (by decide +kernel)⟩
theorem cl_X12_isColour : CL mX12_isColour 1 := ⟨gw_in (w := .initialized RX12) 41 (by decide +kernel) (by decide +kernel), gw_in (w := .code yX12_isColour cX12_isColour 2 (some .boolean)) 880 (by decide +kernel) (by decide +kernel), by decide +kernel⟩
theorem iv_X12_isColour : Cond.instanceMethod (mX12_isColour).1 ∈ gw := gw_in (w := .instanceMethod yX12_isColour) 879 (by decide +kernel) (by decide +kernel)
theorem vl_X12_isColour : VLk mX12_isColour := ⟨iv_X12_isColour, gw_in (w := .selects RX12 yX12_isColour yX12_isColour) 17 (by decide +kernel) (by decide +kernel)⟩
theorem cl_X12_feed : CL mX12_feed 7 := ⟨gw_in (w := .initialized RX12) 41 (by decide +kernel) (by decide +kernel), gw_in (w := .code yX12_feed cX12_feed 10 (some .int)) 821 (by decide +kernel) (by decide +kernel), by decide +kernel⟩
theorem iv_X12_feed : Cond.instanceMethod (mX12_feed).1 ∈ gw := gw_in (w := .instanceMethod yX12_feed) 819 (by decide +kernel) (by decide +kernel)
theorem vl_X12_feed : VLk mX12_feed := ⟨iv_X12_feed, gw_in (w := .selects RX12 yX12_feed yX12_feed) 820 (by decide +kernel) (by decide +kernel)⟩
theorem cl_X12_stock : CL mX12_stock 2 := ⟨gw_in (w := .initialized RX12) 41 (by decide +kernel) (by decide +kernel), gw_in (w := .code yX12_stock cX12_stock 3 (some .int)) 829 (by decide +kernel) (by decide +kernel), by decide +kernel⟩
theorem iv_X12_stock : Cond.instanceMethod (mX12_stock).1 ∈ gw := gw_in (w := .instanceMethod yX12_stock) 827 (by decide +kernel) (by decide +kernel)
theorem vl_X12_stock : VLk mX12_stock := ⟨iv_X12_stock, gw_in (w := .selects RX12 yX12_stock yX12_stock) 828 (by decide +kernel) (by decide +kernel)⟩
theorem cl_X12_of : CL mX12_of 2 := ⟨gw_in (w := .initialized RX12) 41 (by decide +kernel) (by decide +kernel), gw_in (w := .code yX12_of cX12_of 3 (some .int)) 838 (by decide +kernel) (by decide +kernel), by decide +kernel⟩
theorem iv_X12_of : Cond.instanceMethod (mX12_of).1 ∈ gw := gw_in (w := .instanceMethod yX12_of) 836 (by decide +kernel) (by decide +kernel)
theorem vl_X12_of : VLk mX12_of := ⟨iv_X12_of, gw_in (w := .selects RX12 yX12_of yX12_of) 837 (by decide +kernel) (by decide +kernel)⟩
theorem cl_X12_shareOut : CL mX12_shareOut 2 := ⟨gw_in (w := .initialized RX12) 41 (by decide +kernel) (by decide +kernel), gw_in (w := .code yX12_shareOut cX12_shareOut 8 none) 851 (by decide +kernel) (by decide +kernel), by decide +kernel⟩
theorem iv_X12_shareOut : Cond.instanceMethod (mX12_shareOut).1 ∈ gw := gw_in (w := .instanceMethod yX12_shareOut) 850 (by decide +kernel) (by decide +kernel)
theorem vl_X12_shareOut : VLk mX12_shareOut := ⟨iv_X12_shareOut, gw_in (w := .selects RX12 yX12_shareOut yX12_shareOut) 16 (by decide +kernel) (by decide +kernel)⟩
theorem cl_X12_byThings : CL mX12_byThings 4 := ⟨gw_in (w := .initialized RX12) 41 (by decide +kernel) (by decide +kernel), gw_in (w := .code yX12_byThings cX12_byThings 6 none) 847 (by decide +kernel) (by decide +kernel), by decide +kernel⟩
theorem iv_X12_byThings : Cond.instanceMethod (mX12_byThings).1 ∈ gw := gw_in (w := .instanceMethod yX12_byThings) 846 (by decide +kernel) (by decide +kernel)
theorem vl_X12_byThings : VLk mX12_byThings := ⟨iv_X12_byThings, gw_in (w := .selects RX12 yX12_byThings yX12_byThings) 15 (by decide +kernel) (by decide +kernel)⟩
theorem cl_X12_tank : CL mX12_tank 4 := ⟨gw_in (w := .initialized RX12) 41 (by decide +kernel) (by decide +kernel), gw_in (w := .code yX12_tank cX12_tank 6 (some .int)) 842 (by decide +kernel) (by decide +kernel), by decide +kernel⟩
theorem iv_X12_tank : Cond.instanceMethod (mX12_tank).1 ∈ gw := gw_in (w := .instanceMethod yX12_tank) 840 (by decide +kernel) (by decide +kernel)
theorem vl_X12_tank : VLk mX12_tank := ⟨iv_X12_tank, gw_in (w := .selects RX12 yX12_tank yX12_tank) 841 (by decide +kernel) (by decide +kernel)⟩
theorem cl_X12_pull : CL mX12_pull 1 := ⟨gw_in (w := .initialized RX12) 41 (by decide +kernel) (by decide +kernel), gw_in (w := .code yX12_pull cX12_pull 3 (some .int)) 856 (by decide +kernel) (by decide +kernel), by decide +kernel⟩
theorem iv_X12_pull : Cond.instanceMethod (mX12_pull).1 ∈ gw := gw_in (w := .instanceMethod yX12_pull) 854 (by decide +kernel) (by decide +kernel)
theorem vl_X12_pull : VLk mX12_pull := ⟨iv_X12_pull, gw_in (w := .selects RX12 yX12_pull yX12_pull) 855 (by decide +kernel) (by decide +kernel)⟩
theorem cl_X12_cell : CL mX12_cell 3 := ⟨gw_in (w := .initialized RX12) 41 (by decide +kernel) (by decide +kernel), gw_in (w := .code yX12_cell cX12_cell 6 (some .int)) 860 (by decide +kernel) (by decide +kernel), by decide +kernel⟩
theorem iv_X12_cell : Cond.instanceMethod (mX12_cell).1 ∈ gw := gw_in (w := .instanceMethod yX12_cell) 858 (by decide +kernel) (by decide +kernel)
theorem vl_X12_cell : VLk mX12_cell := ⟨iv_X12_cell, gw_in (w := .selects RX12 yX12_cell yX12_cell) 859 (by decide +kernel) (by decide +kernel)⟩
theorem cl_X12_share : CL mX12_share 2 := ⟨gw_in (w := .initialized RX12) 41 (by decide +kernel) (by decide +kernel), gw_in (w := .code yX12_share cX12_share 4 (some .int)) 864 (by decide +kernel) (by decide +kernel), by decide +kernel⟩
theorem iv_X12_share : Cond.instanceMethod (mX12_share).1 ∈ gw := gw_in (w := .instanceMethod yX12_share) 862 (by decide +kernel) (by decide +kernel)
theorem vl_X12_share : VLk mX12_share := ⟨iv_X12_share, gw_in (w := .selects RX12 yX12_share yX12_share) 863 (by decide +kernel) (by decide +kernel)⟩
theorem cl_X12_mix : CL mX12_mix 0 := ⟨gw_in (w := .initialized RX12) 41 (by decide +kernel) (by decide +kernel), gw_in (w := .code yX12_mix cX12_mix 3 (some .int)) 868 (by decide +kernel) (by decide +kernel), by decide +kernel⟩
theorem iv_X12_mix : Cond.instanceMethod (mX12_mix).1 ∈ gw := gw_in (w := .instanceMethod yX12_mix) 866 (by decide +kernel) (by decide +kernel)
theorem vl_X12_mix : VLk mX12_mix := ⟨iv_X12_mix, gw_in (w := .selects RX12 yX12_mix yX12_mix) 867 (by decide +kernel) (by decide +kernel)⟩
theorem cl_X12_colour : CL mX12_colour 0 := ⟨gw_in (w := .initialized RX12) 41 (by decide +kernel) (by decide +kernel), gw_in (w := .code yX12_colour cX12_colour 2 (some .int)) 872 (by decide +kernel) (by decide +kernel), by decide +kernel⟩
theorem iv_X12_colour : Cond.instanceMethod (mX12_colour).1 ∈ gw := gw_in (w := .instanceMethod yX12_colour) 870 (by decide +kernel) (by decide +kernel)
theorem vl_X12_colour : VLk mX12_colour := ⟨iv_X12_colour, gw_in (w := .selects RX12 yX12_colour yX12_colour) 871 (by decide +kernel) (by decide +kernel)⟩
theorem cl_X12_span : CL mX12_span 4 := ⟨gw_in (w := .initialized RX12) 41 (by decide +kernel) (by decide +kernel), gw_in (w := .code yX12_span cX12_span 5 (some .int)) 876 (by decide +kernel) (by decide +kernel), by decide +kernel⟩
theorem iv_X12_span : Cond.instanceMethod (mX12_span).1 ∈ gw := gw_in (w := .instanceMethod yX12_span) 874 (by decide +kernel) (by decide +kernel)
theorem vl_X12_span : VLk mX12_span := ⟨iv_X12_span, gw_in (w := .selects RX12 yX12_span yX12_span) 875 (by decide +kernel) (by decide +kernel)⟩
theorem cl_X12_isSure : CL mX12_isSure 2 := ⟨gw_in (w := .initialized RX12) 41 (by decide +kernel) (by decide +kernel), gw_in (w := .code yX12_isSure cX12_isSure 8 (some .boolean)) 888 (by decide +kernel) (by decide +kernel), by decide +kernel⟩
theorem iv_X12_isSure : Cond.instanceMethod (mX12_isSure).1 ∈ gw := gw_in (w := .instanceMethod yX12_isSure) 887 (by decide +kernel) (by decide +kernel)
theorem vl_X12_isSure : VLk mX12_isSure := ⟨iv_X12_isSure, gw_in (w := .selects RX12 yX12_isSure yX12_isSure) 18 (by decide +kernel) (by decide +kernel)⟩
theorem cl_X12_sure : CL mX12_sure 1 := ⟨gw_in (w := .initialized RX12) 41 (by decide +kernel) (by decide +kernel), gw_in (w := .code yX12_sure cX12_sure 2 (some .int)) 884 (by decide +kernel) (by decide +kernel), by decide +kernel⟩
theorem iv_X12_sure : Cond.instanceMethod (mX12_sure).1 ∈ gw := gw_in (w := .instanceMethod yX12_sure) 882 (by decide +kernel) (by decide +kernel)
theorem vl_X12_sure : VLk mX12_sure := ⟨iv_X12_sure, gw_in (w := .selects RX12 yX12_sure yX12_sure) 883 (by decide +kernel) (by decide +kernel)⟩
theorem cl_X12_cheapest : CL mX12_cheapest 1 := ⟨gw_in (w := .initialized RX12) 41 (by decide +kernel) (by decide +kernel), gw_in (w := .code yX12_cheapest cX12_cheapest 7 (some .int)) 892 (by decide +kernel) (by decide +kernel), by decide +kernel⟩
theorem iv_X12_cheapest : Cond.instanceMethod (mX12_cheapest).1 ∈ gw := gw_in (w := .instanceMethod yX12_cheapest) 890 (by decide +kernel) (by decide +kernel)
theorem vl_X12_cheapest : VLk mX12_cheapest := ⟨iv_X12_cheapest, gw_in (w := .selects RX12 yX12_cheapest yX12_cheapest) 891 (by decide +kernel) (by decide +kernel)⟩
theorem cl_X12_want : CL mX12_want 1 := ⟨gw_in (w := .initialized RX12) 41 (by decide +kernel) (by decide +kernel), gw_in (w := .code yX12_want cX12_want 3 (some .int)) 896 (by decide +kernel) (by decide +kernel), by decide +kernel⟩
theorem iv_X12_want : Cond.instanceMethod (mX12_want).1 ∈ gw := gw_in (w := .instanceMethod yX12_want) 894 (by decide +kernel) (by decide +kernel)
theorem vl_X12_want : VLk mX12_want := ⟨iv_X12_want, gw_in (w := .selects RX12 yX12_want yX12_want) 895 (by decide +kernel) (by decide +kernel)⟩
theorem cl_X12_comes : CL mX12_comes 2 := ⟨gw_in (w := .initialized RX12) 41 (by decide +kernel) (by decide +kernel), gw_in (w := .code yX12_comes cX12_comes 5 none) 908 (by decide +kernel) (by decide +kernel), by decide +kernel⟩
theorem iv_X12_comes : Cond.instanceMethod (mX12_comes).1 ∈ gw := gw_in (w := .instanceMethod yX12_comes) 907 (by decide +kernel) (by decide +kernel)
theorem vl_X12_comes : VLk mX12_comes := ⟨iv_X12_comes, gw_in (w := .selects RX12 yX12_comes yX12_comes) 20 (by decide +kernel) (by decide +kernel)⟩
theorem cl_X12_goes : CL mX12_goes 1 := ⟨gw_in (w := .initialized RX12) 41 (by decide +kernel) (by decide +kernel), gw_in (w := .code yX12_goes cX12_goes 4 none) 913 (by decide +kernel) (by decide +kernel), by decide +kernel⟩
theorem iv_X12_goes : Cond.instanceMethod (mX12_goes).1 ∈ gw := gw_in (w := .instanceMethod yX12_goes) 912 (by decide +kernel) (by decide +kernel)
theorem vl_X12_goes : VLk mX12_goes := ⟨iv_X12_goes, gw_in (w := .selects RX12 yX12_goes yX12_goes) 21 (by decide +kernel) (by decide +kernel)⟩
theorem cl_X12_glassOf : CL mX12_glassOf 1 := ⟨gw_in (w := .initialized RX12) 41 (by decide +kernel) (by decide +kernel), gw_in (w := .code yX12_glassOf cX12_glassOf 4 (some .int)) 925 (by decide +kernel) (by decide +kernel), by decide +kernel⟩
theorem iv_X12_glassOf : Cond.instanceMethod (mX12_glassOf).1 ∈ gw := gw_in (w := .instanceMethod yX12_glassOf) 924 (by decide +kernel) (by decide +kernel)
theorem vl_X12_glassOf : VLk mX12_glassOf := ⟨iv_X12_glassOf, gw_in (w := .selects RX12 yX12_glassOf yX12_glassOf) 24 (by decide +kernel) (by decide +kernel)⟩
theorem cl_X12_isOf : CL mX12_isOf 1 := ⟨gw_in (w := .initialized RX12) 41 (by decide +kernel) (by decide +kernel), gw_in (w := .code yX12_isOf cX12_isOf 5 (some .boolean)) 921 (by decide +kernel) (by decide +kernel), by decide +kernel⟩
theorem iv_X12_isOf : Cond.instanceMethod (mX12_isOf).1 ∈ gw := gw_in (w := .instanceMethod yX12_isOf) 920 (by decide +kernel) (by decide +kernel)
theorem vl_X12_isOf : VLk mX12_isOf := ⟨iv_X12_isOf, gw_in (w := .selects RX12 yX12_isOf yX12_isOf) 23 (by decide +kernel) (by decide +kernel)⟩
theorem cl_X12_nameOf : CL mX12_nameOf 0 := ⟨gw_in (w := .initialized RX12) 41 (by decide +kernel) (by decide +kernel), gw_in (w := .code yX12_nameOf cX12_nameOf 2 (some .int)) 917 (by decide +kernel) (by decide +kernel), by decide +kernel⟩
theorem iv_X12_nameOf : Cond.instanceMethod (mX12_nameOf).1 ∈ gw := gw_in (w := .instanceMethod yX12_nameOf) 916 (by decide +kernel) (by decide +kernel)
theorem vl_X12_nameOf : VLk mX12_nameOf := ⟨iv_X12_nameOf, gw_in (w := .selects RX12 yX12_nameOf yX12_nameOf) 22 (by decide +kernel) (by decide +kernel)⟩
theorem cl_X12_goesBy : CL mX12_goesBy 0 := ⟨gw_in (w := .initialized RX12) 41 (by decide +kernel) (by decide +kernel), gw_in (w := .code yX12_goesBy cX12_goesBy 4 (some .boolean)) 904 (by decide +kernel) (by decide +kernel), by decide +kernel⟩
theorem iv_X12_goesBy : Cond.instanceMethod (mX12_goesBy).1 ∈ gw := gw_in (w := .instanceMethod yX12_goesBy) 903 (by decide +kernel) (by decide +kernel)
theorem vl_X12_goesBy : VLk mX12_goesBy := ⟨iv_X12_goesBy, gw_in (w := .selects RX12 yX12_goesBy yX12_goesBy) 19 (by decide +kernel) (by decide +kernel)⟩
theorem cl_X12_hours : CL mX12_hours 1 := ⟨gw_in (w := .initialized RX12) 41 (by decide +kernel) (by decide +kernel), gw_in (w := .code yX12_hours cX12_hours 3 (some .int)) 900 (by decide +kernel) (by decide +kernel), by decide +kernel⟩
theorem iv_X12_hours : Cond.instanceMethod (mX12_hours).1 ∈ gw := gw_in (w := .instanceMethod yX12_hours) 898 (by decide +kernel) (by decide +kernel)
theorem vl_X12_hours : VLk mX12_hours := ⟨iv_X12_hours, gw_in (w := .selects RX12 yX12_hours yX12_hours) 899 (by decide +kernel) (by decide +kernel)⟩
theorem cl_X12_isHour : CL mX12_isHour 1 := ⟨gw_in (w := .initialized RX12) 41 (by decide +kernel) (by decide +kernel), gw_in (w := .code yX12_isHour cX12_isHour 2 (some .boolean)) 933 (by decide +kernel) (by decide +kernel), by decide +kernel⟩
theorem iv_X12_isHour : Cond.instanceMethod (mX12_isHour).1 ∈ gw := gw_in (w := .instanceMethod yX12_isHour) 932 (by decide +kernel) (by decide +kernel)
theorem vl_X12_isHour : VLk mX12_isHour := ⟨iv_X12_isHour, gw_in (w := .selects RX12 yX12_isHour yX12_isHour) 25 (by decide +kernel) (by decide +kernel)⟩
theorem cl_X12_glass : CL mX12_glass 2 := ⟨gw_in (w := .initialized RX12) 41 (by decide +kernel) (by decide +kernel), gw_in (w := .code yX12_glass cX12_glass 3 (some .int)) 929 (by decide +kernel) (by decide +kernel), by decide +kernel⟩
theorem iv_X12_glass : Cond.instanceMethod (mX12_glass).1 ∈ gw := gw_in (w := .instanceMethod yX12_glass) 927 (by decide +kernel) (by decide +kernel)
theorem vl_X12_glass : VLk mX12_glass := ⟨iv_X12_glass, gw_in (w := .selects RX12 yX12_glass yX12_glass) 928 (by decide +kernel) (by decide +kernel)⟩
theorem cl_X12_lead : CL mX12_lead 2 := ⟨gw_in (w := .initialized RX12) 41 (by decide +kernel) (by decide +kernel), gw_in (w := .code yX12_lead cX12_lead 3 (some .int)) 937 (by decide +kernel) (by decide +kernel), by decide +kernel⟩
theorem iv_X12_lead : Cond.instanceMethod (mX12_lead).1 ∈ gw := gw_in (w := .instanceMethod yX12_lead) 935 (by decide +kernel) (by decide +kernel)
theorem vl_X12_lead : VLk mX12_lead := ⟨iv_X12_lead, gw_in (w := .selects RX12 yX12_lead yX12_lead) 936 (by decide +kernel) (by decide +kernel)⟩
theorem cl_X12_first : CL mX12_first 4 := ⟨gw_in (w := .initialized RX12) 41 (by decide +kernel) (by decide +kernel), gw_in (w := .code yX12_first cX12_first 6 (some .int)) 945 (by decide +kernel) (by decide +kernel), by decide +kernel⟩
theorem iv_X12_first : Cond.instanceMethod (mX12_first).1 ∈ gw := gw_in (w := .instanceMethod yX12_first) 944 (by decide +kernel) (by decide +kernel)
theorem vl_X12_first : VLk mX12_first := ⟨iv_X12_first, gw_in (w := .selects RX12 yX12_first yX12_first) 26 (by decide +kernel) (by decide +kernel)⟩
theorem cl_X12_when : CL mX12_when 1 := ⟨gw_in (w := .initialized RX12) 41 (by decide +kernel) (by decide +kernel), gw_in (w := .code yX12_when cX12_when 2 (some .int)) 941 (by decide +kernel) (by decide +kernel), by decide +kernel⟩
theorem iv_X12_when : Cond.instanceMethod (mX12_when).1 ∈ gw := gw_in (w := .instanceMethod yX12_when) 939 (by decide +kernel) (by decide +kernel)
theorem vl_X12_when : VLk mX12_when := ⟨iv_X12_when, gw_in (w := .selects RX12 yX12_when yX12_when) 940 (by decide +kernel) (by decide +kernel)⟩
theorem cl_X12_between : CL mX12_between 0 := ⟨gw_in (w := .initialized RX12) 41 (by decide +kernel) (by decide +kernel), gw_in (w := .code yX12_between cX12_between 3 (some .int)) 949 (by decide +kernel) (by decide +kernel), by decide +kernel⟩
theorem iv_X12_between : Cond.instanceMethod (mX12_between).1 ∈ gw := gw_in (w := .instanceMethod yX12_between) 947 (by decide +kernel) (by decide +kernel)
theorem vl_X12_between : VLk mX12_between := ⟨iv_X12_between, gw_in (w := .selects RX12 yX12_between yX12_between) 948 (by decide +kernel) (by decide +kernel)⟩
theorem cl_X12_dose : CL mX12_dose 2 := ⟨gw_in (w := .initialized RX12) 41 (by decide +kernel) (by decide +kernel), gw_in (w := .code yX12_dose cX12_dose 8 (some .int)) 953 (by decide +kernel) (by decide +kernel), by decide +kernel⟩
theorem iv_X12_dose : Cond.instanceMethod (mX12_dose).1 ∈ gw := gw_in (w := .instanceMethod yX12_dose) 951 (by decide +kernel) (by decide +kernel)
theorem vl_X12_dose : VLk mX12_dose := ⟨iv_X12_dose, gw_in (w := .selects RX12 yX12_dose yX12_dose) 952 (by decide +kernel) (by decide +kernel)⟩
theorem cl_X12_change : CL mX12_change 3 := ⟨gw_in (w := .initialized RX12) 41 (by decide +kernel) (by decide +kernel), gw_in (w := .code yX12_change cX12_change 5 (some .int)) 957 (by decide +kernel) (by decide +kernel), by decide +kernel⟩
theorem iv_X12_change : Cond.instanceMethod (mX12_change).1 ∈ gw := gw_in (w := .instanceMethod yX12_change) 955 (by decide +kernel) (by decide +kernel)
theorem vl_X12_change : VLk mX12_change := ⟨iv_X12_change, gw_in (w := .selects RX12 yX12_change yX12_change) 956 (by decide +kernel) (by decide +kernel)⟩
theorem cl_X12_ring : CL mX12_ring 1 := ⟨gw_in (w := .initialized RX12) 41 (by decide +kernel) (by decide +kernel), gw_in (w := .code yX12_ring cX12_ring 7 (some .int)) 961 (by decide +kernel) (by decide +kernel), by decide +kernel⟩
theorem iv_X12_ring : Cond.instanceMethod (mX12_ring).1 ∈ gw := gw_in (w := .instanceMethod yX12_ring) 959 (by decide +kernel) (by decide +kernel)
theorem vl_X12_ring : VLk mX12_ring := ⟨iv_X12_ring, gw_in (w := .selects RX12 yX12_ring yX12_ring) 960 (by decide +kernel) (by decide +kernel)⟩
theorem cl_X12_turns : CL mX12_turns 1 := ⟨gw_in (w := .initialized RX12) 41 (by decide +kernel) (by decide +kernel), gw_in (w := .code yX12_turns cX12_turns 7 (some .boolean)) 965 (by decide +kernel) (by decide +kernel), by decide +kernel⟩
theorem iv_X12_turns : Cond.instanceMethod (mX12_turns).1 ∈ gw := gw_in (w := .instanceMethod yX12_turns) 964 (by decide +kernel) (by decide +kernel)
theorem vl_X12_turns : VLk mX12_turns := ⟨iv_X12_turns, gw_in (w := .selects RX12 yX12_turns yX12_turns) 27 (by decide +kernel) (by decide +kernel)⟩
theorem cl_X12_next : CL mX12_next 1 := ⟨gw_in (w := .initialized RX12) 41 (by decide +kernel) (by decide +kernel), gw_in (w := .code yX12_next cX12_next 2 (some .int)) 969 (by decide +kernel) (by decide +kernel), by decide +kernel⟩
theorem iv_X12_next : Cond.instanceMethod (mX12_next).1 ∈ gw := gw_in (w := .instanceMethod yX12_next) 967 (by decide +kernel) (by decide +kernel)
theorem vl_X12_next : VLk mX12_next := ⟨iv_X12_next, gw_in (w := .selects RX12 yX12_next yX12_next) 968 (by decide +kernel) (by decide +kernel)⟩
theorem cl_X12_told : CL mX12_told 1 := ⟨gw_in (w := .initialized RX12) 41 (by decide +kernel) (by decide +kernel), gw_in (w := .code yX12_told cX12_told 2 (some .int)) 973 (by decide +kernel) (by decide +kernel), by decide +kernel⟩
theorem iv_X12_told : Cond.instanceMethod (mX12_told).1 ∈ gw := gw_in (w := .instanceMethod yX12_told) 971 (by decide +kernel) (by decide +kernel)
theorem vl_X12_told : VLk mX12_told := ⟨iv_X12_told, gw_in (w := .selects RX12 yX12_told yX12_told) 972 (by decide +kernel) (by decide +kernel)⟩
theorem ml_L_9 : Cond.methodLink RL 9 yX11_init ∈ gw := gw_in (w := .methodLink RL 9 yX11_init) 46 (by decide +kernel) (by decide +kernel)
theorem ml_X11_3 : Cond.methodLink RX11 3 Lib.objectInit ∈ gw := gw_in (w := .methodLink RX11 3 Lib.objectInit) 49 (by decide +kernel) (by decide +kernel)
theorem ml_X9_3 : Cond.methodLink RX9 3 Lib.objectInit ∈ gw := gw_in (w := .methodLink RX9 3 Lib.objectInit) 57 (by decide +kernel) (by decide +kernel)
theorem ml_X2_3 : Cond.methodLink RX2 3 Lib.objectInit ∈ gw := gw_in (w := .methodLink RX2 3 Lib.objectInit) 72 (by decide +kernel) (by decide +kernel)
theorem ml_X6_3 : Cond.methodLink RX6 3 Lib.objectInit ∈ gw := gw_in (w := .methodLink RX6 3 Lib.objectInit) 112 (by decide +kernel) (by decide +kernel)
theorem ml_X1_3 : Cond.methodLink RX1 3 Lib.objectInit ∈ gw := gw_in (w := .methodLink RX1 3 Lib.objectInit) 132 (by decide +kernel) (by decide +kernel)
theorem ml_X11_35 : Cond.methodLink RX11 35 yX7_init ∈ gw := gw_in (w := .methodLink RX11 35 yX7_init) 149 (by decide +kernel) (by decide +kernel)
theorem ml_X7_3 : Cond.methodLink RX7 3 Lib.objectInit ∈ gw := gw_in (w := .methodLink RX7 3 Lib.objectInit) 152 (by decide +kernel) (by decide +kernel)
theorem ml_X11_44 : Cond.methodLink RX11 44 yX10_init ∈ gw := gw_in (w := .methodLink RX11 44 yX10_init) 173 (by decide +kernel) (by decide +kernel)
theorem ml_X10_3 : Cond.methodLink RX10 3 Lib.objectInit ∈ gw := gw_in (w := .methodLink RX10 3 Lib.objectInit) 176 (by decide +kernel) (by decide +kernel)
theorem ml_X11_53 : Cond.methodLink RX11 53 yX0_init ∈ gw := gw_in (w := .methodLink RX11 53 yX0_init) 212 (by decide +kernel) (by decide +kernel)
theorem ml_X0_3 : Cond.methodLink RX0 3 Lib.objectInit ∈ gw := gw_in (w := .methodLink RX0 3 Lib.objectInit) 215 (by decide +kernel) (by decide +kernel)
theorem ml_X4_3 : Cond.methodLink RX4 3 Lib.objectInit ∈ gw := gw_in (w := .methodLink RX4 3 Lib.objectInit) 246 (by decide +kernel) (by decide +kernel)
theorem ml_X5_3 : Cond.methodLink RX5 3 Lib.objectInit ∈ gw := gw_in (w := .methodLink RX5 3 Lib.objectInit) 268 (by decide +kernel) (by decide +kernel)
theorem ml_X11_76 : Cond.methodLink RX11 76 yX3_init ∈ gw := gw_in (w := .methodLink RX11 76 yX3_init) 305 (by decide +kernel) (by decide +kernel)
theorem ml_X3_3 : Cond.methodLink RX3 3 Lib.objectInit ∈ gw := gw_in (w := .methodLink RX3 3 Lib.objectInit) 308 (by decide +kernel) (by decide +kernel)
theorem ml_X8_3 : Cond.methodLink RX8 3 Lib.objectInit ∈ gw := gw_in (w := .methodLink RX8 3 Lib.objectInit) 335 (by decide +kernel) (by decide +kernel)
theorem ml_L_13 : Cond.methodLink RL 13 yX11_feed ∈ gw := gw_in (w := .methodLink RL 13 yX11_feed) 387 (by decide +kernel) (by decide +kernel)
theorem ml_X11_94 : Cond.methodLink RX11 94 yX11_isWithin ∈ gw := gw_in (w := .methodLink RX11 94 yX11_isWithin) 391 (by decide +kernel) (by decide +kernel)
theorem ml_X11_98 : Cond.methodLink RX11 98 yX11_isMakeUp ∈ gw := gw_in (w := .methodLink RX11 98 yX11_isMakeUp) 394 (by decide +kernel) (by decide +kernel)
theorem ml_X11_103 : Cond.methodLink RX11 103 yX11_mostDoubt ∈ gw := gw_in (w := .methodLink RX11 103 yX11_mostDoubt) 399 (by decide +kernel) (by decide +kernel)
theorem ml_X11_107 : Cond.methodLink RX11 107 yX2_add ∈ gw := gw_in (w := .methodLink RX11 107 yX2_add) 402 (by decide +kernel) (by decide +kernel)
theorem ml_L_18 : Cond.methodLink RL 18 yX11_stock ∈ gw := gw_in (w := .methodLink RL 18 yX11_stock) 407 (by decide +kernel) (by decide +kernel)
theorem ml_X11_111 : Cond.methodLink RX11 111 yX2_has ∈ gw := gw_in (w := .methodLink RX11 111 yX2_has) 411 (by decide +kernel) (by decide +kernel)
theorem ml_L_23 : Cond.methodLink RL 23 yX11_of ∈ gw := gw_in (w := .methodLink RL 23 yX11_of) 416 (by decide +kernel) (by decide +kernel)
theorem ml_L_27 : Cond.methodLink RL 27 yX11_tank ∈ gw := gw_in (w := .methodLink RL 27 yX11_tank) 420 (by decide +kernel) (by decide +kernel)
theorem ml_X11_137 : Cond.methodLink RX11 137 yX10_fill ∈ gw := gw_in (w := .methodLink RX11 137 yX10_fill) 425 (by decide +kernel) (by decide +kernel)
theorem ml_X10_37 : Cond.methodLink RX10 37 yX9_split ∈ gw := gw_in (w := .methodLink RX10 37 yX9_split) 429 (by decide +kernel) (by decide +kernel)
theorem ml_X9_19 : Cond.methodLink RX9 19 yX9_giveLeft ∈ gw := gw_in (w := .methodLink RX9 19 yX9_giveLeft) 433 (by decide +kernel) (by decide +kernel)
theorem ml_X11_144 : Cond.methodLink RX11 144 yX5_clear ∈ gw := gw_in (w := .methodLink RX11 144 yX5_clear) 437 (by decide +kernel) (by decide +kernel)
theorem ml_L_32 : Cond.methodLink RL 32 yX11_pull ∈ gw := gw_in (w := .methodLink RL 32 yX11_pull) 441 (by decide +kernel) (by decide +kernel)
theorem ml_L_37 : Cond.methodLink RL 37 yX11_cell ∈ gw := gw_in (w := .methodLink RL 37 yX11_cell) 445 (by decide +kernel) (by decide +kernel)
theorem ml_X11_153 : Cond.methodLink RX11 153 yX11_isThing ∈ gw := gw_in (w := .methodLink RX11 153 yX11_isThing) 449 (by decide +kernel) (by decide +kernel)
theorem ml_X11_160 : Cond.methodLink RX11 160 yX10_gramsIn ∈ gw := gw_in (w := .methodLink RX11 160 yX10_gramsIn) 452 (by decide +kernel) (by decide +kernel)
theorem ml_L_42 : Cond.methodLink RL 42 yX11_share ∈ gw := gw_in (w := .methodLink RL 42 yX11_share) 456 (by decide +kernel) (by decide +kernel)
theorem ml_L_46 : Cond.methodLink RL 46 yX11_mix ∈ gw := gw_in (w := .methodLink RL 46 yX11_mix) 460 (by decide +kernel) (by decide +kernel)
theorem ml_X11_167 : Cond.methodLink RX11 167 yX11_sumOf ∈ gw := gw_in (w := .methodLink RX11 167 yX11_sumOf) 464 (by decide +kernel) (by decide +kernel)
theorem ml_X11_171 : Cond.methodLink RX11 171 yX6_become ∈ gw := gw_in (w := .methodLink RX11 171 yX6_become) 467 (by decide +kernel) (by decide +kernel)
theorem ml_L_51 : Cond.methodLink RL 51 yX11_colour ∈ gw := gw_in (w := .methodLink RL 51 yX11_colour) 471 (by decide +kernel) (by decide +kernel)
theorem ml_X11_175 : Cond.methodLink RX11 175 yX1_add ∈ gw := gw_in (w := .methodLink RX11 175 yX1_add) 475 (by decide +kernel) (by decide +kernel)
theorem ml_L_55 : Cond.methodLink RL 55 yX11_span ∈ gw := gw_in (w := .methodLink RL 55 yX11_span) 480 (by decide +kernel) (by decide +kernel)
theorem ml_X11_178 : Cond.methodLink RX11 178 yX1_has ∈ gw := gw_in (w := .methodLink RX11 178 yX1_has) 484 (by decide +kernel) (by decide +kernel)
theorem ml_L_59 : Cond.methodLink RL 59 yX11_sure ∈ gw := gw_in (w := .methodLink RL 59 yX11_sure) 488 (by decide +kernel) (by decide +kernel)
theorem ml_X11_186 : Cond.methodLink RX11 186 yX1_isSure ∈ gw := gw_in (w := .methodLink RX11 186 yX1_isSure) 492 (by decide +kernel) (by decide +kernel)
theorem ml_X1_46 : Cond.methodLink RX1 46 Lib.Math.max.name ∈ gw := gw_in (w := .methodLink RX1 46 Lib.Math.max.name) 496 (by decide +kernel) (by decide +kernel)
theorem ml_X1_52 : Cond.methodLink RX1 52 Lib.Math.min.name ∈ gw := gw_in (w := .methodLink RX1 52 Lib.Math.min.name) 499 (by decide +kernel) (by decide +kernel)
theorem ml_L_63 : Cond.methodLink RL 63 yX11_cheapest ∈ gw := gw_in (w := .methodLink RL 63 yX11_cheapest) 502 (by decide +kernel) (by decide +kernel)
theorem ml_X11_190 : Cond.methodLink RX11 190 yX7_find ∈ gw := gw_in (w := .methodLink RX11 190 yX7_find) 506 (by decide +kernel) (by decide +kernel)
theorem ml_X7_32 : Cond.methodLink RX7 32 yX7_costOfTrial ∈ gw := gw_in (w := .methodLink RX7 32 yX7_costOfTrial) 510 (by decide +kernel) (by decide +kernel)
theorem ml_X7_39 : Cond.methodLink RX7 39 yX1_isSure ∈ gw := gw_in (w := .methodLink RX7 39 yX1_isSure) 514 (by decide +kernel) (by decide +kernel)
theorem ml_X7_45 : Cond.methodLink RX7 45 yX7_keepTrial ∈ gw := gw_in (w := .methodLink RX7 45 yX7_keepTrial) 515 (by decide +kernel) (by decide +kernel)
theorem ml_X7_49 : Cond.methodLink RX7 49 yX7_advance ∈ gw := gw_in (w := .methodLink RX7 49 yX7_advance) 519 (by decide +kernel) (by decide +kernel)
theorem ml_L_67 : Cond.methodLink RL 67 yX11_want ∈ gw := gw_in (w := .methodLink RL 67 yX11_want) 523 (by decide +kernel) (by decide +kernel)
theorem ml_L_71 : Cond.methodLink RL 71 yX11_hours ∈ gw := gw_in (w := .methodLink RL 71 yX11_hours) 527 (by decide +kernel) (by decide +kernel)
theorem ml_X11_199 : Cond.methodLink RX11 199 yX11_canRun ∈ gw := gw_in (w := .methodLink RX11 199 yX11_canRun) 531 (by decide +kernel) (by decide +kernel)
theorem ml_X11_206 : Cond.methodLink RX11 206 yX0_measure ∈ gw := gw_in (w := .methodLink RX11 206 yX0_measure) 535 (by decide +kernel) (by decide +kernel)
theorem ml_X0_38 : Cond.methodLink RX0 38 yX2_has ∈ gw := gw_in (w := .methodLink RX0 38 yX2_has) 539 (by decide +kernel) (by decide +kernel)
theorem ml_X0_44 : Cond.methodLink RX0 44 yX9_split ∈ gw := gw_in (w := .methodLink RX0 44 yX9_split) 540 (by decide +kernel) (by decide +kernel)
theorem ml_X11_213 : Cond.methodLink RX11 213 yX2_haveAll ∈ gw := gw_in (w := .methodLink RX11 213 yX2_haveAll) 541 (by decide +kernel) (by decide +kernel)
theorem ml_X11_217 : Cond.methodLink RX11 217 yX11_passHour ∈ gw := gw_in (w := .methodLink RX11 217 yX11_passHour) 545 (by decide +kernel) (by decide +kernel)
theorem ml_X11_272 : Cond.methodLink RX11 272 yX2_takeAll ∈ gw := gw_in (w := .methodLink RX11 272 yX2_takeAll) 549 (by decide +kernel) (by decide +kernel)
theorem ml_X11_275 : Cond.methodLink RX11 275 yX10_pass ∈ gw := gw_in (w := .methodLink RX11 275 yX10_pass) 553 (by decide +kernel) (by decide +kernel)
theorem ml_X10_43 : Cond.methodLink RX10 43 arraycopyName ∈ gw := gw_in (w := .methodLink RX10 43 arraycopyName) 557 (by decide +kernel) (by decide +kernel)
theorem ml_X10_61 : Cond.methodLink RX10 61 yX10_move ∈ gw := gw_in (w := .methodLink RX10 61 yX10_move) 560 (by decide +kernel) (by decide +kernel)
theorem ml_X11_279 : Cond.methodLink RX11 279 yX4_read ∈ gw := gw_in (w := .methodLink RX11 279 yX4_read) 564 (by decide +kernel) (by decide +kernel)
theorem ml_X4_18 : Cond.methodLink RX4 18 yX10_outOfLast ∈ gw := gw_in (w := .methodLink RX4 18 yX10_outOfLast) 568 (by decide +kernel) (by decide +kernel)
theorem ml_X11_283 : Cond.methodLink RX11 283 yX1_nameOf ∈ gw := gw_in (w := .methodLink RX11 283 yX1_nameOf) 572 (by decide +kernel) (by decide +kernel)
theorem ml_X1_33 : Cond.methodLink RX1 33 yX1_fits ∈ gw := gw_in (w := .methodLink RX1 33 yX1_fits) 576 (by decide +kernel) (by decide +kernel)
theorem ml_X11_287 : Cond.methodLink RX11 287 yX5_add ∈ gw := gw_in (w := .methodLink RX11 287 yX5_add) 580 (by decide +kernel) (by decide +kernel)
theorem ml_X5_41 : Cond.methodLink RX5 41 arraycopyName ∈ gw := gw_in (w := .methodLink RX5 41 arraycopyName) 584 (by decide +kernel) (by decide +kernel)
theorem ml_X11_292 : Cond.methodLink RX11 292 yX2_takeBack ∈ gw := gw_in (w := .methodLink RX11 292 yX2_takeBack) 585 (by decide +kernel) (by decide +kernel)
theorem ml_X2_35 : Cond.methodLink RX2 35 Lib.Math.min.name ∈ gw := gw_in (w := .methodLink RX2 35 Lib.Math.min.name) 590 (by decide +kernel) (by decide +kernel)
theorem ml_L_75 : Cond.methodLink RL 75 yX11_glass ∈ gw := gw_in (w := .methodLink RL 75 yX11_glass) 591 (by decide +kernel) (by decide +kernel)
theorem ml_X11_220 : Cond.methodLink RX11 220 yX5_has ∈ gw := gw_in (w := .methodLink RX11 220 yX5_has) 595 (by decide +kernel) (by decide +kernel)
theorem ml_L_79 : Cond.methodLink RL 79 yX11_lead ∈ gw := gw_in (w := .methodLink RL 79 yX11_lead) 599 (by decide +kernel) (by decide +kernel)
theorem ml_L_83 : Cond.methodLink RL 83 yX11_when ∈ gw := gw_in (w := .methodLink RL 83 yX11_when) 603 (by decide +kernel) (by decide +kernel)
theorem ml_X11_237 : Cond.methodLink RX11 237 yX3_firstHour ∈ gw := gw_in (w := .methodLink RX11 237 yX3_firstHour) 607 (by decide +kernel) (by decide +kernel)
theorem ml_X3_42 : Cond.methodLink RX3 42 yX0_measure ∈ gw := gw_in (w := .methodLink RX3 42 yX0_measure) 611 (by decide +kernel) (by decide +kernel)
theorem ml_X3_48 : Cond.methodLink RX3 48 yX3_firstHourWithDose ∈ gw := gw_in (w := .methodLink RX3 48 yX3_firstHourWithDose) 612 (by decide +kernel) (by decide +kernel)
theorem ml_X3_52 : Cond.methodLink RX3 52 yX10_copy ∈ gw := gw_in (w := .methodLink RX3 52 yX10_copy) 616 (by decide +kernel) (by decide +kernel)
theorem ml_X3_56 : Cond.methodLink RX3 56 yX3_passHour ∈ gw := gw_in (w := .methodLink RX3 56 yX3_passHour) 620 (by decide +kernel) (by decide +kernel)
theorem ml_X3_79 : Cond.methodLink RX3 79 yX10_pass ∈ gw := gw_in (w := .methodLink RX3 79 yX10_pass) 624 (by decide +kernel) (by decide +kernel)
theorem ml_X3_82 : Cond.methodLink RX3 82 yX4_read ∈ gw := gw_in (w := .methodLink RX3 82 yX4_read) 625 (by decide +kernel) (by decide +kernel)
theorem ml_X3_71 : Cond.methodLink RX3 71 yX1_fits ∈ gw := gw_in (w := .methodLink RX3 71 yX1_fits) 626 (by decide +kernel) (by decide +kernel)
theorem ml_L_87 : Cond.methodLink RL 87 yX11_between ∈ gw := gw_in (w := .methodLink RL 87 yX11_between) 627 (by decide +kernel) (by decide +kernel)
theorem ml_X11_240 : Cond.methodLink RX11 240 yX3_hoursWithoutName ∈ gw := gw_in (w := .methodLink RX11 240 yX3_hoursWithoutName) 631 (by decide +kernel) (by decide +kernel)
theorem ml_X3_60 : Cond.methodLink RX3 60 yX1_nameOf ∈ gw := gw_in (w := .methodLink RX3 60 yX1_nameOf) 635 (by decide +kernel) (by decide +kernel)
theorem ml_L_91 : Cond.methodLink RL 91 yX11_dose ∈ gw := gw_in (w := .methodLink RL 91 yX11_dose) 636 (by decide +kernel) (by decide +kernel)
theorem ml_X11_243 : Cond.methodLink RX11 243 yX3_bestDose ∈ gw := gw_in (w := .methodLink RX11 243 yX3_bestDose) 640 (by decide +kernel) (by decide +kernel)
theorem ml_X3_66 : Cond.methodLink RX3 66 yX3_firstHour ∈ gw := gw_in (w := .methodLink RX3 66 yX3_firstHour) 644 (by decide +kernel) (by decide +kernel)
theorem ml_L_95 : Cond.methodLink RL 95 yX11_change ∈ gw := gw_in (w := .methodLink RL 95 yX11_change) 646 (by decide +kernel) (by decide +kernel)
theorem ml_L_99 : Cond.methodLink RL 99 yX11_ring ∈ gw := gw_in (w := .methodLink RL 99 yX11_ring) 650 (by decide +kernel) (by decide +kernel)
theorem ml_X11_251 : Cond.methodLink RX11 251 yX8_leastSum ∈ gw := gw_in (w := .methodLink RX11 251 yX8_leastSum) 654 (by decide +kernel) (by decide +kernel)
theorem ml_X8_23 : Cond.methodLink RX8 23 yX8_gather ∈ gw := gw_in (w := .methodLink RX8 23 yX8_gather) 658 (by decide +kernel) (by decide +kernel)
theorem ml_X8_27 : Cond.methodLink RX8 27 yX8_sumOfOrder ∈ gw := gw_in (w := .methodLink RX8 27 yX8_sumOfOrder) 662 (by decide +kernel) (by decide +kernel)
theorem ml_X8_30 : Cond.methodLink RX8 30 yX8_keepOrder ∈ gw := gw_in (w := .methodLink RX8 30 yX8_keepOrder) 666 (by decide +kernel) (by decide +kernel)
theorem ml_X8_38 : Cond.methodLink RX8 38 arraycopyName ∈ gw := gw_in (w := .methodLink RX8 38 arraycopyName) 670 (by decide +kernel) (by decide +kernel)
theorem ml_X8_34 : Cond.methodLink RX8 34 yX8_advance ∈ gw := gw_in (w := .methodLink RX8 34 yX8_advance) 671 (by decide +kernel) (by decide +kernel)
theorem ml_X8_48 : Cond.methodLink RX8 48 yX8_swap ∈ gw := gw_in (w := .methodLink RX8 48 yX8_swap) 675 (by decide +kernel) (by decide +kernel)
theorem ml_L_103 : Cond.methodLink RL 103 yX11_next ∈ gw := gw_in (w := .methodLink RL 103 yX11_next) 679 (by decide +kernel) (by decide +kernel)
theorem ml_L_107 : Cond.methodLink RL 107 yX11_told ∈ gw := gw_in (w := .methodLink RL 107 yX11_told) 683 (by decide +kernel) (by decide +kernel)
theorem ml_X11_267 : Cond.methodLink RX11 267 yX10_allGrams ∈ gw := gw_in (w := .methodLink RX11 267 yX10_allGrams) 687 (by decide +kernel) (by decide +kernel)
theorem ml_L_12 : Cond.methodLink RL 12 yX12_init ∈ gw := gw_in (w := .methodLink RL 12 yX12_init) 693 (by decide +kernel) (by decide +kernel)
theorem ml_X12_1 : Cond.methodLink RX12 1 Lib.objectInit ∈ gw := gw_in (w := .methodLink RX12 1 Lib.objectInit) 696 (by decide +kernel) (by decide +kernel)
theorem ml_L_17 : Cond.methodLink RL 17 yX12_feed ∈ gw := gw_in (w := .methodLink RL 17 yX12_feed) 818 (by decide +kernel) (by decide +kernel)
theorem ml_X12_111 : Cond.methodLink RX12 111 yX12_in ∈ gw := gw_in (w := .methodLink RX12 111 yX12_in) 822 (by decide +kernel) (by decide +kernel)
theorem ml_L_22 : Cond.methodLink RL 22 yX12_stock ∈ gw := gw_in (w := .methodLink RL 22 yX12_stock) 826 (by decide +kernel) (by decide +kernel)
theorem ml_X12_119 : Cond.methodLink RX12 119 yX12_isFeed ∈ gw := gw_in (w := .methodLink RX12 119 yX12_isFeed) 830 (by decide +kernel) (by decide +kernel)
theorem ml_L_26 : Cond.methodLink RL 26 yX12_of ∈ gw := gw_in (w := .methodLink RL 26 yX12_of) 835 (by decide +kernel) (by decide +kernel)
theorem ml_L_31 : Cond.methodLink RL 31 yX12_tank ∈ gw := gw_in (w := .methodLink RL 31 yX12_tank) 839 (by decide +kernel) (by decide +kernel)
theorem ml_X12_148 : Cond.methodLink RX12 148 yX12_byThings ∈ gw := gw_in (w := .methodLink RX12 148 yX12_byThings) 844 (by decide +kernel) (by decide +kernel)
theorem ml_X12_130 : Cond.methodLink RX12 130 yX12_shareOut ∈ gw := gw_in (w := .methodLink RX12 130 yX12_shareOut) 848 (by decide +kernel) (by decide +kernel)
theorem ml_L_36 : Cond.methodLink RL 36 yX12_pull ∈ gw := gw_in (w := .methodLink RL 36 yX12_pull) 853 (by decide +kernel) (by decide +kernel)
theorem ml_L_41 : Cond.methodLink RL 41 yX12_cell ∈ gw := gw_in (w := .methodLink RL 41 yX12_cell) 857 (by decide +kernel) (by decide +kernel)
theorem ml_L_45 : Cond.methodLink RL 45 yX12_share ∈ gw := gw_in (w := .methodLink RL 45 yX12_share) 861 (by decide +kernel) (by decide +kernel)
theorem ml_L_50 : Cond.methodLink RL 50 yX12_mix ∈ gw := gw_in (w := .methodLink RL 50 yX12_mix) 865 (by decide +kernel) (by decide +kernel)
theorem ml_L_54 : Cond.methodLink RL 54 yX12_colour ∈ gw := gw_in (w := .methodLink RL 54 yX12_colour) 869 (by decide +kernel) (by decide +kernel)
theorem ml_L_58 : Cond.methodLink RL 58 yX12_span ∈ gw := gw_in (w := .methodLink RL 58 yX12_span) 873 (by decide +kernel) (by decide +kernel)
theorem ml_X12_152 : Cond.methodLink RX12 152 yX12_isColour ∈ gw := gw_in (w := .methodLink RX12 152 yX12_isColour) 877 (by decide +kernel) (by decide +kernel)
theorem ml_L_62 : Cond.methodLink RL 62 yX12_sure ∈ gw := gw_in (w := .methodLink RL 62 yX12_sure) 881 (by decide +kernel) (by decide +kernel)
theorem ml_X12_155 : Cond.methodLink RX12 155 yX12_isSure ∈ gw := gw_in (w := .methodLink RX12 155 yX12_isSure) 885 (by decide +kernel) (by decide +kernel)
theorem ml_L_66 : Cond.methodLink RL 66 yX12_cheapest ∈ gw := gw_in (w := .methodLink RL 66 yX12_cheapest) 889 (by decide +kernel) (by decide +kernel)
theorem ml_L_70 : Cond.methodLink RL 70 yX12_want ∈ gw := gw_in (w := .methodLink RL 70 yX12_want) 893 (by decide +kernel) (by decide +kernel)
theorem ml_L_74 : Cond.methodLink RL 74 yX12_hours ∈ gw := gw_in (w := .methodLink RL 74 yX12_hours) 897 (by decide +kernel) (by decide +kernel)
theorem ml_X12_179 : Cond.methodLink RX12 179 yX12_goesBy ∈ gw := gw_in (w := .methodLink RX12 179 yX12_goesBy) 901 (by decide +kernel) (by decide +kernel)
theorem ml_X12_168 : Cond.methodLink RX12 168 yX12_comes ∈ gw := gw_in (w := .methodLink RX12 168 yX12_comes) 905 (by decide +kernel) (by decide +kernel)
theorem ml_X12_171 : Cond.methodLink RX12 171 yX12_goes ∈ gw := gw_in (w := .methodLink RX12 171 yX12_goes) 910 (by decide +kernel) (by decide +kernel)
theorem ml_X12_175 : Cond.methodLink RX12 175 yX12_nameOf ∈ gw := gw_in (w := .methodLink RX12 175 yX12_nameOf) 914 (by decide +kernel) (by decide +kernel)
theorem ml_X12_165 : Cond.methodLink RX12 165 yX12_isOf ∈ gw := gw_in (w := .methodLink RX12 165 yX12_isOf) 918 (by decide +kernel) (by decide +kernel)
theorem ml_X12_161 : Cond.methodLink RX12 161 yX12_glassOf ∈ gw := gw_in (w := .methodLink RX12 161 yX12_glassOf) 922 (by decide +kernel) (by decide +kernel)
theorem ml_L_78 : Cond.methodLink RL 78 yX12_glass ∈ gw := gw_in (w := .methodLink RL 78 yX12_glass) 926 (by decide +kernel) (by decide +kernel)
theorem ml_X12_183 : Cond.methodLink RX12 183 yX12_isHour ∈ gw := gw_in (w := .methodLink RX12 183 yX12_isHour) 930 (by decide +kernel) (by decide +kernel)
theorem ml_L_82 : Cond.methodLink RL 82 yX12_lead ∈ gw := gw_in (w := .methodLink RL 82 yX12_lead) 934 (by decide +kernel) (by decide +kernel)
theorem ml_L_86 : Cond.methodLink RL 86 yX12_when ∈ gw := gw_in (w := .methodLink RL 86 yX12_when) 938 (by decide +kernel) (by decide +kernel)
theorem ml_X12_186 : Cond.methodLink RX12 186 yX12_first ∈ gw := gw_in (w := .methodLink RX12 186 yX12_first) 942 (by decide +kernel) (by decide +kernel)
theorem ml_L_90 : Cond.methodLink RL 90 yX12_between ∈ gw := gw_in (w := .methodLink RL 90 yX12_between) 946 (by decide +kernel) (by decide +kernel)
theorem ml_L_94 : Cond.methodLink RL 94 yX12_dose ∈ gw := gw_in (w := .methodLink RL 94 yX12_dose) 950 (by decide +kernel) (by decide +kernel)
theorem ml_L_98 : Cond.methodLink RL 98 yX12_change ∈ gw := gw_in (w := .methodLink RL 98 yX12_change) 954 (by decide +kernel) (by decide +kernel)
theorem ml_L_102 : Cond.methodLink RL 102 yX12_ring ∈ gw := gw_in (w := .methodLink RL 102 yX12_ring) 958 (by decide +kernel) (by decide +kernel)
theorem ml_X12_190 : Cond.methodLink RX12 190 yX12_turns ∈ gw := gw_in (w := .methodLink RX12 190 yX12_turns) 962 (by decide +kernel) (by decide +kernel)
theorem ml_L_106 : Cond.methodLink RL 106 yX12_next ∈ gw := gw_in (w := .methodLink RL 106 yX12_next) 966 (by decide +kernel) (by decide +kernel)
theorem ml_L_110 : Cond.methodLink RL 110 yX12_told ∈ gw := gw_in (w := .methodLink RL 110 yX12_told) 970 (by decide +kernel) (by decide +kernel)
theorem nl_X11_11 : ∃ host, Cond.methodLinkNest RX11 11 yX9_init host ∈ lw_tbl := ⟨"GlassTank", List.mem_of_getElem? (i := 54) (by decide +kernel)⟩
theorem nl_X11_14 : ∃ host, Cond.methodLinkNest RX11 14 yX2_init host ∈ lw_tbl := ⟨"GlassTank", List.mem_of_getElem? (i := 69) (by decide +kernel)⟩
theorem nl_X11_21 : ∃ host, Cond.methodLinkNest RX11 21 yX6_init host ∈ lw_tbl := ⟨"GlassTank", List.mem_of_getElem? (i := 109) (by decide +kernel)⟩
theorem nl_X11_28 : ∃ host, Cond.methodLinkNest RX11 28 yX1_init host ∈ lw_tbl := ⟨"GlassTank", List.mem_of_getElem? (i := 129) (by decide +kernel)⟩
theorem nl_X11_62 : ∃ host, Cond.methodLinkNest RX11 62 yX4_init host ∈ lw_tbl := ⟨"GlassTank", List.mem_of_getElem? (i := 243) (by decide +kernel)⟩
theorem nl_X11_69 : ∃ host, Cond.methodLinkNest RX11 69 yX5_init host ∈ lw_tbl := ⟨"GlassTank", List.mem_of_getElem? (i := 265) (by decide +kernel)⟩
theorem nl_X3_11 : ∃ host, Cond.methodLinkNest RX3 11 yX4_init host ∈ lw_tbl := ⟨"GlassTank", List.mem_of_getElem? (i := 310) (by decide +kernel)⟩
theorem nl_X11_85 : ∃ host, Cond.methodLinkNest RX11 85 yX8_init host ∈ lw_tbl := ⟨"GlassTank", List.mem_of_getElem? (i := 332) (by decide +kernel)⟩
theorem fl_X9_9 : FL RX9 9 9 0 := ⟨RX9, TX9, 2, rfl, by decide, gw_in (w := .fieldLink RX9 9 (TX9 0).1 (TX9 0).2.1 (TX9 0).2.2.1) 58 (by decide +kernel) (by decide +kernel), inX9⟩
theorem pl_X9_9 : PL true RX9 9 9 0 (.array .long) := ⟨RX9, TX9, 2, tyX9, rfl, by decide, gw_in (w := .fieldLink RX9 9 (TX9 0).1 (TX9 0).2.1 (TX9 0).2.2.1) 58 (by decide +kernel) (by decide +kernel), inX9, tyX9_ok, nmX9, rfl, rfl, by decide +kernel⟩
theorem fl_X9_15 : FL RX9 15 9 1 := ⟨RX9, TX9, 2, rfl, by decide, gw_in (w := .fieldLink RX9 15 (TX9 1).1 (TX9 1).2.1 (TX9 1).2.2.1) 59 (by decide +kernel) (by decide +kernel), inX9⟩
theorem pl_X9_15 : PL true RX9 15 9 1 (.array .int) := ⟨RX9, TX9, 2, tyX9, rfl, by decide, gw_in (w := .fieldLink RX9 15 (TX9 1).1 (TX9 1).2.1 (TX9 1).2.2.1) 59 (by decide +kernel) (by decide +kernel), inX9, tyX9_ok, nmX9, rfl, rfl, by decide +kernel⟩
theorem fl_X7_26 : FL RX7 26 2 0 := ⟨RX2, TX2, 6, rfl, by decide, gw_in (w := .fieldLink RX7 26 (TX2 0).1 (TX2 0).2.1 (TX2 0).2.2.1) 75 (by decide +kernel) (by decide +kernel), inX2⟩
theorem fl_X2_29 : FL RX2 29 2 0 := ⟨RX2, TX2, 6, rfl, by decide, gw_in (w := .fieldLink RX2 29 (TX2 0).1 (TX2 0).2.1 (TX2 0).2.2.1) 76 (by decide +kernel) (by decide +kernel), inX2⟩
theorem pl_X2_29 : PL false RX2 29 2 0 .int := ⟨RX2, TX2, 6, tyX2, rfl, by decide, gw_in (w := .fieldLink RX2 29 (TX2 0).1 (TX2 0).2.1 (TX2 0).2.2.1) 76 (by decide +kernel) (by decide +kernel), inX2, tyX2_ok, nmX2, rfl, rfl, by decide +kernel⟩
theorem fl_X0_50 : FL RX0 50 2 0 := ⟨RX2, TX2, 6, rfl, by decide, gw_in (w := .fieldLink RX0 50 (TX2 0).1 (TX2 0).2.1 (TX2 0).2.2.1) 77 (by decide +kernel) (by decide +kernel), inX2⟩
theorem fl_X1_37 : FL RX1 37 2 0 := ⟨RX2, TX2, 6, rfl, by decide, gw_in (w := .fieldLink RX1 37 (TX2 0).1 (TX2 0).2.1 (TX2 0).2.2.1) 78 (by decide +kernel) (by decide +kernel), inX2⟩
theorem fl_X11_260 : FL RX11 260 2 0 := ⟨RX2, TX2, 6, rfl, by decide, gw_in (w := .fieldLink RX11 260 (TX2 0).1 (TX2 0).2.1 (TX2 0).2.2.1) 79 (by decide +kernel) (by decide +kernel), inX2⟩
theorem fl_X2_9 : FL RX2 9 2 1 := ⟨RX2, TX2, 6, rfl, by decide, gw_in (w := .fieldLink RX2 9 (TX2 1).1 (TX2 1).2.1 (TX2 1).2.2.1) 80 (by decide +kernel) (by decide +kernel), inX2⟩
theorem pl_X2_9 : PL true RX2 9 2 1 (.array .int) := ⟨RX2, TX2, 6, tyX2, rfl, by decide, gw_in (w := .fieldLink RX2 9 (TX2 1).1 (TX2 1).2.1 (TX2 1).2.2.1) 80 (by decide +kernel) (by decide +kernel), inX2, tyX2_ok, nmX2, rfl, rfl, by decide +kernel⟩
theorem fl_X11_124 : FL RX11 124 2 1 := ⟨RX2, TX2, 6, rfl, by decide, gw_in (w := .fieldLink RX11 124 (TX2 1).1 (TX2 1).2.1 (TX2 1).2.2.1) 81 (by decide +kernel) (by decide +kernel), inX2⟩
theorem fl_X2_17 : FL RX2 17 2 2 := ⟨RX2, TX2, 6, rfl, by decide, gw_in (w := .fieldLink RX2 17 (TX2 2).1 (TX2 2).2.1 (TX2 2).2.2.1) 82 (by decide +kernel) (by decide +kernel), inX2⟩
theorem pl_X2_17 : PL true RX2 17 2 2 (.array (.array .int)) := ⟨RX2, TX2, 6, tyX2, rfl, by decide, gw_in (w := .fieldLink RX2 17 (TX2 2).1 (TX2 2).2.1 (TX2 2).2.2.1) 82 (by decide +kernel) (by decide +kernel), inX2, tyX2_ok, nmX2, rfl, rfl, by decide +kernel⟩
theorem fl_X0_54 : FL RX0 54 2 2 := ⟨RX2, TX2, 6, rfl, by decide, gw_in (w := .fieldLink RX0 54 (TX2 2).1 (TX2 2).2.1 (TX2 2).2.2.1) 83 (by decide +kernel) (by decide +kernel), inX2⟩
theorem fl_X11_120 : FL RX11 120 2 2 := ⟨RX2, TX2, 6, rfl, by decide, gw_in (w := .fieldLink RX11 120 (TX2 2).1 (TX2 2).2.1 (TX2 2).2.2.1) 84 (by decide +kernel) (by decide +kernel), inX2⟩
theorem fl_X1_40 : FL RX1 40 2 2 := ⟨RX2, TX2, 6, rfl, by decide, gw_in (w := .fieldLink RX1 40 (TX2 2).1 (TX2 2).2.1 (TX2 2).2.2.1) 85 (by decide +kernel) (by decide +kernel), inX2⟩
theorem fl_X2_20 : FL RX2 20 2 3 := ⟨RX2, TX2, 6, rfl, by decide, gw_in (w := .fieldLink RX2 20 (TX2 3).1 (TX2 3).2.1 (TX2 3).2.2.1) 86 (by decide +kernel) (by decide +kernel), inX2⟩
theorem pl_X2_20 : PL true RX2 20 2 3 (.array .int) := ⟨RX2, TX2, 6, tyX2, rfl, by decide, gw_in (w := .fieldLink RX2 20 (TX2 3).1 (TX2 3).2.1 (TX2 3).2.2.1) 86 (by decide +kernel) (by decide +kernel), inX2, tyX2_ok, nmX2, rfl, rfl, by decide +kernel⟩
theorem fl_X11_127 : FL RX11 127 2 3 := ⟨RX2, TX2, 6, rfl, by decide, gw_in (w := .fieldLink RX11 127 (TX2 3).1 (TX2 3).2.1 (TX2 3).2.2.1) 87 (by decide +kernel) (by decide +kernel), inX2⟩
theorem fl_X1_43 : FL RX1 43 2 3 := ⟨RX2, TX2, 6, rfl, by decide, gw_in (w := .fieldLink RX1 43 (TX2 3).1 (TX2 3).2.1 (TX2 3).2.2.1) 88 (by decide +kernel) (by decide +kernel), inX2⟩
theorem fl_X2_23 : FL RX2 23 2 4 := ⟨RX2, TX2, 6, rfl, by decide, gw_in (w := .fieldLink RX2 23 (TX2 4).1 (TX2 4).2.1 (TX2 4).2.2.1) 89 (by decide +kernel) (by decide +kernel), inX2⟩
theorem pl_X2_23 : PL true RX2 23 2 4 (.array .int) := ⟨RX2, TX2, 6, tyX2, rfl, by decide, gw_in (w := .fieldLink RX2 23 (TX2 4).1 (TX2 4).2.1 (TX2 4).2.2.1) 89 (by decide +kernel) (by decide +kernel), inX2, tyX2_ok, nmX2, rfl, rfl, by decide +kernel⟩
theorem fl_X7_53 : FL RX7 53 2 4 := ⟨RX2, TX2, 6, rfl, by decide, gw_in (w := .fieldLink RX7 53 (TX2 4).1 (TX2 4).2.1 (TX2 4).2.2.1) 90 (by decide +kernel) (by decide +kernel), inX2⟩
theorem fl_X11_130 : FL RX11 130 2 4 := ⟨RX2, TX2, 6, rfl, by decide, gw_in (w := .fieldLink RX11 130 (TX2 4).1 (TX2 4).2.1 (TX2 4).2.2.1) 91 (by decide +kernel) (by decide +kernel), inX2⟩
theorem fl_X2_26 : FL RX2 26 2 5 := ⟨RX2, TX2, 6, rfl, by decide, gw_in (w := .fieldLink RX2 26 (TX2 5).1 (TX2 5).2.1 (TX2 5).2.2.1) 92 (by decide +kernel) (by decide +kernel), inX2⟩
theorem pl_X2_26 : PL true RX2 26 2 5 (.array .int) := ⟨RX2, TX2, 6, tyX2, rfl, by decide, gw_in (w := .fieldLink RX2 26 (TX2 5).1 (TX2 5).2.1 (TX2 5).2.2.1) 92 (by decide +kernel) (by decide +kernel), inX2, tyX2_ok, nmX2, rfl, rfl, by decide +kernel⟩
theorem fl_X11_116 : FL RX11 116 2 5 := ⟨RX2, TX2, 6, rfl, by decide, gw_in (w := .fieldLink RX11 116 (TX2 5).1 (TX2 5).2.1 (TX2 5).2.2.1) 93 (by decide +kernel) (by decide +kernel), inX2⟩
theorem fl_X6_18 : FL RX6 18 6 0 := ⟨RX6, TX6, 3, rfl, by decide, gw_in (w := .fieldLink RX6 18 (TX6 0).1 (TX6 0).2.1 (TX6 0).2.2.1) 113 (by decide +kernel) (by decide +kernel), inX6⟩
theorem pl_X6_18 : PL false RX6 18 6 0 .boolean := ⟨RX6, TX6, 3, tyX6, rfl, by decide, gw_in (w := .fieldLink RX6 18 (TX6 0).1 (TX6 0).2.1 (TX6 0).2.2.1) 113 (by decide +kernel) (by decide +kernel), inX6, tyX6_ok, nmX6, rfl, rfl, by decide +kernel⟩
theorem fl_X11_185 : FL RX11 185 6 0 := ⟨RX6, TX6, 3, rfl, by decide, gw_in (w := .fieldLink RX11 185 (TX6 0).1 (TX6 0).2.1 (TX6 0).2.2.1) 114 (by decide +kernel) (by decide +kernel), inX6⟩
theorem fl_X6_9 : FL RX6 9 6 1 := ⟨RX6, TX6, 3, rfl, by decide, gw_in (w := .fieldLink RX6 9 (TX6 1).1 (TX6 1).2.1 (TX6 1).2.2.1) 115 (by decide +kernel) (by decide +kernel), inX6⟩
theorem pl_X6_9 : PL true RX6 9 6 1 (.array .int) := ⟨RX6, TX6, 3, tyX6, rfl, by decide, gw_in (w := .fieldLink RX6 9 (TX6 1).1 (TX6 1).2.1 (TX6 1).2.2.1) 115 (by decide +kernel) (by decide +kernel), inX6, tyX6_ok, nmX6, rfl, rfl, by decide +kernel⟩
theorem fl_X0_33 : FL RX0 33 6 1 := ⟨RX6, TX6, 3, rfl, by decide, gw_in (w := .fieldLink RX0 33 (TX6 1).1 (TX6 1).2.1 (TX6 1).2.2.1) 116 (by decide +kernel) (by decide +kernel), inX6⟩
theorem fl_X11_133 : FL RX11 133 6 1 := ⟨RX6, TX6, 3, rfl, by decide, gw_in (w := .fieldLink RX11 133 (TX6 1).1 (TX6 1).2.1 (TX6 1).2.2.1) 117 (by decide +kernel) (by decide +kernel), inX6⟩
theorem fl_X6_15 : FL RX6 15 6 2 := ⟨RX6, TX6, 3, rfl, by decide, gw_in (w := .fieldLink RX6 15 (TX6 2).1 (TX6 2).2.1 (TX6 2).2.2.1) 118 (by decide +kernel) (by decide +kernel), inX6⟩
theorem pl_X6_15 : PL true RX6 15 6 2 (.array .int) := ⟨RX6, TX6, 3, tyX6, rfl, by decide, gw_in (w := .fieldLink RX6 15 (TX6 2).1 (TX6 2).2.1 (TX6 2).2.2.1) 118 (by decide +kernel) (by decide +kernel), inX6, tyX6_ok, nmX6, rfl, rfl, by decide +kernel⟩
theorem fl_X11_164 : FL RX11 164 6 2 := ⟨RX6, TX6, 3, rfl, by decide, gw_in (w := .fieldLink RX11 164 (TX6 2).1 (TX6 2).2.1 (TX6 2).2.2.1) 119 (by decide +kernel) (by decide +kernel), inX6⟩
theorem fl_X1_19 : FL RX1 19 1 0 := ⟨RX1, TX1, 3, rfl, by decide, gw_in (w := .fieldLink RX1 19 (TX1 0).1 (TX1 0).2.1 (TX1 0).2.2.1) 134 (by decide +kernel) (by decide +kernel), inX1⟩
theorem pl_X1_19 : PL false RX1 19 1 0 .int := ⟨RX1, TX1, 3, tyX1, rfl, by decide, gw_in (w := .fieldLink RX1 19 (TX1 0).1 (TX1 0).2.1 (TX1 0).2.2.1) 134 (by decide +kernel) (by decide +kernel), inX1, tyX1_ok, nmX1, rfl, rfl, by decide +kernel⟩
theorem fl_X11_250 : FL RX11 250 1 0 := ⟨RX1, TX1, 3, rfl, by decide, gw_in (w := .fieldLink RX11 250 (TX1 0).1 (TX1 0).2.1 (TX1 0).2.2.1) 135 (by decide +kernel) (by decide +kernel), inX1⟩
theorem fl_X1_11 : FL RX1 11 1 1 := ⟨RX1, TX1, 3, rfl, by decide, gw_in (w := .fieldLink RX1 11 (TX1 1).1 (TX1 1).2.1 (TX1 1).2.2.1) 136 (by decide +kernel) (by decide +kernel), inX1⟩
theorem pl_X1_11 : PL true RX1 11 1 1 (.array (.array .int)) := ⟨RX1, TX1, 3, tyX1, rfl, by decide, gw_in (w := .fieldLink RX1 11 (TX1 1).1 (TX1 1).2.1 (TX1 1).2.2.1) 136 (by decide +kernel) (by decide +kernel), inX1, tyX1_ok, nmX1, rfl, rfl, by decide +kernel⟩
theorem fl_X11_179 : FL RX11 179 1 1 := ⟨RX1, TX1, 3, rfl, by decide, gw_in (w := .fieldLink RX11 179 (TX1 1).1 (TX1 1).2.1 (TX1 1).2.2.1) 137 (by decide +kernel) (by decide +kernel), inX1⟩
theorem fl_X1_16 : FL RX1 16 1 2 := ⟨RX1, TX1, 3, rfl, by decide, gw_in (w := .fieldLink RX1 16 (TX1 2).1 (TX1 2).2.1 (TX1 2).2.2.1) 138 (by decide +kernel) (by decide +kernel), inX1⟩
theorem pl_X1_16 : PL true RX1 16 1 2 (.array (.array .int)) := ⟨RX1, TX1, 3, tyX1, rfl, by decide, gw_in (w := .fieldLink RX1 16 (TX1 2).1 (TX1 2).2.1 (TX1 2).2.2.1) 138 (by decide +kernel) (by decide +kernel), inX1, tyX1_ok, nmX1, rfl, rfl, by decide +kernel⟩
theorem fl_X11_182 : FL RX11 182 1 2 := ⟨RX1, TX1, 3, rfl, by decide, gw_in (w := .fieldLink RX11 182 (TX1 2).1 (TX1 2).2.1 (TX1 2).2.2.1) 139 (by decide +kernel) (by decide +kernel), inX1⟩
theorem fl_X7_18 : FL RX7 18 7 0 := ⟨RX7, TX7, 5, rfl, by decide, gw_in (w := .fieldLink RX7 18 (TX7 0).1 (TX7 0).2.1 (TX7 0).2.2.1) 153 (by decide +kernel) (by decide +kernel), inX7⟩
theorem pl_X7_18 : PL true RX7 18 7 0 (.object "GlassTank$Feeds") := ⟨RX7, TX7, 5, tyX7, rfl, by decide, gw_in (w := .fieldLink RX7 18 (TX7 0).1 (TX7 0).2.1 (TX7 0).2.2.1) 153 (by decide +kernel) (by decide +kernel), inX7, tyX7_ok, nmX7, rfl, rfl, by decide +kernel⟩
theorem fl_X7_22 : FL RX7 22 7 1 := ⟨RX7, TX7, 5, rfl, by decide, gw_in (w := .fieldLink RX7 22 (TX7 1).1 (TX7 1).2.1 (TX7 1).2.2.1) 154 (by decide +kernel) (by decide +kernel), inX7⟩
theorem pl_X7_22 : PL true RX7 22 7 1 (.object "GlassTank$Colours") := ⟨RX7, TX7, 5, tyX7, rfl, by decide, gw_in (w := .fieldLink RX7 22 (TX7 1).1 (TX7 1).2.1 (TX7 1).2.2.1) 154 (by decide +kernel) (by decide +kernel), inX7, tyX7_ok, nmX7, rfl, rfl, by decide +kernel⟩
theorem fl_X7_9 : FL RX7 9 7 2 := ⟨RX7, TX7, 5, rfl, by decide, gw_in (w := .fieldLink RX7 9 (TX7 2).1 (TX7 2).2.1 (TX7 2).2.2.1) 155 (by decide +kernel) (by decide +kernel), inX7⟩
theorem pl_X7_9 : PL true RX7 9 7 2 (.array .int) := ⟨RX7, TX7, 5, tyX7, rfl, by decide, gw_in (w := .fieldLink RX7 9 (TX7 2).1 (TX7 2).2.1 (TX7 2).2.2.1) 155 (by decide +kernel) (by decide +kernel), inX7, tyX7_ok, nmX7, rfl, rfl, by decide +kernel⟩
theorem fl_X7_15 : FL RX7 15 7 3 := ⟨RX7, TX7, 5, rfl, by decide, gw_in (w := .fieldLink RX7 15 (TX7 3).1 (TX7 3).2.1 (TX7 3).2.2.1) 156 (by decide +kernel) (by decide +kernel), inX7⟩
theorem pl_X7_15 : PL true RX7 15 7 3 (.array .int) := ⟨RX7, TX7, 5, tyX7, rfl, by decide, gw_in (w := .fieldLink RX7 15 (TX7 3).1 (TX7 3).2.1 (TX7 3).2.2.1) 156 (by decide +kernel) (by decide +kernel), inX7, tyX7_ok, nmX7, rfl, rfl, by decide +kernel⟩
theorem fl_X11_193 : FL RX11 193 7 3 := ⟨RX7, TX7, 5, rfl, by decide, gw_in (w := .fieldLink RX11 193 (TX7 3).1 (TX7 3).2.1 (TX7 3).2.2.1) 157 (by decide +kernel) (by decide +kernel), inX7⟩
theorem fl_X7_36 : FL RX7 36 7 4 := ⟨RX7, TX7, 5, rfl, by decide, gw_in (w := .fieldLink RX7 36 (TX7 4).1 (TX7 4).2.1 (TX7 4).2.2.1) 158 (by decide +kernel) (by decide +kernel), inX7⟩
theorem pl_X7_36 : PL false RX7 36 7 4 .int := ⟨RX7, TX7, 5, tyX7, rfl, by decide, gw_in (w := .fieldLink RX7 36 (TX7 4).1 (TX7 4).2.1 (TX7 4).2.2.1) 158 (by decide +kernel) (by decide +kernel), inX7, tyX7_ok, nmX7, rfl, rfl, by decide +kernel⟩
theorem fl_X11_196 : FL RX11 196 7 4 := ⟨RX7, TX7, 5, rfl, by decide, gw_in (w := .fieldLink RX11 196 (TX7 4).1 (TX7 4).2.1 (TX7 4).2.2.1) 159 (by decide +kernel) (by decide +kernel), inX7⟩
theorem fl_X10_29 : FL RX10 29 10 0 := ⟨RX10, TX10, 8, rfl, by decide, gw_in (w := .fieldLink RX10 29 (TX10 0).1 (TX10 0).2.1 (TX10 0).2.2.1) 178 (by decide +kernel) (by decide +kernel), inX10⟩
theorem pl_X10_29 : PL true RX10 29 10 0 (.object "GlassTank$Sharer") := ⟨RX10, TX10, 8, tyX10, rfl, by decide, gw_in (w := .fieldLink RX10 29 (TX10 0).1 (TX10 0).2.1 (TX10 0).2.2.1) 178 (by decide +kernel) (by decide +kernel), inX10, tyX10_ok, nmX10, rfl, rfl, by decide +kernel⟩
theorem fl_X10_11 : FL RX10 11 10 1 := ⟨RX10, TX10, 8, rfl, by decide, gw_in (w := .fieldLink RX10 11 (TX10 1).1 (TX10 1).2.1 (TX10 1).2.2.1) 179 (by decide +kernel) (by decide +kernel), inX10⟩
theorem pl_X10_11 : PL true RX10 11 10 1 (.array (.array .int)) := ⟨RX10, TX10, 8, tyX10, rfl, by decide, gw_in (w := .fieldLink RX10 11 (TX10 1).1 (TX10 1).2.1 (TX10 1).2.2.1) 179 (by decide +kernel) (by decide +kernel), inX10, tyX10_ok, nmX10, rfl, rfl, by decide +kernel⟩
theorem fl_X10_16 : FL RX10 16 10 2 := ⟨RX10, TX10, 8, rfl, by decide, gw_in (w := .fieldLink RX10 16 (TX10 2).1 (TX10 2).2.1 (TX10 2).2.2.1) 180 (by decide +kernel) (by decide +kernel), inX10⟩
theorem pl_X10_16 : PL true RX10 16 10 2 (.array (.array .int)) := ⟨RX10, TX10, 8, tyX10, rfl, by decide, gw_in (w := .fieldLink RX10 16 (TX10 2).1 (TX10 2).2.1 (TX10 2).2.2.1) 180 (by decide +kernel) (by decide +kernel), inX10, tyX10_ok, nmX10, rfl, rfl, by decide +kernel⟩
theorem fl_X10_33 : FL RX10 33 10 3 := ⟨RX10, TX10, 8, rfl, by decide, gw_in (w := .fieldLink RX10 33 (TX10 3).1 (TX10 3).2.1 (TX10 3).2.2.1) 181 (by decide +kernel) (by decide +kernel), inX10⟩
theorem pl_X10_33 : PL false RX10 33 10 3 .boolean := ⟨RX10, TX10, 8, tyX10, rfl, by decide, gw_in (w := .fieldLink RX10 33 (TX10 3).1 (TX10 3).2.1 (TX10 3).2.2.1) 181 (by decide +kernel) (by decide +kernel), inX10, tyX10_ok, nmX10, rfl, rfl, by decide +kernel⟩
theorem fl_X11_156 : FL RX11 156 10 3 := ⟨RX10, TX10, 8, rfl, by decide, gw_in (w := .fieldLink RX11 156 (TX10 3).1 (TX10 3).2.1 (TX10 3).2.2.1) 182 (by decide +kernel) (by decide +kernel), inX10⟩
theorem fl_X10_19 : FL RX10 19 10 4 := ⟨RX10, TX10, 8, rfl, by decide, gw_in (w := .fieldLink RX10 19 (TX10 4).1 (TX10 4).2.1 (TX10 4).2.2.1) 183 (by decide +kernel) (by decide +kernel), inX10⟩
theorem pl_X10_19 : PL false RX10 19 10 4 .int := ⟨RX10, TX10, 8, tyX10, rfl, by decide, gw_in (w := .fieldLink RX10 19 (TX10 4).1 (TX10 4).2.1 (TX10 4).2.2.1) 183 (by decide +kernel) (by decide +kernel), inX10, tyX10_ok, nmX10, rfl, rfl, by decide +kernel⟩
theorem fl_X11_150 : FL RX11 150 10 4 := ⟨RX10, TX10, 8, rfl, by decide, gw_in (w := .fieldLink RX11 150 (TX10 4).1 (TX10 4).2.1 (TX10 4).2.2.1) 184 (by decide +kernel) (by decide +kernel), inX10⟩
theorem fl_X10_23 : FL RX10 23 10 5 := ⟨RX10, TX10, 8, rfl, by decide, gw_in (w := .fieldLink RX10 23 (TX10 5).1 (TX10 5).2.1 (TX10 5).2.2.1) 185 (by decide +kernel) (by decide +kernel), inX10⟩
theorem pl_X10_23 : PL false RX10 23 10 5 .int := ⟨RX10, TX10, 8, tyX10, rfl, by decide, gw_in (w := .fieldLink RX10 23 (TX10 5).1 (TX10 5).2.1 (TX10 5).2.2.1) 185 (by decide +kernel) (by decide +kernel), inX10, tyX10_ok, nmX10, rfl, rfl, by decide +kernel⟩
theorem fl_X11_147 : FL RX11 147 10 5 := ⟨RX10, TX10, 8, rfl, by decide, gw_in (w := .fieldLink RX11 147 (TX10 5).1 (TX10 5).2.1 (TX10 5).2.2.1) 186 (by decide +kernel) (by decide +kernel), inX10⟩
theorem fl_X10_26 : FL RX10 26 10 6 := ⟨RX10, TX10, 8, rfl, by decide, gw_in (w := .fieldLink RX10 26 (TX10 6).1 (TX10 6).2.1 (TX10 6).2.2.1) 187 (by decide +kernel) (by decide +kernel), inX10⟩
theorem pl_X10_26 : PL false RX10 26 10 6 .int := ⟨RX10, TX10, 8, tyX10, rfl, by decide, gw_in (w := .fieldLink RX10 26 (TX10 6).1 (TX10 6).2.1 (TX10 6).2.2.1) 187 (by decide +kernel) (by decide +kernel), inX10, tyX10_ok, nmX10, rfl, rfl, by decide +kernel⟩
theorem fl_X3_36 : FL RX3 36 10 6 := ⟨RX10, TX10, 8, rfl, by decide, gw_in (w := .fieldLink RX3 36 (TX10 6).1 (TX10 6).2.1 (TX10 6).2.2.1) 188 (by decide +kernel) (by decide +kernel), inX10⟩
theorem fl_X4_24 : FL RX4 24 10 6 := ⟨RX10, TX10, 8, rfl, by decide, gw_in (w := .fieldLink RX4 24 (TX10 6).1 (TX10 6).2.1 (TX10 6).2.2.1) 189 (by decide +kernel) (by decide +kernel), inX10⟩
theorem fl_X11_141 : FL RX11 141 10 6 := ⟨RX10, TX10, 8, rfl, by decide, gw_in (w := .fieldLink RX11 141 (TX10 6).1 (TX10 6).2.1 (TX10 6).2.2.1) 190 (by decide +kernel) (by decide +kernel), inX10⟩
theorem pl_X11_141 : PL false RX11 141 10 6 .int := ⟨RX10, TX10, 8, tyX10, rfl, by decide, gw_in (w := .fieldLink RX11 141 (TX10 6).1 (TX10 6).2.1 (TX10 6).2.2.1) 190 (by decide +kernel) (by decide +kernel), inX10, tyX10_ok, nmX10, rfl, rfl, by decide +kernel⟩
theorem fl_X10_58 : FL RX10 58 10 7 := ⟨RX10, TX10, 8, rfl, by decide, gw_in (w := .fieldLink RX10 58 (TX10 7).1 (TX10 7).2.1 (TX10 7).2.2.1) 191 (by decide +kernel) (by decide +kernel), inX10⟩
theorem pl_X10_58 : PL false RX10 58 10 7 .boolean := ⟨RX10, TX10, 8, tyX10, rfl, by decide, gw_in (w := .fieldLink RX10 58 (TX10 7).1 (TX10 7).2.1 (TX10 7).2.2.1) 191 (by decide +kernel) (by decide +kernel), inX10, tyX10_ok, nmX10, rfl, rfl, by decide +kernel⟩
theorem fl_X3_75 : FL RX3 75 10 7 := ⟨RX10, TX10, 8, rfl, by decide, gw_in (w := .fieldLink RX3 75 (TX10 7).1 (TX10 7).2.1 (TX10 7).2.2.1) 192 (by decide +kernel) (by decide +kernel), inX10⟩
theorem fl_X0_21 : FL RX0 21 0 0 := ⟨RX0, TX0, 7, rfl, by decide, gw_in (w := .fieldLink RX0 21 (TX0 0).1 (TX0 0).2.1 (TX0 0).2.2.1) 216 (by decide +kernel) (by decide +kernel), inX0⟩
theorem pl_X0_21 : PL true RX0 21 0 0 (.object "GlassTank$Feeds") := ⟨RX0, TX0, 7, tyX0, rfl, by decide, gw_in (w := .fieldLink RX0 21 (TX0 0).1 (TX0 0).2.1 (TX0 0).2.2.1) 216 (by decide +kernel) (by decide +kernel), inX0, tyX0_ok, nmX0, rfl, rfl, by decide +kernel⟩
theorem fl_X0_25 : FL RX0 25 0 1 := ⟨RX0, TX0, 7, rfl, by decide, gw_in (w := .fieldLink RX0 25 (TX0 1).1 (TX0 1).2.1 (TX0 1).2.2.1) 217 (by decide +kernel) (by decide +kernel), inX0⟩
theorem pl_X0_25 : PL true RX0 25 0 1 (.object "GlassTank$Mix") := ⟨RX0, TX0, 7, tyX0, rfl, by decide, gw_in (w := .fieldLink RX0 25 (TX0 1).1 (TX0 1).2.1 (TX0 1).2.2.1) 217 (by decide +kernel) (by decide +kernel), inX0, tyX0_ok, nmX0, rfl, rfl, by decide +kernel⟩
theorem fl_X0_29 : FL RX0 29 0 2 := ⟨RX0, TX0, 7, rfl, by decide, gw_in (w := .fieldLink RX0 29 (TX0 2).1 (TX0 2).2.1 (TX0 2).2.2.1) 218 (by decide +kernel) (by decide +kernel), inX0⟩
theorem pl_X0_29 : PL true RX0 29 0 2 (.object "GlassTank$Sharer") := ⟨RX0, TX0, 7, tyX0, rfl, by decide, gw_in (w := .fieldLink RX0 29 (TX0 2).1 (TX0 2).2.1 (TX0 2).2.2.1) 218 (by decide +kernel) (by decide +kernel), inX0, tyX0_ok, nmX0, rfl, rfl, by decide +kernel⟩
theorem fl_X0_9 : FL RX0 9 0 3 := ⟨RX0, TX0, 7, rfl, by decide, gw_in (w := .fieldLink RX0 9 (TX0 3).1 (TX0 3).2.1 (TX0 3).2.2.1) 219 (by decide +kernel) (by decide +kernel), inX0⟩
theorem pl_X0_9 : PL true RX0 9 0 3 (.array .int) := ⟨RX0, TX0, 7, tyX0, rfl, by decide, gw_in (w := .fieldLink RX0 9 (TX0 3).1 (TX0 3).2.1 (TX0 3).2.2.1) 219 (by decide +kernel) (by decide +kernel), inX0, tyX0_ok, nmX0, rfl, rfl, by decide +kernel⟩
theorem fl_X0_15 : FL RX0 15 0 4 := ⟨RX0, TX0, 7, rfl, by decide, gw_in (w := .fieldLink RX0 15 (TX0 4).1 (TX0 4).2.1 (TX0 4).2.2.1) 220 (by decide +kernel) (by decide +kernel), inX0⟩
theorem pl_X0_15 : PL true RX0 15 0 4 (.array .int) := ⟨RX0, TX0, 7, tyX0, rfl, by decide, gw_in (w := .fieldLink RX0 15 (TX0 4).1 (TX0 4).2.1 (TX0 4).2.2.1) 220 (by decide +kernel) (by decide +kernel), inX0, tyX0_ok, nmX0, rfl, rfl, by decide +kernel⟩
theorem fl_X11_210 : FL RX11 210 0 4 := ⟨RX0, TX0, 7, rfl, by decide, gw_in (w := .fieldLink RX11 210 (TX0 4).1 (TX0 4).2.1 (TX0 4).2.2.1) 221 (by decide +kernel) (by decide +kernel), inX0⟩
theorem fl_X0_18 : FL RX0 18 0 5 := ⟨RX0, TX0, 7, rfl, by decide, gw_in (w := .fieldLink RX0 18 (TX0 5).1 (TX0 5).2.1 (TX0 5).2.2.1) 222 (by decide +kernel) (by decide +kernel), inX0⟩
theorem pl_X0_18 : PL true RX0 18 0 5 (.array .int) := ⟨RX0, TX0, 7, tyX0, rfl, by decide, gw_in (w := .fieldLink RX0 18 (TX0 5).1 (TX0 5).2.1 (TX0 5).2.2.1) 222 (by decide +kernel) (by decide +kernel), inX0, tyX0_ok, nmX0, rfl, rfl, by decide +kernel⟩
theorem fl_X10_49 : FL RX10 49 0 5 := ⟨RX0, TX0, 7, rfl, by decide, gw_in (w := .fieldLink RX10 49 (TX0 5).1 (TX0 5).2.1 (TX0 5).2.2.1) 223 (by decide +kernel) (by decide +kernel), inX0⟩
theorem fl_X0_58 : FL RX0 58 0 6 := ⟨RX0, TX0, 7, rfl, by decide, gw_in (w := .fieldLink RX0 58 (TX0 6).1 (TX0 6).2.1 (TX0 6).2.2.1) 224 (by decide +kernel) (by decide +kernel), inX0⟩
theorem pl_X0_58 : PL false RX0 58 0 6 .int := ⟨RX0, TX0, 7, tyX0, rfl, by decide, gw_in (w := .fieldLink RX0 58 (TX0 6).1 (TX0 6).2.1 (TX0 6).2.2.1) 224 (by decide +kernel) (by decide +kernel), inX0, tyX0_ok, nmX0, rfl, rfl, by decide +kernel⟩
theorem fl_X10_55 : FL RX10 55 0 6 := ⟨RX0, TX0, 7, rfl, by decide, gw_in (w := .fieldLink RX10 55 (TX0 6).1 (TX0 6).2.1 (TX0 6).2.2.1) 225 (by decide +kernel) (by decide +kernel), inX0⟩
theorem fl_X4_9 : FL RX4 9 4 0 := ⟨RX4, TX4, 3, rfl, by decide, gw_in (w := .fieldLink RX4 9 (TX4 0).1 (TX4 0).2.1 (TX4 0).2.2.1) 247 (by decide +kernel) (by decide +kernel), inX4⟩
theorem pl_X4_9 : PL true RX4 9 4 0 (.array .int) := ⟨RX4, TX4, 3, tyX4, rfl, by decide, gw_in (w := .fieldLink RX4 9 (TX4 0).1 (TX4 0).2.1 (TX4 0).2.2.1) 247 (by decide +kernel) (by decide +kernel), inX4, tyX4_ok, nmX4, rfl, rfl, by decide +kernel⟩
theorem fl_X1_24 : FL RX1 24 4 0 := ⟨RX4, TX4, 3, rfl, by decide, gw_in (w := .fieldLink RX1 24 (TX4 0).1 (TX4 0).2.1 (TX4 0).2.2.1) 248 (by decide +kernel) (by decide +kernel), inX4⟩
theorem fl_X5_38 : FL RX5 38 4 0 := ⟨RX4, TX4, 3, rfl, by decide, gw_in (w := .fieldLink RX5 38 (TX4 0).1 (TX4 0).2.1 (TX4 0).2.2.1) 249 (by decide +kernel) (by decide +kernel), inX4⟩
theorem fl_X4_15 : FL RX4 15 4 1 := ⟨RX4, TX4, 3, rfl, by decide, gw_in (w := .fieldLink RX4 15 (TX4 1).1 (TX4 1).2.1 (TX4 1).2.2.1) 250 (by decide +kernel) (by decide +kernel), inX4⟩
theorem pl_X4_15 : PL true RX4 15 4 1 (.array .int) := ⟨RX4, TX4, 3, tyX4, rfl, by decide, gw_in (w := .fieldLink RX4 15 (TX4 1).1 (TX4 1).2.1 (TX4 1).2.2.1) 250 (by decide +kernel) (by decide +kernel), inX4, tyX4_ok, nmX4, rfl, rfl, by decide +kernel⟩
theorem fl_X5_47 : FL RX5 47 4 1 := ⟨RX4, TX4, 3, rfl, by decide, gw_in (w := .fieldLink RX5 47 (TX4 1).1 (TX4 1).2.1 (TX4 1).2.2.1) 251 (by decide +kernel) (by decide +kernel), inX4⟩
theorem fl_X4_28 : FL RX4 28 4 2 := ⟨RX4, TX4, 3, rfl, by decide, gw_in (w := .fieldLink RX4 28 (TX4 2).1 (TX4 2).2.1 (TX4 2).2.2.1) 252 (by decide +kernel) (by decide +kernel), inX4⟩
theorem pl_X4_28 : PL false RX4 28 4 2 .int := ⟨RX4, TX4, 3, tyX4, rfl, by decide, gw_in (w := .fieldLink RX4 28 (TX4 2).1 (TX4 2).2.1 (TX4 2).2.2.1) 252 (by decide +kernel) (by decide +kernel), inX4, tyX4_ok, nmX4, rfl, rfl, by decide +kernel⟩
theorem fl_X1_30 : FL RX1 30 4 2 := ⟨RX4, TX4, 3, rfl, by decide, gw_in (w := .fieldLink RX1 30 (TX4 2).1 (TX4 2).2.1 (TX4 2).2.2.1) 253 (by decide +kernel) (by decide +kernel), inX4⟩
theorem fl_X5_48 : FL RX5 48 4 2 := ⟨RX4, TX4, 3, rfl, by decide, gw_in (w := .fieldLink RX5 48 (TX4 2).1 (TX4 2).2.1 (TX4 2).2.2.1) 254 (by decide +kernel) (by decide +kernel), inX4⟩
theorem fl_X11_290 : FL RX11 290 4 2 := ⟨RX4, TX4, 3, rfl, by decide, gw_in (w := .fieldLink RX11 290 (TX4 2).1 (TX4 2).2.1 (TX4 2).2.2.1) 255 (by decide +kernel) (by decide +kernel), inX4⟩
theorem fl_X5_28 : FL RX5 28 5 0 := ⟨RX5, TX5, 8, rfl, by decide, gw_in (w := .fieldLink RX5 28 (TX5 0).1 (TX5 0).2.1 (TX5 0).2.2.1) 269 (by decide +kernel) (by decide +kernel), inX5⟩
theorem pl_X5_28 : PL false RX5 28 5 0 .int := ⟨RX5, TX5, 8, tyX5, rfl, by decide, gw_in (w := .fieldLink RX5 28 (TX5 0).1 (TX5 0).2.1 (TX5 0).2.2.1) 269 (by decide +kernel) (by decide +kernel), inX5, tyX5_ok, nmX5, rfl, rfl, by decide +kernel⟩
theorem fl_X11_203 : FL RX11 203 5 0 := ⟨RX5, TX5, 8, rfl, by decide, gw_in (w := .fieldLink RX11 203 (TX5 0).1 (TX5 0).2.1 (TX5 0).2.2.1) 270 (by decide +kernel) (by decide +kernel), inX5⟩
theorem fl_X5_32 : FL RX5 32 5 1 := ⟨RX5, TX5, 8, rfl, by decide, gw_in (w := .fieldLink RX5 32 (TX5 1).1 (TX5 1).2.1 (TX5 1).2.2.1) 271 (by decide +kernel) (by decide +kernel), inX5⟩
theorem pl_X5_32 : PL false RX5 32 5 1 .int := ⟨RX5, TX5, 8, tyX5, rfl, by decide, gw_in (w := .fieldLink RX5 32 (TX5 1).1 (TX5 1).2.1 (TX5 1).2.2.1) 271 (by decide +kernel) (by decide +kernel), inX5, tyX5_ok, nmX5, rfl, rfl, by decide +kernel⟩
theorem fl_X11_261 : FL RX11 261 5 1 := ⟨RX5, TX5, 8, rfl, by decide, gw_in (w := .fieldLink RX11 261 (TX5 1).1 (TX5 1).2.1 (TX5 1).2.2.1) 272 (by decide +kernel) (by decide +kernel), inX5⟩
theorem fl_X5_35 : FL RX5 35 5 2 := ⟨RX5, TX5, 8, rfl, by decide, gw_in (w := .fieldLink RX5 35 (TX5 2).1 (TX5 2).2.1 (TX5 2).2.2.1) 273 (by decide +kernel) (by decide +kernel), inX5⟩
theorem pl_X5_35 : PL false RX5 35 5 2 .int := ⟨RX5, TX5, 8, tyX5, rfl, by decide, gw_in (w := .fieldLink RX5 35 (TX5 2).1 (TX5 2).2.1 (TX5 2).2.2.1) 273 (by decide +kernel) (by decide +kernel), inX5, tyX5_ok, nmX5, rfl, rfl, by decide +kernel⟩
theorem fl_X11_264 : FL RX11 264 5 2 := ⟨RX5, TX5, 8, rfl, by decide, gw_in (w := .fieldLink RX11 264 (TX5 2).1 (TX5 2).2.1 (TX5 2).2.2.1) 274 (by decide +kernel) (by decide +kernel), inX5⟩
theorem fl_X5_9 : FL RX5 9 5 3 := ⟨RX5, TX5, 8, rfl, by decide, gw_in (w := .fieldLink RX5 9 (TX5 3).1 (TX5 3).2.1 (TX5 3).2.2.1) 275 (by decide +kernel) (by decide +kernel), inX5⟩
theorem pl_X5_9 : PL true RX5 9 5 3 (.array .int) := ⟨RX5, TX5, 8, tyX5, rfl, by decide, gw_in (w := .fieldLink RX5 9 (TX5 3).1 (TX5 3).2.1 (TX5 3).2.2.1) 275 (by decide +kernel) (by decide +kernel), inX5, tyX5_ok, nmX5, rfl, rfl, by decide +kernel⟩
theorem fl_X11_221 : FL RX11 221 5 3 := ⟨RX5, TX5, 8, rfl, by decide, gw_in (w := .fieldLink RX11 221 (TX5 3).1 (TX5 3).2.1 (TX5 3).2.2.1) 276 (by decide +kernel) (by decide +kernel), inX5⟩
theorem fl_X5_15 : FL RX5 15 5 4 := ⟨RX5, TX5, 8, rfl, by decide, gw_in (w := .fieldLink RX5 15 (TX5 4).1 (TX5 4).2.1 (TX5 4).2.2.1) 277 (by decide +kernel) (by decide +kernel), inX5⟩
theorem pl_X5_15 : PL true RX5 15 5 4 (.array .int) := ⟨RX5, TX5, 8, tyX5, rfl, by decide, gw_in (w := .fieldLink RX5 15 (TX5 4).1 (TX5 4).2.1 (TX5 4).2.2.1) 277 (by decide +kernel) (by decide +kernel), inX5, tyX5_ok, nmX5, rfl, rfl, by decide +kernel⟩
theorem fl_X11_234 : FL RX11 234 5 4 := ⟨RX5, TX5, 8, rfl, by decide, gw_in (w := .fieldLink RX11 234 (TX5 4).1 (TX5 4).2.1 (TX5 4).2.2.1) 278 (by decide +kernel) (by decide +kernel), inX5⟩
theorem fl_X5_18 : FL RX5 18 5 5 := ⟨RX5, TX5, 8, rfl, by decide, gw_in (w := .fieldLink RX5 18 (TX5 5).1 (TX5 5).2.1 (TX5 5).2.2.1) 279 (by decide +kernel) (by decide +kernel), inX5⟩
theorem pl_X5_18 : PL true RX5 18 5 5 (.array .int) := ⟨RX5, TX5, 8, tyX5, rfl, by decide, gw_in (w := .fieldLink RX5 18 (TX5 5).1 (TX5 5).2.1 (TX5 5).2.2.1) 279 (by decide +kernel) (by decide +kernel), inX5, tyX5_ok, nmX5, rfl, rfl, by decide +kernel⟩
theorem fl_X11_231 : FL RX11 231 5 5 := ⟨RX5, TX5, 8, rfl, by decide, gw_in (w := .fieldLink RX11 231 (TX5 5).1 (TX5 5).2.1 (TX5 5).2.2.1) 280 (by decide +kernel) (by decide +kernel), inX5⟩
theorem fl_X5_21 : FL RX5 21 5 6 := ⟨RX5, TX5, 8, rfl, by decide, gw_in (w := .fieldLink RX5 21 (TX5 6).1 (TX5 6).2.1 (TX5 6).2.2.1) 281 (by decide +kernel) (by decide +kernel), inX5⟩
theorem pl_X5_21 : PL true RX5 21 5 6 (.array .int) := ⟨RX5, TX5, 8, tyX5, rfl, by decide, gw_in (w := .fieldLink RX5 21 (TX5 6).1 (TX5 6).2.1 (TX5 6).2.2.1) 281 (by decide +kernel) (by decide +kernel), inX5, tyX5_ok, nmX5, rfl, rfl, by decide +kernel⟩
theorem fl_X11_224 : FL RX11 224 5 6 := ⟨RX5, TX5, 8, rfl, by decide, gw_in (w := .fieldLink RX11 224 (TX5 6).1 (TX5 6).2.1 (TX5 6).2.2.1) 282 (by decide +kernel) (by decide +kernel), inX5⟩
theorem fl_X5_24 : FL RX5 24 5 7 := ⟨RX5, TX5, 8, rfl, by decide, gw_in (w := .fieldLink RX5 24 (TX5 7).1 (TX5 7).2.1 (TX5 7).2.2.1) 283 (by decide +kernel) (by decide +kernel), inX5⟩
theorem pl_X5_24 : PL true RX5 24 5 7 (.array .boolean) := ⟨RX5, TX5, 8, tyX5, rfl, by decide, gw_in (w := .fieldLink RX5 24 (TX5 7).1 (TX5 7).2.1 (TX5 7).2.2.1) 283 (by decide +kernel) (by decide +kernel), inX5, tyX5_ok, nmX5, rfl, rfl, by decide +kernel⟩
theorem fl_X11_227 : FL RX11 227 5 7 := ⟨RX5, TX5, 8, rfl, by decide, gw_in (w := .fieldLink RX11 227 (TX5 7).1 (TX5 7).2.1 (TX5 7).2.2.1) 284 (by decide +kernel) (by decide +kernel), inX5⟩
theorem fl_X3_18 : FL RX3 18 3 0 := ⟨RX3, TX3, 6, rfl, by decide, gw_in (w := .fieldLink RX3 18 (TX3 0).1 (TX3 0).2.1 (TX3 0).2.2.1) 311 (by decide +kernel) (by decide +kernel), inX3⟩
theorem pl_X3_18 : PL true RX3 18 3 0 (.object "GlassTank$Tank") := ⟨RX3, TX3, 6, tyX3, rfl, by decide, gw_in (w := .fieldLink RX3 18 (TX3 0).1 (TX3 0).2.1 (TX3 0).2.2.1) 311 (by decide +kernel) (by decide +kernel), inX3, tyX3_ok, nmX3, rfl, rfl, by decide +kernel⟩
theorem fl_X3_22 : FL RX3 22 3 1 := ⟨RX3, TX3, 6, rfl, by decide, gw_in (w := .fieldLink RX3 22 (TX3 1).1 (TX3 1).2.1 (TX3 1).2.2.1) 312 (by decide +kernel) (by decide +kernel), inX3⟩
theorem pl_X3_22 : PL true RX3 22 3 1 (.object "GlassTank$Colours") := ⟨RX3, TX3, 6, tyX3, rfl, by decide, gw_in (w := .fieldLink RX3 22 (TX3 1).1 (TX3 1).2.1 (TX3 1).2.2.1) 312 (by decide +kernel) (by decide +kernel), inX3, tyX3_ok, nmX3, rfl, rfl, by decide +kernel⟩
theorem fl_X3_26 : FL RX3 26 3 2 := ⟨RX3, TX3, 6, rfl, by decide, gw_in (w := .fieldLink RX3 26 (TX3 2).1 (TX3 2).2.1 (TX3 2).2.2.1) 313 (by decide +kernel) (by decide +kernel), inX3⟩
theorem pl_X3_26 : PL true RX3 26 3 2 (.object "GlassTank$Charge") := ⟨RX3, TX3, 6, tyX3, rfl, by decide, gw_in (w := .fieldLink RX3 26 (TX3 2).1 (TX3 2).2.1 (TX3 2).2.2.1) 313 (by decide +kernel) (by decide +kernel), inX3, tyX3_ok, nmX3, rfl, rfl, by decide +kernel⟩
theorem fl_X3_30 : FL RX3 30 3 3 := ⟨RX3, TX3, 6, rfl, by decide, gw_in (w := .fieldLink RX3 30 (TX3 3).1 (TX3 3).2.1 (TX3 3).2.2.1) 314 (by decide +kernel) (by decide +kernel), inX3⟩
theorem pl_X3_30 : PL true RX3 30 3 3 (.object "GlassTank$Charge") := ⟨RX3, TX3, 6, tyX3, rfl, by decide, gw_in (w := .fieldLink RX3 30 (TX3 3).1 (TX3 3).2.1 (TX3 3).2.2.1) 314 (by decide +kernel) (by decide +kernel), inX3, tyX3_ok, nmX3, rfl, rfl, by decide +kernel⟩
theorem fl_X3_33 : FL RX3 33 3 4 := ⟨RX3, TX3, 6, rfl, by decide, gw_in (w := .fieldLink RX3 33 (TX3 4).1 (TX3 4).2.1 (TX3 4).2.2.1) 315 (by decide +kernel) (by decide +kernel), inX3⟩
theorem pl_X3_33 : PL true RX3 33 3 4 (.object "GlassTank$Tank") := ⟨RX3, TX3, 6, tyX3, rfl, by decide, gw_in (w := .fieldLink RX3 33 (TX3 4).1 (TX3 4).2.1 (TX3 4).2.2.1) 315 (by decide +kernel) (by decide +kernel), inX3, tyX3_ok, nmX3, rfl, rfl, by decide +kernel⟩
theorem fl_X3_12 : FL RX3 12 3 5 := ⟨RX3, TX3, 6, rfl, by decide, gw_in (w := .fieldLink RX3 12 (TX3 5).1 (TX3 5).2.1 (TX3 5).2.2.1) 316 (by decide +kernel) (by decide +kernel), inX3⟩
theorem pl_X3_12 : PL true RX3 12 3 5 (.object "GlassTank$Glass") := ⟨RX3, TX3, 6, tyX3, rfl, by decide, gw_in (w := .fieldLink RX3 12 (TX3 5).1 (TX3 5).2.1 (TX3 5).2.2.1) 316 (by decide +kernel) (by decide +kernel), inX3, tyX3_ok, nmX3, rfl, rfl, by decide +kernel⟩
theorem fl_X8_11 : FL RX8 11 8 0 := ⟨RX8, TX8, 4, rfl, by decide, gw_in (w := .fieldLink RX8 11 (TX8 0).1 (TX8 0).2.1 (TX8 0).2.2.1) 337 (by decide +kernel) (by decide +kernel), inX8⟩
theorem pl_X8_11 : PL true RX8 11 8 0 (.array (.array .int)) := ⟨RX8, TX8, 4, tyX8, rfl, by decide, gw_in (w := .fieldLink RX8 11 (TX8 0).1 (TX8 0).2.1 (TX8 0).2.2.1) 337 (by decide +kernel) (by decide +kernel), inX8, tyX8_ok, nmX8, rfl, rfl, by decide +kernel⟩
theorem fl_X11_247 : FL RX11 247 8 0 := ⟨RX8, TX8, 4, rfl, by decide, gw_in (w := .fieldLink RX11 247 (TX8 0).1 (TX8 0).2.1 (TX8 0).2.2.1) 338 (by decide +kernel) (by decide +kernel), inX8⟩
theorem fl_X8_16 : FL RX8 16 8 1 := ⟨RX8, TX8, 4, rfl, by decide, gw_in (w := .fieldLink RX8 16 (TX8 1).1 (TX8 1).2.1 (TX8 1).2.2.1) 339 (by decide +kernel) (by decide +kernel), inX8⟩
theorem pl_X8_16 : PL true RX8 16 8 1 (.array .int) := ⟨RX8, TX8, 4, tyX8, rfl, by decide, gw_in (w := .fieldLink RX8 16 (TX8 1).1 (TX8 1).2.1 (TX8 1).2.2.1) 339 (by decide +kernel) (by decide +kernel), inX8, tyX8_ok, nmX8, rfl, rfl, by decide +kernel⟩
theorem fl_X11_257 : FL RX11 257 8 1 := ⟨RX8, TX8, 4, rfl, by decide, gw_in (w := .fieldLink RX11 257 (TX8 1).1 (TX8 1).2.1 (TX8 1).2.2.1) 340 (by decide +kernel) (by decide +kernel), inX8⟩
theorem fl_X8_44 : FL RX8 44 8 2 := ⟨RX8, TX8, 4, rfl, by decide, gw_in (w := .fieldLink RX8 44 (TX8 2).1 (TX8 2).2.1 (TX8 2).2.2.1) 341 (by decide +kernel) (by decide +kernel), inX8⟩
theorem pl_X8_44 : PL false RX8 44 8 2 .int := ⟨RX8, TX8, 4, tyX8, rfl, by decide, gw_in (w := .fieldLink RX8 44 (TX8 2).1 (TX8 2).2.1 (TX8 2).2.2.1) 341 (by decide +kernel) (by decide +kernel), inX8, tyX8_ok, nmX8, rfl, rfl, by decide +kernel⟩
theorem fl_X11_254 : FL RX11 254 8 2 := ⟨RX8, TX8, 4, rfl, by decide, gw_in (w := .fieldLink RX11 254 (TX8 2).1 (TX8 2).2.1 (TX8 2).2.2.1) 342 (by decide +kernel) (by decide +kernel), inX8⟩
theorem fl_X8_20 : FL RX8 20 8 3 := ⟨RX8, TX8, 4, rfl, by decide, gw_in (w := .fieldLink RX8 20 (TX8 3).1 (TX8 3).2.1 (TX8 3).2.2.1) 343 (by decide +kernel) (by decide +kernel), inX8⟩
theorem pl_X8_20 : PL true RX8 20 8 3 (.array .int) := ⟨RX8, TX8, 4, tyX8, rfl, by decide, gw_in (w := .fieldLink RX8 20 (TX8 3).1 (TX8 3).2.1 (TX8 3).2.2.1) 343 (by decide +kernel) (by decide +kernel), inX8, tyX8_ok, nmX8, rfl, rfl, by decide +kernel⟩
theorem fl_X11_15 : FL RX11 15 11 0 := ⟨RX11, TX11, 11, rfl, by decide, gw_in (w := .fieldLink RX11 15 (TX11 0).1 (TX11 0).2.1 (TX11 0).2.2.1) 353 (by decide +kernel) (by decide +kernel), inX11⟩
theorem pl_X11_15 : PL true RX11 15 11 0 (.object "GlassTank$Feeds") := ⟨RX11, TX11, 11, tyX11, rfl, by decide, gw_in (w := .fieldLink RX11 15 (TX11 0).1 (TX11 0).2.1 (TX11 0).2.2.1) 353 (by decide +kernel) (by decide +kernel), inX11, tyX11_ok, nmX11, rfl, rfl, by decide +kernel⟩
theorem fl_X11_22 : FL RX11 22 11 1 := ⟨RX11, TX11, 11, rfl, by decide, gw_in (w := .fieldLink RX11 22 (TX11 1).1 (TX11 1).2.1 (TX11 1).2.2.1) 354 (by decide +kernel) (by decide +kernel), inX11⟩
theorem pl_X11_22 : PL true RX11 22 11 1 (.object "GlassTank$Mix") := ⟨RX11, TX11, 11, tyX11, rfl, by decide, gw_in (w := .fieldLink RX11 22 (TX11 1).1 (TX11 1).2.1 (TX11 1).2.2.1) 354 (by decide +kernel) (by decide +kernel), inX11, tyX11_ok, nmX11, rfl, rfl, by decide +kernel⟩
theorem fl_X11_38 : FL RX11 38 11 2 := ⟨RX11, TX11, 11, rfl, by decide, gw_in (w := .fieldLink RX11 38 (TX11 2).1 (TX11 2).2.1 (TX11 2).2.2.1) 355 (by decide +kernel) (by decide +kernel), inX11⟩
theorem pl_X11_38 : PL true RX11 38 11 2 (.object "GlassTank$MixSearch") := ⟨RX11, TX11, 11, tyX11, rfl, by decide, gw_in (w := .fieldLink RX11 38 (TX11 2).1 (TX11 2).2.1 (TX11 2).2.2.1) 355 (by decide +kernel) (by decide +kernel), inX11, tyX11_ok, nmX11, rfl, rfl, by decide +kernel⟩
theorem fl_X11_47 : FL RX11 47 11 3 := ⟨RX11, TX11, 11, rfl, by decide, gw_in (w := .fieldLink RX11 47 (TX11 3).1 (TX11 3).2.1 (TX11 3).2.2.1) 356 (by decide +kernel) (by decide +kernel), inX11⟩
theorem pl_X11_47 : PL true RX11 47 11 3 (.object "GlassTank$Tank") := ⟨RX11, TX11, 11, tyX11, rfl, by decide, gw_in (w := .fieldLink RX11 47 (TX11 3).1 (TX11 3).2.1 (TX11 3).2.2.1) 356 (by decide +kernel) (by decide +kernel), inX11, tyX11_ok, nmX11, rfl, rfl, by decide +kernel⟩
theorem fl_X11_56 : FL RX11 56 11 4 := ⟨RX11, TX11, 11, rfl, by decide, gw_in (w := .fieldLink RX11 56 (TX11 4).1 (TX11 4).2.1 (TX11 4).2.2.1) 357 (by decide +kernel) (by decide +kernel), inX11⟩
theorem pl_X11_56 : PL true RX11 56 11 4 (.object "GlassTank$Charge") := ⟨RX11, TX11, 11, tyX11, rfl, by decide, gw_in (w := .fieldLink RX11 56 (TX11 4).1 (TX11 4).2.1 (TX11 4).2.2.1) 357 (by decide +kernel) (by decide +kernel), inX11, tyX11_ok, nmX11, rfl, rfl, by decide +kernel⟩
theorem fl_X11_63 : FL RX11 63 11 5 := ⟨RX11, TX11, 11, rfl, by decide, gw_in (w := .fieldLink RX11 63 (TX11 5).1 (TX11 5).2.1 (TX11 5).2.2.1) 358 (by decide +kernel) (by decide +kernel), inX11⟩
theorem pl_X11_63 : PL true RX11 63 11 5 (.object "GlassTank$Glass") := ⟨RX11, TX11, 11, tyX11, rfl, by decide, gw_in (w := .fieldLink RX11 63 (TX11 5).1 (TX11 5).2.1 (TX11 5).2.2.1) 358 (by decide +kernel) (by decide +kernel), inX11, tyX11_ok, nmX11, rfl, rfl, by decide +kernel⟩
theorem fl_X11_29 : FL RX11 29 11 6 := ⟨RX11, TX11, 11, rfl, by decide, gw_in (w := .fieldLink RX11 29 (TX11 6).1 (TX11 6).2.1 (TX11 6).2.2.1) 359 (by decide +kernel) (by decide +kernel), inX11⟩
theorem pl_X11_29 : PL true RX11 29 11 6 (.object "GlassTank$Colours") := ⟨RX11, TX11, 11, tyX11, rfl, by decide, gw_in (w := .fieldLink RX11 29 (TX11 6).1 (TX11 6).2.1 (TX11 6).2.2.1) 359 (by decide +kernel) (by decide +kernel), inX11, tyX11_ok, nmX11, rfl, rfl, by decide +kernel⟩
theorem fl_X11_70 : FL RX11 70 11 7 := ⟨RX11, TX11, 11, rfl, by decide, gw_in (w := .fieldLink RX11 70 (TX11 7).1 (TX11 7).2.1 (TX11 7).2.2.1) 360 (by decide +kernel) (by decide +kernel), inX11⟩
theorem pl_X11_70 : PL true RX11 70 11 7 (.object "GlassTank$Log") := ⟨RX11, TX11, 11, tyX11, rfl, by decide, gw_in (w := .fieldLink RX11 70 (TX11 7).1 (TX11 7).2.1 (TX11 7).2.2.1) 360 (by decide +kernel) (by decide +kernel), inX11, tyX11_ok, nmX11, rfl, rfl, by decide +kernel⟩
theorem fl_X11_79 : FL RX11 79 11 8 := ⟨RX11, TX11, 11, rfl, by decide, gw_in (w := .fieldLink RX11 79 (TX11 8).1 (TX11 8).2.1 (TX11 8).2.2.1) 361 (by decide +kernel) (by decide +kernel), inX11⟩
theorem pl_X11_79 : PL true RX11 79 11 8 (.object "GlassTank$Forecast") := ⟨RX11, TX11, 11, tyX11, rfl, by decide, gw_in (w := .fieldLink RX11 79 (TX11 8).1 (TX11 8).2.1 (TX11 8).2.2.1) 361 (by decide +kernel) (by decide +kernel), inX11, tyX11_ok, nmX11, rfl, rfl, by decide +kernel⟩
theorem fl_X11_86 : FL RX11 86 11 9 := ⟨RX11, TX11, 11, rfl, by decide, gw_in (w := .fieldLink RX11 86 (TX11 9).1 (TX11 9).2.1 (TX11 9).2.2.1) 362 (by decide +kernel) (by decide +kernel), inX11⟩
theorem pl_X11_86 : PL true RX11 86 11 9 (.object "GlassTank$Ring") := ⟨RX11, TX11, 11, tyX11, rfl, by decide, gw_in (w := .fieldLink RX11 86 (TX11 9).1 (TX11 9).2.1 (TX11 9).2.2.1) 362 (by decide +kernel) (by decide +kernel), inX11, tyX11_ok, nmX11, rfl, rfl, by decide +kernel⟩
theorem fl_X11_90 : FL RX11 90 11 10 := ⟨RX11, TX11, 11, rfl, by decide, gw_in (w := .fieldLink RX11 90 (TX11 10).1 (TX11 10).2.1 (TX11 10).2.2.1) 363 (by decide +kernel) (by decide +kernel), inX11⟩
theorem pl_X11_90 : PL false RX11 90 11 10 .int := ⟨RX11, TX11, 11, tyX11, rfl, by decide, gw_in (w := .fieldLink RX11 90 (TX11 10).1 (TX11 10).2.1 (TX11 10).2.2.1) 363 (by decide +kernel) (by decide +kernel), inX11, tyX11_ok, nmX11, rfl, rfl, by decide +kernel⟩
theorem fl_X12_108 : FL RX12 108 12 0 := ⟨RX12, TX12, 40, rfl, by decide, gw_in (w := .fieldLink RX12 108 (TX12 0).1 (TX12 0).2.1 (TX12 0).2.2.1) 697 (by decide +kernel) (by decide +kernel), inX12⟩
theorem pl_X12_108 : PL false RX12 108 12 0 .int := ⟨RX12, TX12, 40, tyX12, rfl, by decide, gw_in (w := .fieldLink RX12 108 (TX12 0).1 (TX12 0).2.1 (TX12 0).2.2.1) 697 (by decide +kernel) (by decide +kernel), inX12, tyX12_ok, nmX12, rfl, rfl, by decide +kernel⟩
theorem fl_X12_115 : FL RX12 115 12 1 := ⟨RX12, TX12, 40, rfl, by decide, gw_in (w := .fieldLink RX12 115 (TX12 1).1 (TX12 1).2.1 (TX12 1).2.2.1) 698 (by decide +kernel) (by decide +kernel), inX12⟩
theorem pl_X12_115 : PL false RX12 115 12 1 .int := ⟨RX12, TX12, 40, tyX12, rfl, by decide, gw_in (w := .fieldLink RX12 115 (TX12 1).1 (TX12 1).2.1 (TX12 1).2.2.1) 698 (by decide +kernel) (by decide +kernel), inX12, tyX12_ok, nmX12, rfl, rfl, by decide +kernel⟩
theorem fl_X12_7 : FL RX12 7 12 2 := ⟨RX12, TX12, 40, rfl, by decide, gw_in (w := .fieldLink RX12 7 (TX12 2).1 (TX12 2).2.1 (TX12 2).2.2.1) 699 (by decide +kernel) (by decide +kernel), inX12⟩
theorem pl_X12_7 : PL true RX12 7 12 2 (.array .int) := ⟨RX12, TX12, 40, tyX12, rfl, by decide, gw_in (w := .fieldLink RX12 7 (TX12 2).1 (TX12 2).2.1 (TX12 2).2.2.1) 699 (by decide +kernel) (by decide +kernel), inX12, tyX12_ok, nmX12, rfl, rfl, by decide +kernel⟩
theorem fl_X12_13 : FL RX12 13 12 3 := ⟨RX12, TX12, 40, rfl, by decide, gw_in (w := .fieldLink RX12 13 (TX12 3).1 (TX12 3).2.1 (TX12 3).2.2.1) 700 (by decide +kernel) (by decide +kernel), inX12⟩
theorem pl_X12_13 : PL true RX12 13 12 3 (.array .int) := ⟨RX12, TX12, 40, tyX12, rfl, by decide, gw_in (w := .fieldLink RX12 13 (TX12 3).1 (TX12 3).2.1 (TX12 3).2.2.1) 700 (by decide +kernel) (by decide +kernel), inX12, tyX12_ok, nmX12, rfl, rfl, by decide +kernel⟩
theorem fl_X12_16 : FL RX12 16 12 4 := ⟨RX12, TX12, 40, rfl, by decide, gw_in (w := .fieldLink RX12 16 (TX12 4).1 (TX12 4).2.1 (TX12 4).2.2.1) 701 (by decide +kernel) (by decide +kernel), inX12⟩
theorem pl_X12_16 : PL true RX12 16 12 4 (.array .int) := ⟨RX12, TX12, 40, tyX12, rfl, by decide, gw_in (w := .fieldLink RX12 16 (TX12 4).1 (TX12 4).2.1 (TX12 4).2.2.1) 701 (by decide +kernel) (by decide +kernel), inX12, tyX12_ok, nmX12, rfl, rfl, by decide +kernel⟩
theorem fl_X12_19 : FL RX12 19 12 5 := ⟨RX12, TX12, 40, rfl, by decide, gw_in (w := .fieldLink RX12 19 (TX12 5).1 (TX12 5).2.1 (TX12 5).2.2.1) 702 (by decide +kernel) (by decide +kernel), inX12⟩
theorem pl_X12_19 : PL true RX12 19 12 5 (.array .int) := ⟨RX12, TX12, 40, tyX12, rfl, by decide, gw_in (w := .fieldLink RX12 19 (TX12 5).1 (TX12 5).2.1 (TX12 5).2.2.1) 702 (by decide +kernel) (by decide +kernel), inX12, tyX12_ok, nmX12, rfl, rfl, by decide +kernel⟩
theorem fl_X12_22 : FL RX12 22 12 6 := ⟨RX12, TX12, 40, rfl, by decide, gw_in (w := .fieldLink RX12 22 (TX12 6).1 (TX12 6).2.1 (TX12 6).2.2.1) 703 (by decide +kernel) (by decide +kernel), inX12⟩
theorem pl_X12_22 : PL true RX12 22 12 6 (.array .int) := ⟨RX12, TX12, 40, tyX12, rfl, by decide, gw_in (w := .fieldLink RX12 22 (TX12 6).1 (TX12 6).2.1 (TX12 6).2.2.1) 703 (by decide +kernel) (by decide +kernel), inX12, tyX12_ok, nmX12, rfl, rfl, by decide +kernel⟩
theorem fl_X12_25 : FL RX12 25 12 7 := ⟨RX12, TX12, 40, rfl, by decide, gw_in (w := .fieldLink RX12 25 (TX12 7).1 (TX12 7).2.1 (TX12 7).2.2.1) 704 (by decide +kernel) (by decide +kernel), inX12⟩
theorem pl_X12_25 : PL true RX12 25 12 7 (.array .int) := ⟨RX12, TX12, 40, tyX12, rfl, by decide, gw_in (w := .fieldLink RX12 25 (TX12 7).1 (TX12 7).2.1 (TX12 7).2.2.1) 704 (by decide +kernel) (by decide +kernel), inX12, tyX12_ok, nmX12, rfl, rfl, by decide +kernel⟩
theorem fl_X12_28 : FL RX12 28 12 8 := ⟨RX12, TX12, 40, rfl, by decide, gw_in (w := .fieldLink RX12 28 (TX12 8).1 (TX12 8).2.1 (TX12 8).2.2.1) 705 (by decide +kernel) (by decide +kernel), inX12⟩
theorem pl_X12_28 : PL true RX12 28 12 8 (.array .int) := ⟨RX12, TX12, 40, tyX12, rfl, by decide, gw_in (w := .fieldLink RX12 28 (TX12 8).1 (TX12 8).2.1 (TX12 8).2.2.1) 705 (by decide +kernel) (by decide +kernel), inX12, tyX12_ok, nmX12, rfl, rfl, by decide +kernel⟩
theorem fl_X12_124 : FL RX12 124 12 9 := ⟨RX12, TX12, 40, rfl, by decide, gw_in (w := .fieldLink RX12 124 (TX12 9).1 (TX12 9).2.1 (TX12 9).2.2.1) 706 (by decide +kernel) (by decide +kernel), inX12⟩
theorem pl_X12_124 : PL false RX12 124 12 9 .boolean := ⟨RX12, TX12, 40, tyX12, rfl, by decide, gw_in (w := .fieldLink RX12 124 (TX12 9).1 (TX12 9).2.1 (TX12 9).2.2.1) 706 (by decide +kernel) (by decide +kernel), inX12, tyX12_ok, nmX12, rfl, rfl, by decide +kernel⟩
theorem fl_X12_135 : FL RX12 135 12 10 := ⟨RX12, TX12, 40, rfl, by decide, gw_in (w := .fieldLink RX12 135 (TX12 10).1 (TX12 10).2.1 (TX12 10).2.2.1) 707 (by decide +kernel) (by decide +kernel), inX12⟩
theorem pl_X12_135 : PL false RX12 135 12 10 .boolean := ⟨RX12, TX12, 40, tyX12, rfl, by decide, gw_in (w := .fieldLink RX12 135 (TX12 10).1 (TX12 10).2.1 (TX12 10).2.2.1) 707 (by decide +kernel) (by decide +kernel), inX12, tyX12_ok, nmX12, rfl, rfl, by decide +kernel⟩
theorem fl_X12_31 : FL RX12 31 12 11 := ⟨RX12, TX12, 40, rfl, by decide, gw_in (w := .fieldLink RX12 31 (TX12 11).1 (TX12 11).2.1 (TX12 11).2.2.1) 708 (by decide +kernel) (by decide +kernel), inX12⟩
theorem pl_X12_31 : PL false RX12 31 12 11 .int := ⟨RX12, TX12, 40, tyX12, rfl, by decide, gw_in (w := .fieldLink RX12 31 (TX12 11).1 (TX12 11).2.1 (TX12 11).2.2.1) 708 (by decide +kernel) (by decide +kernel), inX12, tyX12_ok, nmX12, rfl, rfl, by decide +kernel⟩
theorem fl_X12_35 : FL RX12 35 12 12 := ⟨RX12, TX12, 40, rfl, by decide, gw_in (w := .fieldLink RX12 35 (TX12 12).1 (TX12 12).2.1 (TX12 12).2.2.1) 709 (by decide +kernel) (by decide +kernel), inX12⟩
theorem pl_X12_35 : PL false RX12 35 12 12 .int := ⟨RX12, TX12, 40, tyX12, rfl, by decide, gw_in (w := .fieldLink RX12 35 (TX12 12).1 (TX12 12).2.1 (TX12 12).2.2.1) 709 (by decide +kernel) (by decide +kernel), inX12, tyX12_ok, nmX12, rfl, rfl, by decide +kernel⟩
theorem fl_X12_38 : FL RX12 38 12 13 := ⟨RX12, TX12, 40, rfl, by decide, gw_in (w := .fieldLink RX12 38 (TX12 13).1 (TX12 13).2.1 (TX12 13).2.2.1) 710 (by decide +kernel) (by decide +kernel), inX12⟩
theorem pl_X12_38 : PL false RX12 38 12 13 .int := ⟨RX12, TX12, 40, tyX12, rfl, by decide, gw_in (w := .fieldLink RX12 38 (TX12 13).1 (TX12 13).2.1 (TX12 13).2.2.1) 710 (by decide +kernel) (by decide +kernel), inX12, tyX12_ok, nmX12, rfl, rfl, by decide +kernel⟩
theorem fl_X12_41 : FL RX12 41 12 14 := ⟨RX12, TX12, 40, rfl, by decide, gw_in (w := .fieldLink RX12 41 (TX12 14).1 (TX12 14).2.1 (TX12 14).2.2.1) 711 (by decide +kernel) (by decide +kernel), inX12⟩
theorem pl_X12_41 : PL false RX12 41 12 14 .int := ⟨RX12, TX12, 40, tyX12, rfl, by decide, gw_in (w := .fieldLink RX12 41 (TX12 14).1 (TX12 14).2.1 (TX12 14).2.2.1) 711 (by decide +kernel) (by decide +kernel), inX12, tyX12_ok, nmX12, rfl, rfl, by decide +kernel⟩
theorem fl_X12_44 : FL RX12 44 12 15 := ⟨RX12, TX12, 40, rfl, by decide, gw_in (w := .fieldLink RX12 44 (TX12 15).1 (TX12 15).2.1 (TX12 15).2.2.1) 712 (by decide +kernel) (by decide +kernel), inX12⟩
theorem pl_X12_44 : PL true RX12 44 12 15 (.array .int) := ⟨RX12, TX12, 40, tyX12, rfl, by decide, gw_in (w := .fieldLink RX12 44 (TX12 15).1 (TX12 15).2.1 (TX12 15).2.2.1) 712 (by decide +kernel) (by decide +kernel), inX12, tyX12_ok, nmX12, rfl, rfl, by decide +kernel⟩
theorem fl_X12_47 : FL RX12 47 12 16 := ⟨RX12, TX12, 40, rfl, by decide, gw_in (w := .fieldLink RX12 47 (TX12 16).1 (TX12 16).2.1 (TX12 16).2.2.1) 713 (by decide +kernel) (by decide +kernel), inX12⟩
theorem pl_X12_47 : PL true RX12 47 12 16 (.array .int) := ⟨RX12, TX12, 40, tyX12, rfl, by decide, gw_in (w := .fieldLink RX12 47 (TX12 16).1 (TX12 16).2.1 (TX12 16).2.2.1) 713 (by decide +kernel) (by decide +kernel), inX12, tyX12_ok, nmX12, rfl, rfl, by decide +kernel⟩
theorem fl_X12_50 : FL RX12 50 12 17 := ⟨RX12, TX12, 40, rfl, by decide, gw_in (w := .fieldLink RX12 50 (TX12 17).1 (TX12 17).2.1 (TX12 17).2.2.1) 714 (by decide +kernel) (by decide +kernel), inX12⟩
theorem pl_X12_50 : PL true RX12 50 12 17 (.array .int) := ⟨RX12, TX12, 40, tyX12, rfl, by decide, gw_in (w := .fieldLink RX12 50 (TX12 17).1 (TX12 17).2.1 (TX12 17).2.2.1) 714 (by decide +kernel) (by decide +kernel), inX12, tyX12_ok, nmX12, rfl, rfl, by decide +kernel⟩
theorem fl_X12_53 : FL RX12 53 12 18 := ⟨RX12, TX12, 40, rfl, by decide, gw_in (w := .fieldLink RX12 53 (TX12 18).1 (TX12 18).2.1 (TX12 18).2.2.1) 715 (by decide +kernel) (by decide +kernel), inX12⟩
theorem pl_X12_53 : PL true RX12 53 12 18 (.array .int) := ⟨RX12, TX12, 40, tyX12, rfl, by decide, gw_in (w := .fieldLink RX12 53 (TX12 18).1 (TX12 18).2.1 (TX12 18).2.2.1) 715 (by decide +kernel) (by decide +kernel), inX12, tyX12_ok, nmX12, rfl, rfl, by decide +kernel⟩
theorem fl_X12_56 : FL RX12 56 12 19 := ⟨RX12, TX12, 40, rfl, by decide, gw_in (w := .fieldLink RX12 56 (TX12 19).1 (TX12 19).2.1 (TX12 19).2.2.1) 716 (by decide +kernel) (by decide +kernel), inX12⟩
theorem pl_X12_56 : PL true RX12 56 12 19 (.array .int) := ⟨RX12, TX12, 40, tyX12, rfl, by decide, gw_in (w := .fieldLink RX12 56 (TX12 19).1 (TX12 19).2.1 (TX12 19).2.2.1) 716 (by decide +kernel) (by decide +kernel), inX12, tyX12_ok, nmX12, rfl, rfl, by decide +kernel⟩
theorem fl_X12_59 : FL RX12 59 12 20 := ⟨RX12, TX12, 40, rfl, by decide, gw_in (w := .fieldLink RX12 59 (TX12 20).1 (TX12 20).2.1 (TX12 20).2.2.1) 717 (by decide +kernel) (by decide +kernel), inX12⟩
theorem pl_X12_59 : PL true RX12 59 12 20 (.array .int) := ⟨RX12, TX12, 40, tyX12, rfl, by decide, gw_in (w := .fieldLink RX12 59 (TX12 20).1 (TX12 20).2.1 (TX12 20).2.2.1) 717 (by decide +kernel) (by decide +kernel), inX12, tyX12_ok, nmX12, rfl, rfl, by decide +kernel⟩
theorem fl_X12_62 : FL RX12 62 12 21 := ⟨RX12, TX12, 40, rfl, by decide, gw_in (w := .fieldLink RX12 62 (TX12 21).1 (TX12 21).2.1 (TX12 21).2.2.1) 718 (by decide +kernel) (by decide +kernel), inX12⟩
theorem pl_X12_62 : PL true RX12 62 12 21 (.array .int) := ⟨RX12, TX12, 40, tyX12, rfl, by decide, gw_in (w := .fieldLink RX12 62 (TX12 21).1 (TX12 21).2.1 (TX12 21).2.2.1) 718 (by decide +kernel) (by decide +kernel), inX12, tyX12_ok, nmX12, rfl, rfl, by decide +kernel⟩
theorem fl_X12_65 : FL RX12 65 12 22 := ⟨RX12, TX12, 40, rfl, by decide, gw_in (w := .fieldLink RX12 65 (TX12 22).1 (TX12 22).2.1 (TX12 22).2.2.1) 719 (by decide +kernel) (by decide +kernel), inX12⟩
theorem pl_X12_65 : PL true RX12 65 12 22 (.array .int) := ⟨RX12, TX12, 40, tyX12, rfl, by decide, gw_in (w := .fieldLink RX12 65 (TX12 22).1 (TX12 22).2.1 (TX12 22).2.2.1) 719 (by decide +kernel) (by decide +kernel), inX12, tyX12_ok, nmX12, rfl, rfl, by decide +kernel⟩
theorem fl_X12_138 : FL RX12 138 12 23 := ⟨RX12, TX12, 40, rfl, by decide, gw_in (w := .fieldLink RX12 138 (TX12 23).1 (TX12 23).2.1 (TX12 23).2.2.1) 720 (by decide +kernel) (by decide +kernel), inX12⟩
theorem pl_X12_138 : PL false RX12 138 12 23 .int := ⟨RX12, TX12, 40, tyX12, rfl, by decide, gw_in (w := .fieldLink RX12 138 (TX12 23).1 (TX12 23).2.1 (TX12 23).2.2.1) 720 (by decide +kernel) (by decide +kernel), inX12, tyX12_ok, nmX12, rfl, rfl, by decide +kernel⟩
theorem fl_X12_141 : FL RX12 141 12 24 := ⟨RX12, TX12, 40, rfl, by decide, gw_in (w := .fieldLink RX12 141 (TX12 24).1 (TX12 24).2.1 (TX12 24).2.2.1) 721 (by decide +kernel) (by decide +kernel), inX12⟩
theorem pl_X12_141 : PL false RX12 141 12 24 .long := ⟨RX12, TX12, 40, tyX12, rfl, by decide, gw_in (w := .fieldLink RX12 141 (TX12 24).1 (TX12 24).2.1 (TX12 24).2.2.1) 721 (by decide +kernel) (by decide +kernel), inX12, tyX12_ok, nmX12, rfl, rfl, by decide +kernel⟩
theorem fl_X12_145 : FL RX12 145 12 25 := ⟨RX12, TX12, 40, rfl, by decide, gw_in (w := .fieldLink RX12 145 (TX12 25).1 (TX12 25).2.1 (TX12 25).2.2.1) 722 (by decide +kernel) (by decide +kernel), inX12⟩
theorem pl_X12_145 : PL false RX12 145 12 25 .long := ⟨RX12, TX12, 40, tyX12, rfl, by decide, gw_in (w := .fieldLink RX12 145 (TX12 25).1 (TX12 25).2.1 (TX12 25).2.2.1) 722 (by decide +kernel) (by decide +kernel), inX12, tyX12_ok, nmX12, rfl, rfl, by decide +kernel⟩
theorem fl_X12_68 : FL RX12 68 12 26 := ⟨RX12, TX12, 40, rfl, by decide, gw_in (w := .fieldLink RX12 68 (TX12 26).1 (TX12 26).2.1 (TX12 26).2.2.1) 723 (by decide +kernel) (by decide +kernel), inX12⟩
theorem pl_X12_68 : PL true RX12 68 12 26 (.array .int) := ⟨RX12, TX12, 40, tyX12, rfl, by decide, gw_in (w := .fieldLink RX12 68 (TX12 26).1 (TX12 26).2.1 (TX12 26).2.2.1) 723 (by decide +kernel) (by decide +kernel), inX12, tyX12_ok, nmX12, rfl, rfl, by decide +kernel⟩
theorem fl_X12_71 : FL RX12 71 12 27 := ⟨RX12, TX12, 40, rfl, by decide, gw_in (w := .fieldLink RX12 71 (TX12 27).1 (TX12 27).2.1 (TX12 27).2.2.1) 724 (by decide +kernel) (by decide +kernel), inX12⟩
theorem pl_X12_71 : PL true RX12 71 12 27 (.array .int) := ⟨RX12, TX12, 40, tyX12, rfl, by decide, gw_in (w := .fieldLink RX12 71 (TX12 27).1 (TX12 27).2.1 (TX12 27).2.2.1) 724 (by decide +kernel) (by decide +kernel), inX12, tyX12_ok, nmX12, rfl, rfl, by decide +kernel⟩
theorem fl_X12_74 : FL RX12 74 12 28 := ⟨RX12, TX12, 40, rfl, by decide, gw_in (w := .fieldLink RX12 74 (TX12 28).1 (TX12 28).2.1 (TX12 28).2.2.1) 725 (by decide +kernel) (by decide +kernel), inX12⟩
theorem pl_X12_74 : PL true RX12 74 12 28 (.array .int) := ⟨RX12, TX12, 40, tyX12, rfl, by decide, gw_in (w := .fieldLink RX12 74 (TX12 28).1 (TX12 28).2.1 (TX12 28).2.2.1) 725 (by decide +kernel) (by decide +kernel), inX12, tyX12_ok, nmX12, rfl, rfl, by decide +kernel⟩
theorem fl_X12_77 : FL RX12 77 12 29 := ⟨RX12, TX12, 40, rfl, by decide, gw_in (w := .fieldLink RX12 77 (TX12 29).1 (TX12 29).2.1 (TX12 29).2.2.1) 726 (by decide +kernel) (by decide +kernel), inX12⟩
theorem pl_X12_77 : PL true RX12 77 12 29 (.array .int) := ⟨RX12, TX12, 40, tyX12, rfl, by decide, gw_in (w := .fieldLink RX12 77 (TX12 29).1 (TX12 29).2.1 (TX12 29).2.2.1) 726 (by decide +kernel) (by decide +kernel), inX12, tyX12_ok, nmX12, rfl, rfl, by decide +kernel⟩
theorem fl_X12_80 : FL RX12 80 12 30 := ⟨RX12, TX12, 40, rfl, by decide, gw_in (w := .fieldLink RX12 80 (TX12 30).1 (TX12 30).2.1 (TX12 30).2.2.1) 727 (by decide +kernel) (by decide +kernel), inX12⟩
theorem pl_X12_80 : PL true RX12 80 12 30 (.array .int) := ⟨RX12, TX12, 40, tyX12, rfl, by decide, gw_in (w := .fieldLink RX12 80 (TX12 30).1 (TX12 30).2.1 (TX12 30).2.2.1) 727 (by decide +kernel) (by decide +kernel), inX12, tyX12_ok, nmX12, rfl, rfl, by decide +kernel⟩
theorem fl_X12_83 : FL RX12 83 12 31 := ⟨RX12, TX12, 40, rfl, by decide, gw_in (w := .fieldLink RX12 83 (TX12 31).1 (TX12 31).2.1 (TX12 31).2.2.1) 728 (by decide +kernel) (by decide +kernel), inX12⟩
theorem pl_X12_83 : PL true RX12 83 12 31 (.array .long) := ⟨RX12, TX12, 40, tyX12, rfl, by decide, gw_in (w := .fieldLink RX12 83 (TX12 31).1 (TX12 31).2.1 (TX12 31).2.2.1) 728 (by decide +kernel) (by decide +kernel), inX12, tyX12_ok, nmX12, rfl, rfl, by decide +kernel⟩
theorem fl_X12_87 : FL RX12 87 12 32 := ⟨RX12, TX12, 40, rfl, by decide, gw_in (w := .fieldLink RX12 87 (TX12 32).1 (TX12 32).2.1 (TX12 32).2.2.1) 729 (by decide +kernel) (by decide +kernel), inX12⟩
theorem pl_X12_87 : PL true RX12 87 12 32 (.array .long) := ⟨RX12, TX12, 40, tyX12, rfl, by decide, gw_in (w := .fieldLink RX12 87 (TX12 32).1 (TX12 32).2.1 (TX12 32).2.2.1) 729 (by decide +kernel) (by decide +kernel), inX12, tyX12_ok, nmX12, rfl, rfl, by decide +kernel⟩
theorem fl_X12_90 : FL RX12 90 12 33 := ⟨RX12, TX12, 40, rfl, by decide, gw_in (w := .fieldLink RX12 90 (TX12 33).1 (TX12 33).2.1 (TX12 33).2.2.1) 730 (by decide +kernel) (by decide +kernel), inX12⟩
theorem pl_X12_90 : PL true RX12 90 12 33 (.array .int) := ⟨RX12, TX12, 40, tyX12, rfl, by decide, gw_in (w := .fieldLink RX12 90 (TX12 33).1 (TX12 33).2.1 (TX12 33).2.2.1) 730 (by decide +kernel) (by decide +kernel), inX12, tyX12_ok, nmX12, rfl, rfl, by decide +kernel⟩
theorem fl_X12_93 : FL RX12 93 12 34 := ⟨RX12, TX12, 40, rfl, by decide, gw_in (w := .fieldLink RX12 93 (TX12 34).1 (TX12 34).2.1 (TX12 34).2.2.1) 731 (by decide +kernel) (by decide +kernel), inX12⟩
theorem pl_X12_93 : PL true RX12 93 12 34 (.array .int) := ⟨RX12, TX12, 40, tyX12, rfl, by decide, gw_in (w := .fieldLink RX12 93 (TX12 34).1 (TX12 34).2.1 (TX12 34).2.2.1) 731 (by decide +kernel) (by decide +kernel), inX12, tyX12_ok, nmX12, rfl, rfl, by decide +kernel⟩
theorem fl_X12_96 : FL RX12 96 12 35 := ⟨RX12, TX12, 40, rfl, by decide, gw_in (w := .fieldLink RX12 96 (TX12 35).1 (TX12 35).2.1 (TX12 35).2.2.1) 732 (by decide +kernel) (by decide +kernel), inX12⟩
theorem pl_X12_96 : PL true RX12 96 12 35 (.array .int) := ⟨RX12, TX12, 40, tyX12, rfl, by decide, gw_in (w := .fieldLink RX12 96 (TX12 35).1 (TX12 35).2.1 (TX12 35).2.2.1) 732 (by decide +kernel) (by decide +kernel), inX12, tyX12_ok, nmX12, rfl, rfl, by decide +kernel⟩
theorem fl_X12_99 : FL RX12 99 12 36 := ⟨RX12, TX12, 40, rfl, by decide, gw_in (w := .fieldLink RX12 99 (TX12 36).1 (TX12 36).2.1 (TX12 36).2.2.1) 733 (by decide +kernel) (by decide +kernel), inX12⟩
theorem pl_X12_99 : PL true RX12 99 12 36 (.array .int) := ⟨RX12, TX12, 40, tyX12, rfl, by decide, gw_in (w := .fieldLink RX12 99 (TX12 36).1 (TX12 36).2.1 (TX12 36).2.2.1) 733 (by decide +kernel) (by decide +kernel), inX12, tyX12_ok, nmX12, rfl, rfl, by decide +kernel⟩
theorem fl_X12_102 : FL RX12 102 12 37 := ⟨RX12, TX12, 40, rfl, by decide, gw_in (w := .fieldLink RX12 102 (TX12 37).1 (TX12 37).2.1 (TX12 37).2.2.1) 734 (by decide +kernel) (by decide +kernel), inX12⟩
theorem pl_X12_102 : PL true RX12 102 12 37 (.array .int) := ⟨RX12, TX12, 40, tyX12, rfl, by decide, gw_in (w := .fieldLink RX12 102 (TX12 37).1 (TX12 37).2.1 (TX12 37).2.2.1) 734 (by decide +kernel) (by decide +kernel), inX12, tyX12_ok, nmX12, rfl, rfl, by decide +kernel⟩
theorem fl_X12_105 : FL RX12 105 12 38 := ⟨RX12, TX12, 40, rfl, by decide, gw_in (w := .fieldLink RX12 105 (TX12 38).1 (TX12 38).2.1 (TX12 38).2.2.1) 735 (by decide +kernel) (by decide +kernel), inX12⟩
theorem pl_X12_105 : PL true RX12 105 12 38 (.array .int) := ⟨RX12, TX12, 40, tyX12, rfl, by decide, gw_in (w := .fieldLink RX12 105 (TX12 38).1 (TX12 38).2.1 (TX12 38).2.2.1) 735 (by decide +kernel) (by decide +kernel), inX12, tyX12_ok, nmX12, rfl, rfl, by decide +kernel⟩
theorem fl_X12_193 : FL RX12 193 12 39 := ⟨RX12, TX12, 40, rfl, by decide, gw_in (w := .fieldLink RX12 193 (TX12 39).1 (TX12 39).2.1 (TX12 39).2.2.1) 736 (by decide +kernel) (by decide +kernel), inX12⟩
theorem pl_X12_193 : PL false RX12 193 12 39 .int := ⟨RX12, TX12, 40, tyX12, rfl, by decide, gw_in (w := .fieldLink RX12 193 (TX12 39).1 (TX12 39).2.1 (TX12 39).2.2.1) 736 (by decide +kernel) (by decide +kernel), inX12, tyX12_ok, nmX12, rfl, rfl, by decide +kernel⟩
theorem cn_X11_102 : Cond.constant RX11 102 (-1000000000) ∈ gw := gw_in (w := .constant RX11 102 (-1000000000)) 398 (by decide +kernel) (by decide +kernel)
theorem cn_X2_33 : Cond.constant RX2 33 (-1000000000) ∈ gw := gw_in (w := .constant RX2 33 (-1000000000)) 406 (by decide +kernel) (by decide +kernel)
theorem cn_X11_115 : Cond.constant RX11 115 (10000000) ∈ gw := gw_in (w := .constant RX11 115 (10000000)) 415 (by decide +kernel) (by decide +kernel)
theorem cn_X11_136 : Cond.constant RX11 136 (100000) ∈ gw := gw_in (w := .constant RX11 136 (100000)) 424 (by decide +kernel) (by decide +kernel)
theorem cn_X1_23 : Cond.constant RX1 23 (-1000000000) ∈ gw := gw_in (w := .constant RX1 23 (-1000000000)) 479 (by decide +kernel) (by decide +kernel)
theorem cn_X2_34 : Cond.constant RX2 34 (10000000) ∈ gw := gw_in (w := .constant RX2 34 (10000000)) 589 (by decide +kernel) (by decide +kernel)
theorem cn_X3_70 : Cond.constant RX3 70 (100000) ∈ gw := gw_in (w := .constant RX3 70 (100000)) 645 (by decide +kernel) (by decide +kernel)
theorem cn_X12_118 : Cond.constant RX12 118 (-1000000000) ∈ gw := gw_in (w := .constant RX12 118 (-1000000000)) 825 (by decide +kernel) (by decide +kernel)
theorem cn_X12_123 : Cond.constant RX12 123 (10000000) ∈ gw := gw_in (w := .constant RX12 123 (10000000)) 834 (by decide +kernel) (by decide +kernel)
theorem cn_X12_134 : Cond.constant RX12 134 (100000) ∈ gw := gw_in (w := .constant RX12 134 (100000)) 843 (by decide +kernel) (by decide +kernel)
theorem cj_X11_270 : Cond.constantLong RX11 270 (1000) ∈ gw := gw_in (w := .constantLong RX11 270 (1000)) 397 (by decide +kernel) (by decide +kernel)
theorem cj_X12_128 : Cond.constantLong RX12 128 (-1) ∈ gw := gw_in (w := .constantLong RX12 128 (-1)) 852 (by decide +kernel) (by decide +kernel)
theorem cj_X12_159 : Cond.constantLong RX12 159 (1000) ∈ gw := gw_in (w := .constantLong RX12 159 (1000)) 909 (by decide +kernel) (by decide +kernel)
theorem jw_max : Cond.static Lib.Math.max.name ∈ gw ∧ Cond.initialized "java/lang/Math" ∈ gw ∧ Cond.code Lib.Math.max.name Lib.Math.max.code 2 (some .int) ∈ gw := ⟨gw_in (w := .static Lib.Math.max.name) 497 (by decide +kernel) (by decide +kernel), gw_in (w := .initialized "java/lang/Math") 42 (by decide +kernel) (by decide +kernel), gw_in (w := .code Lib.Math.max.name Lib.Math.max.code 2 (some .int)) 498 (by decide +kernel) (by decide +kernel)⟩
theorem jw_min : Cond.static Lib.Math.min.name ∈ gw ∧ Cond.initialized "java/lang/Math" ∈ gw ∧ Cond.code Lib.Math.min.name Lib.Math.min.code 2 (some .int) ∈ gw := ⟨gw_in (w := .static Lib.Math.min.name) 500 (by decide +kernel) (by decide +kernel), gw_in (w := .initialized "java/lang/Math") 42 (by decide +kernel) (by decide +kernel), gw_in (w := .code Lib.Math.min.name Lib.Math.min.code 2 (some .int)) 501 (by decide +kernel) (by decide +kernel)⟩
theorem jw_copy : Cond.native arraycopyName ∈ gw ∧ Cond.static arraycopyName ∈ gw ∧ Cond.initialized "java/lang/System" ∈ gw := ⟨gw_in (w := .native arraycopyName) 559 (by decide +kernel) (by decide +kernel), gw_in (w := .static arraycopyName) 558 (by decide +kernel) (by decide +kernel), gw_in (w := .initialized "java/lang/System") 43 (by decide +kernel) (by decide +kernel)⟩
theorem jw_obj : Cond.instanceMethod Lib.objectInit ∈ gw ∧ Cond.code Lib.objectInit ⟨#[0xb1]⟩ 1 none ∈ gw := ⟨gw_in (w := .instanceMethod Lib.objectInit) 50 (by decide +kernel) (by decide +kernel), gw_in (w := .code Lib.objectInit ⟨#[0xb1]⟩ 1 none) 51 (by decide +kernel) (by decide +kernel)⟩
