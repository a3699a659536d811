/-! ===== printed by wip/gen/info.py: methods, fields and links by their names and pool numbers ===== -/
abbrev q_X0_init : MD := (yX0_init, cX0_init, 2, none, { frames := 5, cells := 167, slots := 612, locals := 102 })
abbrev q_X0_forget : MD := (yX0_forget, cX0_forget, 2, none, { frames := 0, cells := 0, slots := 0, locals := 0 })
abbrev q_X0_lookAt : MD := (yX0_lookAt, cX0_lookAt, 4, none, { frames := 2, cells := 0, slots := 0, locals := 47 })
abbrev q_X0_reached : MD := (yX0_reached, cX0_reached, 1, (some (.object "LoopGuesses$Flow")), { frames := 4, cells := 0, slots := 0, locals := 102 })
abbrev q_X0_invariants : MD := (yX0_invariants, cX0_invariants, 2, (some (.object "LoopGuesses$Invariants")), { frames := 4, cells := 0, slots := 0, locals := 105 })
abbrev q_X0_proved : MD := (yX0_proved, cX0_proved, 2, (some .int), { frames := 4, cells := 0, slots := 0, locals := 105 })
abbrev q_X0_firstFalse : MD := (yX0_firstFalse, cX0_firstFalse, 6, (some .int), { frames := 5, cells := 0, slots := 0, locals := 126 })
abbrev q_X0_failing : MD := (yX0_failing, cX0_failing, 3, (some (.object "LoopGuesses$States")), { frames := 4, cells := 0, slots := 0, locals := 103 })
abbrev q_X1_init : MD := (yX1_init, cX1_init, 1, none, { frames := 3, cells := 30, slots := 103, locals := 62 })
abbrev q_X1_find : MD := (yX1_find, cX1_find, 6, none, { frames := 3, cells := 0, slots := 0, locals := 78 })
abbrev q_X1_pass : MD := (yX1_pass, cX1_pass, 6, (some .boolean), { frames := 2, cells := 0, slots := 0, locals := 53 })
abbrev q_X1_passSimple : MD := (yX1_passSimple, cX1_passSimple, 3, none, { frames := 1, cells := 0, slots := 0, locals := 31 })
abbrev q_X1_passLoop : MD := (yX1_passLoop, cX1_passLoop, 3, (some .boolean), { frames := 1, cells := 0, slots := 0, locals := 24 })
abbrev q_X1_passChoice : MD := (yX1_passChoice, cX1_passChoice, 3, none, { frames := 1, cells := 0, slots := 0, locals := 24 })
abbrev q_X2_init : MD := (yX2_init, cX2_init, 2, none, { frames := 3, cells := 124, slots := 609, locals := 60 })
abbrev q_X2_clear : MD := (yX2_clear, cX2_clear, 1, none, { frames := 0, cells := 0, slots := 0, locals := 0 })
abbrev q_X2_at : MD := (yX2_at, cX2_at, 2, (some (.object "LoopGuesses$Step")), { frames := 0, cells := 0, slots := 0, locals := 0 })
abbrev q_X2_append : MD := (yX2_append, cX2_append, 3, (some (.object "LoopGuesses$Step")), { frames := 1, cells := 0, slots := 0, locals := 21 })
abbrev q_X2_newCondition : MD := (yX2_newCondition, cX2_newCondition, 5, (some (.object "LoopGuesses$Condition")), { frames := 1, cells := 0, slots := 0, locals := 23 })
abbrev q_X2_appendCheck : MD := (yX2_appendCheck, cX2_appendCheck, 3, none, { frames := 2, cells := 0, slots := 0, locals := 43 })
abbrev q_X2_appendGuess : MD := (yX2_appendGuess, cX2_appendGuess, 2, none, { frames := 0, cells := 0, slots := 0, locals := 0 })
abbrev q_X2_findTruths : MD := (yX2_findTruths, cX2_findTruths, 2, none, { frames := 4, cells := 0, slots := 0, locals := 94 })
abbrev q_X2_fulfilled : MD := (yX2_fulfilled, cX2_fulfilled, 4, (some .int), { frames := 1, cells := 0, slots := 0, locals := 24 })
abbrev q_X3_init : MD := (yX3_init, cX3_init, 1, none, { frames := 2, cells := 2, slots := 7, locals := 40 })
abbrev q_X3_put : MD := (yX3_put, cX3_put, 4, none, { frames := 0, cells := 0, slots := 0, locals := 0 })
abbrev q_X3_isTrue : MD := (yX3_isTrue, cX3_isTrue, 6, (some .boolean), { frames := 2, cells := 0, slots := 0, locals := 46 })
abbrev q_X3_value : MD := (yX3_value, cX3_value, 4, (some .int), { frames := 1, cells := 0, slots := 0, locals := 23 })
abbrev q_X3_pick : MD := (yX3_pick, cX3_pick, 4, (some .int), { frames := 0, cells := 0, slots := 0, locals := 0 })
abbrev q_X3_findTruths : MD := (yX3_findTruths, cX3_findTruths, 4, none, { frames := 3, cells := 0, slots := 0, locals := 71 })
abbrev q_X4_init : MD := (yX4_init, cX4_init, 1, none, { frames := 3, cells := 39, slots := 135, locals := 62 })
abbrev q_X4_assign : MD := (yX4_assign, cX4_assign, 5, none, { frames := 1, cells := 0, slots := 0, locals := 22 })
abbrev q_X4_reach : MD := (yX4_reach, cX4_reach, 5, none, { frames := 3, cells := 0, slots := 0, locals := 78 })
abbrev q_X4_pass : MD := (yX4_pass, cX4_pass, 7, (some .boolean), { frames := 2, cells := 0, slots := 0, locals := 52 })
abbrev q_X4_passSimple : MD := (yX4_passSimple, cX4_passSimple, 2, none, { frames := 1, cells := 0, slots := 0, locals := 31 })
abbrev q_X4_passLoop : MD := (yX4_passLoop, cX4_passLoop, 5, (some .boolean), { frames := 1, cells := 0, slots := 0, locals := 24 })
abbrev q_X4_passChoice : MD := (yX4_passChoice, cX4_passChoice, 3, none, { frames := 1, cells := 0, slots := 0, locals := 24 })
abbrev q_X5_init : MD := (yX5_init, cX5_init, 1, none, { frames := 4, cells := 41, slots := 144, locals := 82 })
abbrev q_X5_find : MD := (yX5_find, cX5_find, 8, none, { frames := 3, cells := 0, slots := 0, locals := 78 })
abbrev q_X5_falseGuesses : MD := (yX5_falseGuesses, cX5_falseGuesses, 5, (some .int), { frames := 1, cells := 0, slots := 0, locals := 24 })
abbrev q_X6_init : MD := (yX6_init, cX6_init, 1, none, { frames := 1, cells := 1, slots := 6, locals := 20 })
abbrev q_X6_read : MD := (yX6_read, cX6_read, 5, (some .int), { frames := 5, cells := 0, slots := 0, locals := 113 })
abbrev q_X6_take : MD := (yX6_take, cX6_take, 3, (some .boolean), { frames := 4, cells := 0, slots := 0, locals := 91 })
abbrev q_X6_isName : MD := (yX6_isName, cX6_isName, 1, (some .boolean), { frames := 0, cells := 0, slots := 0, locals := 0 })
abbrev q_X6_term : MD := (yX6_term, cX6_term, 1, (some .int), { frames := 1, cells := 0, slots := 0, locals := 20 })
abbrev q_X6_takeStatement : MD := (yX6_takeStatement, cX6_takeStatement, 3, (some .boolean), { frames := 3, cells := 0, slots := 0, locals := 69 })
abbrev q_X6_beginGuess : MD := (yX6_beginGuess, cX6_beginGuess, 2, (some .boolean), { frames := 1, cells := 0, slots := 0, locals := 21 })
abbrev q_X6_expectCondition : MD := (yX6_expectCondition, cX6_expectCondition, 2, (some .boolean), { frames := 0, cells := 0, slots := 0, locals := 0 })
abbrev q_X6_takeOperation : MD := (yX6_takeOperation, cX6_takeOperation, 3, (some .boolean), { frames := 3, cells := 0, slots := 0, locals := 65 })
abbrev q_X6_appendChange : MD := (yX6_appendChange, cX6_appendChange, 3, (some .boolean), { frames := 2, cells := 0, slots := 0, locals := 43 })
abbrev q_X6_takeNewValue : MD := (yX6_takeNewValue, cX6_takeNewValue, 5, (some .boolean), { frames := 2, cells := 0, slots := 0, locals := 47 })
abbrev q_X6_takeLeft : MD := (yX6_takeLeft, cX6_takeLeft, 2, (some .boolean), { frames := 1, cells := 0, slots := 0, locals := 20 })
abbrev q_X6_takeSign : MD := (yX6_takeSign, cX6_takeSign, 2, (some .boolean), { frames := 0, cells := 0, slots := 0, locals := 0 })
abbrev q_X6_takeRight : MD := (yX6_takeRight, cX6_takeRight, 4, (some .boolean), { frames := 3, cells := 0, slots := 0, locals := 66 })
abbrev q_X6_openLoop : MD := (yX6_openLoop, cX6_openLoop, 4, none, { frames := 2, cells := 0, slots := 0, locals := 43 })
abbrev q_X6_openChoice : MD := (yX6_openChoice, cX6_openChoice, 2, (some .boolean), { frames := 2, cells := 0, slots := 0, locals := 43 })
abbrev q_X6_push : MD := (yX6_push, cX6_push, 2, none, { frames := 0, cells := 0, slots := 0, locals := 0 })
abbrev q_X6_innermost : MD := (yX6_innermost, cX6_innermost, 4, (some .int), { frames := 1, cells := 0, slots := 0, locals := 21 })
abbrev q_X6_closeLoop : MD := (yX6_closeLoop, cX6_closeLoop, 5, (some .boolean), { frames := 2, cells := 0, slots := 0, locals := 44 })
abbrev q_X6_passBar : MD := (yX6_passBar, cX6_passBar, 6, (some .boolean), { frames := 2, cells := 0, slots := 0, locals := 44 })
abbrev q_X7_init : MD := (yX7_init, cX7_init, 1, none, { frames := 1, cells := 1, slots := 3, locals := 20 })
abbrev q_X7_draw : MD := (yX7_draw, cX7_draw, 2, (some .int), { frames := 0, cells := 0, slots := 0, locals := 0 })
abbrev q_X7_run : MD := (yX7_run, cX7_run, 7, (some .int), { frames := 5, cells := 0, slots := 0, locals := 114 })
abbrev q_X7_isTrue : MD := (yX7_isTrue, cX7_isTrue, 2, (some .boolean), { frames := 3, cells := 0, slots := 0, locals := 71 })
abbrev q_X7_change : MD := (yX7_change, cX7_change, 3, none, { frames := 2, cells := 0, slots := 0, locals := 46 })
abbrev q_X7_next : MD := (yX7_next, cX7_next, 3, (some .int), { frames := 4, cells := 0, slots := 0, locals := 92 })
abbrev q_X8_init : MD := (yX8_init, cX8_init, 1, none, { frames := 1, cells := 1, slots := 3, locals := 21 })
abbrev q_X8_reset : MD := (yX8_reset, cX8_reset, 2, none, { frames := 0, cells := 0, slots := 0, locals := 0 })
abbrev q_X8_packedStart : MD := (yX8_packedStart, cX8_packedStart, 3, (some .int), { frames := 0, cells := 0, slots := 0, locals := 0 })
abbrev q_X8_packed : MD := (yX8_packed, cX8_packed, 1, (some .int), { frames := 1, cells := 0, slots := 0, locals := 22 })
abbrev q_X8_unpack : MD := (yX8_unpack, cX8_unpack, 4, none, { frames := 0, cells := 0, slots := 0, locals := 0 })
abbrev q_X8_putStart : MD := (yX8_putStart, cX8_putStart, 3, (some .boolean), { frames := 0, cells := 0, slots := 0, locals := 0 })
abbrev q_X8_putOff : MD := (yX8_putOff, cX8_putOff, 3, (some .boolean), { frames := 0, cells := 0, slots := 0, locals := 0 })
abbrev q_X8_fillIn : MD := (yX8_fillIn, cX8_fillIn, 3, none, { frames := 1, cells := 0, slots := 0, locals := 25 })
abbrev q_X9_init : MD := (yX9_init, cX9_init, 1, none, { frames := 1, cells := 1, slots := 6, locals := 20 })
abbrev q_X9_row3 : MD := (yX9_row, cX9_row, 3, (some (.array (.object "LoopGuesses$States"))), { frames := 2, cells := 7, slots := 24, locals := 40 })
abbrev q_X9_row4 : MD := (yX9_row, cX9_row, 3, (some (.array (.object "LoopGuesses$States"))), { frames := 2, cells := 9, slots := 32, locals := 40 })
abbrev q_X9_clear : MD := (yX9_clear, cX9_clear, 2, none, { frames := 0, cells := 0, slots := 0, locals := 0 })
abbrev q_X9_fill : MD := (yX9_fill, cX9_fill, 2, none, { frames := 0, cells := 0, slots := 0, locals := 0 })
abbrev q_X9_copy : MD := (yX9_copy, cX9_copy, 3, none, { frames := 0, cells := 0, slots := 0, locals := 0 })
abbrev q_X9_unite : MD := (yX9_unite, cX9_unite, 5, (some .boolean), { frames := 0, cells := 0, slots := 0, locals := 0 })
abbrev q_X9_meet : MD := (yX9_meet, cX9_meet, 3, none, { frames := 0, cells := 0, slots := 0, locals := 0 })
abbrev q_X9_remove : MD := (yX9_remove, cX9_remove, 3, none, { frames := 0, cells := 0, slots := 0, locals := 0 })
abbrev q_X9_addMissing : MD := (yX9_addMissing, cX9_addMissing, 3, none, { frames := 0, cells := 0, slots := 0, locals := 0 })
abbrev q_X9_count : MD := (yX9_count, cX9_count, 3, (some .int), { frames := 1, cells := 0, slots := 0, locals := 21 })
abbrev q_X9_smallest : MD := (yX9_smallest, cX9_smallest, 2, (some .int), { frames := 3, cells := 0, slots := 0, locals := 66 })
abbrev q_X9_smallestOutside : MD := (yX9_smallestOutside, cX9_smallestOutside, 5, (some .int), { frames := 3, cells := 0, slots := 0, locals := 66 })
abbrev q_X9_number : MD := (yX9_number, cX9_number, 4, (some .int), { frames := 2, cells := 0, slots := 0, locals := 43 })
abbrev q_X9_isWithin : MD := (yX9_isWithin, cX9_isWithin, 5, (some .boolean), { frames := 0, cells := 0, slots := 0, locals := 0 })
abbrev q_X9_isState : MD := (yX9_isState, cX9_isState, 3, (some .boolean), { frames := 0, cells := 0, slots := 0, locals := 0 })
abbrev q_X9_has : MD := (yX9_has, cX9_has, 4, (some .boolean), { frames := 1, cells := 0, slots := 0, locals := 22 })
abbrev q_X9_add : MD := (yX9_add, cX9_add, 4, none, { frames := 1, cells := 0, slots := 0, locals := 22 })
abbrev q_X9_meetValue : MD := (yX9_meetValue, cX9_meetValue, 6, none, { frames := 0, cells := 0, slots := 0, locals := 0 })
abbrev q_X9_free : MD := (yX9_free, cX9_free, 11, none, { frames := 0, cells := 0, slots := 0, locals := 0 })
abbrev q_X9_shift : MD := (yX9_shift, cX9_shift, 12, none, { frames := 0, cells := 0, slots := 0, locals := 0 })
abbrev q_X10_init : MD := (yX10_init, cX10_init, 2, none, { frames := 1, cells := 0, slots := 0, locals := 20 })
abbrev q_X10_isStatement : MD := (yX10_isStatement, cX10_isStatement, 1, (some .boolean), { frames := 0, cells := 0, slots := 0, locals := 0 })
abbrev q_X11_init : MD := (yX11_init, cX11_init, 1, none, { frames := 6, cells := 434, slots := 1990, locals := 123 })
abbrev q_X11_write : MD := (yX11_write, cX11_write, 2, (some .int), { frames := 0, cells := 0, slots := 0, locals := 0 })
abbrev q_X11_wipe : MD := (yX11_wipe, cX11_wipe, 2, (some .int), { frames := 0, cells := 0, slots := 0, locals := 0 })
abbrev q_X11_fault : MD := (yX11_fault, cX11_fault, 1, (some .int), { frames := 6, cells := 0, slots := 0, locals := 137 })
abbrev q_X11_program : MD := (yX11_program, cX11_program, 2, (some .int), { frames := 6, cells := 0, slots := 0, locals := 137 })
abbrev q_X11_emptySlots : MD := (yX11_emptySlots, cX11_emptySlots, 2, none, { frames := 0, cells := 0, slots := 0, locals := 0 })
abbrev q_X11_about : MD := (yX11_about, cX11_about, 2, (some .int), { frames := 5, cells := 0, slots := 0, locals := 126 })
abbrev q_X11_loop : MD := (yX11_loop, cX11_loop, 4, (some .int), { frames := 5, cells := 0, slots := 0, locals := 126 })
abbrev q_X11_check : MD := (yX11_check, cX11_check, 6, (some .int), { frames := 5, cells := 0, slots := 0, locals := 126 })
abbrev q_X11_start : MD := (yX11_start, cX11_start, 2, (some .int), { frames := 0, cells := 0, slots := 0, locals := 0 })
abbrev q_X11_begin : MD := (yX11_begin, cX11_begin, 4, (some .int), { frames := 3, cells := 0, slots := 0, locals := 63 })
abbrev q_X11_turn : MD := (yX11_turn, cX11_turn, 2, (some .int), { frames := 3, cells := 0, slots := 0, locals := 63 })
abbrev q_X11_remember : MD := (yX11_remember, cX11_remember, 2, none, { frames := 2, cells := 0, slots := 0, locals := 42 })
abbrev q_X11_undo : MD := (yX11_undo, cX11_undo, 1, (some .int), { frames := 1, cells := 0, slots := 0, locals := 23 })
abbrev q_X11_falls : MD := (yX11_falls, cX11_falls, 4, (some .int), { frames := 6, cells := 0, slots := 0, locals := 151 })
abbrev q_X11_fewest : MD := (yX11_fewest, cX11_fewest, 7, (some .int), { frames := 5, cells := 0, slots := 0, locals := 126 })
abbrev q_X11_judge : MD := (yX11_judge, cX11_judge, 8, (some .int), { frames := 6, cells := 0, slots := 0, locals := 150 })
abbrev q_X11_stands : MD := (yX11_stands, cX11_stands, 5, (some .boolean), { frames := 5, cells := 0, slots := 0, locals := 126 })
abbrev q_X11_share : MD := (yX11_share, cX11_share, 11, (some .int), { frames := 5, cells := 0, slots := 0, locals := 126 })
abbrev q_X11_factorial : MD := (yX11_factorial, cX11_factorial, 1, (some .int), { frames := 0, cells := 0, slots := 0, locals := 0 })
abbrev q_X11_part : MD := (yX11_part, cX11_part, 7, (some .int), { frames := 0, cells := 0, slots := 0, locals := 0 })
abbrev q_X11_see : MD := (yX11_see, cX11_see, 3, (some .int), { frames := 0, cells := 0, slots := 0, locals := 0 })
abbrev q_X11_unsee : MD := (yX11_unsee, cX11_unsee, 2, (some .int), { frames := 0, cells := 0, slots := 0, locals := 0 })
abbrev q_X11_which : MD := (yX11_which, cX11_which, 2, (some .int), { frames := 6, cells := 0, slots := 0, locals := 148 })
abbrev q_X11_findAgreeing : MD := (yX11_findAgreeing, cX11_findAgreeing, 4, none, { frames := 5, cells := 0, slots := 0, locals := 125 })
abbrev q_X11_lost : MD := (yX11_lost, cX11_lost, 10, (some .int), { frames := 5, cells := 0, slots := 0, locals := 126 })
abbrev q_X11_power : MD := (yX11_power, cX11_power, 4, (some .int), { frames := 0, cells := 0, slots := 0, locals := 0 })
abbrev q_X11_seed : MD := (yX11_seed, cX11_seed, 5, (some .long), { frames := 0, cells := 0, slots := 0, locals := 0 })
abbrev q_X11_drawn : MD := (yX11_drawn, cX11_drawn, 4, (some .int), { frames := 6, cells := 0, slots := 0, locals := 140 })
abbrev q_X11_keep : MD := (yX11_keep, cX11_keep, 2, (some .int), { frames := 2, cells := 0, slots := 0, locals := 42 })
abbrev q_X11_again : MD := (yX11_again, cX11_again, 2, (some .int), { frames := 1, cells := 0, slots := 0, locals := 23 })
abbrev q_X11_active : MD := (yX11_active, cX11_active, 2, (some .int), { frames := 0, cells := 0, slots := 0, locals := 0 })
abbrev q_X11_view : MD := (yX11_view, cX11_view, 2, (some (.object "LoopGuesses$Analysis")), { frames := 3, cells := 0, slots := 0, locals := 70 })
abbrev q_X12_init : MD := (yX12_init, cX12_init, 2, none, { frames := 1, cells := 32, slots := 1463, locals := 20 })
abbrev q_X12_in : MD := (yX12_in, cX12_in, 6, (some .boolean), { frames := 0, cells := 0, slots := 0, locals := 0 })
abbrev q_X12_isIn : MD := (yX12_isIn, cX12_isIn, 2, (some .boolean), { frames := 0, cells := 0, slots := 0, locals := 0 })
abbrev q_X12_ones : MD := (yX12_ones, cX12_ones, 3, (some .int), { frames := 0, cells := 0, slots := 0, locals := 0 })
abbrev q_X12_power : MD := (yX12_power, cX12_power, 4, (some .int), { frames := 0, cells := 0, slots := 0, locals := 0 })
abbrev q_X12_factorial : MD := (yX12_factorial, cX12_factorial, 3, (some .int), { frames := 0, cells := 0, slots := 0, locals := 0 })
abbrev q_X12_divisor : MD := (yX12_divisor, cX12_divisor, 5, (some .int), { frames := 0, cells := 0, slots := 0, locals := 0 })
abbrev q_X12_fraction : MD := (yX12_fraction, cX12_fraction, 4, (some .int), { frames := 1, cells := 0, slots := 0, locals := 24 })
abbrev q_X12_write : MD := (yX12_write, cX12_write, 2, (some .int), { frames := 1, cells := 0, slots := 0, locals := 25 })
abbrev q_X12_wipe : MD := (yX12_wipe, cX12_wipe, 2, (some .int), { frames := 0, cells := 0, slots := 0, locals := 0 })
abbrev q_X12_variableOf : MD := (yX12_variableOf, cX12_variableOf, 1, (some .int), { frames := 1, cells := 0, slots := 0, locals := 25 })
abbrev q_X12_termOf : MD := (yX12_termOf, cX12_termOf, 1, (some .int), { frames := 1, cells := 0, slots := 0, locals := 25 })
abbrev q_X12_isCompare : MD := (yX12_isCompare, cX12_isCompare, 1, (some .boolean), { frames := 0, cells := 0, slots := 0, locals := 0 })
abbrev q_X12_newNode : MD := (yX12_newNode, cX12_newNode, 2, none, { frames := 0, cells := 0, slots := 0, locals := 0 })
abbrev q_X12_innermost : MD := (yX12_innermost, cX12_innermost, 1, (some .int), { frames := 0, cells := 0, slots := 0, locals := 0 })
abbrev q_X12_takeStatement : MD := (yX12_takeStatement, cX12_takeStatement, 2, (some .boolean), { frames := 2, cells := 0, slots := 0, locals := 45 })
abbrev q_X12_takeAsking : MD := (yX12_takeAsking, cX12_takeAsking, 2, (some .boolean), { frames := 1, cells := 0, slots := 0, locals := 21 })
abbrev q_X12_takeEither : MD := (yX12_takeEither, cX12_takeEither, 1, (some .boolean), { frames := 1, cells := 0, slots := 0, locals := 21 })
abbrev q_X12_takeClose : MD := (yX12_takeClose, cX12_takeClose, 1, (some .boolean), { frames := 1, cells := 0, slots := 0, locals := 21 })
abbrev q_X12_takeBar : MD := (yX12_takeBar, cX12_takeBar, 1, (some .boolean), { frames := 1, cells := 0, slots := 0, locals := 21 })
abbrev q_X12_takeJoin : MD := (yX12_takeJoin, cX12_takeJoin, 1, (some .boolean), { frames := 1, cells := 0, slots := 0, locals := 21 })
abbrev q_X12_takeGuess : MD := (yX12_takeGuess, cX12_takeGuess, 1, (some .boolean), { frames := 0, cells := 0, slots := 0, locals := 0 })
abbrev q_X12_takeDeed : MD := (yX12_takeDeed, cX12_takeDeed, 3, (some .boolean), { frames := 0, cells := 0, slots := 0, locals := 0 })
abbrev q_X12_takePart : MD := (yX12_takePart, cX12_takePart, 4, (some .boolean), { frames := 2, cells := 0, slots := 0, locals := 45 })
abbrev q_X12_take : MD := (yX12_take, cX12_take, 2, (some .boolean), { frames := 3, cells := 0, slots := 0, locals := 68 })
abbrev q_X12_readText : MD := (yX12_readText, cX12_readText, 2, (some .int), { frames := 4, cells := 0, slots := 0, locals := 89 })
abbrev q_X12_fault : MD := (yX12_fault, cX12_fault, 1, (some .int), { frames := 5, cells := 0, slots := 0, locals := 110 })
abbrev q_X12_program : MD := (yX12_program, cX12_program, 3, (some .int), { frames := 5, cells := 0, slots := 0, locals := 110 })
abbrev q_X12_isStatement : MD := (yX12_isStatement, cX12_isStatement, 1, (some .boolean), { frames := 0, cells := 0, slots := 0, locals := 0 })
abbrev q_X12_valueOf : MD := (yX12_valueOf, cX12_valueOf, 2, (some .int), { frames := 0, cells := 0, slots := 0, locals := 0 })
abbrev q_X12_with : MD := (yX12_with, cX12_with, 4, (some .int), { frames := 1, cells := 0, slots := 0, locals := 21 })
abbrev q_X12_told : MD := (yX12_told, cX12_told, 1, (some .int), { frames := 0, cells := 0, slots := 0, locals := 0 })
abbrev q_X12_termBy : MD := (yX12_termBy, cX12_termBy, 2, (some .int), { frames := 1, cells := 0, slots := 0, locals := 21 })
abbrev q_X12_compares : MD := (yX12_compares, cX12_compares, 6, (some .boolean), { frames := 2, cells := 0, slots := 0, locals := 42 })
abbrev q_X12_isSo : MD := (yX12_isSo, cX12_isSo, 3, (some .boolean), { frames := 3, cells := 0, slots := 0, locals := 67 })
abbrev q_X12_isGuessed : MD := (yX12_isGuessed, cX12_isGuessed, 3, (some .boolean), { frames := 3, cells := 0, slots := 0, locals := 67 })
abbrev q_X12_areGuessed : MD := (yX12_areGuessed, cX12_areGuessed, 5, (some .boolean), { frames := 4, cells := 0, slots := 0, locals := 89 })
abbrev q_X12_mayBegin : MD := (yX12_mayBegin, cX12_mayBegin, 4, (some .boolean), { frames := 1, cells := 0, slots := 0, locals := 21 })
abbrev q_X12_done : MD := (yX12_done, cX12_done, 6, (some .int), { frames := 2, cells := 0, slots := 0, locals := 44 })
abbrev q_X12_isThere : MD := (yX12_isThere, cX12_isThere, 3, (some .boolean), { frames := 0, cells := 0, slots := 0, locals := 0 })
abbrev q_X12_put : MD := (yX12_put, cX12_put, 4, (some .boolean), { frames := 1, cells := 0, slots := 0, locals := 22 })
abbrev q_X12_manyAt : MD := (yX12_manyAt, cX12_manyAt, 4, (some .int), { frames := 1, cells := 0, slots := 0, locals := 22 })
abbrev q_X12_goOn : MD := (yX12_goOn, cX12_goOn, 5, (some .boolean), { frames := 4, cells := 0, slots := 0, locals := 89 })
abbrev q_X12_beginAt : MD := (yX12_beginAt, cX12_beginAt, 3, none, { frames := 2, cells := 0, slots := 0, locals := 45 })
abbrev q_X12_layComes : MD := (yX12_layComes, cX12_layComes, 5, none, { frames := 5, cells := 0, slots := 0, locals := 113 })
abbrev q_X12_isSoInAll : MD := (yX12_isSoInAll, cX12_isSoInAll, 5, (some .boolean), { frames := 4, cells := 0, slots := 0, locals := 89 })
abbrev q_X12_giveUp : MD := (yX12_giveUp, cX12_giveUp, 4, (some .int), { frames := 5, cells := 0, slots := 0, locals := 113 })
abbrev q_X12_findInvariants : MD := (yX12_findInvariants, cX12_findInvariants, 4, none, { frames := 6, cells := 0, slots := 0, locals := 137 })
abbrev q_X12_left : MD := (yX12_left, cX12_left, 2, (some .int), { frames := 0, cells := 0, slots := 0, locals := 0 })
abbrev q_X12_invariants : MD := (yX12_invariants, cX12_invariants, 2, none, { frames := 7, cells := 0, slots := 0, locals := 160 })
abbrev q_X12_goOnFresh : MD := (yX12_goOnFresh, cX12_goOnFresh, 7, (some .boolean), { frames := 5, cells := 0, slots := 0, locals := 113 })
abbrev q_X12_layReached : MD := (yX12_layReached, cX12_layReached, 4, none, { frames := 6, cells := 0, slots := 0, locals := 139 })
abbrev q_X12_nodeOf : MD := (yX12_nodeOf, cX12_nodeOf, 5, (some .int), { frames := 0, cells := 0, slots := 0, locals := 0 })
abbrev q_X12_failing : MD := (yX12_failing, cX12_failing, 4, (some .int), { frames := 4, cells := 0, slots := 0, locals := 89 })
abbrev q_X12_fine : MD := (yX12_fine, cX12_fine, 3, (some .int), { frames := 5, cells := 0, slots := 0, locals := 112 })
abbrev q_X12_provedBy : MD := (yX12_provedBy, cX12_provedBy, 3, (some .int), { frames := 7, cells := 0, slots := 0, locals := 160 })
abbrev q_X12_about : MD := (yX12_about, cX12_about, 2, (some .int), { frames := 8, cells := 0, slots := 0, locals := 181 })
abbrev q_X12_manyGuessed : MD := (yX12_manyGuessed, cX12_manyGuessed, 4, (some .int), { frames := 5, cells := 0, slots := 0, locals := 113 })
abbrev q_X12_loop : MD := (yX12_loop, cX12_loop, 4, (some .int), { frames := 8, cells := 0, slots := 0, locals := 181 })
abbrev q_X12_check : MD := (yX12_check, cX12_check, 3, (some .int), { frames := 8, cells := 0, slots := 0, locals := 181 })
abbrev q_X12_start : MD := (yX12_start, cX12_start, 2, (some .int), { frames := 1, cells := 0, slots := 0, locals := 25 })
abbrev q_X12_note : MD := (yX12_note, cX12_note, 2, none, { frames := 0, cells := 0, slots := 0, locals := 0 })
abbrev q_X12_begin : MD := (yX12_begin, cX12_begin, 4, (some .int), { frames := 1, cells := 0, slots := 0, locals := 25 })
abbrev q_X12_turn : MD := (yX12_turn, cX12_turn, 2, (some .int), { frames := 1, cells := 0, slots := 0, locals := 25 })
abbrev q_X12_undo : MD := (yX12_undo, cX12_undo, 2, (some .int), { frames := 0, cells := 0, slots := 0, locals := 0 })
abbrev q_X12_falls : MD := (yX12_falls, cX12_falls, 6, (some .int), { frames := 8, cells := 0, slots := 0, locals := 181 })
abbrev q_X12_fewest : MD := (yX12_fewest, cX12_fewest, 7, (some .int), { frames := 8, cells := 0, slots := 0, locals := 182 })
abbrev q_X12_isState : MD := (yX12_isState, cX12_isState, 2, (some .boolean), { frames := 1, cells := 0, slots := 0, locals := 25 })
abbrev q_X12_isReachedAtEnd : MD := (yX12_isReachedAtEnd, cX12_isReachedAtEnd, 2, (some .boolean), { frames := 7, cells := 0, slots := 0, locals := 162 })
abbrev q_X12_judged : MD := (yX12_judged, cX12_judged, 5, (some .boolean), { frames := 8, cells := 0, slots := 0, locals := 183 })
abbrev q_X12_tenThousands : MD := (yX12_tenThousands, cX12_tenThousands, 4, (some .long), { frames := 0, cells := 0, slots := 0, locals := 0 })
abbrev q_X12_layTrial : MD := (yX12_layTrial, cX12_layTrial, 2, none, { frames := 0, cells := 0, slots := 0, locals := 0 })
abbrev q_X12_judge : MD := (yX12_judge, cX12_judge, 6, (some .int), { frames := 9, cells := 0, slots := 0, locals := 207 })
abbrev q_X12_share : MD := (yX12_share, cX12_share, 8, (some .int), { frames := 8, cells := 0, slots := 0, locals := 182 })
abbrev q_X12_see : MD := (yX12_see, cX12_see, 3, (some .int), { frames := 1, cells := 0, slots := 0, locals := 25 })
abbrev q_X12_unsee : MD := (yX12_unsee, cX12_unsee, 2, (some .int), { frames := 0, cells := 0, slots := 0, locals := 0 })
abbrev q_X12_can : MD := (yX12_can, cX12_can, 6, (some .boolean), { frames := 4, cells := 0, slots := 0, locals := 89 })
abbrev q_X12_layCans : MD := (yX12_layCans, cX12_layCans, 5, none, { frames := 5, cells := 0, slots := 0, locals := 114 })
abbrev q_X12_leave : MD := (yX12_leave, cX12_leave, 4, none, { frames := 6, cells := 0, slots := 0, locals := 138 })
abbrev q_X12_which : MD := (yX12_which, cX12_which, 6, (some .int), { frames := 7, cells := 0, slots := 0, locals := 161 })
abbrev q_X12_lost : MD := (yX12_lost, cX12_lost, 7, (some .int), { frames := 8, cells := 0, slots := 0, locals := 182 })
abbrev q_X12_seed : MD := (yX12_seed, cX12_seed, 5, (some .long), { frames := 0, cells := 0, slots := 0, locals := 0 })
abbrev q_X12_draw : MD := (yX12_draw, cX12_draw, 2, (some .int), { frames := 0, cells := 0, slots := 0, locals := 0 })
abbrev q_X12_step : MD := (yX12_step, cX12_step, 2, (some .int), { frames := 4, cells := 0, slots := 0, locals := 89 })
abbrev q_X12_run : MD := (yX12_run, cX12_run, 3, (some .int), { frames := 5, cells := 0, slots := 0, locals := 110 })
abbrev q_X12_drawn : MD := (yX12_drawn, cX12_drawn, 4, (some .int), { frames := 6, cells := 0, slots := 0, locals := 132 })
abbrev q_X12_keep : MD := (yX12_keep, cX12_keep, 3, (some .int), { frames := 1, cells := 0, slots := 0, locals := 25 })
abbrev q_X12_again : MD := (yX12_again, cX12_again, 3, (some .int), { frames := 1, cells := 0, slots := 0, locals := 25 })
abbrev q_J6_numberOfTrailingZeros : MD := (yJ6_numberOfTrailingZeros_0f7a4, cJ6_numberOfTrailingZeros_0f7a4, 2, (some .int), { frames := 0, cells := 0, slots := 0, locals := 0 })
abbrev q_J6_bitCount : MD := (yJ6_bitCount_0f7a4, cJ6_bitCount_0f7a4, 1, (some .int), { frames := 0, cells := 0, slots := 0, locals := 0 })
abbrev q_J13_numberOfTrailingZeros : MD := (yJ13_numberOfTrailingZeros_95d88, cJ13_numberOfTrailingZeros_95d88, 3, (some .int), { frames := 1, cells := 0, slots := 0, locals := 21 })
abbrev q_J13_bitCount : MD := (yJ13_bitCount_95d88, cJ13_bitCount_95d88, 2, (some .int), { frames := 0, cells := 0, slots := 0, locals := 0 })
abbrev q_J9_max : MD := (yJ9_max_7cf53, cJ9_max_7cf53, 2, (some .int), { frames := 0, cells := 0, slots := 0, locals := 0 })
abbrev q_J9_min : MD := (yJ9_min_7cf53, cJ9_min_7cf53, 2, (some .int), { frames := 0, cells := 0, slots := 0, locals := 0 })
abbrev q_law : MD := (x, code, 4, some .boolean, room_1)
theorem ci_X0_init : CI q_X0_init 1 := ⟨KW.by 211 (by decide +kernel) rfl, KW.by 8 (by decide +kernel) rfl, by decide +kernel, by decide +kernel⟩
theorem im_X0_init : KW (.instanceMethod q_X0_init.1) := KW.by 210 (by decide +kernel) rfl
theorem ci_X0_forget : CI q_X0_forget 1 := ⟨KW.by 307 (by decide +kernel) rfl, KW.by 8 (by decide +kernel) rfl, by decide +kernel, by decide +kernel⟩
theorem im_X0_forget : IM q_X0_forget := ⟨KW.by 305 (by decide +kernel) rfl, KW.by 306 (by decide +kernel) rfl⟩
theorem ci_X0_lookAt : CI q_X0_lookAt 1 := ⟨KW.by 585 (by decide +kernel) rfl, KW.by 8 (by decide +kernel) rfl, by decide +kernel, by decide +kernel⟩
theorem im_X0_lookAt : IM q_X0_lookAt := ⟨KW.by 583 (by decide +kernel) rfl, KW.by 584 (by decide +kernel) rfl⟩
theorem ci_X0_reached : CI q_X0_reached 0 := ⟨KW.by 681 (by decide +kernel) rfl, KW.by 8 (by decide +kernel) rfl, by decide +kernel, by decide +kernel⟩
theorem im_X0_reached : IM q_X0_reached := ⟨KW.by 679 (by decide +kernel) rfl, KW.by 680 (by decide +kernel) rfl⟩
theorem ci_X0_invariants : CI q_X0_invariants 1 := ⟨KW.by 691 (by decide +kernel) rfl, KW.by 8 (by decide +kernel) rfl, by decide +kernel, by decide +kernel⟩
theorem im_X0_invariants : IM q_X0_invariants := ⟨KW.by 689 (by decide +kernel) rfl, KW.by 690 (by decide +kernel) rfl⟩
theorem ci_X0_proved : CI q_X0_proved 1 := ⟨KW.by 612 (by decide +kernel) rfl, KW.by 8 (by decide +kernel) rfl, by decide +kernel, by decide +kernel⟩
theorem im_X0_proved : IM q_X0_proved := ⟨KW.by 610 (by decide +kernel) rfl, KW.by 611 (by decide +kernel) rfl⟩
theorem ci_X0_firstFalse : CI q_X0_firstFalse 3 := ⟨KW.by 760 (by decide +kernel) rfl, KW.by 8 (by decide +kernel) rfl, by decide +kernel, by decide +kernel⟩
theorem im_X0_firstFalse : IM q_X0_firstFalse := ⟨KW.by 758 (by decide +kernel) rfl, KW.by 759 (by decide +kernel) rfl⟩
theorem ci_X0_failing : CI q_X0_failing 1 := ⟨KW.by 829 (by decide +kernel) rfl, KW.by 8 (by decide +kernel) rfl, by decide +kernel, by decide +kernel⟩
theorem im_X0_failing : IM q_X0_failing := ⟨KW.by 827 (by decide +kernel) rfl, KW.by 828 (by decide +kernel) rfl⟩
theorem ci_X1_init : CI q_X1_init 0 := ⟨KW.by 282 (by decide +kernel) rfl, KW.by 12 (by decide +kernel) rfl, by decide +kernel, by decide +kernel⟩
theorem im_X1_init : KW (.instanceMethod q_X1_init.1) := KW.by 281 (by decide +kernel) rfl
theorem ci_X1_find : CI q_X1_find 3 := ⟨KW.by 833 (by decide +kernel) rfl, KW.by 12 (by decide +kernel) rfl, by decide +kernel, by decide +kernel⟩
theorem im_X1_find : IM q_X1_find := ⟨KW.by 831 (by decide +kernel) rfl, KW.by 832 (by decide +kernel) rfl⟩
theorem ci_X1_pass : CI q_X1_pass 2 := ⟨KW.by 838 (by decide +kernel) rfl, KW.by 12 (by decide +kernel) rfl, by decide +kernel, by decide +kernel⟩
theorem im_X1_pass : IM q_X1_pass := ⟨KW.by 837 (by decide +kernel) rfl, KW.sel 25 (by decide +kernel) rfl⟩
theorem ci_X1_passSimple : CI q_X1_passSimple 2 := ⟨KW.by 855 (by decide +kernel) rfl, KW.by 12 (by decide +kernel) rfl, by decide +kernel, by decide +kernel⟩
theorem im_X1_passSimple : IM q_X1_passSimple := ⟨KW.by 854 (by decide +kernel) rfl, KW.sel 28 (by decide +kernel) rfl⟩
theorem ci_X1_passLoop : CI q_X1_passLoop 1 := ⟨KW.by 843 (by decide +kernel) rfl, KW.by 12 (by decide +kernel) rfl, by decide +kernel, by decide +kernel⟩
theorem im_X1_passLoop : IM q_X1_passLoop := ⟨KW.by 842 (by decide +kernel) rfl, KW.sel 26 (by decide +kernel) rfl⟩
theorem ci_X1_passChoice : CI q_X1_passChoice 1 := ⟨KW.by 851 (by decide +kernel) rfl, KW.by 12 (by decide +kernel) rfl, by decide +kernel, by decide +kernel⟩
theorem im_X1_passChoice : IM q_X1_passChoice := ⟨KW.by 850 (by decide +kernel) rfl, KW.sel 27 (by decide +kernel) rfl⟩
theorem ci_X2_init : CI q_X2_init 0 := ⟨KW.by 56 (by decide +kernel) rfl, KW.by 3 (by decide +kernel) rfl, by decide +kernel, by decide +kernel⟩
theorem im_X2_init : KW (.instanceMethod q_X2_init.1) := KW.by 55 (by decide +kernel) rfl
theorem ci_X2_clear : CI q_X2_clear 0 := ⟨KW.by 434 (by decide +kernel) rfl, KW.by 3 (by decide +kernel) rfl, by decide +kernel, by decide +kernel⟩
theorem im_X2_clear : IM q_X2_clear := ⟨KW.by 432 (by decide +kernel) rfl, KW.by 433 (by decide +kernel) rfl⟩
theorem ci_X2_at : CI q_X2_at 1 := ⟨KW.by 461 (by decide +kernel) rfl, KW.by 3 (by decide +kernel) rfl, by decide +kernel, by decide +kernel⟩
theorem im_X2_at : IM q_X2_at := ⟨KW.by 459 (by decide +kernel) rfl, KW.by 460 (by decide +kernel) rfl⟩
theorem ci_X2_append : CI q_X2_append 1 := ⟨KW.by 465 (by decide +kernel) rfl, KW.by 3 (by decide +kernel) rfl, by decide +kernel, by decide +kernel⟩
theorem im_X2_append : IM q_X2_append := ⟨KW.by 463 (by decide +kernel) rfl, KW.by 464 (by decide +kernel) rfl⟩
theorem ci_X2_newCondition : CI q_X2_newCondition 3 := ⟨KW.by 516 (by decide +kernel) rfl, KW.by 3 (by decide +kernel) rfl, by decide +kernel, by decide +kernel⟩
theorem im_X2_newCondition : IM q_X2_newCondition := ⟨KW.by 514 (by decide +kernel) rfl, KW.by 515 (by decide +kernel) rfl⟩
theorem ci_X2_appendCheck : CI q_X2_appendCheck 1 := ⟨KW.by 528 (by decide +kernel) rfl, KW.by 3 (by decide +kernel) rfl, by decide +kernel, by decide +kernel⟩
theorem im_X2_appendCheck : IM q_X2_appendCheck := ⟨KW.by 526 (by decide +kernel) rfl, KW.by 527 (by decide +kernel) rfl⟩
theorem ci_X2_appendGuess : CI q_X2_appendGuess 1 := ⟨KW.by 537 (by decide +kernel) rfl, KW.by 3 (by decide +kernel) rfl, by decide +kernel, by decide +kernel⟩
theorem im_X2_appendGuess : IM q_X2_appendGuess := ⟨KW.by 535 (by decide +kernel) rfl, KW.by 536 (by decide +kernel) rfl⟩
theorem ci_X2_findTruths : CI q_X2_findTruths 0 := ⟨KW.by 545 (by decide +kernel) rfl, KW.by 3 (by decide +kernel) rfl, by decide +kernel, by decide +kernel⟩
theorem im_X2_findTruths : IM q_X2_findTruths := ⟨KW.by 543 (by decide +kernel) rfl, KW.by 544 (by decide +kernel) rfl⟩
theorem ci_X2_fulfilled : CI q_X2_fulfilled 1 := ⟨KW.by 676 (by decide +kernel) rfl, KW.by 3 (by decide +kernel) rfl, by decide +kernel, by decide +kernel⟩
theorem im_X2_fulfilled : IM q_X2_fulfilled := ⟨KW.by 674 (by decide +kernel) rfl, KW.by 675 (by decide +kernel) rfl⟩
theorem ci_X3_init : CI q_X3_init 0 := ⟨KW.by 65 (by decide +kernel) rfl, KW.by 4 (by decide +kernel) rfl, by decide +kernel, by decide +kernel⟩
theorem im_X3_init : KW (.instanceMethod q_X3_init.1) := KW.by 64 (by decide +kernel) rfl
theorem ci_X3_put : CI q_X3_put 3 := ⟨KW.by 520 (by decide +kernel) rfl, KW.by 4 (by decide +kernel) rfl, by decide +kernel, by decide +kernel⟩
theorem im_X3_put : IM q_X3_put := ⟨KW.by 518 (by decide +kernel) rfl, KW.by 519 (by decide +kernel) rfl⟩
theorem ci_X3_isTrue : CI q_X3_isTrue 3 := ⟨KW.by 557 (by decide +kernel) rfl, KW.by 4 (by decide +kernel) rfl, by decide +kernel, by decide +kernel⟩
theorem im_X3_isTrue : IM q_X3_isTrue := ⟨KW.by 555 (by decide +kernel) rfl, KW.by 556 (by decide +kernel) rfl⟩
theorem ci_X3_value : CI q_X3_value 3 := ⟨KW.by 564 (by decide +kernel) rfl, KW.by 4 (by decide +kernel) rfl, by decide +kernel, by decide +kernel⟩
theorem im_X3_value : IM q_X3_value := ⟨KW.by 562 (by decide +kernel) rfl, KW.by 563 (by decide +kernel) rfl⟩
theorem ci_X3_pick : CI q_X3_pick 4 := ⟨KW.by 560 (by decide +kernel) rfl, KW.by 4 (by decide +kernel) rfl, by decide +kernel, by decide +kernel⟩
theorem sm_X3_pick : KW (.static q_X3_pick.1) := KW.by 559 (by decide +kernel) rfl
theorem ci_X3_findTruths : CI q_X3_findTruths 0 := ⟨KW.by 549 (by decide +kernel) rfl, KW.by 4 (by decide +kernel) rfl, by decide +kernel, by decide +kernel⟩
theorem im_X3_findTruths : IM q_X3_findTruths := ⟨KW.by 547 (by decide +kernel) rfl, KW.by 548 (by decide +kernel) rfl⟩
theorem ci_X4_init : CI q_X4_init 0 := ⟨KW.by 219 (by decide +kernel) rfl, KW.by 9 (by decide +kernel) rfl, by decide +kernel, by decide +kernel⟩
theorem im_X4_init : KW (.instanceMethod q_X4_init.1) := KW.by 218 (by decide +kernel) rfl
theorem ci_X4_assign : CI q_X4_assign 2 := ⟨KW.by 620 (by decide +kernel) rfl, KW.by 9 (by decide +kernel) rfl, by decide +kernel, by decide +kernel⟩
theorem im_X4_assign : IM q_X4_assign := ⟨KW.by 618 (by decide +kernel) rfl, KW.by 619 (by decide +kernel) rfl⟩
theorem ci_X4_reach : CI q_X4_reach 2 := ⟨KW.by 685 (by decide +kernel) rfl, KW.by 9 (by decide +kernel) rfl, by decide +kernel, by decide +kernel⟩
theorem im_X4_reach : IM q_X4_reach := ⟨KW.by 683 (by decide +kernel) rfl, KW.by 684 (by decide +kernel) rfl⟩
theorem ci_X4_pass : CI q_X4_pass 3 := ⟨KW.by 630 (by decide +kernel) rfl, KW.by 9 (by decide +kernel) rfl, by decide +kernel, by decide +kernel⟩
theorem im_X4_pass : IM q_X4_pass := ⟨KW.by 628 (by decide +kernel) rfl, KW.by 629 (by decide +kernel) rfl⟩
theorem ci_X4_passSimple : CI q_X4_passSimple 1 := ⟨KW.by 656 (by decide +kernel) rfl, KW.by 9 (by decide +kernel) rfl, by decide +kernel, by decide +kernel⟩
theorem im_X4_passSimple : IM q_X4_passSimple := ⟨KW.by 655 (by decide +kernel) rfl, KW.sel 21 (by decide +kernel) rfl⟩
theorem ci_X4_passLoop : CI q_X4_passLoop 2 := ⟨KW.by 639 (by decide +kernel) rfl, KW.by 9 (by decide +kernel) rfl, by decide +kernel, by decide +kernel⟩
theorem im_X4_passLoop : IM q_X4_passLoop := ⟨KW.by 638 (by decide +kernel) rfl, KW.sel 19 (by decide +kernel) rfl⟩
theorem ci_X4_passChoice : CI q_X4_passChoice 1 := ⟨KW.by 652 (by decide +kernel) rfl, KW.by 9 (by decide +kernel) rfl, by decide +kernel, by decide +kernel⟩
theorem im_X4_passChoice : IM q_X4_passChoice := ⟨KW.by 651 (by decide +kernel) rfl, KW.sel 20 (by decide +kernel) rfl⟩
theorem ci_X5_init : CI q_X5_init 0 := ⟨KW.by 263 (by decide +kernel) rfl, KW.by 11 (by decide +kernel) rfl, by decide +kernel, by decide +kernel⟩
theorem im_X5_init : KW (.instanceMethod q_X5_init.1) := KW.by 262 (by decide +kernel) rfl
theorem ci_X5_find : CI q_X5_find 3 := ⟨KW.by 616 (by decide +kernel) rfl, KW.by 11 (by decide +kernel) rfl, by decide +kernel, by decide +kernel⟩
theorem im_X5_find : IM q_X5_find := ⟨KW.by 614 (by decide +kernel) rfl, KW.by 615 (by decide +kernel) rfl⟩
theorem ci_X5_falseGuesses : CI q_X5_falseGuesses 2 := ⟨KW.by 668 (by decide +kernel) rfl, KW.by 11 (by decide +kernel) rfl, by decide +kernel, by decide +kernel⟩
theorem im_X5_falseGuesses : IM q_X5_falseGuesses := ⟨KW.by 666 (by decide +kernel) rfl, KW.by 667 (by decide +kernel) rfl⟩
theorem ci_X6_init : CI q_X6_init 0 := ⟨KW.by 29 (by decide +kernel) rfl, KW.by 2 (by decide +kernel) rfl, by decide +kernel, by decide +kernel⟩
theorem im_X6_init : KW (.instanceMethod q_X6_init.1) := KW.by 28 (by decide +kernel) rfl
theorem ci_X6_read : CI q_X6_read 3 := ⟨KW.by 430 (by decide +kernel) rfl, KW.by 2 (by decide +kernel) rfl, by decide +kernel, by decide +kernel⟩
theorem im_X6_read : IM q_X6_read := ⟨KW.by 428 (by decide +kernel) rfl, KW.by 429 (by decide +kernel) rfl⟩
theorem ci_X6_take : CI q_X6_take 2 := ⟨KW.by 438 (by decide +kernel) rfl, KW.by 2 (by decide +kernel) rfl, by decide +kernel, by decide +kernel⟩
theorem im_X6_take : IM q_X6_take := ⟨KW.by 437 (by decide +kernel) rfl, KW.sel 1 (by decide +kernel) rfl⟩
theorem ci_X6_isName : CI q_X6_isName 1 := ⟨KW.by 445 (by decide +kernel) rfl, KW.by 2 (by decide +kernel) rfl, by decide +kernel, by decide +kernel⟩
theorem sm_X6_isName : KW (.static q_X6_isName.1) := KW.by 444 (by decide +kernel) rfl
theorem ci_X6_term : CI q_X6_term 1 := ⟨KW.by 508 (by decide +kernel) rfl, KW.by 2 (by decide +kernel) rfl, by decide +kernel, by decide +kernel⟩
theorem sm_X6_term : KW (.static q_X6_term.1) := KW.by 507 (by decide +kernel) rfl
theorem ci_X6_takeStatement : CI q_X6_takeStatement 2 := ⟨KW.by 442 (by decide +kernel) rfl, KW.by 2 (by decide +kernel) rfl, by decide +kernel, by decide +kernel⟩
theorem im_X6_takeStatement : IM q_X6_takeStatement := ⟨KW.by 441 (by decide +kernel) rfl, KW.sel 2 (by decide +kernel) rfl⟩
theorem ci_X6_beginGuess : CI q_X6_beginGuess 1 := ⟨KW.by 489 (by decide +kernel) rfl, KW.by 2 (by decide +kernel) rfl, by decide +kernel, by decide +kernel⟩
theorem im_X6_beginGuess : IM q_X6_beginGuess := ⟨KW.by 488 (by decide +kernel) rfl, KW.sel 9 (by decide +kernel) rfl⟩
theorem ci_X6_expectCondition : CI q_X6_expectCondition 1 := ⟨KW.by 449 (by decide +kernel) rfl, KW.by 2 (by decide +kernel) rfl, by decide +kernel, by decide +kernel⟩
theorem im_X6_expectCondition : IM q_X6_expectCondition := ⟨KW.by 448 (by decide +kernel) rfl, KW.sel 3 (by decide +kernel) rfl⟩
theorem ci_X6_takeOperation : CI q_X6_takeOperation 2 := ⟨KW.by 493 (by decide +kernel) rfl, KW.by 2 (by decide +kernel) rfl, by decide +kernel, by decide +kernel⟩
theorem im_X6_takeOperation : IM q_X6_takeOperation := ⟨KW.by 492 (by decide +kernel) rfl, KW.sel 10 (by decide +kernel) rfl⟩
theorem ci_X6_appendChange : CI q_X6_appendChange 2 := ⟨KW.by 497 (by decide +kernel) rfl, KW.by 2 (by decide +kernel) rfl, by decide +kernel, by decide +kernel⟩
theorem im_X6_appendChange : IM q_X6_appendChange := ⟨KW.by 496 (by decide +kernel) rfl, KW.sel 11 (by decide +kernel) rfl⟩
theorem ci_X6_takeNewValue : CI q_X6_takeNewValue 2 := ⟨KW.by 512 (by decide +kernel) rfl, KW.by 2 (by decide +kernel) rfl, by decide +kernel, by decide +kernel⟩
theorem im_X6_takeNewValue : IM q_X6_takeNewValue := ⟨KW.by 511 (by decide +kernel) rfl, KW.sel 14 (by decide +kernel) rfl⟩
theorem ci_X6_takeLeft : CI q_X6_takeLeft 1 := ⟨KW.by 501 (by decide +kernel) rfl, KW.by 2 (by decide +kernel) rfl, by decide +kernel, by decide +kernel⟩
theorem im_X6_takeLeft : IM q_X6_takeLeft := ⟨KW.by 500 (by decide +kernel) rfl, KW.sel 12 (by decide +kernel) rfl⟩
theorem ci_X6_takeSign : CI q_X6_takeSign 1 := ⟨KW.by 505 (by decide +kernel) rfl, KW.by 2 (by decide +kernel) rfl, by decide +kernel, by decide +kernel⟩
theorem im_X6_takeSign : IM q_X6_takeSign := ⟨KW.by 504 (by decide +kernel) rfl, KW.sel 13 (by decide +kernel) rfl⟩
theorem ci_X6_takeRight : CI q_X6_takeRight 2 := ⟨KW.by 524 (by decide +kernel) rfl, KW.by 2 (by decide +kernel) rfl, by decide +kernel, by decide +kernel⟩
theorem im_X6_takeRight : IM q_X6_takeRight := ⟨KW.by 523 (by decide +kernel) rfl, KW.sel 15 (by decide +kernel) rfl⟩
theorem ci_X6_openLoop : CI q_X6_openLoop 2 := ⟨KW.by 533 (by decide +kernel) rfl, KW.by 2 (by decide +kernel) rfl, by decide +kernel, by decide +kernel⟩
theorem im_X6_openLoop : IM q_X6_openLoop := ⟨KW.by 532 (by decide +kernel) rfl, KW.sel 16 (by decide +kernel) rfl⟩
theorem ci_X6_openChoice : CI q_X6_openChoice 1 := ⟨KW.by 477 (by decide +kernel) rfl, KW.by 2 (by decide +kernel) rfl, by decide +kernel, by decide +kernel⟩
theorem im_X6_openChoice : IM q_X6_openChoice := ⟨KW.by 476 (by decide +kernel) rfl, KW.sel 6 (by decide +kernel) rfl⟩
theorem ci_X6_push : CI q_X6_push 1 := ⟨KW.by 481 (by decide +kernel) rfl, KW.by 2 (by decide +kernel) rfl, by decide +kernel, by decide +kernel⟩
theorem im_X6_push : IM q_X6_push := ⟨KW.by 480 (by decide +kernel) rfl, KW.sel 7 (by decide +kernel) rfl⟩
theorem ci_X6_innermost : CI q_X6_innermost 2 := ⟨KW.by 457 (by decide +kernel) rfl, KW.by 2 (by decide +kernel) rfl, by decide +kernel, by decide +kernel⟩
theorem im_X6_innermost : IM q_X6_innermost := ⟨KW.by 456 (by decide +kernel) rfl, KW.sel 5 (by decide +kernel) rfl⟩
theorem ci_X6_closeLoop : CI q_X6_closeLoop 1 := ⟨KW.by 453 (by decide +kernel) rfl, KW.by 2 (by decide +kernel) rfl, by decide +kernel, by decide +kernel⟩
theorem im_X6_closeLoop : IM q_X6_closeLoop := ⟨KW.by 452 (by decide +kernel) rfl, KW.sel 4 (by decide +kernel) rfl⟩
theorem ci_X6_passBar : CI q_X6_passBar 3 := ⟨KW.by 485 (by decide +kernel) rfl, KW.by 2 (by decide +kernel) rfl, by decide +kernel, by decide +kernel⟩
theorem im_X6_passBar : IM q_X6_passBar := ⟨KW.by 484 (by decide +kernel) rfl, KW.sel 8 (by decide +kernel) rfl⟩
theorem ci_X7_init : CI q_X7_init 0 := ⟨KW.by 349 (by decide +kernel) rfl, KW.by 13 (by decide +kernel) rfl, by decide +kernel, by decide +kernel⟩
theorem im_X7_init : KW (.instanceMethod q_X7_init.1) := KW.by 348 (by decide +kernel) rfl
theorem ci_X7_draw : CI q_X7_draw 1 := ⟨KW.by 891 (by decide +kernel) rfl, KW.by 13 (by decide +kernel) rfl, by decide +kernel, by decide +kernel⟩
theorem im_X7_draw : IM q_X7_draw := ⟨KW.by 890 (by decide +kernel) rfl, KW.sel 29 (by decide +kernel) rfl⟩
theorem ci_X7_run : CI q_X7_run 2 := ⟨KW.by 887 (by decide +kernel) rfl, KW.by 13 (by decide +kernel) rfl, by decide +kernel, by decide +kernel⟩
theorem im_X7_run : IM q_X7_run := ⟨KW.by 885 (by decide +kernel) rfl, KW.by 886 (by decide +kernel) rfl⟩
theorem ci_X7_isTrue : CI q_X7_isTrue 1 := ⟨KW.by 899 (by decide +kernel) rfl, KW.by 13 (by decide +kernel) rfl, by decide +kernel, by decide +kernel⟩
theorem im_X7_isTrue : IM q_X7_isTrue := ⟨KW.by 898 (by decide +kernel) rfl, KW.sel 30 (by decide +kernel) rfl⟩
theorem ci_X7_change : CI q_X7_change 1 := ⟨KW.by 904 (by decide +kernel) rfl, KW.by 13 (by decide +kernel) rfl, by decide +kernel, by decide +kernel⟩
theorem im_X7_change : IM q_X7_change := ⟨KW.by 903 (by decide +kernel) rfl, KW.sel 31 (by decide +kernel) rfl⟩
theorem ci_X7_next : CI q_X7_next 2 := ⟨KW.by 911 (by decide +kernel) rfl, KW.by 13 (by decide +kernel) rfl, by decide +kernel, by decide +kernel⟩
theorem im_X7_next : IM q_X7_next := ⟨KW.by 910 (by decide +kernel) rfl, KW.sel 32 (by decide +kernel) rfl⟩
theorem ci_X8_init : CI q_X8_init 0 := ⟨KW.by 189 (by decide +kernel) rfl, KW.by 7 (by decide +kernel) rfl, by decide +kernel, by decide +kernel⟩
theorem im_X8_init : KW (.instanceMethod q_X8_init.1) := KW.by 188 (by decide +kernel) rfl
theorem ci_X8_reset : CI q_X8_reset 0 := ⟨KW.by 194 (by decide +kernel) rfl, KW.by 7 (by decide +kernel) rfl, by decide +kernel, by decide +kernel⟩
theorem im_X8_reset : IM q_X8_reset := ⟨KW.by 192 (by decide +kernel) rfl, KW.by 193 (by decide +kernel) rfl⟩
theorem ci_X8_packedStart : CI q_X8_packedStart 0 := ⟨KW.by 589 (by decide +kernel) rfl, KW.by 7 (by decide +kernel) rfl, by decide +kernel, by decide +kernel⟩
theorem im_X8_packedStart : IM q_X8_packedStart := ⟨KW.by 587 (by decide +kernel) rfl, KW.by 588 (by decide +kernel) rfl⟩
theorem ci_X8_packed : CI q_X8_packed 0 := ⟨KW.by 739 (by decide +kernel) rfl, KW.by 7 (by decide +kernel) rfl, by decide +kernel, by decide +kernel⟩
theorem im_X8_packed : IM q_X8_packed := ⟨KW.by 737 (by decide +kernel) rfl, KW.by 738 (by decide +kernel) rfl⟩
theorem ci_X8_unpack : CI q_X8_unpack 1 := ⟨KW.by 752 (by decide +kernel) rfl, KW.by 7 (by decide +kernel) rfl, by decide +kernel, by decide +kernel⟩
theorem im_X8_unpack : IM q_X8_unpack := ⟨KW.by 750 (by decide +kernel) rfl, KW.by 751 (by decide +kernel) rfl⟩
theorem ci_X8_putStart : CI q_X8_putStart 2 := ⟨KW.by 792 (by decide +kernel) rfl, KW.by 7 (by decide +kernel) rfl, by decide +kernel, by decide +kernel⟩
theorem im_X8_putStart : IM q_X8_putStart := ⟨KW.by 790 (by decide +kernel) rfl, KW.by 791 (by decide +kernel) rfl⟩
theorem ci_X8_putOff : CI q_X8_putOff 2 := ⟨KW.by 796 (by decide +kernel) rfl, KW.by 7 (by decide +kernel) rfl, by decide +kernel, by decide +kernel⟩
theorem im_X8_putOff : IM q_X8_putOff := ⟨KW.by 794 (by decide +kernel) rfl, KW.by 795 (by decide +kernel) rfl⟩
theorem ci_X8_fillIn : CI q_X8_fillIn 1 := ⟨KW.by 593 (by decide +kernel) rfl, KW.by 7 (by decide +kernel) rfl, by decide +kernel, by decide +kernel⟩
theorem im_X8_fillIn : IM q_X8_fillIn := ⟨KW.by 591 (by decide +kernel) rfl, KW.by 592 (by decide +kernel) rfl⟩
theorem ci_X9_init : CI q_X9_init 0 := ⟨KW.by 71 (by decide +kernel) rfl, KW.by 5 (by decide +kernel) rfl, by decide +kernel, by decide +kernel⟩
theorem im_X9_init : KW (.instanceMethod q_X9_init.1) := KW.by 70 (by decide +kernel) rfl
theorem ci_X9_row3 : CI q_X9_row3 1 := ⟨KW.by 225 (by decide +kernel) rfl, KW.by 5 (by decide +kernel) rfl, by decide +kernel, by decide +kernel⟩
theorem sm_X9_row3 : KW (.static q_X9_row3.1) := KW.by 224 (by decide +kernel) rfl
theorem ci_X9_row4 : CI q_X9_row4 1 := ⟨KW.by 225 (by decide +kernel) rfl, KW.by 5 (by decide +kernel) rfl, by decide +kernel, by decide +kernel⟩
theorem sm_X9_row4 : KW (.static q_X9_row4.1) := KW.by 224 (by decide +kernel) rfl
theorem ci_X9_clear : CI q_X9_clear 0 := ⟨KW.by 553 (by decide +kernel) rfl, KW.by 5 (by decide +kernel) rfl, by decide +kernel, by decide +kernel⟩
theorem im_X9_clear : IM q_X9_clear := ⟨KW.by 551 (by decide +kernel) rfl, KW.by 552 (by decide +kernel) rfl⟩
theorem ci_X9_fill : CI q_X9_fill 0 := ⟨KW.by 597 (by decide +kernel) rfl, KW.by 5 (by decide +kernel) rfl, by decide +kernel, by decide +kernel⟩
theorem im_X9_fill : IM q_X9_fill := ⟨KW.by 595 (by decide +kernel) rfl, KW.by 596 (by decide +kernel) rfl⟩
theorem ci_X9_copy : CI q_X9_copy 1 := ⟨KW.by 634 (by decide +kernel) rfl, KW.by 5 (by decide +kernel) rfl, by decide +kernel, by decide +kernel⟩
theorem im_X9_copy : IM q_X9_copy := ⟨KW.by 632 (by decide +kernel) rfl, KW.by 633 (by decide +kernel) rfl⟩
theorem ci_X9_unite : CI q_X9_unite 1 := ⟨KW.by 643 (by decide +kernel) rfl, KW.by 5 (by decide +kernel) rfl, by decide +kernel, by decide +kernel⟩
theorem im_X9_unite : IM q_X9_unite := ⟨KW.by 641 (by decide +kernel) rfl, KW.by 642 (by decide +kernel) rfl⟩
theorem ci_X9_meet : CI q_X9_meet 1 := ⟨KW.by 626 (by decide +kernel) rfl, KW.by 5 (by decide +kernel) rfl, by decide +kernel, by decide +kernel⟩
theorem im_X9_meet : IM q_X9_meet := ⟨KW.by 624 (by decide +kernel) rfl, KW.by 625 (by decide +kernel) rfl⟩
theorem ci_X9_remove : CI q_X9_remove 1 := ⟨KW.by 648 (by decide +kernel) rfl, KW.by 5 (by decide +kernel) rfl, by decide +kernel, by decide +kernel⟩
theorem im_X9_remove : IM q_X9_remove := ⟨KW.by 646 (by decide +kernel) rfl, KW.by 647 (by decide +kernel) rfl⟩
theorem ci_X9_addMissing : CI q_X9_addMissing 1 := ⟨KW.by 861 (by decide +kernel) rfl, KW.by 5 (by decide +kernel) rfl, by decide +kernel, by decide +kernel⟩
theorem im_X9_addMissing : IM q_X9_addMissing := ⟨KW.by 859 (by decide +kernel) rfl, KW.by 860 (by decide +kernel) rfl⟩
theorem ci_X9_count : CI q_X9_count 0 := ⟨KW.by 695 (by decide +kernel) rfl, KW.by 5 (by decide +kernel) rfl, by decide +kernel, by decide +kernel⟩
theorem im_X9_count : IM q_X9_count := ⟨KW.by 693 (by decide +kernel) rfl, KW.by 694 (by decide +kernel) rfl⟩
theorem ci_X9_smallest : CI q_X9_smallest 0 := ⟨KW.by 868 (by decide +kernel) rfl, KW.by 5 (by decide +kernel) rfl, by decide +kernel, by decide +kernel⟩
theorem im_X9_smallest : IM q_X9_smallest := ⟨KW.by 866 (by decide +kernel) rfl, KW.by 867 (by decide +kernel) rfl⟩
theorem ci_X9_smallestOutside : CI q_X9_smallestOutside 1 := ⟨KW.by 713 (by decide +kernel) rfl, KW.by 5 (by decide +kernel) rfl, by decide +kernel, by decide +kernel⟩
theorem im_X9_smallestOutside : IM q_X9_smallestOutside := ⟨KW.by 711 (by decide +kernel) rfl, KW.by 712 (by decide +kernel) rfl⟩
theorem ci_X9_number : CI q_X9_number 2 := ⟨KW.by 716 (by decide +kernel) rfl, KW.by 5 (by decide +kernel) rfl, by decide +kernel, by decide +kernel⟩
theorem sm_X9_number : KW (.static q_X9_number.1) := KW.by 715 (by decide +kernel) rfl
theorem ci_X9_isWithin : CI q_X9_isWithin 1 := ⟨KW.by 672 (by decide +kernel) rfl, KW.by 5 (by decide +kernel) rfl, by decide +kernel, by decide +kernel⟩
theorem im_X9_isWithin : IM q_X9_isWithin := ⟨KW.by 670 (by decide +kernel) rfl, KW.by 671 (by decide +kernel) rfl⟩
theorem ci_X9_isState : CI q_X9_isState 3 := ⟨KW.by 571 (by decide +kernel) rfl, KW.by 5 (by decide +kernel) rfl, by decide +kernel, by decide +kernel⟩
theorem sm_X9_isState : KW (.static q_X9_isState.1) := KW.by 570 (by decide +kernel) rfl
theorem ci_X9_has : CI q_X9_has 3 := ⟨KW.by 788 (by decide +kernel) rfl, KW.by 5 (by decide +kernel) rfl, by decide +kernel, by decide +kernel⟩
theorem im_X9_has : IM q_X9_has := ⟨KW.by 786 (by decide +kernel) rfl, KW.by 787 (by decide +kernel) rfl⟩
theorem ci_X9_add : CI q_X9_add 3 := ⟨KW.by 568 (by decide +kernel) rfl, KW.by 5 (by decide +kernel) rfl, by decide +kernel, by decide +kernel⟩
theorem im_X9_add : IM q_X9_add := ⟨KW.by 566 (by decide +kernel) rfl, KW.by 567 (by decide +kernel) rfl⟩
theorem ci_X9_meetValue : CI q_X9_meetValue 2 := ⟨KW.by 602 (by decide +kernel) rfl, KW.by 5 (by decide +kernel) rfl, by decide +kernel, by decide +kernel⟩
theorem im_X9_meetValue : IM q_X9_meetValue := ⟨KW.by 600 (by decide +kernel) rfl, KW.by 601 (by decide +kernel) rfl⟩
theorem ci_X9_free : CI q_X9_free 1 := ⟨KW.by 660 (by decide +kernel) rfl, KW.by 5 (by decide +kernel) rfl, by decide +kernel, by decide +kernel⟩
theorem im_X9_free : IM q_X9_free := ⟨KW.by 658 (by decide +kernel) rfl, KW.by 659 (by decide +kernel) rfl⟩
theorem ci_X9_shift : CI q_X9_shift 3 := ⟨KW.by 664 (by decide +kernel) rfl, KW.by 5 (by decide +kernel) rfl, by decide +kernel, by decide +kernel⟩
theorem im_X9_shift : IM q_X9_shift := ⟨KW.by 662 (by decide +kernel) rfl, KW.by 663 (by decide +kernel) rfl⟩
theorem ci_X10_init : CI q_X10_init 1 := ⟨KW.by 99 (by decide +kernel) rfl, KW.by 6 (by decide +kernel) rfl, by decide +kernel, by decide +kernel⟩
theorem im_X10_init : KW (.instanceMethod q_X10_init.1) := KW.by 98 (by decide +kernel) rfl
theorem ci_X10_isStatement : CI q_X10_isStatement 0 := ⟨KW.by 473 (by decide +kernel) rfl, KW.by 6 (by decide +kernel) rfl, by decide +kernel, by decide +kernel⟩
theorem im_X10_isStatement : IM q_X10_isStatement := ⟨KW.by 471 (by decide +kernel) rfl, KW.by 472 (by decide +kernel) rfl⟩
theorem ci_X11_init : CI q_X11_init 0 := ⟨KW.by 21 (by decide +kernel) rfl, KW.by 1 (by decide +kernel) rfl, by decide +kernel, by decide +kernel⟩
theorem im_X11_init : KW (.instanceMethod q_X11_init.1) := KW.by 20 (by decide +kernel) rfl
theorem ci_X11_write : CI q_X11_write 1 := ⟨KW.by 418 (by decide +kernel) rfl, KW.by 1 (by decide +kernel) rfl, by decide +kernel, by decide +kernel⟩
theorem im_X11_write : IM q_X11_write := ⟨KW.by 416 (by decide +kernel) rfl, KW.by 417 (by decide +kernel) rfl⟩
theorem ci_X11_wipe : CI q_X11_wipe 0 := ⟨KW.by 422 (by decide +kernel) rfl, KW.by 1 (by decide +kernel) rfl, by decide +kernel, by decide +kernel⟩
theorem im_X11_wipe : IM q_X11_wipe := ⟨KW.by 420 (by decide +kernel) rfl, KW.by 421 (by decide +kernel) rfl⟩
theorem ci_X11_fault : CI q_X11_fault 0 := ⟨KW.by 426 (by decide +kernel) rfl, KW.by 1 (by decide +kernel) rfl, by decide +kernel, by decide +kernel⟩
theorem im_X11_fault : IM q_X11_fault := ⟨KW.by 424 (by decide +kernel) rfl, KW.by 425 (by decide +kernel) rfl⟩
theorem ci_X11_program : CI q_X11_program 0 := ⟨KW.by 541 (by decide +kernel) rfl, KW.by 1 (by decide +kernel) rfl, by decide +kernel, by decide +kernel⟩
theorem im_X11_program : IM q_X11_program := ⟨KW.by 539 (by decide +kernel) rfl, KW.by 540 (by decide +kernel) rfl⟩
theorem ci_X11_emptySlots : CI q_X11_emptySlots 0 := ⟨KW.by 362 (by decide +kernel) rfl, KW.by 1 (by decide +kernel) rfl, by decide +kernel, by decide +kernel⟩
theorem im_X11_emptySlots : IM q_X11_emptySlots := ⟨KW.by 361 (by decide +kernel) rfl, KW.sel 0 (by decide +kernel) rfl⟩
theorem ci_X11_about : CI q_X11_about 1 := ⟨KW.by 577 (by decide +kernel) rfl, KW.by 1 (by decide +kernel) rfl, by decide +kernel, by decide +kernel⟩
theorem im_X11_about : IM q_X11_about := ⟨KW.by 575 (by decide +kernel) rfl, KW.by 576 (by decide +kernel) rfl⟩
theorem ci_X11_loop : CI q_X11_loop 2 := ⟨KW.by 705 (by decide +kernel) rfl, KW.by 1 (by decide +kernel) rfl, by decide +kernel, by decide +kernel⟩
theorem im_X11_loop : IM q_X11_loop := ⟨KW.by 703 (by decide +kernel) rfl, KW.by 704 (by decide +kernel) rfl⟩
theorem ci_X11_check : CI q_X11_check 2 := ⟨KW.by 709 (by decide +kernel) rfl, KW.by 1 (by decide +kernel) rfl, by decide +kernel, by decide +kernel⟩
theorem im_X11_check : IM q_X11_check := ⟨KW.by 707 (by decide +kernel) rfl, KW.by 708 (by decide +kernel) rfl⟩
theorem ci_X11_start : CI q_X11_start 1 := ⟨KW.by 727 (by decide +kernel) rfl, KW.by 1 (by decide +kernel) rfl, by decide +kernel, by decide +kernel⟩
theorem im_X11_start : IM q_X11_start := ⟨KW.by 725 (by decide +kernel) rfl, KW.by 726 (by decide +kernel) rfl⟩
theorem ci_X11_begin : CI q_X11_begin 2 := ⟨KW.by 731 (by decide +kernel) rfl, KW.by 1 (by decide +kernel) rfl, by decide +kernel, by decide +kernel⟩
theorem im_X11_begin : IM q_X11_begin := ⟨KW.by 729 (by decide +kernel) rfl, KW.by 730 (by decide +kernel) rfl⟩
theorem ci_X11_turn : CI q_X11_turn 1 := ⟨KW.by 744 (by decide +kernel) rfl, KW.by 1 (by decide +kernel) rfl, by decide +kernel, by decide +kernel⟩
theorem im_X11_turn : IM q_X11_turn := ⟨KW.by 742 (by decide +kernel) rfl, KW.by 743 (by decide +kernel) rfl⟩
theorem ci_X11_remember : CI q_X11_remember 0 := ⟨KW.by 735 (by decide +kernel) rfl, KW.by 1 (by decide +kernel) rfl, by decide +kernel, by decide +kernel⟩
theorem im_X11_remember : IM q_X11_remember := ⟨KW.by 734 (by decide +kernel) rfl, KW.sel 22 (by decide +kernel) rfl⟩
theorem ci_X11_undo : CI q_X11_undo 0 := ⟨KW.by 748 (by decide +kernel) rfl, KW.by 1 (by decide +kernel) rfl, by decide +kernel, by decide +kernel⟩
theorem im_X11_undo : IM q_X11_undo := ⟨KW.by 746 (by decide +kernel) rfl, KW.by 747 (by decide +kernel) rfl⟩
theorem ci_X11_falls : CI q_X11_falls 2 := ⟨KW.by 756 (by decide +kernel) rfl, KW.by 1 (by decide +kernel) rfl, by decide +kernel, by decide +kernel⟩
theorem im_X11_falls : IM q_X11_falls := ⟨KW.by 754 (by decide +kernel) rfl, KW.by 755 (by decide +kernel) rfl⟩
theorem ci_X11_fewest : CI q_X11_fewest 1 := ⟨KW.by 769 (by decide +kernel) rfl, KW.by 1 (by decide +kernel) rfl, by decide +kernel, by decide +kernel⟩
theorem im_X11_fewest : IM q_X11_fewest := ⟨KW.by 767 (by decide +kernel) rfl, KW.by 768 (by decide +kernel) rfl⟩
theorem ci_X11_judge : CI q_X11_judge 2 := ⟨KW.by 779 (by decide +kernel) rfl, KW.by 1 (by decide +kernel) rfl, by decide +kernel, by decide +kernel⟩
theorem im_X11_judge : IM q_X11_judge := ⟨KW.by 777 (by decide +kernel) rfl, KW.by 778 (by decide +kernel) rfl⟩
theorem ci_X11_stands : CI q_X11_stands 4 := ⟨KW.by 784 (by decide +kernel) rfl, KW.by 1 (by decide +kernel) rfl, by decide +kernel, by decide +kernel⟩
theorem im_X11_stands : IM q_X11_stands := ⟨KW.by 783 (by decide +kernel) rfl, KW.sel 23 (by decide +kernel) rfl⟩
theorem ci_X11_share : CI q_X11_share 2 := ⟨KW.by 800 (by decide +kernel) rfl, KW.by 1 (by decide +kernel) rfl, by decide +kernel, by decide +kernel⟩
theorem im_X11_share : IM q_X11_share := ⟨KW.by 798 (by decide +kernel) rfl, KW.by 799 (by decide +kernel) rfl⟩
theorem ci_X11_factorial : CI q_X11_factorial 1 := ⟨KW.by 803 (by decide +kernel) rfl, KW.by 1 (by decide +kernel) rfl, by decide +kernel, by decide +kernel⟩
theorem sm_X11_factorial : KW (.static q_X11_factorial.1) := KW.by 802 (by decide +kernel) rfl
theorem ci_X11_part : CI q_X11_part 3 := ⟨KW.by 808 (by decide +kernel) rfl, KW.by 1 (by decide +kernel) rfl, by decide +kernel, by decide +kernel⟩
theorem sm_X11_part : KW (.static q_X11_part.1) := KW.by 807 (by decide +kernel) rfl
theorem ci_X11_see : CI q_X11_see 2 := ⟨KW.by 812 (by decide +kernel) rfl, KW.by 1 (by decide +kernel) rfl, by decide +kernel, by decide +kernel⟩
theorem im_X11_see : IM q_X11_see := ⟨KW.by 810 (by decide +kernel) rfl, KW.by 811 (by decide +kernel) rfl⟩
theorem ci_X11_unsee : CI q_X11_unsee 0 := ⟨KW.by 816 (by decide +kernel) rfl, KW.by 1 (by decide +kernel) rfl, by decide +kernel, by decide +kernel⟩
theorem im_X11_unsee : IM q_X11_unsee := ⟨KW.by 814 (by decide +kernel) rfl, KW.by 815 (by decide +kernel) rfl⟩
theorem ci_X11_which : CI q_X11_which 1 := ⟨KW.by 820 (by decide +kernel) rfl, KW.by 1 (by decide +kernel) rfl, by decide +kernel, by decide +kernel⟩
theorem im_X11_which : IM q_X11_which := ⟨KW.by 818 (by decide +kernel) rfl, KW.by 819 (by decide +kernel) rfl⟩
theorem ci_X11_findAgreeing : CI q_X11_findAgreeing 0 := ⟨KW.by 824 (by decide +kernel) rfl, KW.by 1 (by decide +kernel) rfl, by decide +kernel, by decide +kernel⟩
theorem im_X11_findAgreeing : IM q_X11_findAgreeing := ⟨KW.by 823 (by decide +kernel) rfl, KW.sel 24 (by decide +kernel) rfl⟩
theorem ci_X11_lost : CI q_X11_lost 2 := ⟨KW.by 872 (by decide +kernel) rfl, KW.by 1 (by decide +kernel) rfl, by decide +kernel, by decide +kernel⟩
theorem im_X11_lost : IM q_X11_lost := ⟨KW.by 870 (by decide +kernel) rfl, KW.by 871 (by decide +kernel) rfl⟩
theorem ci_X11_power : CI q_X11_power 2 := ⟨KW.by 875 (by decide +kernel) rfl, KW.by 1 (by decide +kernel) rfl, by decide +kernel, by decide +kernel⟩
theorem sm_X11_power : KW (.static q_X11_power.1) := KW.by 874 (by decide +kernel) rfl
theorem ci_X11_seed : CI q_X11_seed 1 := ⟨KW.by 879 (by decide +kernel) rfl, KW.by 1 (by decide +kernel) rfl, by decide +kernel, by decide +kernel⟩
theorem im_X11_seed : IM q_X11_seed := ⟨KW.by 877 (by decide +kernel) rfl, KW.by 878 (by decide +kernel) rfl⟩
theorem ci_X11_drawn : CI q_X11_drawn 1 := ⟨KW.by 883 (by decide +kernel) rfl, KW.by 1 (by decide +kernel) rfl, by decide +kernel, by decide +kernel⟩
theorem im_X11_drawn : IM q_X11_drawn := ⟨KW.by 881 (by decide +kernel) rfl, KW.by 882 (by decide +kernel) rfl⟩
theorem ci_X11_keep : CI q_X11_keep 1 := ⟨KW.by 915 (by decide +kernel) rfl, KW.by 1 (by decide +kernel) rfl, by decide +kernel, by decide +kernel⟩
theorem im_X11_keep : IM q_X11_keep := ⟨KW.by 913 (by decide +kernel) rfl, KW.by 914 (by decide +kernel) rfl⟩
theorem ci_X11_again : CI q_X11_again 1 := ⟨KW.by 919 (by decide +kernel) rfl, KW.by 1 (by decide +kernel) rfl, by decide +kernel, by decide +kernel⟩
theorem im_X11_again : IM q_X11_again := ⟨KW.by 917 (by decide +kernel) rfl, KW.by 918 (by decide +kernel) rfl⟩
theorem ci_X11_active : CI q_X11_active 1 := ⟨KW.by 608 (by decide +kernel) rfl, KW.by 1 (by decide +kernel) rfl, by decide +kernel, by decide +kernel⟩
theorem im_X11_active : IM q_X11_active := ⟨KW.by 607 (by decide +kernel) rfl, KW.sel 18 (by decide +kernel) rfl⟩
theorem ci_X11_view : CI q_X11_view 1 := ⟨KW.by 581 (by decide +kernel) rfl, KW.by 1 (by decide +kernel) rfl, by decide +kernel, by decide +kernel⟩
theorem im_X11_view : IM q_X11_view := ⟨KW.by 580 (by decide +kernel) rfl, KW.sel 17 (by decide +kernel) rfl⟩
theorem ci_X12_init : CI q_X12_init 0 := ⟨KW.by 924 (by decide +kernel) rfl, KW.by 14 (by decide +kernel) rfl, by decide +kernel, by decide +kernel⟩
theorem im_X12_init : KW (.instanceMethod q_X12_init.1) := KW.by 923 (by decide +kernel) rfl
theorem ci_X12_in : CI q_X12_in 3 := ⟨KW.by 1088 (by decide +kernel) rfl, KW.by 14 (by decide +kernel) rfl, by decide +kernel, by decide +kernel⟩
theorem sm_X12_in : KW (.static q_X12_in.1) := KW.by 1087 (by decide +kernel) rfl
theorem ci_X12_isIn : CI q_X12_isIn 2 := ⟨KW.by 1213 (by decide +kernel) rfl, KW.by 14 (by decide +kernel) rfl, by decide +kernel, by decide +kernel⟩
theorem sm_X12_isIn : KW (.static q_X12_isIn.1) := KW.by 1212 (by decide +kernel) rfl
theorem ci_X12_ones : CI q_X12_ones 1 := ⟨KW.by 1323 (by decide +kernel) rfl, KW.by 14 (by decide +kernel) rfl, by decide +kernel, by decide +kernel⟩
theorem sm_X12_ones : KW (.static q_X12_ones.1) := KW.by 1322 (by decide +kernel) rfl
theorem ci_X12_power : CI q_X12_power 2 := ⟨KW.by 1396 (by decide +kernel) rfl, KW.by 14 (by decide +kernel) rfl, by decide +kernel, by decide +kernel⟩
theorem sm_X12_power : KW (.static q_X12_power.1) := KW.by 1395 (by decide +kernel) rfl
theorem ci_X12_factorial : CI q_X12_factorial 1 := ⟨KW.by 1356 (by decide +kernel) rfl, KW.by 14 (by decide +kernel) rfl, by decide +kernel, by decide +kernel⟩
theorem sm_X12_factorial : KW (.static q_X12_factorial.1) := KW.by 1355 (by decide +kernel) rfl
theorem ci_X12_divisor : CI q_X12_divisor 2 := ⟨KW.by 1362 (by decide +kernel) rfl, KW.by 14 (by decide +kernel) rfl, by decide +kernel, by decide +kernel⟩
theorem sm_X12_divisor : KW (.static q_X12_divisor.1) := KW.by 1361 (by decide +kernel) rfl
theorem ci_X12_fraction : CI q_X12_fraction 3 := ⟨KW.by 1359 (by decide +kernel) rfl, KW.by 14 (by decide +kernel) rfl, by decide +kernel, by decide +kernel⟩
theorem sm_X12_fraction : KW (.static q_X12_fraction.1) := KW.by 1358 (by decide +kernel) rfl
theorem ci_X12_write : CI q_X12_write 1 := ⟨KW.by 1084 (by decide +kernel) rfl, KW.by 14 (by decide +kernel) rfl, by decide +kernel, by decide +kernel⟩
theorem im_X12_write : IM q_X12_write := ⟨KW.by 1082 (by decide +kernel) rfl, KW.by 1083 (by decide +kernel) rfl⟩
theorem ci_X12_wipe : CI q_X12_wipe 0 := ⟨KW.by 1092 (by decide +kernel) rfl, KW.by 14 (by decide +kernel) rfl, by decide +kernel, by decide +kernel⟩
theorem im_X12_wipe : IM q_X12_wipe := ⟨KW.by 1090 (by decide +kernel) rfl, KW.by 1091 (by decide +kernel) rfl⟩
theorem ci_X12_variableOf : CI q_X12_variableOf 1 := ⟨KW.by 1111 (by decide +kernel) rfl, KW.by 14 (by decide +kernel) rfl, by decide +kernel, by decide +kernel⟩
theorem sm_X12_variableOf : KW (.static q_X12_variableOf.1) := KW.by 1110 (by decide +kernel) rfl
theorem ci_X12_termOf : CI q_X12_termOf 1 := ⟨KW.by 1152 (by decide +kernel) rfl, KW.by 14 (by decide +kernel) rfl, by decide +kernel, by decide +kernel⟩
theorem sm_X12_termOf : KW (.static q_X12_termOf.1) := KW.by 1151 (by decide +kernel) rfl
theorem ci_X12_isCompare : CI q_X12_isCompare 1 := ⟨KW.by 1161 (by decide +kernel) rfl, KW.by 14 (by decide +kernel) rfl, by decide +kernel, by decide +kernel⟩
theorem sm_X12_isCompare : KW (.static q_X12_isCompare.1) := KW.by 1160 (by decide +kernel) rfl
theorem ci_X12_newNode : CI q_X12_newNode 1 := ⟨KW.by 1117 (by decide +kernel) rfl, KW.by 14 (by decide +kernel) rfl, by decide +kernel, by decide +kernel⟩
theorem im_X12_newNode : IM q_X12_newNode := ⟨KW.by 1116 (by decide +kernel) rfl, KW.sel 36 (by decide +kernel) rfl⟩
theorem ci_X12_innermost : CI q_X12_innermost 0 := ⟨KW.by 1129 (by decide +kernel) rfl, KW.by 14 (by decide +kernel) rfl, by decide +kernel, by decide +kernel⟩
theorem im_X12_innermost : IM q_X12_innermost := ⟨KW.by 1128 (by decide +kernel) rfl, KW.sel 39 (by decide +kernel) rfl⟩
theorem ci_X12_takeStatement : CI q_X12_takeStatement 1 := ⟨KW.by 1108 (by decide +kernel) rfl, KW.by 14 (by decide +kernel) rfl, by decide +kernel, by decide +kernel⟩
theorem im_X12_takeStatement : IM q_X12_takeStatement := ⟨KW.by 1107 (by decide +kernel) rfl, KW.sel 35 (by decide +kernel) rfl⟩
theorem ci_X12_takeAsking : CI q_X12_takeAsking 1 := ⟨KW.by 1121 (by decide +kernel) rfl, KW.by 14 (by decide +kernel) rfl, by decide +kernel, by decide +kernel⟩
theorem im_X12_takeAsking : IM q_X12_takeAsking := ⟨KW.by 1120 (by decide +kernel) rfl, KW.sel 37 (by decide +kernel) rfl⟩
theorem ci_X12_takeEither : CI q_X12_takeEither 0 := ⟨KW.by 1125 (by decide +kernel) rfl, KW.by 14 (by decide +kernel) rfl, by decide +kernel, by decide +kernel⟩
theorem im_X12_takeEither : IM q_X12_takeEither := ⟨KW.by 1124 (by decide +kernel) rfl, KW.sel 38 (by decide +kernel) rfl⟩
theorem ci_X12_takeClose : CI q_X12_takeClose 0 := ⟨KW.by 1133 (by decide +kernel) rfl, KW.by 14 (by decide +kernel) rfl, by decide +kernel, by decide +kernel⟩
theorem im_X12_takeClose : IM q_X12_takeClose := ⟨KW.by 1132 (by decide +kernel) rfl, KW.sel 40 (by decide +kernel) rfl⟩
theorem ci_X12_takeBar : CI q_X12_takeBar 0 := ⟨KW.by 1137 (by decide +kernel) rfl, KW.by 14 (by decide +kernel) rfl, by decide +kernel, by decide +kernel⟩
theorem im_X12_takeBar : IM q_X12_takeBar := ⟨KW.by 1136 (by decide +kernel) rfl, KW.sel 41 (by decide +kernel) rfl⟩
theorem ci_X12_takeJoin : CI q_X12_takeJoin 0 := ⟨KW.by 1141 (by decide +kernel) rfl, KW.by 14 (by decide +kernel) rfl, by decide +kernel, by decide +kernel⟩
theorem im_X12_takeJoin : IM q_X12_takeJoin := ⟨KW.by 1140 (by decide +kernel) rfl, KW.sel 42 (by decide +kernel) rfl⟩
theorem ci_X12_takeGuess : CI q_X12_takeGuess 0 := ⟨KW.by 1145 (by decide +kernel) rfl, KW.by 14 (by decide +kernel) rfl, by decide +kernel, by decide +kernel⟩
theorem im_X12_takeGuess : IM q_X12_takeGuess := ⟨KW.by 1144 (by decide +kernel) rfl, KW.sel 43 (by decide +kernel) rfl⟩
theorem ci_X12_takeDeed : CI q_X12_takeDeed 1 := ⟨KW.by 1149 (by decide +kernel) rfl, KW.by 14 (by decide +kernel) rfl, by decide +kernel, by decide +kernel⟩
theorem im_X12_takeDeed : IM q_X12_takeDeed := ⟨KW.by 1148 (by decide +kernel) rfl, KW.sel 44 (by decide +kernel) rfl⟩
theorem ci_X12_takePart : CI q_X12_takePart 2 := ⟨KW.by 1158 (by decide +kernel) rfl, KW.by 14 (by decide +kernel) rfl, by decide +kernel, by decide +kernel⟩
theorem im_X12_takePart : IM q_X12_takePart := ⟨KW.by 1157 (by decide +kernel) rfl, KW.sel 45 (by decide +kernel) rfl⟩
theorem ci_X12_take : CI q_X12_take 1 := ⟨KW.by 1104 (by decide +kernel) rfl, KW.by 14 (by decide +kernel) rfl, by decide +kernel, by decide +kernel⟩
theorem im_X12_take : IM q_X12_take := ⟨KW.by 1103 (by decide +kernel) rfl, KW.sel 34 (by decide +kernel) rfl⟩
theorem ci_X12_readText : CI q_X12_readText 0 := ⟨KW.by 1100 (by decide +kernel) rfl, KW.by 14 (by decide +kernel) rfl, by decide +kernel, by decide +kernel⟩
theorem im_X12_readText : IM q_X12_readText := ⟨KW.by 1099 (by decide +kernel) rfl, KW.sel 33 (by decide +kernel) rfl⟩
theorem ci_X12_fault : CI q_X12_fault 0 := ⟨KW.by 1096 (by decide +kernel) rfl, KW.by 14 (by decide +kernel) rfl, by decide +kernel, by decide +kernel⟩
theorem im_X12_fault : IM q_X12_fault := ⟨KW.by 1094 (by decide +kernel) rfl, KW.by 1095 (by decide +kernel) rfl⟩
theorem ci_X12_program : CI q_X12_program 0 := ⟨KW.by 1165 (by decide +kernel) rfl, KW.by 14 (by decide +kernel) rfl, by decide +kernel, by decide +kernel⟩
theorem im_X12_program : IM q_X12_program := ⟨KW.by 1163 (by decide +kernel) rfl, KW.by 1164 (by decide +kernel) rfl⟩
theorem ci_X12_isStatement : CI q_X12_isStatement 1 := ⟨KW.by 1168 (by decide +kernel) rfl, KW.by 14 (by decide +kernel) rfl, by decide +kernel, by decide +kernel⟩
theorem sm_X12_isStatement : KW (.static q_X12_isStatement.1) := KW.by 1167 (by decide +kernel) rfl
theorem ci_X12_valueOf : CI q_X12_valueOf 2 := ⟨KW.by 1198 (by decide +kernel) rfl, KW.by 14 (by decide +kernel) rfl, by decide +kernel, by decide +kernel⟩
theorem sm_X12_valueOf : KW (.static q_X12_valueOf.1) := KW.by 1197 (by decide +kernel) rfl
theorem ci_X12_with : CI q_X12_with 3 := ⟨KW.by 1234 (by decide +kernel) rfl, KW.by 14 (by decide +kernel) rfl, by decide +kernel, by decide +kernel⟩
theorem sm_X12_with : KW (.static q_X12_with.1) := KW.by 1233 (by decide +kernel) rfl
theorem ci_X12_told : CI q_X12_told 1 := ⟨KW.by 1261 (by decide +kernel) rfl, KW.by 14 (by decide +kernel) rfl, by decide +kernel, by decide +kernel⟩
theorem sm_X12_told : KW (.static q_X12_told.1) := KW.by 1260 (by decide +kernel) rfl
theorem ci_X12_termBy : CI q_X12_termBy 2 := ⟨KW.by 1223 (by decide +kernel) rfl, KW.by 14 (by decide +kernel) rfl, by decide +kernel, by decide +kernel⟩
theorem sm_X12_termBy : KW (.static q_X12_termBy.1) := KW.by 1222 (by decide +kernel) rfl
theorem ci_X12_compares : CI q_X12_compares 4 := ⟨KW.by 1220 (by decide +kernel) rfl, KW.by 14 (by decide +kernel) rfl, by decide +kernel, by decide +kernel⟩
theorem sm_X12_compares : KW (.static q_X12_compares.1) := KW.by 1219 (by decide +kernel) rfl
theorem ci_X12_isSo : CI q_X12_isSo 2 := ⟨KW.by 1238 (by decide +kernel) rfl, KW.by 14 (by decide +kernel) rfl, by decide +kernel, by decide +kernel⟩
theorem im_X12_isSo : IM q_X12_isSo := ⟨KW.by 1237 (by decide +kernel) rfl, KW.sel 57 (by decide +kernel) rfl⟩
theorem ci_X12_isGuessed : CI q_X12_isGuessed 2 := ⟨KW.by 1217 (by decide +kernel) rfl, KW.by 14 (by decide +kernel) rfl, by decide +kernel, by decide +kernel⟩
theorem im_X12_isGuessed : IM q_X12_isGuessed := ⟨KW.by 1216 (by decide +kernel) rfl, KW.sel 54 (by decide +kernel) rfl⟩
theorem ci_X12_areGuessed : CI q_X12_areGuessed 2 := ⟨KW.by 1210 (by decide +kernel) rfl, KW.by 14 (by decide +kernel) rfl, by decide +kernel, by decide +kernel⟩
theorem im_X12_areGuessed : IM q_X12_areGuessed := ⟨KW.by 1209 (by decide +kernel) rfl, KW.sel 53 (by decide +kernel) rfl⟩
theorem ci_X12_mayBegin : CI q_X12_mayBegin 2 := ⟨KW.by 1195 (by decide +kernel) rfl, KW.by 14 (by decide +kernel) rfl, by decide +kernel, by decide +kernel⟩
theorem sm_X12_mayBegin : KW (.static q_X12_mayBegin.1) := KW.by 1194 (by decide +kernel) rfl
theorem ci_X12_done : CI q_X12_done 3 := ⟨KW.by 1231 (by decide +kernel) rfl, KW.by 14 (by decide +kernel) rfl, by decide +kernel, by decide +kernel⟩
theorem im_X12_done : IM q_X12_done := ⟨KW.by 1230 (by decide +kernel) rfl, KW.sel 56 (by decide +kernel) rfl⟩
theorem ci_X12_isThere : CI q_X12_isThere 2 := ⟨KW.by 1206 (by decide +kernel) rfl, KW.by 14 (by decide +kernel) rfl, by decide +kernel, by decide +kernel⟩
theorem im_X12_isThere : IM q_X12_isThere := ⟨KW.by 1205 (by decide +kernel) rfl, KW.sel 52 (by decide +kernel) rfl⟩
theorem ci_X12_put : CI q_X12_put 2 := ⟨KW.by 1202 (by decide +kernel) rfl, KW.by 14 (by decide +kernel) rfl, by decide +kernel, by decide +kernel⟩
theorem im_X12_put : IM q_X12_put := ⟨KW.by 1201 (by decide +kernel) rfl, KW.sel 51 (by decide +kernel) rfl⟩
theorem ci_X12_manyAt : CI q_X12_manyAt 1 := ⟨KW.by 1273 (by decide +kernel) rfl, KW.by 14 (by decide +kernel) rfl, by decide +kernel, by decide +kernel⟩
theorem im_X12_manyAt : IM q_X12_manyAt := ⟨KW.by 1272 (by decide +kernel) rfl, KW.sel 65 (by decide +kernel) rfl⟩
theorem ci_X12_goOn : CI q_X12_goOn 2 := ⟨KW.by 1227 (by decide +kernel) rfl, KW.by 14 (by decide +kernel) rfl, by decide +kernel, by decide +kernel⟩
theorem im_X12_goOn : IM q_X12_goOn := ⟨KW.by 1226 (by decide +kernel) rfl, KW.sel 55 (by decide +kernel) rfl⟩
theorem ci_X12_beginAt : CI q_X12_beginAt 1 := ⟨KW.by 1192 (by decide +kernel) rfl, KW.by 14 (by decide +kernel) rfl, by decide +kernel, by decide +kernel⟩
theorem im_X12_beginAt : IM q_X12_beginAt := ⟨KW.by 1191 (by decide +kernel) rfl, KW.sel 50 (by decide +kernel) rfl⟩
theorem ci_X12_layComes : CI q_X12_layComes 1 := ⟨KW.by 1188 (by decide +kernel) rfl, KW.by 14 (by decide +kernel) rfl, by decide +kernel, by decide +kernel⟩
theorem im_X12_layComes : IM q_X12_layComes := ⟨KW.by 1187 (by decide +kernel) rfl, KW.sel 49 (by decide +kernel) rfl⟩
theorem ci_X12_isSoInAll : CI q_X12_isSoInAll 2 := ⟨KW.by 1246 (by decide +kernel) rfl, KW.by 14 (by decide +kernel) rfl, by decide +kernel, by decide +kernel⟩
theorem im_X12_isSoInAll : IM q_X12_isSoInAll := ⟨KW.by 1245 (by decide +kernel) rfl, KW.sel 59 (by decide +kernel) rfl⟩
theorem ci_X12_giveUp : CI q_X12_giveUp 0 := ⟨KW.by 1242 (by decide +kernel) rfl, KW.by 14 (by decide +kernel) rfl, by decide +kernel, by decide +kernel⟩
theorem im_X12_giveUp : IM q_X12_giveUp := ⟨KW.by 1241 (by decide +kernel) rfl, KW.sel 58 (by decide +kernel) rfl⟩
theorem ci_X12_findInvariants : CI q_X12_findInvariants 2 := ⟨KW.by 1184 (by decide +kernel) rfl, KW.by 14 (by decide +kernel) rfl, by decide +kernel, by decide +kernel⟩
theorem im_X12_findInvariants : IM q_X12_findInvariants := ⟨KW.by 1183 (by decide +kernel) rfl, KW.sel 48 (by decide +kernel) rfl⟩
theorem ci_X12_left : CI q_X12_left 1 := ⟨KW.by 1180 (by decide +kernel) rfl, KW.by 14 (by decide +kernel) rfl, by decide +kernel, by decide +kernel⟩
theorem im_X12_left : IM q_X12_left := ⟨KW.by 1179 (by decide +kernel) rfl, KW.sel 47 (by decide +kernel) rfl⟩
theorem ci_X12_invariants : CI q_X12_invariants 1 := ⟨KW.by 1176 (by decide +kernel) rfl, KW.by 14 (by decide +kernel) rfl, by decide +kernel, by decide +kernel⟩
theorem im_X12_invariants : IM q_X12_invariants := ⟨KW.by 1175 (by decide +kernel) rfl, KW.sel 46 (by decide +kernel) rfl⟩
theorem ci_X12_goOnFresh : CI q_X12_goOnFresh 1 := ⟨KW.by 1269 (by decide +kernel) rfl, KW.by 14 (by decide +kernel) rfl, by decide +kernel, by decide +kernel⟩
theorem im_X12_goOnFresh : IM q_X12_goOnFresh := ⟨KW.by 1268 (by decide +kernel) rfl, KW.sel 64 (by decide +kernel) rfl⟩
theorem ci_X12_layReached : CI q_X12_layReached 1 := ⟨KW.by 1265 (by decide +kernel) rfl, KW.by 14 (by decide +kernel) rfl, by decide +kernel, by decide +kernel⟩
theorem im_X12_layReached : IM q_X12_layReached := ⟨KW.by 1264 (by decide +kernel) rfl, KW.sel 63 (by decide +kernel) rfl⟩
theorem ci_X12_nodeOf : CI q_X12_nodeOf 2 := ⟨KW.by 1258 (by decide +kernel) rfl, KW.by 14 (by decide +kernel) rfl, by decide +kernel, by decide +kernel⟩
theorem im_X12_nodeOf : IM q_X12_nodeOf := ⟨KW.by 1257 (by decide +kernel) rfl, KW.sel 62 (by decide +kernel) rfl⟩
theorem ci_X12_failing : CI q_X12_failing 1 := ⟨KW.by 1254 (by decide +kernel) rfl, KW.by 14 (by decide +kernel) rfl, by decide +kernel, by decide +kernel⟩
theorem im_X12_failing : IM q_X12_failing := ⟨KW.by 1253 (by decide +kernel) rfl, KW.sel 61 (by decide +kernel) rfl⟩
theorem ci_X12_fine : CI q_X12_fine 0 := ⟨KW.by 1250 (by decide +kernel) rfl, KW.by 14 (by decide +kernel) rfl, by decide +kernel, by decide +kernel⟩
theorem im_X12_fine : IM q_X12_fine := ⟨KW.by 1249 (by decide +kernel) rfl, KW.sel 60 (by decide +kernel) rfl⟩
theorem ci_X12_provedBy : CI q_X12_provedBy 2 := ⟨KW.by 1320 (by decide +kernel) rfl, KW.by 14 (by decide +kernel) rfl, by decide +kernel, by decide +kernel⟩
theorem im_X12_provedBy : IM q_X12_provedBy := ⟨KW.by 1319 (by decide +kernel) rfl, KW.sel 68 (by decide +kernel) rfl⟩
theorem ci_X12_about : CI q_X12_about 1 := ⟨KW.by 1172 (by decide +kernel) rfl, KW.by 14 (by decide +kernel) rfl, by decide +kernel, by decide +kernel⟩
theorem im_X12_about : IM q_X12_about := ⟨KW.by 1170 (by decide +kernel) rfl, KW.by 1171 (by decide +kernel) rfl⟩
theorem ci_X12_manyGuessed : CI q_X12_manyGuessed 1 := ⟨KW.by 1282 (by decide +kernel) rfl, KW.by 14 (by decide +kernel) rfl, by decide +kernel, by decide +kernel⟩
theorem im_X12_manyGuessed : IM q_X12_manyGuessed := ⟨KW.by 1281 (by decide +kernel) rfl, KW.sel 66 (by decide +kernel) rfl⟩
theorem ci_X12_loop : CI q_X12_loop 2 := ⟨KW.by 1277 (by decide +kernel) rfl, KW.by 14 (by decide +kernel) rfl, by decide +kernel, by decide +kernel⟩
theorem im_X12_loop : IM q_X12_loop := ⟨KW.by 1275 (by decide +kernel) rfl, KW.by 1276 (by decide +kernel) rfl⟩
theorem ci_X12_check : CI q_X12_check 2 := ⟨KW.by 1286 (by decide +kernel) rfl, KW.by 14 (by decide +kernel) rfl, by decide +kernel, by decide +kernel⟩
theorem im_X12_check : IM q_X12_check := ⟨KW.by 1284 (by decide +kernel) rfl, KW.by 1285 (by decide +kernel) rfl⟩
theorem ci_X12_start : CI q_X12_start 1 := ⟨KW.by 1290 (by decide +kernel) rfl, KW.by 14 (by decide +kernel) rfl, by decide +kernel, by decide +kernel⟩
theorem im_X12_start : IM q_X12_start := ⟨KW.by 1288 (by decide +kernel) rfl, KW.by 1289 (by decide +kernel) rfl⟩
theorem ci_X12_note : CI q_X12_note 0 := ⟨KW.by 1300 (by decide +kernel) rfl, KW.by 14 (by decide +kernel) rfl, by decide +kernel, by decide +kernel⟩
theorem im_X12_note : IM q_X12_note := ⟨KW.by 1299 (by decide +kernel) rfl, KW.sel 67 (by decide +kernel) rfl⟩
theorem ci_X12_begin : CI q_X12_begin 2 := ⟨KW.by 1295 (by decide +kernel) rfl, KW.by 14 (by decide +kernel) rfl, by decide +kernel, by decide +kernel⟩
theorem im_X12_begin : IM q_X12_begin := ⟨KW.by 1293 (by decide +kernel) rfl, KW.by 1294 (by decide +kernel) rfl⟩
theorem ci_X12_turn : CI q_X12_turn 1 := ⟨KW.by 1304 (by decide +kernel) rfl, KW.by 14 (by decide +kernel) rfl, by decide +kernel, by decide +kernel⟩
theorem im_X12_turn : IM q_X12_turn := ⟨KW.by 1302 (by decide +kernel) rfl, KW.by 1303 (by decide +kernel) rfl⟩
theorem ci_X12_undo : CI q_X12_undo 0 := ⟨KW.by 1308 (by decide +kernel) rfl, KW.by 14 (by decide +kernel) rfl, by decide +kernel, by decide +kernel⟩
theorem im_X12_undo : IM q_X12_undo := ⟨KW.by 1306 (by decide +kernel) rfl, KW.by 1307 (by decide +kernel) rfl⟩
theorem ci_X12_falls : CI q_X12_falls 2 := ⟨KW.by 1312 (by decide +kernel) rfl, KW.by 14 (by decide +kernel) rfl, by decide +kernel, by decide +kernel⟩
theorem im_X12_falls : IM q_X12_falls := ⟨KW.by 1310 (by decide +kernel) rfl, KW.by 1311 (by decide +kernel) rfl⟩
theorem ci_X12_fewest : CI q_X12_fewest 1 := ⟨KW.by 1316 (by decide +kernel) rfl, KW.by 14 (by decide +kernel) rfl, by decide +kernel, by decide +kernel⟩
theorem im_X12_fewest : IM q_X12_fewest := ⟨KW.by 1314 (by decide +kernel) rfl, KW.by 1315 (by decide +kernel) rfl⟩
theorem ci_X12_isState : CI q_X12_isState 1 := ⟨KW.by 1348 (by decide +kernel) rfl, KW.by 14 (by decide +kernel) rfl, by decide +kernel, by decide +kernel⟩
theorem im_X12_isState : IM q_X12_isState := ⟨KW.by 1347 (by decide +kernel) rfl, KW.sel 72 (by decide +kernel) rfl⟩
theorem ci_X12_isReachedAtEnd : CI q_X12_isReachedAtEnd 1 := ⟨KW.by 1344 (by decide +kernel) rfl, KW.by 14 (by decide +kernel) rfl, by decide +kernel, by decide +kernel⟩
theorem im_X12_isReachedAtEnd : IM q_X12_isReachedAtEnd := ⟨KW.by 1343 (by decide +kernel) rfl, KW.sel 71 (by decide +kernel) rfl⟩
theorem ci_X12_judged : CI q_X12_judged 4 := ⟨KW.by 1340 (by decide +kernel) rfl, KW.by 14 (by decide +kernel) rfl, by decide +kernel, by decide +kernel⟩
theorem im_X12_judged : IM q_X12_judged := ⟨KW.by 1339 (by decide +kernel) rfl, KW.sel 70 (by decide +kernel) rfl⟩
theorem ci_X12_tenThousands : CI q_X12_tenThousands 1 := ⟨KW.by 1331 (by decide +kernel) rfl, KW.by 14 (by decide +kernel) rfl, by decide +kernel, by decide +kernel⟩
theorem sm_X12_tenThousands : KW (.static q_X12_tenThousands.1) := KW.by 1330 (by decide +kernel) rfl
theorem ci_X12_layTrial : CI q_X12_layTrial 0 := ⟨KW.by 1336 (by decide +kernel) rfl, KW.by 14 (by decide +kernel) rfl, by decide +kernel, by decide +kernel⟩
theorem im_X12_layTrial : IM q_X12_layTrial := ⟨KW.by 1335 (by decide +kernel) rfl, KW.sel 69 (by decide +kernel) rfl⟩
theorem ci_X12_judge : CI q_X12_judge 2 := ⟨KW.by 1327 (by decide +kernel) rfl, KW.by 14 (by decide +kernel) rfl, by decide +kernel, by decide +kernel⟩
theorem im_X12_judge : IM q_X12_judge := ⟨KW.by 1325 (by decide +kernel) rfl, KW.by 1326 (by decide +kernel) rfl⟩
theorem ci_X12_share : CI q_X12_share 2 := ⟨KW.by 1353 (by decide +kernel) rfl, KW.by 14 (by decide +kernel) rfl, by decide +kernel, by decide +kernel⟩
theorem im_X12_share : IM q_X12_share := ⟨KW.by 1351 (by decide +kernel) rfl, KW.by 1352 (by decide +kernel) rfl⟩
theorem ci_X12_see : CI q_X12_see 2 := ⟨KW.by 1366 (by decide +kernel) rfl, KW.by 14 (by decide +kernel) rfl, by decide +kernel, by decide +kernel⟩
theorem im_X12_see : IM q_X12_see := ⟨KW.by 1364 (by decide +kernel) rfl, KW.by 1365 (by decide +kernel) rfl⟩
theorem ci_X12_unsee : CI q_X12_unsee 0 := ⟨KW.by 1370 (by decide +kernel) rfl, KW.by 14 (by decide +kernel) rfl, by decide +kernel, by decide +kernel⟩
theorem im_X12_unsee : IM q_X12_unsee := ⟨KW.by 1368 (by decide +kernel) rfl, KW.by 1369 (by decide +kernel) rfl⟩
theorem ci_X12_can : CI q_X12_can 3 := ⟨KW.by 1387 (by decide +kernel) rfl, KW.by 14 (by decide +kernel) rfl, by decide +kernel, by decide +kernel⟩
theorem im_X12_can : IM q_X12_can := ⟨KW.by 1386 (by decide +kernel) rfl, KW.sel 75 (by decide +kernel) rfl⟩
theorem ci_X12_layCans : CI q_X12_layCans 1 := ⟨KW.by 1383 (by decide +kernel) rfl, KW.by 14 (by decide +kernel) rfl, by decide +kernel, by decide +kernel⟩
theorem im_X12_layCans : IM q_X12_layCans := ⟨KW.by 1382 (by decide +kernel) rfl, KW.sel 74 (by decide +kernel) rfl⟩
theorem ci_X12_leave : CI q_X12_leave 2 := ⟨KW.by 1379 (by decide +kernel) rfl, KW.by 14 (by decide +kernel) rfl, by decide +kernel, by decide +kernel⟩
theorem im_X12_leave : IM q_X12_leave := ⟨KW.by 1378 (by decide +kernel) rfl, KW.sel 73 (by decide +kernel) rfl⟩
theorem ci_X12_which : CI q_X12_which 1 := ⟨KW.by 1374 (by decide +kernel) rfl, KW.by 14 (by decide +kernel) rfl, by decide +kernel, by decide +kernel⟩
theorem im_X12_which : IM q_X12_which := ⟨KW.by 1372 (by decide +kernel) rfl, KW.by 1373 (by decide +kernel) rfl⟩
theorem ci_X12_lost : CI q_X12_lost 2 := ⟨KW.by 1392 (by decide +kernel) rfl, KW.by 14 (by decide +kernel) rfl, by decide +kernel, by decide +kernel⟩
theorem im_X12_lost : IM q_X12_lost := ⟨KW.by 1390 (by decide +kernel) rfl, KW.by 1391 (by decide +kernel) rfl⟩
theorem ci_X12_seed : CI q_X12_seed 1 := ⟨KW.by 1400 (by decide +kernel) rfl, KW.by 14 (by decide +kernel) rfl, by decide +kernel, by decide +kernel⟩
theorem im_X12_seed : IM q_X12_seed := ⟨KW.by 1398 (by decide +kernel) rfl, KW.by 1399 (by decide +kernel) rfl⟩
theorem ci_X12_draw : CI q_X12_draw 1 := ⟨KW.by 1413 (by decide +kernel) rfl, KW.by 14 (by decide +kernel) rfl, by decide +kernel, by decide +kernel⟩
theorem im_X12_draw : IM q_X12_draw := ⟨KW.by 1412 (by decide +kernel) rfl, KW.sel 77 (by decide +kernel) rfl⟩
theorem ci_X12_step : CI q_X12_step 0 := ⟨KW.by 1419 (by decide +kernel) rfl, KW.by 14 (by decide +kernel) rfl, by decide +kernel, by decide +kernel⟩
theorem im_X12_step : IM q_X12_step := ⟨KW.by 1418 (by decide +kernel) rfl, KW.sel 78 (by decide +kernel) rfl⟩
theorem ci_X12_run : CI q_X12_run 0 := ⟨KW.by 1409 (by decide +kernel) rfl, KW.by 14 (by decide +kernel) rfl, by decide +kernel, by decide +kernel⟩
theorem im_X12_run : IM q_X12_run := ⟨KW.by 1408 (by decide +kernel) rfl, KW.sel 76 (by decide +kernel) rfl⟩
theorem ci_X12_drawn : CI q_X12_drawn 1 := ⟨KW.by 1404 (by decide +kernel) rfl, KW.by 14 (by decide +kernel) rfl, by decide +kernel, by decide +kernel⟩
theorem im_X12_drawn : IM q_X12_drawn := ⟨KW.by 1402 (by decide +kernel) rfl, KW.by 1403 (by decide +kernel) rfl⟩
theorem ci_X12_keep : CI q_X12_keep 1 := ⟨KW.by 1423 (by decide +kernel) rfl, KW.by 14 (by decide +kernel) rfl, by decide +kernel, by decide +kernel⟩
theorem im_X12_keep : IM q_X12_keep := ⟨KW.by 1421 (by decide +kernel) rfl, KW.by 1422 (by decide +kernel) rfl⟩
theorem ci_X12_again : CI q_X12_again 1 := ⟨KW.by 1427 (by decide +kernel) rfl, KW.by 14 (by decide +kernel) rfl, by decide +kernel, by decide +kernel⟩
theorem im_X12_again : IM q_X12_again := ⟨KW.by 1425 (by decide +kernel) rfl, KW.by 1426 (by decide +kernel) rfl⟩
theorem ci_J6_numberOfTrailingZeros : CI q_J6_numberOfTrailingZeros 1 := ⟨KW.by 722 (by decide +kernel) rfl, KW.by 16 (by decide +kernel) rfl, by decide +kernel, by decide +kernel⟩
theorem sm_J6_numberOfTrailingZeros : KW (.static q_J6_numberOfTrailingZeros.1) := KW.by 721 (by decide +kernel) rfl
theorem ci_J6_bitCount : CI q_J6_bitCount 1 := ⟨KW.by 772 (by decide +kernel) rfl, KW.by 16 (by decide +kernel) rfl, by decide +kernel, by decide +kernel⟩
theorem sm_J6_bitCount : KW (.static q_J6_bitCount.1) := KW.by 771 (by decide +kernel) rfl
theorem ci_J13_numberOfTrailingZeros : CI q_J13_numberOfTrailingZeros 1 := ⟨KW.by 719 (by decide +kernel) rfl, KW.by 15 (by decide +kernel) rfl, by decide +kernel, by decide +kernel⟩
theorem sm_J13_numberOfTrailingZeros : KW (.static q_J13_numberOfTrailingZeros.1) := KW.by 718 (by decide +kernel) rfl
theorem ci_J13_bitCount : CI q_J13_bitCount 1 := ⟨KW.by 698 (by decide +kernel) rfl, KW.by 15 (by decide +kernel) rfl, by decide +kernel, by decide +kernel⟩
theorem sm_J13_bitCount : KW (.static q_J13_bitCount.1) := KW.by 697 (by decide +kernel) rfl
theorem ci_J9_max : CI q_J9_max 2 := ⟨KW.by 228 (by decide +kernel) rfl, KW.by 10 (by decide +kernel) rfl, by decide +kernel, by decide +kernel⟩
theorem sm_J9_max : KW (.static q_J9_max.1) := KW.by 227 (by decide +kernel) rfl
theorem ci_J9_min : CI q_J9_min 2 := ⟨KW.by 469 (by decide +kernel) rfl, KW.by 10 (by decide +kernel) rfl, by decide +kernel, by decide +kernel⟩
theorem sm_J9_min : KW (.static q_J9_min.1) := KW.by 468 (by decide +kernel) rfl
theorem oi_in : KW (.instanceMethod objectInit) := KW.by 23 (by decide +kernel) rfl
theorem oi_cd : KW (.code objectInit ⟨#[0xb1]⟩ 1 none) := KW.by 24 (by decide +kernel) rfl
theorem l_X11_3 : KW (.methodLink RX11 3 objectInit) := KW.by 22 (by decide +kernel) rfl
theorem l_X11_15 : LK RX11 15 q_X6_init := Or.inr ⟨"LoopGuesses", KW.by 27 (by decide +kernel) rfl⟩
theorem l_X11_22 : LK RX11 22 q_X2_init := Or.inl (KW.by 54 (by decide +kernel) rfl)
theorem l_X11_32 : LK RX11 32 q_X8_init := Or.inl (KW.by 187 (by decide +kernel) rfl)
theorem l_X11_58 : LK RX11 58 q_X9_init := Or.inr ⟨"LoopGuesses", KW.by 206 (by decide +kernel) rfl⟩
theorem l_X11_65 : LK RX11 65 q_X0_init := Or.inl (KW.by 209 (by decide +kernel) rfl)
theorem l_X11_74 : LK RX11 74 q_X7_init := Or.inr ⟨"LoopGuesses", KW.by 347 (by decide +kernel) rfl⟩
theorem l_X11_79 : LK RX11 79 q_X11_emptySlots := Or.inl (KW.by 359 (by decide +kernel) rfl)
theorem l_X11_86 : LK RX11 86 q_X6_read := Or.inl (KW.by 427 (by decide +kernel) rfl)
theorem l_X11_90 : LK RX11 90 q_X2_findTruths := Or.inl (KW.by 542 (by decide +kernel) rfl)
theorem l_X11_93 : LK RX11 93 q_X8_reset := Or.inl (KW.by 572 (by decide +kernel) rfl)
theorem l_X11_99 : LK RX11 99 q_X0_forget := Or.inl (KW.by 573 (by decide +kernel) rfl)
theorem l_X11_120 : LK RX11 120 q_X11_view := Or.inl (KW.by 578 (by decide +kernel) rfl)
theorem l_X11_124 : LK RX11 124 q_X11_active := Or.inl (KW.by 605 (by decide +kernel) rfl)
theorem l_X11_128 : LK RX11 128 q_X0_proved := Or.inl (KW.by 609 (by decide +kernel) rfl)
theorem l_X11_132 : LK RX11 132 q_X0_reached := Or.inl (KW.by 678 (by decide +kernel) rfl)
theorem l_X11_136 : LK RX11 136 q_X2_fulfilled := Or.inl (KW.by 687 (by decide +kernel) rfl)
theorem l_X11_140 : LK RX11 140 q_X0_invariants := Or.inl (KW.by 688 (by decide +kernel) rfl)
theorem l_X11_155 : LK RX11 155 q_X9_count := Or.inl (KW.by 692 (by decide +kernel) rfl)
theorem l_X11_184 : LK RX11 184 q_X9_smallestOutside := Or.inl (KW.by 710 (by decide +kernel) rfl)
theorem l_X11_191 : LK RX11 191 q_X11_remember := Or.inl (KW.by 732 (by decide +kernel) rfl)
theorem l_X11_194 : LK RX11 194 q_X8_packed := Or.inl (KW.by 736 (by decide +kernel) rfl)
theorem l_X11_197 : LK RX11 197 q_X8_unpack := Or.inl (KW.by 749 (by decide +kernel) rfl)
theorem l_X11_201 : LK RX11 201 q_X0_firstFalse := Or.inl (KW.by 757 (by decide +kernel) rfl)
theorem l_X11_205 : LK RX11 205 q_J6_bitCount := Or.inl (KW.by 770 (by decide +kernel) rfl)
theorem l_X11_212 : LK RX11 212 q_X11_stands := Or.inl (KW.by 781 (by decide +kernel) rfl)
theorem l_X11_216 : LK RX11 216 q_X9_has := Or.inl (KW.by 785 (by decide +kernel) rfl)
theorem l_X11_220 : LK RX11 220 q_X8_putStart := Or.inl (KW.by 789 (by decide +kernel) rfl)
theorem l_X11_224 : LK RX11 224 q_X8_putOff := Or.inl (KW.by 793 (by decide +kernel) rfl)
theorem l_X11_227 : LK RX11 227 q_X11_factorial := Or.inl (KW.by 801 (by decide +kernel) rfl)
theorem l_X11_230 : LK RX11 230 q_X11_part := Or.inl (KW.by 806 (by decide +kernel) rfl)
theorem l_X11_237 : LK RX11 237 q_X11_findAgreeing := Or.inl (KW.by 821 (by decide +kernel) rfl)
theorem l_X11_240 : LK RX11 240 q_X9_smallest := Or.inl (KW.by 865 (by decide +kernel) rfl)
theorem l_X11_243 : LK RX11 243 q_X8_fillIn := Or.inl (KW.by 825 (by decide +kernel) rfl)
theorem l_X11_247 : LK RX11 247 q_X0_failing := Or.inl (KW.by 826 (by decide +kernel) rfl)
theorem l_X11_251 : LK RX11 251 q_X9_meet := Or.inl (KW.by 862 (by decide +kernel) rfl)
theorem l_X11_254 : LK RX11 254 q_X9_remove := Or.inl (KW.by 863 (by decide +kernel) rfl)
theorem l_X11_257 : LK RX11 257 q_X9_clear := Or.inl (KW.by 864 (by decide +kernel) rfl)
theorem l_X11_260 : LK RX11 260 q_X11_power := Or.inl (KW.by 873 (by decide +kernel) rfl)
theorem l_X11_268 : LK RX11 268 q_X7_run := Or.inl (KW.by 884 (by decide +kernel) rfl)
theorem l_X11_272 : LK RX11 272 q_X0_lookAt := Or.inl (KW.by 582 (by decide +kernel) rfl)
theorem l_X0_3 : KW (.methodLink RX0 3 objectInit) := KW.by 212 (by decide +kernel) rfl
theorem l_X0_11 : LK RX0 11 q_X9_init := Or.inr ⟨"LoopGuesses", KW.by 214 (by decide +kernel) rfl⟩
theorem l_X0_20 : LK RX0 20 q_X4_init := Or.inr ⟨"LoopGuesses", KW.by 217 (by decide +kernel) rfl⟩
theorem l_X0_27 : LK RX0 27 q_X5_init := Or.inr ⟨"LoopGuesses", KW.by 261 (by decide +kernel) rfl⟩
theorem l_X0_41 : LK RX0 41 q_X1_init := Or.inr ⟨"LoopGuesses", KW.by 280 (by decide +kernel) rfl⟩
theorem l_X0_46_3 : LK RX0 46 q_X9_row3 := Or.inl (KW.by 303 (by decide +kernel) rfl)
theorem l_X0_46_4 : LK RX0 46 q_X9_row4 := Or.inl (KW.by 303 (by decide +kernel) rfl)
theorem l_X0_54 : LK RX0 54 q_X0_forget := Or.inl (KW.by 304 (by decide +kernel) rfl)
theorem l_X0_69 : LK RX0 69 q_X8_packedStart := Or.inl (KW.by 586 (by decide +kernel) rfl)
theorem l_X0_75 : LK RX0 75 q_X8_fillIn := Or.inl (KW.by 590 (by decide +kernel) rfl)
theorem l_X0_86 : LK RX0 86 q_X4_reach := Or.inl (KW.by 682 (by decide +kernel) rfl)
theorem l_X0_90 : LK RX0 90 q_X5_find := Or.inl (KW.by 613 (by decide +kernel) rfl)
theorem l_X0_97 : LK RX0 97 q_X2_fulfilled := Or.inl (KW.by 673 (by decide +kernel) rfl)
theorem l_X0_103 : LK RX0 103 q_X0_invariants := Or.inl (KW.by 761 (by decide +kernel) rfl)
theorem l_X0_110 : LK RX0 110 q_X4_assign := Or.inl (KW.by 762 (by decide +kernel) rfl)
theorem l_X0_117 : LK RX0 117 q_X4_pass := Or.inl (KW.by 763 (by decide +kernel) rfl)
theorem l_X0_121 : LK RX0 121 q_X5_falseGuesses := Or.inl (KW.by 764 (by decide +kernel) rfl)
theorem l_X0_125 : LK RX0 125 q_J6_numberOfTrailingZeros := Or.inl (KW.by 765 (by decide +kernel) rfl)
theorem l_X0_131 : LK RX0 131 q_X1_find := Or.inl (KW.by 830 (by decide +kernel) rfl)
theorem l_X1_3 : KW (.methodLink RX1 3 objectInit) := KW.by 283 (by decide +kernel) rfl
theorem l_X1_11 : LK RX1 11 q_X9_init := Or.inr ⟨"LoopGuesses", KW.by 285 (by decide +kernel) rfl⟩
theorem l_X1_18_3 : LK RX1 18 q_X9_row3 := Or.inl (KW.by 286 (by decide +kernel) rfl)
theorem l_X1_18_4 : LK RX1 18 q_X9_row4 := Or.inl (KW.by 286 (by decide +kernel) rfl)
theorem l_X1_35 : LK RX1 35 q_X9_clear := Or.inl (KW.by 834 (by decide +kernel) rfl)
theorem l_X1_38 : LK RX1 38 q_X1_pass := Or.inl (KW.by 835 (by decide +kernel) rfl)
theorem l_X1_42 : LK RX1 42 q_X9_copy := Or.inl (KW.by 844 (by decide +kernel) rfl)
theorem l_X1_52 : LK RX1 52 q_X2_at := Or.inl (KW.by 839 (by decide +kernel) rfl)
theorem l_X1_61 : LK RX1 61 q_X1_passLoop := Or.inl (KW.by 840 (by decide +kernel) rfl)
theorem l_X1_65 : LK RX1 65 q_X1_passChoice := Or.inl (KW.by 848 (by decide +kernel) rfl)
theorem l_X1_69 : LK RX1 69 q_X1_passSimple := Or.inl (KW.by 852 (by decide +kernel) rfl)
theorem l_X1_82 : LK RX1 82 q_X9_meet := Or.inl (KW.by 845 (by decide +kernel) rfl)
theorem l_X1_88 : LK RX1 88 q_X9_free := Or.inl (KW.by 856 (by decide +kernel) rfl)
theorem l_X1_92 : LK RX1 92 q_X9_shift := Or.inl (KW.by 857 (by decide +kernel) rfl)
theorem l_X1_99 : LK RX1 99 q_X9_addMissing := Or.inl (KW.by 858 (by decide +kernel) rfl)
theorem l_X1_102 : LK RX1 102 q_X9_remove := Or.inl (KW.by 846 (by decide +kernel) rfl)
theorem l_X1_105 : LK RX1 105 q_X9_unite := Or.inl (KW.by 847 (by decide +kernel) rfl)
theorem l_X2_3 : KW (.methodLink RX2 3 objectInit) := KW.by 57 (by decide +kernel) rfl
theorem l_X2_29 : LK RX2 29 q_X3_init := Or.inr ⟨"LoopGuesses", KW.by 63 (by decide +kernel) rfl⟩
theorem l_X2_30 : LK RX2 30 q_X10_init := Or.inl (KW.by 97 (by decide +kernel) rfl)
theorem l_X2_55 : LK RX2 55 q_X2_at := Or.inl (KW.by 466 (by decide +kernel) rfl)
theorem l_X2_59 : LK RX2 59 q_J9_min := Or.inl (KW.by 467 (by decide +kernel) rfl)
theorem l_X2_72 : LK RX2 72 q_X10_isStatement := Or.inl (KW.by 470 (by decide +kernel) rfl)
theorem l_X2_76 : LK RX2 76 q_X3_put := Or.inl (KW.by 517 (by decide +kernel) rfl)
theorem l_X2_80 : LK RX2 80 q_X2_append := Or.inl (KW.by 529 (by decide +kernel) rfl)
theorem l_X2_86 : LK RX2 86 q_X3_findTruths := Or.inl (KW.by 546 (by decide +kernel) rfl)
theorem l_X2_99 : LK RX2 99 q_X9_isWithin := Or.inl (KW.by 677 (by decide +kernel) rfl)
theorem l_X3_3 : KW (.methodLink RX3 3 objectInit) := KW.by 66 (by decide +kernel) rfl
theorem l_X3_11 : LK RX3 11 q_X9_init := Or.inr ⟨"LoopGuesses", KW.by 69 (by decide +kernel) rfl⟩
theorem l_X3_28 : LK RX3 28 q_X3_pick := Or.inl (KW.by 558 (by decide +kernel) rfl)
theorem l_X3_32 : LK RX3 32 q_X3_value := Or.inl (KW.by 561 (by decide +kernel) rfl)
theorem l_X3_36 : LK RX3 36 q_X9_clear := Or.inl (KW.by 550 (by decide +kernel) rfl)
theorem l_X3_39 : LK RX3 39 q_X3_isTrue := Or.inl (KW.by 554 (by decide +kernel) rfl)
theorem l_X3_43 : LK RX3 43 q_X9_add := Or.inl (KW.by 565 (by decide +kernel) rfl)
theorem l_X4_3 : KW (.methodLink RX4 3 objectInit) := KW.by 220 (by decide +kernel) rfl
theorem l_X4_11 : LK RX4 11 q_X9_init := Or.inr ⟨"LoopGuesses", KW.by 222 (by decide +kernel) rfl⟩
theorem l_X4_18_3 : LK RX4 18 q_X9_row3 := Or.inl (KW.by 223 (by decide +kernel) rfl)
theorem l_X4_18_4 : LK RX4 18 q_X9_row4 := Or.inl (KW.by 223 (by decide +kernel) rfl)
theorem l_X4_38 : LK RX4 38 q_X9_clear := Or.inl (KW.by 621 (by decide +kernel) rfl)
theorem l_X4_41 : LK RX4 41 q_X9_fill := Or.inl (KW.by 622 (by decide +kernel) rfl)
theorem l_X4_55 : LK RX4 55 q_X9_meet := Or.inl (KW.by 623 (by decide +kernel) rfl)
theorem l_X4_59 : LK RX4 59 q_X4_pass := Or.inl (KW.by 686 (by decide +kernel) rfl)
theorem l_X4_63 : LK RX4 63 q_X9_copy := Or.inl (KW.by 631 (by decide +kernel) rfl)
theorem l_X4_70 : LK RX4 70 q_X2_at := Or.inl (KW.by 635 (by decide +kernel) rfl)
theorem l_X4_79 : LK RX4 79 q_X4_passLoop := Or.inl (KW.by 636 (by decide +kernel) rfl)
theorem l_X4_83 : LK RX4 83 q_X4_passChoice := Or.inl (KW.by 649 (by decide +kernel) rfl)
theorem l_X4_87 : LK RX4 87 q_X4_passSimple := Or.inl (KW.by 653 (by decide +kernel) rfl)
theorem l_X4_93 : LK RX4 93 q_X9_free := Or.inl (KW.by 657 (by decide +kernel) rfl)
theorem l_X4_101 : LK RX4 101 q_X9_shift := Or.inl (KW.by 661 (by decide +kernel) rfl)
theorem l_X4_108 : LK RX4 108 q_X9_unite := Or.inl (KW.by 640 (by decide +kernel) rfl)
theorem l_X4_112 : LK RX4 112 q_X9_remove := Or.inl (KW.by 645 (by decide +kernel) rfl)
theorem l_X5_3 : KW (.methodLink RX5 3 objectInit) := KW.by 264 (by decide +kernel) rfl
theorem l_X5_11 : LK RX5 11 q_X4_init := Or.inr ⟨"LoopGuesses", KW.by 266 (by decide +kernel) rfl⟩
theorem l_X5_22 : LK RX5 22 q_X4_assign := Or.inl (KW.by 617 (by decide +kernel) rfl)
theorem l_X5_30 : LK RX5 30 q_X4_pass := Or.inl (KW.by 627 (by decide +kernel) rfl)
theorem l_X5_40 : LK RX5 40 q_X5_falseGuesses := Or.inl (KW.by 665 (by decide +kernel) rfl)
theorem l_X5_57 : LK RX5 57 q_X9_isWithin := Or.inl (KW.by 669 (by decide +kernel) rfl)
theorem l_X6_3 : KW (.methodLink RX6 3 objectInit) := KW.by 30 (by decide +kernel) rfl
theorem l_X6_15 : LK RX6 15 q_X2_clear := Or.inl (KW.by 431 (by decide +kernel) rfl)
theorem l_X6_27 : LK RX6 27 q_X6_take := Or.inl (KW.by 435 (by decide +kernel) rfl)
theorem l_X6_31 : LK RX6 31 q_X6_takeStatement := Or.inl (KW.by 439 (by decide +kernel) rfl)
theorem l_X6_34 : LK RX6 34 q_X6_takeOperation := Or.inl (KW.by 490 (by decide +kernel) rfl)
theorem l_X6_37 : LK RX6 37 q_X6_takeLeft := Or.inl (KW.by 498 (by decide +kernel) rfl)
theorem l_X6_41 : LK RX6 41 q_X6_takeSign := Or.inl (KW.by 502 (by decide +kernel) rfl)
theorem l_X6_44 : LK RX6 44 q_X6_term := Or.inl (KW.by 506 (by decide +kernel) rfl)
theorem l_X6_48 : LK RX6 48 q_X6_takeNewValue := Or.inl (KW.by 509 (by decide +kernel) rfl)
theorem l_X6_52 : LK RX6 52 q_X6_takeRight := Or.inl (KW.by 521 (by decide +kernel) rfl)
theorem l_X6_55 : LK RX6 55 q_X6_beginGuess := Or.inl (KW.by 486 (by decide +kernel) rfl)
theorem l_X6_59 : LK RX6 59 q_X6_isName := Or.inl (KW.by 443 (by decide +kernel) rfl)
theorem l_X6_67 : LK RX6 67 q_X6_expectCondition := Or.inl (KW.by 446 (by decide +kernel) rfl)
theorem l_X6_77 : LK RX6 77 q_X6_closeLoop := Or.inl (KW.by 450 (by decide +kernel) rfl)
theorem l_X6_83 : LK RX6 83 q_X6_openChoice := Or.inl (KW.by 474 (by decide +kernel) rfl)
theorem l_X6_86 : LK RX6 86 q_X6_passBar := Or.inl (KW.by 482 (by decide +kernel) rfl)
theorem l_X6_96 : LK RX6 96 q_X6_appendChange := Or.inl (KW.by 494 (by decide +kernel) rfl)
theorem l_X6_99 : LK RX6 99 q_X2_append := Or.inl (KW.by 462 (by decide +kernel) rfl)
theorem l_X6_104 : LK RX6 104 q_X2_newCondition := Or.inl (KW.by 513 (by decide +kernel) rfl)
theorem l_X6_115 : LK RX6 115 q_X2_appendCheck := Or.inl (KW.by 525 (by decide +kernel) rfl)
theorem l_X6_119 : LK RX6 119 q_X6_openLoop := Or.inl (KW.by 530 (by decide +kernel) rfl)
theorem l_X6_123 : LK RX6 123 q_X2_appendGuess := Or.inl (KW.by 534 (by decide +kernel) rfl)
theorem l_X6_129 : LK RX6 129 q_X6_push := Or.inl (KW.by 478 (by decide +kernel) rfl)
theorem l_X6_136 : LK RX6 136 q_X2_at := Or.inl (KW.by 458 (by decide +kernel) rfl)
theorem l_X6_142 : LK RX6 142 q_X6_innermost := Or.inl (KW.by 454 (by decide +kernel) rfl)
theorem l_X7_5 : KW (.methodLink RX7 5 objectInit) := KW.by 350 (by decide +kernel) rfl
theorem l_X7_28 : LK RX7 28 q_X7_draw := Or.inl (KW.by 888 (by decide +kernel) rfl)
theorem l_X7_38 : LK RX7 38 q_X2_at := Or.inl (KW.by 894 (by decide +kernel) rfl)
theorem l_X7_42 : LK RX7 42 q_X10_isStatement := Or.inl (KW.by 895 (by decide +kernel) rfl)
theorem l_X7_51 : LK RX7 51 q_X7_isTrue := Or.inl (KW.by 896 (by decide +kernel) rfl)
theorem l_X7_55 : LK RX7 55 q_X7_change := Or.inl (KW.by 901 (by decide +kernel) rfl)
theorem l_X7_59 : LK RX7 59 q_X7_next := Or.inl (KW.by 908 (by decide +kernel) rfl)
theorem l_X7_67 : LK RX7 67 q_X3_isTrue := Or.inl (KW.by 900 (by decide +kernel) rfl)
theorem l_X7_75 : LK RX7 75 q_X3_value := Or.inl (KW.by 905 (by decide +kernel) rfl)
theorem l_X7_79 : LK RX7 79 q_J9_min := Or.inl (KW.by 906 (by decide +kernel) rfl)
theorem l_X7_85 : LK RX7 85 q_J9_max := Or.inl (KW.by 907 (by decide +kernel) rfl)
theorem l_X8_3 : KW (.methodLink RX8 3 objectInit) := KW.by 190 (by decide +kernel) rfl
theorem l_X8_15 : LK RX8 15 q_X8_reset := Or.inl (KW.by 191 (by decide +kernel) rfl)
theorem l_X8_22 : LK RX8 22 q_X8_packedStart := Or.inl (KW.by 740 (by decide +kernel) rfl)
theorem l_X8_26 : LK RX8 26 q_X9_fill := Or.inl (KW.by 594 (by decide +kernel) rfl)
theorem l_X8_31 : LK RX8 31 q_X9_meetValue := Or.inl (KW.by 599 (by decide +kernel) rfl)
theorem l_X9_3 : KW (.methodLink RX9 3 objectInit) := KW.by 72 (by decide +kernel) rfl
theorem l_X9_15 : LK RX9 15 q_J9_max := Or.inl (KW.by 226 (by decide +kernel) rfl)
theorem l_X9_21 : LK RX9 21 q_X9_init := Or.inl (KW.by 231 (by decide +kernel) rfl)
theorem l_X9_26 : LK RX9 26 q_J13_bitCount := Or.inl (KW.by 696 (by decide +kernel) rfl)
theorem l_X9_32 : LK RX9 32 q_X9_number := Or.inl (KW.by 714 (by decide +kernel) rfl)
theorem l_X9_36 : LK RX9 36 q_J13_numberOfTrailingZeros := Or.inl (KW.by 717 (by decide +kernel) rfl)
theorem l_X9_39 : LK RX9 39 q_X9_isState := Or.inl (KW.by 569 (by decide +kernel) rfl)
theorem l_X10_1 : KW (.methodLink RX10 1 objectInit) := KW.by 100 (by decide +kernel) rfl
theorem l_L_9 : LK RL 9 q_X11_init := Or.inl (KW.by 19 (by decide +kernel) rfl)
theorem l_L_12 : LK RL 12 q_X12_init := Or.inl (KW.by 922 (by decide +kernel) rfl)
theorem l_L_13 : LK RL 13 q_X11_write := Or.inl (KW.by 415 (by decide +kernel) rfl)
theorem l_L_17 : LK RL 17 q_X12_write := Or.inl (KW.by 1081 (by decide +kernel) rfl)
theorem l_L_18 : LK RL 18 q_X11_wipe := Or.inl (KW.by 419 (by decide +kernel) rfl)
theorem l_L_22 : LK RL 22 q_X12_wipe := Or.inl (KW.by 1089 (by decide +kernel) rfl)
theorem l_L_23 : LK RL 23 q_X11_fault := Or.inl (KW.by 423 (by decide +kernel) rfl)
theorem l_L_26 : LK RL 26 q_X12_fault := Or.inl (KW.by 1093 (by decide +kernel) rfl)
theorem l_L_27 : LK RL 27 q_X11_program := Or.inl (KW.by 538 (by decide +kernel) rfl)
theorem l_L_30 : LK RL 30 q_X12_program := Or.inl (KW.by 1162 (by decide +kernel) rfl)
theorem l_L_31 : LK RL 31 q_X11_about := Or.inl (KW.by 574 (by decide +kernel) rfl)
theorem l_L_34 : LK RL 34 q_X12_about := Or.inl (KW.by 1169 (by decide +kernel) rfl)
theorem l_L_35 : LK RL 35 q_X11_loop := Or.inl (KW.by 702 (by decide +kernel) rfl)
theorem l_L_39 : LK RL 39 q_X12_loop := Or.inl (KW.by 1274 (by decide +kernel) rfl)
theorem l_L_40 : LK RL 40 q_X11_check := Or.inl (KW.by 706 (by decide +kernel) rfl)
theorem l_L_43 : LK RL 43 q_X12_check := Or.inl (KW.by 1283 (by decide +kernel) rfl)
theorem l_L_44 : LK RL 44 q_X11_start := Or.inl (KW.by 724 (by decide +kernel) rfl)
theorem l_L_47 : LK RL 47 q_X12_start := Or.inl (KW.by 1287 (by decide +kernel) rfl)
theorem l_L_48 : LK RL 48 q_X11_begin := Or.inl (KW.by 728 (by decide +kernel) rfl)
theorem l_L_51 : LK RL 51 q_X12_begin := Or.inl (KW.by 1292 (by decide +kernel) rfl)
theorem l_L_52 : LK RL 52 q_X11_turn := Or.inl (KW.by 741 (by decide +kernel) rfl)
theorem l_L_55 : LK RL 55 q_X12_turn := Or.inl (KW.by 1301 (by decide +kernel) rfl)
theorem l_L_56 : LK RL 56 q_X11_undo := Or.inl (KW.by 745 (by decide +kernel) rfl)
theorem l_L_59 : LK RL 59 q_X12_undo := Or.inl (KW.by 1305 (by decide +kernel) rfl)
theorem l_L_60 : LK RL 60 q_X11_falls := Or.inl (KW.by 753 (by decide +kernel) rfl)
theorem l_L_63 : LK RL 63 q_X12_falls := Or.inl (KW.by 1309 (by decide +kernel) rfl)
theorem l_L_64 : LK RL 64 q_X11_fewest := Or.inl (KW.by 766 (by decide +kernel) rfl)
theorem l_L_67 : LK RL 67 q_X12_fewest := Or.inl (KW.by 1313 (by decide +kernel) rfl)
theorem l_L_70 : LK RL 70 q_X11_judge := Or.inl (KW.by 776 (by decide +kernel) rfl)
theorem l_L_74 : LK RL 74 q_X12_judge := Or.inl (KW.by 1324 (by decide +kernel) rfl)
theorem l_L_75 : LK RL 75 q_X11_share := Or.inl (KW.by 797 (by decide +kernel) rfl)
theorem l_L_79 : LK RL 79 q_X12_share := Or.inl (KW.by 1350 (by decide +kernel) rfl)
theorem l_L_80 : LK RL 80 q_X11_see := Or.inl (KW.by 809 (by decide +kernel) rfl)
theorem l_L_83 : LK RL 83 q_X12_see := Or.inl (KW.by 1363 (by decide +kernel) rfl)
theorem l_L_84 : LK RL 84 q_X11_unsee := Or.inl (KW.by 813 (by decide +kernel) rfl)
theorem l_L_87 : LK RL 87 q_X12_unsee := Or.inl (KW.by 1367 (by decide +kernel) rfl)
theorem l_L_88 : LK RL 88 q_X11_which := Or.inl (KW.by 817 (by decide +kernel) rfl)
theorem l_L_91 : LK RL 91 q_X12_which := Or.inl (KW.by 1371 (by decide +kernel) rfl)
theorem l_L_92 : LK RL 92 q_X11_lost := Or.inl (KW.by 869 (by decide +kernel) rfl)
theorem l_L_95 : LK RL 95 q_X12_lost := Or.inl (KW.by 1389 (by decide +kernel) rfl)
theorem l_L_96 : LK RL 96 q_X11_seed := Or.inl (KW.by 876 (by decide +kernel) rfl)
theorem l_L_100 : LK RL 100 q_X12_seed := Or.inl (KW.by 1397 (by decide +kernel) rfl)
theorem l_L_101 : LK RL 101 q_X11_drawn := Or.inl (KW.by 880 (by decide +kernel) rfl)
theorem l_L_104 : LK RL 104 q_X12_drawn := Or.inl (KW.by 1401 (by decide +kernel) rfl)
theorem l_L_105 : LK RL 105 q_X11_keep := Or.inl (KW.by 912 (by decide +kernel) rfl)
theorem l_L_108 : LK RL 108 q_X12_keep := Or.inl (KW.by 1420 (by decide +kernel) rfl)
theorem l_L_109 : LK RL 109 q_X11_again := Or.inl (KW.by 916 (by decide +kernel) rfl)
theorem l_L_112 : LK RL 112 q_X12_again := Or.inl (KW.by 1424 (by decide +kernel) rfl)
theorem l_X12_1 : KW (.methodLink RX12 1 objectInit) := KW.by 925 (by decide +kernel) rfl
theorem l_X12_108 : LK RX12 108 q_X12_divisor := Or.inl (KW.by 1360 (by decide +kernel) rfl)
theorem l_X12_114 : LK RX12 114 q_X12_in := Or.inl (KW.by 1086 (by decide +kernel) rfl)
theorem l_X12_136 : LK RX12 136 q_X12_variableOf := Or.inl (KW.by 1109 (by decide +kernel) rfl)
theorem l_X12_140 : LK RX12 140 q_X12_newNode := Or.inl (KW.by 1114 (by decide +kernel) rfl)
theorem l_X12_147 : LK RX12 147 q_X12_takeAsking := Or.inl (KW.by 1118 (by decide +kernel) rfl)
theorem l_X12_160 : LK RX12 160 q_X12_takeEither := Or.inl (KW.by 1122 (by decide +kernel) rfl)
theorem l_X12_164 : LK RX12 164 q_X12_innermost := Or.inl (KW.by 1126 (by decide +kernel) rfl)
theorem l_X12_168 : LK RX12 168 q_X12_takeClose := Or.inl (KW.by 1130 (by decide +kernel) rfl)
theorem l_X12_171 : LK RX12 171 q_X12_takeBar := Or.inl (KW.by 1134 (by decide +kernel) rfl)
theorem l_X12_174 : LK RX12 174 q_X12_takeJoin := Or.inl (KW.by 1138 (by decide +kernel) rfl)
theorem l_X12_177 : LK RX12 177 q_X12_takeGuess := Or.inl (KW.by 1142 (by decide +kernel) rfl)
theorem l_X12_183 : LK RX12 183 q_X12_isCompare := Or.inl (KW.by 1159 (by decide +kernel) rfl)
theorem l_X12_186 : LK RX12 186 q_X12_termOf := Or.inl (KW.by 1150 (by decide +kernel) rfl)
theorem l_X12_189 : LK RX12 189 q_X12_takeStatement := Or.inl (KW.by 1105 (by decide +kernel) rfl)
theorem l_X12_192 : LK RX12 192 q_X12_takeDeed := Or.inl (KW.by 1146 (by decide +kernel) rfl)
theorem l_X12_195 : LK RX12 195 q_X12_takePart := Or.inl (KW.by 1155 (by decide +kernel) rfl)
theorem l_X12_199 : LK RX12 199 q_X12_take := Or.inl (KW.by 1101 (by decide +kernel) rfl)
theorem l_X12_202 : LK RX12 202 q_X12_readText := Or.inl (KW.by 1097 (by decide +kernel) rfl)
theorem l_X12_220 : LK RX12 220 q_X12_isStatement := Or.inl (KW.by 1166 (by decide +kernel) rfl)
theorem l_X12_226 : LK RX12 226 q_X12_valueOf := Or.inl (KW.by 1196 (by decide +kernel) rfl)
theorem l_X12_229 : LK RX12 229 q_X12_termBy := Or.inl (KW.by 1221 (by decide +kernel) rfl)
theorem l_X12_232 : LK RX12 232 q_X12_compares := Or.inl (KW.by 1218 (by decide +kernel) rfl)
theorem l_X12_236 : LK RX12 236 q_X12_isIn := Or.inl (KW.by 1211 (by decide +kernel) rfl)
theorem l_X12_239 : LK RX12 239 q_X12_isGuessed := Or.inl (KW.by 1214 (by decide +kernel) rfl)
theorem l_X12_242 : LK RX12 242 q_X12_with := Or.inl (KW.by 1232 (by decide +kernel) rfl)
theorem l_X12_246 : LK RX12 246 q_X12_isThere := Or.inl (KW.by 1203 (by decide +kernel) rfl)
theorem l_X12_249 : LK RX12 249 q_X12_done := Or.inl (KW.by 1228 (by decide +kernel) rfl)
theorem l_X12_252 : LK RX12 252 q_X12_put := Or.inl (KW.by 1199 (by decide +kernel) rfl)
theorem l_X12_255 : LK RX12 255 q_X12_isSo := Or.inl (KW.by 1235 (by decide +kernel) rfl)
theorem l_X12_258 : LK RX12 258 q_X12_mayBegin := Or.inl (KW.by 1193 (by decide +kernel) rfl)
theorem l_X12_262 : LK RX12 262 q_X12_beginAt := Or.inl (KW.by 1189 (by decide +kernel) rfl)
theorem l_X12_266 : LK RX12 266 q_X12_areGuessed := Or.inl (KW.by 1207 (by decide +kernel) rfl)
theorem l_X12_269 : LK RX12 269 q_X12_goOn := Or.inl (KW.by 1224 (by decide +kernel) rfl)
theorem l_X12_272 : LK RX12 272 q_X12_isSoInAll := Or.inl (KW.by 1243 (by decide +kernel) rfl)
theorem l_X12_275 : LK RX12 275 q_X12_layComes := Or.inl (KW.by 1185 (by decide +kernel) rfl)
theorem l_X12_278 : LK RX12 278 q_X12_giveUp := Or.inl (KW.by 1239 (by decide +kernel) rfl)
theorem l_X12_281 : LK RX12 281 q_X12_left := Or.inl (KW.by 1177 (by decide +kernel) rfl)
theorem l_X12_285 : LK RX12 285 q_X12_findInvariants := Or.inl (KW.by 1181 (by decide +kernel) rfl)
theorem l_X12_289 : LK RX12 289 q_X12_goOnFresh := Or.inl (KW.by 1266 (by decide +kernel) rfl)
theorem l_X12_292 : LK RX12 292 q_X12_nodeOf := Or.inl (KW.by 1255 (by decide +kernel) rfl)
theorem l_X12_295 : LK RX12 295 q_X12_told := Or.inl (KW.by 1259 (by decide +kernel) rfl)
theorem l_X12_298 : LK RX12 298 q_X12_failing := Or.inl (KW.by 1251 (by decide +kernel) rfl)
theorem l_X12_301 : LK RX12 301 q_X12_fine := Or.inl (KW.by 1247 (by decide +kernel) rfl)
theorem l_X12_304 : LK RX12 304 q_X12_ones := Or.inl (KW.by 1321 (by decide +kernel) rfl)
theorem l_X12_307 : LK RX12 307 q_X12_invariants := Or.inl (KW.by 1173 (by decide +kernel) rfl)
theorem l_X12_310 : LK RX12 310 q_X12_layReached := Or.inl (KW.by 1262 (by decide +kernel) rfl)
theorem l_X12_313 : LK RX12 313 q_X12_manyAt := Or.inl (KW.by 1270 (by decide +kernel) rfl)
theorem l_X12_321 : LK RX12 321 q_X12_manyGuessed := Or.inl (KW.by 1279 (by decide +kernel) rfl)
theorem l_X12_331 : LK RX12 331 q_X12_note := Or.inl (KW.by 1297 (by decide +kernel) rfl)
theorem l_X12_334 : LK RX12 334 q_X12_provedBy := Or.inl (KW.by 1317 (by decide +kernel) rfl)
theorem l_X12_340 : LK RX12 340 q_X12_isState := Or.inl (KW.by 1345 (by decide +kernel) rfl)
theorem l_X12_343 : LK RX12 343 q_X12_isReachedAtEnd := Or.inl (KW.by 1341 (by decide +kernel) rfl)
theorem l_X12_350 : LK RX12 350 q_X12_tenThousands := Or.inl (KW.by 1329 (by decide +kernel) rfl)
theorem l_X12_354 : LK RX12 354 q_X12_layTrial := Or.inl (KW.by 1333 (by decide +kernel) rfl)
theorem l_X12_357 : LK RX12 357 q_X12_judged := Or.inl (KW.by 1337 (by decide +kernel) rfl)
theorem l_X12_360 : LK RX12 360 q_X12_factorial := Or.inl (KW.by 1354 (by decide +kernel) rfl)
theorem l_X12_363 : LK RX12 363 q_X12_fraction := Or.inl (KW.by 1357 (by decide +kernel) rfl)
theorem l_X12_367 : LK RX12 367 q_X12_can := Or.inl (KW.by 1384 (by decide +kernel) rfl)
theorem l_X12_371 : LK RX12 371 q_X12_layCans := Or.inl (KW.by 1380 (by decide +kernel) rfl)
theorem l_X12_378 : LK RX12 378 q_X12_leave := Or.inl (KW.by 1376 (by decide +kernel) rfl)
theorem l_X12_384 : LK RX12 384 q_X12_power := Or.inl (KW.by 1394 (by decide +kernel) rfl)
theorem l_X12_401 : LK RX12 401 q_X12_draw := Or.inl (KW.by 1410 (by decide +kernel) rfl)
theorem l_X12_404 : LK RX12 404 q_X12_step := Or.inl (KW.by 1416 (by decide +kernel) rfl)
theorem l_X12_409 : LK RX12 409 q_X12_run := Or.inl (KW.by 1406 (by decide +kernel) rfl)
theorem l_J13_311 : LK RJ13 311 q_J6_numberOfTrailingZeros := Or.inl (KW.by 720 (by decide +kernel) rfl)
theorem f_X11_9 : FL RX11 9 11 0 := ⟨by decide, by decide, Or.inl (KW.by 363 (by decide +kernel) rfl)⟩
theorem f_X11_16 : FL RX11 16 11 2 := ⟨by decide, by decide, Or.inl (KW.by 365 (by decide +kernel) rfl)⟩
theorem f_X11_23 : FL RX11 23 11 3 := ⟨by decide, by decide, Or.inl (KW.by 366 (by decide +kernel) rfl)⟩
theorem f_X11_27 : FL RX11 27 11 4 := ⟨by decide, by decide, Or.inl (KW.by 367 (by decide +kernel) rfl)⟩
theorem f_X11_33 : FL RX11 33 11 5 := ⟨by decide, by decide, Or.inl (KW.by 368 (by decide +kernel) rfl)⟩
theorem f_X11_37 : FL RX11 37 11 6 := ⟨by decide, by decide, Or.inl (KW.by 369 (by decide +kernel) rfl)⟩
theorem f_X11_40 : FL RX11 40 11 7 := ⟨by decide, by decide, Or.inl (KW.by 370 (by decide +kernel) rfl)⟩
theorem f_X11_44 : FL RX11 44 11 9 := ⟨by decide, by decide, Or.inl (KW.by 372 (by decide +kernel) rfl)⟩
theorem f_X11_47 : FL RX11 47 11 10 := ⟨by decide, by decide, Or.inl (KW.by 373 (by decide +kernel) rfl)⟩
theorem f_X11_50 : FL RX11 50 11 11 := ⟨by decide, by decide, Or.inl (KW.by 374 (by decide +kernel) rfl)⟩
theorem f_X11_53 : FL RX11 53 11 13 := ⟨by decide, by decide, Or.inl (KW.by 376 (by decide +kernel) rfl)⟩
theorem f_X11_59 : FL RX11 59 11 14 := ⟨by decide, by decide, Or.inl (KW.by 377 (by decide +kernel) rfl)⟩
theorem f_X11_68 : FL RX11 68 11 15 := ⟨by decide, by decide, Or.inl (KW.by 378 (by decide +kernel) rfl)⟩
theorem f_X11_75 : FL RX11 75 11 16 := ⟨by decide, by decide, Or.inl (KW.by 379 (by decide +kernel) rfl)⟩
theorem f_X11_82 : FL RX11 82 11 1 := ⟨by decide, by decide, Or.inl (KW.by 364 (by decide +kernel) rfl)⟩
theorem f_X11_96 : FL RX11 96 11 8 := ⟨by decide, by decide, Or.inl (KW.by 371 (by decide +kernel) rfl)⟩
theorem f_X11_102 : FL RX11 102 2 10 := ⟨by decide, by decide, Or.inr ⟨"LoopGuesses", KW.by 161 (by decide +kernel) rfl⟩⟩
theorem f_X11_105 : FL RX11 105 2 7 := ⟨by decide, by decide, Or.inr ⟨"LoopGuesses", KW.by 152 (by decide +kernel) rfl⟩⟩
theorem f_X11_108 : FL RX11 108 2 8 := ⟨by decide, by decide, Or.inr ⟨"LoopGuesses", KW.by 156 (by decide +kernel) rfl⟩⟩
theorem f_X11_111 : FL RX11 111 2 9 := ⟨by decide, by decide, Or.inr ⟨"LoopGuesses", KW.by 159 (by decide +kernel) rfl⟩⟩
theorem f_X11_114 : FL RX11 114 2 6 := ⟨by decide, by decide, Or.inr ⟨"LoopGuesses", KW.by 149 (by decide +kernel) rfl⟩⟩
theorem f_X11_117 : FL RX11 117 8 1 := ⟨by decide, by decide, Or.inr ⟨"LoopGuesses", KW.by 199 (by decide +kernel) rfl⟩⟩
theorem f_X11_144 : FL RX11 144 5 0 := ⟨by decide, by decide, Or.inr ⟨"LoopGuesses", KW.by 269 (by decide +kernel) rfl⟩⟩
theorem f_X11_150 : FL RX11 150 4 0 := ⟨by decide, by decide, Or.inr ⟨"LoopGuesses", KW.by 233 (by decide +kernel) rfl⟩⟩
theorem f_X11_159 : FL RX11 159 11 12 := ⟨by decide, by decide, Or.inl (KW.by 375 (by decide +kernel) rfl)⟩
theorem f_X11_162 : FL RX11 162 4 1 := ⟨by decide, by decide, Or.inr ⟨"LoopGuesses", KW.by 236 (by decide +kernel) rfl⟩⟩
theorem f_X11_166 : FL RX11 166 5 1 := ⟨by decide, by decide, Or.inr ⟨"LoopGuesses", KW.by 272 (by decide +kernel) rfl⟩⟩
theorem f_X11_169 : FL RX11 169 4 2 := ⟨by decide, by decide, Or.inr ⟨"LoopGuesses", KW.by 240 (by decide +kernel) rfl⟩⟩
theorem f_X11_172 : FL RX11 172 4 3 := ⟨by decide, by decide, Or.inr ⟨"LoopGuesses", KW.by 243 (by decide +kernel) rfl⟩⟩
theorem f_X11_175 : FL RX11 175 2 5 := ⟨by decide, by decide, Or.inr ⟨"LoopGuesses", KW.by 146 (by decide +kernel) rfl⟩⟩
theorem f_X11_179 : FL RX11 179 3 3 := ⟨by decide, by decide, Or.inr ⟨"LoopGuesses", KW.by 86 (by decide +kernel) rfl⟩⟩
theorem f_X11_188 : FL RX11 188 8 0 := ⟨by decide, by decide, Or.inr ⟨"LoopGuesses", KW.by 197 (by decide +kernel) rfl⟩⟩
theorem f_X11_264 : FL RX11 264 7 0 := ⟨by decide, by decide, Or.inr ⟨"LoopGuesses", KW.by 352 (by decide +kernel) rfl⟩⟩
theorem f_X0_12 : FL RX0 12 0 2 := ⟨by decide, by decide, Or.inl (KW.by 310 (by decide +kernel) rfl)⟩
theorem f_X0_21 : FL RX0 21 0 3 := ⟨by decide, by decide, Or.inl (KW.by 311 (by decide +kernel) rfl)⟩
theorem f_X0_28 : FL RX0 28 0 5 := ⟨by decide, by decide, Or.inl (KW.by 313 (by decide +kernel) rfl)⟩
theorem f_X0_32 : FL RX0 32 0 7 := ⟨by decide, by decide, Or.inl (KW.by 315 (by decide +kernel) rfl)⟩
theorem f_X0_35 : FL RX0 35 0 8 := ⟨by decide, by decide, Or.inl (KW.by 316 (by decide +kernel) rfl)⟩
theorem f_X0_42 : FL RX0 42 0 9 := ⟨by decide, by decide, Or.inl (KW.by 317 (by decide +kernel) rfl)⟩
theorem f_X0_50 : FL RX0 50 0 10 := ⟨by decide, by decide, Or.inl (KW.by 318 (by decide +kernel) rfl)⟩
theorem f_X0_58 : FL RX0 58 0 0 := ⟨by decide, by decide, Or.inl (KW.by 308 (by decide +kernel) rfl)⟩
theorem f_X0_62 : FL RX0 62 0 1 := ⟨by decide, by decide, Or.inl (KW.by 309 (by decide +kernel) rfl)⟩
theorem f_X0_66 : FL RX0 66 0 11 := ⟨by decide, by decide, Or.inl (KW.by 319 (by decide +kernel) rfl)⟩
theorem f_X0_79 : FL RX0 79 0 4 := ⟨by decide, by decide, Or.inl (KW.by 312 (by decide +kernel) rfl)⟩
theorem f_X0_83 : FL RX0 83 0 6 := ⟨by decide, by decide, Or.inl (KW.by 314 (by decide +kernel) rfl)⟩
theorem f_X0_94 : FL RX0 94 5 0 := ⟨by decide, by decide, Or.inr ⟨"LoopGuesses", KW.by 268 (by decide +kernel) rfl⟩⟩
theorem f_X0_107 : FL RX0 107 5 1 := ⟨by decide, by decide, Or.inr ⟨"LoopGuesses", KW.by 271 (by decide +kernel) rfl⟩⟩
theorem f_X0_114 : FL RX0 114 4 2 := ⟨by decide, by decide, Or.inr ⟨"LoopGuesses", KW.by 239 (by decide +kernel) rfl⟩⟩
theorem f_X1_12 : FL RX1 12 1 0 := ⟨by decide, by decide, Or.inl (KW.by 287 (by decide +kernel) rfl)⟩
theorem f_X1_22 : FL RX1 22 1 1 := ⟨by decide, by decide, Or.inl (KW.by 288 (by decide +kernel) rfl)⟩
theorem f_X1_26 : FL RX1 26 1 2 := ⟨by decide, by decide, Or.inl (KW.by 289 (by decide +kernel) rfl)⟩
theorem f_X1_29 : FL RX1 29 1 3 := ⟨by decide, by decide, Or.inl (KW.by 290 (by decide +kernel) rfl)⟩
theorem f_X1_32 : FL RX1 32 1 4 := ⟨by decide, by decide, Or.inl (KW.by 291 (by decide +kernel) rfl)⟩
theorem f_X1_46 : FL RX1 46 2 1 := ⟨by decide, by decide, Or.inr ⟨"LoopGuesses", KW.by 136 (by decide +kernel) rfl⟩⟩
theorem f_X1_56 : FL RX1 56 10 0 := ⟨by decide, by decide, Or.inr ⟨"LoopGuesses", KW.by 102 (by decide +kernel) rfl⟩⟩
theorem f_X1_73 : FL RX1 73 10 4 := ⟨by decide, by decide, Or.inr ⟨"LoopGuesses", KW.by 120 (by decide +kernel) rfl⟩⟩
theorem f_X1_77 : FL RX1 77 3 3 := ⟨by decide, by decide, Or.inr ⟨"LoopGuesses", KW.by 84 (by decide +kernel) rfl⟩⟩
theorem f_X1_85 : FL RX1 85 10 1 := ⟨by decide, by decide, Or.inr ⟨"LoopGuesses", KW.by 107 (by decide +kernel) rfl⟩⟩
theorem f_X1_96 : FL RX1 96 10 2 := ⟨by decide, by decide, Or.inr ⟨"LoopGuesses", KW.by 111 (by decide +kernel) rfl⟩⟩
theorem f_X2_11 : FL RX2 11 2 0 := ⟨by decide, by decide, Or.inl (KW.by 134 (by decide +kernel) rfl)⟩
theorem f_X2_19 : FL RX2 19 2 2 := ⟨by decide, by decide, Or.inl (KW.by 140 (by decide +kernel) rfl)⟩
theorem f_X2_23 : FL RX2 23 2 4 := ⟨by decide, by decide, Or.inl (KW.by 142 (by decide +kernel) rfl)⟩
theorem f_X2_26 : FL RX2 26 2 5 := ⟨by decide, by decide, Or.inl (KW.by 145 (by decide +kernel) rfl)⟩
theorem f_X2_33 : FL RX2 33 2 1 := ⟨by decide, by decide, Or.inl (KW.by 135 (by decide +kernel) rfl)⟩
theorem f_X2_37 : FL RX2 37 2 3 := ⟨by decide, by decide, Or.inl (KW.by 141 (by decide +kernel) rfl)⟩
theorem f_X2_40 : FL RX2 40 2 6 := ⟨by decide, by decide, Or.inl (KW.by 147 (by decide +kernel) rfl)⟩
theorem f_X2_43 : FL RX2 43 2 7 := ⟨by decide, by decide, Or.inl (KW.by 150 (by decide +kernel) rfl)⟩
theorem f_X2_46 : FL RX2 46 2 8 := ⟨by decide, by decide, Or.inl (KW.by 153 (by decide +kernel) rfl)⟩
theorem f_X2_49 : FL RX2 49 2 9 := ⟨by decide, by decide, Or.inl (KW.by 157 (by decide +kernel) rfl)⟩
theorem f_X2_52 : FL RX2 52 2 10 := ⟨by decide, by decide, Or.inl (KW.by 160 (by decide +kernel) rfl)⟩
theorem f_X2_65 : FL RX2 65 10 0 := ⟨by decide, by decide, Or.inr ⟨"LoopGuesses", KW.by 104 (by decide +kernel) rfl⟩⟩
theorem f_X2_68 : FL RX2 68 10 4 := ⟨by decide, by decide, Or.inr ⟨"LoopGuesses", KW.by 119 (by decide +kernel) rfl⟩⟩
theorem f_X2_83 : FL RX2 83 10 2 := ⟨by decide, by decide, Or.inr ⟨"LoopGuesses", KW.by 113 (by decide +kernel) rfl⟩⟩
theorem f_X2_89 : FL RX2 89 4 3 := ⟨by decide, by decide, Or.inr ⟨"LoopGuesses", KW.by 242 (by decide +kernel) rfl⟩⟩
theorem f_X2_95 : FL RX2 95 3 3 := ⟨by decide, by decide, Or.inr ⟨"LoopGuesses", KW.by 85 (by decide +kernel) rfl⟩⟩
theorem f_X3_12 : FL RX3 12 3 3 := ⟨by decide, by decide, Or.inl (KW.by 81 (by decide +kernel) rfl)⟩
theorem f_X3_18 : FL RX3 18 3 0 := ⟨by decide, by decide, Or.inl (KW.by 78 (by decide +kernel) rfl)⟩
theorem f_X3_22 : FL RX3 22 3 1 := ⟨by decide, by decide, Or.inl (KW.by 79 (by decide +kernel) rfl)⟩
theorem f_X3_25 : FL RX3 25 3 2 := ⟨by decide, by decide, Or.inl (KW.by 80 (by decide +kernel) rfl)⟩
theorem f_X4_12 : FL RX4 12 4 0 := ⟨by decide, by decide, Or.inl (KW.by 232 (by decide +kernel) rfl)⟩
theorem f_X4_22 : FL RX4 22 4 1 := ⟨by decide, by decide, Or.inl (KW.by 234 (by decide +kernel) rfl)⟩
theorem f_X4_26 : FL RX4 26 4 2 := ⟨by decide, by decide, Or.inl (KW.by 237 (by decide +kernel) rfl)⟩
theorem f_X4_29 : FL RX4 29 4 3 := ⟨by decide, by decide, Or.inl (KW.by 241 (by decide +kernel) rfl)⟩
theorem f_X4_32 : FL RX4 32 4 4 := ⟨by decide, by decide, Or.inl (KW.by 244 (by decide +kernel) rfl)⟩
theorem f_X4_35 : FL RX4 35 4 5 := ⟨by decide, by decide, Or.inl (KW.by 245 (by decide +kernel) rfl)⟩
theorem f_X4_44 : FL RX4 44 2 4 := ⟨by decide, by decide, Or.inr ⟨"LoopGuesses", KW.by 143 (by decide +kernel) rfl⟩⟩
theorem f_X4_50 : FL RX4 50 3 3 := ⟨by decide, by decide, Or.inr ⟨"LoopGuesses", KW.by 82 (by decide +kernel) rfl⟩⟩
theorem f_X4_66 : FL RX4 66 2 1 := ⟨by decide, by decide, Or.inr ⟨"LoopGuesses", KW.by 138 (by decide +kernel) rfl⟩⟩
theorem f_X4_74 : FL RX4 74 10 0 := ⟨by decide, by decide, Or.inr ⟨"LoopGuesses", KW.by 105 (by decide +kernel) rfl⟩⟩
theorem f_X4_90 : FL RX4 90 10 1 := ⟨by decide, by decide, Or.inr ⟨"LoopGuesses", KW.by 109 (by decide +kernel) rfl⟩⟩
theorem f_X4_97 : FL RX4 97 10 4 := ⟨by decide, by decide, Or.inr ⟨"LoopGuesses", KW.by 121 (by decide +kernel) rfl⟩⟩
theorem f_X4_105 : FL RX4 105 10 2 := ⟨by decide, by decide, Or.inr ⟨"LoopGuesses", KW.by 112 (by decide +kernel) rfl⟩⟩
theorem f_X5_12 : FL RX5 12 5 0 := ⟨by decide, by decide, Or.inl (KW.by 267 (by decide +kernel) rfl)⟩
theorem f_X5_18 : FL RX5 18 5 1 := ⟨by decide, by decide, Or.inl (KW.by 270 (by decide +kernel) rfl)⟩
theorem f_X5_26 : FL RX5 26 4 2 := ⟨by decide, by decide, Or.inr ⟨"LoopGuesses", KW.by 238 (by decide +kernel) rfl⟩⟩
theorem f_X5_34 : FL RX5 34 2 8 := ⟨by decide, by decide, Or.inr ⟨"LoopGuesses", KW.by 154 (by decide +kernel) rfl⟩⟩
theorem f_X5_44 : FL RX5 44 4 1 := ⟨by decide, by decide, Or.inr ⟨"LoopGuesses", KW.by 235 (by decide +kernel) rfl⟩⟩
theorem f_X5_47 : FL RX5 47 2 4 := ⟨by decide, by decide, Or.inr ⟨"LoopGuesses", KW.by 144 (by decide +kernel) rfl⟩⟩
theorem f_X5_51 : FL RX5 51 3 3 := ⟨by decide, by decide, Or.inr ⟨"LoopGuesses", KW.by 83 (by decide +kernel) rfl⟩⟩
theorem f_X6_9 : FL RX6 9 6 4 := ⟨by decide, by decide, Or.inl (KW.by 35 (by decide +kernel) rfl)⟩
theorem f_X6_20 : FL RX6 20 6 0 := ⟨by decide, by decide, Or.inl (KW.by 31 (by decide +kernel) rfl)⟩
theorem f_X6_24 : FL RX6 24 6 5 := ⟨by decide, by decide, Or.inl (KW.by 36 (by decide +kernel) rfl)⟩
theorem f_X6_62 : FL RX6 62 6 2 := ⟨by decide, by decide, Or.inl (KW.by 33 (by decide +kernel) rfl)⟩
theorem f_X6_71 : FL RX6 71 2 7 := ⟨by decide, by decide, Or.inr ⟨"LoopGuesses", KW.by 151 (by decide +kernel) rfl⟩⟩
theorem f_X6_74 : FL RX6 74 2 8 := ⟨by decide, by decide, Or.inr ⟨"LoopGuesses", KW.by 155 (by decide +kernel) rfl⟩⟩
theorem f_X6_80 : FL RX6 80 2 9 := ⟨by decide, by decide, Or.inr ⟨"LoopGuesses", KW.by 158 (by decide +kernel) rfl⟩⟩
theorem f_X6_90 : FL RX6 90 2 6 := ⟨by decide, by decide, Or.inr ⟨"LoopGuesses", KW.by 148 (by decide +kernel) rfl⟩⟩
theorem f_X6_93 : FL RX6 93 6 1 := ⟨by decide, by decide, Or.inl (KW.by 32 (by decide +kernel) rfl)⟩
theorem f_X6_103 : FL RX6 103 10 1 := ⟨by decide, by decide, Or.inr ⟨"LoopGuesses", KW.by 110 (by decide +kernel) rfl⟩⟩
theorem f_X6_108 : FL RX6 108 10 4 := ⟨by decide, by decide, Or.inr ⟨"LoopGuesses", KW.by 122 (by decide +kernel) rfl⟩⟩
theorem f_X6_112 : FL RX6 112 6 3 := ⟨by decide, by decide, Or.inl (KW.by 34 (by decide +kernel) rfl)⟩
theorem f_X6_126 : FL RX6 126 2 1 := ⟨by decide, by decide, Or.inr ⟨"LoopGuesses", KW.by 139 (by decide +kernel) rfl⟩⟩
theorem f_X6_133 : FL RX6 133 10 2 := ⟨by decide, by decide, Or.inr ⟨"LoopGuesses", KW.by 114 (by decide +kernel) rfl⟩⟩
theorem f_X6_139 : FL RX6 139 10 0 := ⟨by decide, by decide, Or.inr ⟨"LoopGuesses", KW.by 106 (by decide +kernel) rfl⟩⟩
theorem f_X6_146 : FL RX6 146 10 3 := ⟨by decide, by decide, Or.inr ⟨"LoopGuesses", KW.by 116 (by decide +kernel) rfl⟩⟩
theorem f_X7_11 : FL RX7 11 7 1 := ⟨by decide, by decide, Or.inl (KW.by 353 (by decide +kernel) rfl)⟩
theorem f_X7_15 : FL RX7 15 7 0 := ⟨by decide, by decide, Or.inl (KW.by 351 (by decide +kernel) rfl)⟩
theorem f_X7_23 : FL RX7 23 8 0 := ⟨by decide, by decide, Or.inr ⟨"LoopGuesses", KW.by 196 (by decide +kernel) rfl⟩⟩
theorem f_X7_32 : FL RX7 32 2 1 := ⟨by decide, by decide, Or.inr ⟨"LoopGuesses", KW.by 137 (by decide +kernel) rfl⟩⟩
theorem f_X7_48 : FL RX7 48 10 0 := ⟨by decide, by decide, Or.inr ⟨"LoopGuesses", KW.by 103 (by decide +kernel) rfl⟩⟩
theorem f_X7_63 : FL RX7 63 10 4 := ⟨by decide, by decide, Or.inr ⟨"LoopGuesses", KW.by 118 (by decide +kernel) rfl⟩⟩
theorem f_X7_72 : FL RX7 72 10 1 := ⟨by decide, by decide, Or.inr ⟨"LoopGuesses", KW.by 108 (by decide +kernel) rfl⟩⟩
theorem f_X7_88 : FL RX7 88 10 3 := ⟨by decide, by decide, Or.inr ⟨"LoopGuesses", KW.by 115 (by decide +kernel) rfl⟩⟩
theorem f_X8_9 : FL RX8 9 8 0 := ⟨by decide, by decide, Or.inl (KW.by 195 (by decide +kernel) rfl)⟩
theorem f_X8_18 : FL RX8 18 8 1 := ⟨by decide, by decide, Or.inl (KW.by 198 (by decide +kernel) rfl)⟩
theorem f_X9_9 : FL RX9 9 9 0 := ⟨by decide, by decide, Or.inl (KW.by 73 (by decide +kernel) rfl)⟩
theorem f_X10_7 : FL RX10 7 10 4 := ⟨by decide, by decide, Or.inl (KW.by 117 (by decide +kernel) rfl)⟩
theorem f_X10_13 : FL RX10 13 10 0 := ⟨by decide, by decide, Or.inl (KW.by 101 (by decide +kernel) rfl)⟩
theorem f_X12_7 : FL RX12 7 12 0 := ⟨by decide, by decide, Or.inl (KW.by 926 (by decide +kernel) rfl)⟩
theorem f_X12_13 : FL RX12 13 12 2 := ⟨by decide, by decide, Or.inl (KW.by 928 (by decide +kernel) rfl)⟩
theorem f_X12_16 : FL RX12 16 12 3 := ⟨by decide, by decide, Or.inl (KW.by 929 (by decide +kernel) rfl)⟩
theorem f_X12_19 : FL RX12 19 12 4 := ⟨by decide, by decide, Or.inl (KW.by 930 (by decide +kernel) rfl)⟩
theorem f_X12_22 : FL RX12 22 12 5 := ⟨by decide, by decide, Or.inl (KW.by 931 (by decide +kernel) rfl)⟩
theorem f_X12_25 : FL RX12 25 12 6 := ⟨by decide, by decide, Or.inl (KW.by 932 (by decide +kernel) rfl)⟩
theorem f_X12_28 : FL RX12 28 12 7 := ⟨by decide, by decide, Or.inl (KW.by 933 (by decide +kernel) rfl)⟩
theorem f_X12_31 : FL RX12 31 12 13 := ⟨by decide, by decide, Or.inl (KW.by 939 (by decide +kernel) rfl)⟩
theorem f_X12_34 : FL RX12 34 12 14 := ⟨by decide, by decide, Or.inl (KW.by 940 (by decide +kernel) rfl)⟩
theorem f_X12_37 : FL RX12 37 12 15 := ⟨by decide, by decide, Or.inl (KW.by 941 (by decide +kernel) rfl)⟩
theorem f_X12_40 : FL RX12 40 12 16 := ⟨by decide, by decide, Or.inl (KW.by 942 (by decide +kernel) rfl)⟩
theorem f_X12_43 : FL RX12 43 12 17 := ⟨by decide, by decide, Or.inl (KW.by 943 (by decide +kernel) rfl)⟩
theorem f_X12_46 : FL RX12 46 12 18 := ⟨by decide, by decide, Or.inl (KW.by 944 (by decide +kernel) rfl)⟩
theorem f_X12_49 : FL RX12 49 12 19 := ⟨by decide, by decide, Or.inl (KW.by 945 (by decide +kernel) rfl)⟩
theorem f_X12_52 : FL RX12 52 12 20 := ⟨by decide, by decide, Or.inl (KW.by 946 (by decide +kernel) rfl)⟩
theorem f_X12_55 : FL RX12 55 12 21 := ⟨by decide, by decide, Or.inl (KW.by 947 (by decide +kernel) rfl)⟩
theorem f_X12_58 : FL RX12 58 12 27 := ⟨by decide, by decide, Or.inl (KW.by 953 (by decide +kernel) rfl)⟩
theorem f_X12_61 : FL RX12 61 12 28 := ⟨by decide, by decide, Or.inl (KW.by 954 (by decide +kernel) rfl)⟩
theorem f_X12_64 : FL RX12 64 12 29 := ⟨by decide, by decide, Or.inl (KW.by 955 (by decide +kernel) rfl)⟩
theorem f_X12_67 : FL RX12 67 12 30 := ⟨by decide, by decide, Or.inl (KW.by 956 (by decide +kernel) rfl)⟩
theorem f_X12_70 : FL RX12 70 12 33 := ⟨by decide, by decide, Or.inl (KW.by 959 (by decide +kernel) rfl)⟩
theorem f_X12_73 : FL RX12 73 12 34 := ⟨by decide, by decide, Or.inl (KW.by 960 (by decide +kernel) rfl)⟩
theorem f_X12_76 : FL RX12 76 12 35 := ⟨by decide, by decide, Or.inl (KW.by 961 (by decide +kernel) rfl)⟩
theorem f_X12_79 : FL RX12 79 12 38 := ⟨by decide, by decide, Or.inl (KW.by 964 (by decide +kernel) rfl)⟩
theorem f_X12_82 : FL RX12 82 12 39 := ⟨by decide, by decide, Or.inl (KW.by 965 (by decide +kernel) rfl)⟩
theorem f_X12_86 : FL RX12 86 12 40 := ⟨by decide, by decide, Or.inl (KW.by 966 (by decide +kernel) rfl)⟩
theorem f_X12_89 : FL RX12 89 12 41 := ⟨by decide, by decide, Or.inl (KW.by 967 (by decide +kernel) rfl)⟩
theorem f_X12_92 : FL RX12 92 12 44 := ⟨by decide, by decide, Or.inl (KW.by 970 (by decide +kernel) rfl)⟩
theorem f_X12_96 : FL RX12 96 12 45 := ⟨by decide, by decide, Or.inl (KW.by 971 (by decide +kernel) rfl)⟩
theorem f_X12_99 : FL RX12 99 12 46 := ⟨by decide, by decide, Or.inl (KW.by 972 (by decide +kernel) rfl)⟩
theorem f_X12_102 : FL RX12 102 12 47 := ⟨by decide, by decide, Or.inl (KW.by 973 (by decide +kernel) rfl)⟩
theorem f_X12_105 : FL RX12 105 12 48 := ⟨by decide, by decide, Or.inl (KW.by 974 (by decide +kernel) rfl)⟩
theorem f_X12_118 : FL RX12 118 12 1 := ⟨by decide, by decide, Or.inl (KW.by 927 (by decide +kernel) rfl)⟩
theorem f_X12_130 : FL RX12 130 12 22 := ⟨by decide, by decide, Or.inl (KW.by 948 (by decide +kernel) rfl)⟩
theorem f_X12_133 : FL RX12 133 12 31 := ⟨by decide, by decide, Or.inl (KW.by 957 (by decide +kernel) rfl)⟩
theorem f_X12_144 : FL RX12 144 12 32 := ⟨by decide, by decide, Or.inl (KW.by 958 (by decide +kernel) rfl)⟩
theorem f_X12_151 : FL RX12 151 12 23 := ⟨by decide, by decide, Or.inl (KW.by 949 (by decide +kernel) rfl)⟩
theorem f_X12_154 : FL RX12 154 12 24 := ⟨by decide, by decide, Or.inl (KW.by 950 (by decide +kernel) rfl)⟩
theorem f_X12_157 : FL RX12 157 12 25 := ⟨by decide, by decide, Or.inl (KW.by 951 (by decide +kernel) rfl)⟩
theorem f_X12_180 : FL RX12 180 12 26 := ⟨by decide, by decide, Or.inl (KW.by 952 (by decide +kernel) rfl)⟩
theorem f_X12_205 : FL RX12 205 12 8 := ⟨by decide, by decide, Or.inl (KW.by 934 (by decide +kernel) rfl)⟩
theorem f_X12_208 : FL RX12 208 12 9 := ⟨by decide, by decide, Or.inl (KW.by 935 (by decide +kernel) rfl)⟩
theorem f_X12_211 : FL RX12 211 12 10 := ⟨by decide, by decide, Or.inl (KW.by 936 (by decide +kernel) rfl)⟩
theorem f_X12_214 : FL RX12 214 12 11 := ⟨by decide, by decide, Or.inl (KW.by 937 (by decide +kernel) rfl)⟩
theorem f_X12_217 : FL RX12 217 12 12 := ⟨by decide, by decide, Or.inl (KW.by 938 (by decide +kernel) rfl)⟩
theorem f_X12_223 : FL RX12 223 12 36 := ⟨by decide, by decide, Or.inl (KW.by 962 (by decide +kernel) rfl)⟩
theorem f_X12_316 : FL RX12 316 12 42 := ⟨by decide, by decide, Or.inl (KW.by 968 (by decide +kernel) rfl)⟩
theorem f_X12_326 : FL RX12 326 12 37 := ⟨by decide, by decide, Or.inl (KW.by 963 (by decide +kernel) rfl)⟩
theorem f_X12_387 : FL RX12 387 12 43 := ⟨by decide, by decide, Or.inl (KW.by 969 (by decide +kernel) rfl)⟩
theorem f_X12_395 : FL RX12 395 12 50 := ⟨by decide, by decide, Or.inl (KW.by 976 (by decide +kernel) rfl)⟩
theorem f_X12_398 : FL RX12 398 12 49 := ⟨by decide, by decide, Or.inl (KW.by 975 (by decide +kernel) rfl)⟩
theorem k_X11_13 : KW (.classLink RX11 13 "LoopGuesses$Reader") := KW.by 25 (by decide +kernel) rfl
theorem k_X11_20 : KW (.classLink RX11 20 "LoopGuesses$Code") := KW.by 52 (by decide +kernel) rfl
theorem k_X11_30 : KW (.classLink RX11 30 "LoopGuesses$Setup") := KW.by 185 (by decide +kernel) rfl
theorem k_X11_56 : KW (.classLink RX11 56 "LoopGuesses$States") := KW.by 205 (by decide +kernel) rfl
theorem k_X11_63 : KW (.classLink RX11 63 "LoopGuesses$Analysis") := KW.by 207 (by decide +kernel) rfl
theorem k_X11_72 : KW (.classLink RX11 72 "LoopGuesses$Runner") := KW.by 345 (by decide +kernel) rfl
theorem k_X0_9 : KW (.classLink RX0 9 "LoopGuesses$States") := KW.by 213 (by decide +kernel) rfl
theorem k_X0_18 : KW (.classLink RX0 18 "LoopGuesses$Flow") := KW.by 215 (by decide +kernel) rfl
theorem k_X0_25 : KW (.classLink RX0 25 "LoopGuesses$Invariants") := KW.by 259 (by decide +kernel) rfl
theorem k_X0_39 : KW (.classLink RX0 39 "LoopGuesses$Blame") := KW.by 278 (by decide +kernel) rfl
theorem k_X1_9 : KW (.classLink RX1 9 "LoopGuesses$States") := KW.by 284 (by decide +kernel) rfl
theorem k_X2_9 : KW (.classLink RX2 9 "LoopGuesses$Step") := KW.by 58 (by decide +kernel) rfl
theorem k_X2_17 : KW (.classLink RX2 17 "LoopGuesses$Condition") := KW.by 60 (by decide +kernel) rfl
theorem k_X3_9 : KW (.classLink RX3 9 "LoopGuesses$States") := KW.by 67 (by decide +kernel) rfl
theorem k_X4_9 : KW (.classLink RX4 9 "LoopGuesses$States") := KW.by 221 (by decide +kernel) rfl
theorem k_X5_9 : KW (.classLink RX5 9 "LoopGuesses$Flow") := KW.by 265 (by decide +kernel) rfl
theorem k_X9_10 : KW (.classLink RX9 10 "LoopGuesses$States") := KW.by 229 (by decide +kernel) rfl
theorem k_L_7 : KW (.classLink RL 7 "LoopGuesses") := KW.by 17 (by decide +kernel) rfl
theorem k_L_10 : KW (.classLink RL 10 "LoopGuessesModel") := KW.by 920 (by decide +kernel) rfl
theorem mk_X11 : KW (.instantiable "LoopGuesses" 17) := KW.by 18 (by decide +kernel) rfl
theorem mk_X6 : KW (.instantiable "LoopGuesses$Reader" 6) := KW.by 26 (by decide +kernel) rfl
theorem mk_X2 : KW (.instantiable "LoopGuesses$Code" 11) := KW.by 53 (by decide +kernel) rfl
theorem mk_X3 : KW (.instantiable "LoopGuesses$Condition" 4) := KW.by 62 (by decide +kernel) rfl
theorem mk_X9 : KW (.instantiable "LoopGuesses$States" 1) := KW.by 68 (by decide +kernel) rfl
theorem mk_X10 : KW (.instantiable "LoopGuesses$Step" 5) := KW.by 96 (by decide +kernel) rfl
theorem mk_X8 : KW (.instantiable "LoopGuesses$Setup" 2) := KW.by 186 (by decide +kernel) rfl
theorem mk_X0 : KW (.instantiable "LoopGuesses$Analysis" 12) := KW.by 208 (by decide +kernel) rfl
theorem mk_X4 : KW (.instantiable "LoopGuesses$Flow" 6) := KW.by 216 (by decide +kernel) rfl
theorem mk_X5 : KW (.instantiable "LoopGuesses$Invariants" 2) := KW.by 260 (by decide +kernel) rfl
theorem mk_X1 : KW (.instantiable "LoopGuesses$Blame" 5) := KW.by 279 (by decide +kernel) rfl
theorem mk_X7 : KW (.instantiable "LoopGuesses$Runner" 2) := KW.by 346 (by decide +kernel) rfl
theorem mk_X12 : KW (.instantiable "LoopGuessesModel" 51) := KW.by 921 (by decide +kernel) rfl
theorem ini_L : KW (.initialized "LoopGuessesLaw") := KW.by 0 (by decide +kernel) rfl
theorem ini_X11 : KW (.initialized "LoopGuesses") := KW.by 1 (by decide +kernel) rfl
theorem ini_X6 : KW (.initialized "LoopGuesses$Reader") := KW.by 2 (by decide +kernel) rfl
theorem ini_X2 : KW (.initialized "LoopGuesses$Code") := KW.by 3 (by decide +kernel) rfl
theorem ini_X3 : KW (.initialized "LoopGuesses$Condition") := KW.by 4 (by decide +kernel) rfl
theorem ini_X9 : KW (.initialized "LoopGuesses$States") := KW.by 5 (by decide +kernel) rfl
theorem ini_X10 : KW (.initialized "LoopGuesses$Step") := KW.by 6 (by decide +kernel) rfl
theorem ini_X8 : KW (.initialized "LoopGuesses$Setup") := KW.by 7 (by decide +kernel) rfl
theorem ini_X0 : KW (.initialized "LoopGuesses$Analysis") := KW.by 8 (by decide +kernel) rfl
theorem ini_X4 : KW (.initialized "LoopGuesses$Flow") := KW.by 9 (by decide +kernel) rfl
theorem ini_J9 : KW (.initialized "java/lang/Math") := KW.by 10 (by decide +kernel) rfl
theorem ini_X5 : KW (.initialized "LoopGuesses$Invariants") := KW.by 11 (by decide +kernel) rfl
theorem ini_X1 : KW (.initialized "LoopGuesses$Blame") := KW.by 12 (by decide +kernel) rfl
theorem ini_X7 : KW (.initialized "LoopGuesses$Runner") := KW.by 13 (by decide +kernel) rfl
theorem ini_X12 : KW (.initialized "LoopGuessesModel") := KW.by 14 (by decide +kernel) rfl
theorem ini_J13 : KW (.initialized "java/lang/Long") := KW.by 15 (by decide +kernel) rfl
theorem ini_J6 : KW (.initialized "java/lang/Integer") := KW.by 16 (by decide +kernel) rfl
theorem kl_X9_22 : KW (.constantLong RX9 22 (68719476735)) := KW.by 598 (by decide +kernel) rfl
theorem kl_X9_43 : KW (.constantLong RX9 43 (63)) := KW.by 603 (by decide +kernel) rfl
theorem kl_X9_45 : KW (.constantLong RX9 45 (1090785345)) := KW.by 604 (by decide +kernel) rfl
theorem kl_X9_24 : KW (.constantLong RX9 24 (-1)) := KW.by 644 (by decide +kernel) rfl
theorem kl_J13_314 : KW (.constantLong RJ13 314 (6148914691236517205)) := KW.by 699 (by decide +kernel) rfl
theorem kl_J13_316 : KW (.constantLong RJ13 316 (3689348814741910323)) := KW.by 700 (by decide +kernel) rfl
theorem kl_J13_318 : KW (.constantLong RJ13 318 (1085102592571150095)) := KW.by 701 (by decide +kernel) rfl
theorem kl_X11_210 : KW (.constantLong RX11 210 (10000)) := KW.by 780 (by decide +kernel) rfl
theorem kl_X7_19 : KW (.constantLong RX7 19 (6364136223846793005)) := KW.by 892 (by decide +kernel) rfl
theorem kl_X7_21 : KW (.constantLong RX7 21 (1442695040888963407)) := KW.by 893 (by decide +kernel) rfl
theorem kl_X12_112 : KW (.constantLong RX12 112 (255)) := KW.by 1085 (by decide +kernel) rfl
theorem kl_X12_122 : KW (.constantLong RX12 122 (97)) := KW.by 1112 (by decide +kernel) rfl
theorem kl_X12_124 : KW (.constantLong RX12 124 (99)) := KW.by 1113 (by decide +kernel) rfl
theorem kl_X12_126 : KW (.constantLong RX12 126 (48)) := KW.by 1153 (by decide +kernel) rfl
theorem kl_X12_128 : KW (.constantLong RX12 128 (53)) := KW.by 1154 (by decide +kernel) rfl
theorem kl_X12_319 : KW (.constantLong RX12 319 (3)) := KW.by 1278 (by decide +kernel) rfl
theorem kl_X12_324 : KW (.constantLong RX12 324 (2)) := KW.by 1291 (by decide +kernel) rfl
theorem kl_X12_329 : KW (.constantLong RX12 329 (6)) := KW.by 1296 (by decide +kernel) rfl
theorem kl_X12_348 : KW (.constantLong RX12 348 (4)) := KW.by 1328 (by decide +kernel) rfl
theorem kl_X12_346 : KW (.constantLong RX12 346 (10000)) := KW.by 1332 (by decide +kernel) rfl
theorem kl_X12_338 : KW (.constantLong RX12 338 (5)) := KW.by 1349 (by decide +kernel) rfl
theorem kl_X12_376 : KW (.constantLong RX12 376 (18014398509481983)) := KW.by 1375 (by decide +kernel) rfl
theorem kl_X12_374 : KW (.constantLong RX12 374 (-1)) := KW.by 1388 (by decide +kernel) rfl
theorem kl_X12_382 : KW (.constantLong RX12 382 (10)) := KW.by 1393 (by decide +kernel) rfl
theorem kl_X12_407 : KW (.constantLong RX12 407 (20)) := KW.by 1405 (by decide +kernel) rfl
theorem kl_X12_391 : KW (.constantLong RX12 391 (6364136223846793005)) := KW.by 1414 (by decide +kernel) rfl
theorem kl_X12_393 : KW (.constantLong RX12 393 (1442695040888963407)) := KW.by 1415 (by decide +kernel) rfl
theorem kl_L_68 : KW (.constantLong RL 68 (4294967295)) := KW.by 1428 (by decide +kernel) rfl
theorem kc_J6_264 : KW (.constant RJ6 264 (65536)) := KW.by 723 (by decide +kernel) rfl
theorem kc_J6_265 : KW (.constant RJ6 265 (1431655765)) := KW.by 773 (by decide +kernel) rfl
theorem kc_J6_266 : KW (.constant RJ6 266 (858993459)) := KW.by 774 (by decide +kernel) rfl
theorem kc_J6_267 : KW (.constant RJ6 267 (252645135)) := KW.by 775 (by decide +kernel) rfl
theorem ac_char : KW (.arrayClass .char) := KW.by 50 (by decide +kernel) rfl
theorem ac_int : KW (.arrayClass .int) := KW.by 51 (by decide +kernel) rfl
theorem ac_long : KW (.arrayClass .long) := KW.by 77 (by decide +kernel) rfl
theorem ac_boolean : KW (.arrayClass .boolean) := KW.by 1080 (by decide +kernel) rfl
theorem ao_X10 : KW (.arrayOver (.object "LoopGuesses$Step")) := KW.by 59 (by decide +kernel) rfl
theorem ao_X3 : KW (.arrayOver (.object "LoopGuesses$Condition")) := KW.by 61 (by decide +kernel) rfl
theorem ao_X9 : KW (.arrayOver (.object "LoopGuesses$States")) := KW.by 230 (by decide +kernel) rfl
