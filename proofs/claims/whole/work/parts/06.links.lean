abbrev mdX0_init : gMD := (RX0, cX0_init, 1, none, 1, yX0_init, none)
abbrev mdX0_addCell : gMD := (RX0, cX0_addCell, 5, none, 2, yX0_addCell, none)
abbrev mdX0_beginAt : gMD := (RX0, cX0_beginAt, 3, none, 1, yX0_beginAt, none)
abbrev mdX0_absorb : gMD := (RX0, cX0_absorb, 2, none, 2, yX0_absorb, none)
abbrev mdX0_copyFrom : gMD := (RX0, cX0_copyFrom, 2, none, 1, yX0_copyFrom, none)
abbrev mdX0_beganBefore : gMD := (RX0, cX0_beganBefore, 2, (some .boolean), 1, yX0_beganBefore, none)
abbrev mdX0_endTick : gMD := (RX0, cX0_endTick, 1, (some .int), 1, yX0_endTick, none)
abbrev mdX0_mean : gMD := (RX0, cX0_mean, 1, (some .int), 1, yX0_mean, none)
abbrev mdX0_measure : gMD := (RX0, cX0_measure, 2, (some .int), 2, yX0_measure, none)
abbrev mdX0_worth : gMD := (RX0, cX0_worth, 1, (some .int), 1, yX0_worth, none)
abbrev mdX1_init : gMD := (RX1, cX1_init, 2, none, 2, yX1_init, none)
abbrev mdX1_empty : gMD := (RX1, cX1_empty, 2, none, 2, yX1_empty, none)
abbrev mdX1_addLine : gMD := (RX1, cX1_addLine, 9, (some .int), 5, yX1_addLine, none)
abbrev mdX1_addCell : gMD := (RX1, cX1_addCell, 7, none, 4, yX1_addCell, none)
abbrev mdX1_ownerAt : gMD := (RX1, cX1_ownerAt, 2, (some .int), 1, yX1_ownerAt, none)
abbrev mdX1_freeSlot : gMD := (RX1, cX1_freeSlot, 2, (some .int), 1, yX1_freeSlot, none)
abbrev mdX1_joinTo : gMD := (RX1, cX1_joinTo, 3, none, 3, yX1_joinTo, none)
abbrev mdX1_handOver : gMD := (RX1, cX1_handOver, 4, none, 1, yX1_handOver, none)
abbrev mdX1_endAllWithout : gMD := (RX1, cX1_endAllWithout, 5, (some .int), 3, yX1_endAllWithout, none)
abbrev mdX1_earliestWithout : gMD := (RX1, cX1_earliestWithout, 5, (some .int), 2, yX1_earliestWithout, none)
abbrev mdX1_liveBlobs : gMD := (RX1, cX1_liveBlobs, 3, (some .int), 1, yX1_liveBlobs, none)
abbrev mdX1_liveCells : gMD := (RX1, cX1_liveCells, 3, (some .int), 1, yX1_liveCells, none)
abbrev mdX1_hasEndedWith : gMD := (RX1, cX1_hasEndedWith, 4, (some .boolean), 3, yX1_hasEndedWith, none)
abbrev mdX2_init : gMD := (RX2, cX2_init, 2, none, 2, yX2_init, none)
abbrev mdX2_keep : gMD := (RX2, cX2_keep, 2, none, 2, yX2_keep, none)
abbrev mdX2_giveBack : gMD := (RX2, cX2_giveBack, 3, none, 2, yX2_giveBack, none)
abbrev mdX2_forget : gMD := (RX2, cX2_forget, 1, none, 1, yX2_forget, none)
abbrev mdX3_init : gMD := (RX3, cX3_init, 1, none, 2, yX3_init, none)
abbrev mdX3_reset : gMD := (RX3, cX3_reset, 1, none, 1, yX3_reset, none)
abbrev mdX3_takeItem : gMD := (RX3, cX3_takeItem, 3, (some .boolean), 3, yX3_takeItem, none)
abbrev mdX3_takeGrid : gMD := (RX3, cX3_takeGrid, 2, (some .boolean), 2, yX3_takeGrid, none)
abbrev mdX3_addRule : gMD := (RX3, cX3_addRule, 3, (some .boolean), 2, yX3_addRule, none)
abbrev mdX3_takeDark : gMD := (RX3, cX3_takeDark, 2, (some .boolean), 2, yX3_takeDark, none)
abbrev mdX3_takeRest : gMD := (RX3, cX3_takeRest, 2, (some .boolean), 2, yX3_takeRest, none)
abbrev mdX3_isBetween : gMD := (RX3, cX3_isBetween, 3, (some .boolean), 1, yX3_isBetween, none)
abbrev mdX3_lineBound : gMD := (RX3, cX3_lineBound, 4, (some .long), 1, yX3_lineBound, none)
abbrev mdX3_valveOver : gMD := (RX3, cX3_valveOver, 3, (some .int), 1, yX3_valveOver, none)
abbrev mdX3_wantedFrom : gMD := (RX3, cX3_wantedFrom, 2, (some .int), 1, yX3_wantedFrom, none)
abbrev mdX3_wantedTo : gMD := (RX3, cX3_wantedTo, 2, (some .int), 1, yX3_wantedTo, none)
abbrev mdX3_isLate : gMD := (RX3, cX3_isLate, 2, (some .boolean), 2, yX3_isLate, none)
abbrev mdX4_init : gMD := (RX4, cX4_init, 1, none, 1, yX4_init, none)
abbrev mdX4_addLine : gMD := (RX4, cX4_addLine, 3, none, 1, yX4_addLine, none)
abbrev mdX4_copyFrom : gMD := (RX4, cX4_copyFrom, 2, none, 1, yX4_copyFrom, none)
abbrev mdX5_init : gMD := (RX5, cX5_init, 1, none, 1, yX5_init, none)
abbrev mdX5_append : gMD := (RX5, cX5_append, 2, none, 1, yX5_append, none)
abbrev mdX5_readInto : gMD := (RX5, cX5_readInto, 4, (some .int), 5, yX5_readInto, none)
abbrev mdX5_readItem : gMD := (RX5, cX5_readItem, 5, (some .boolean), 4, yX5_readItem, none)
abbrev mdX5_numbersBehind : gMD := (RX5, cX5_numbersBehind, 1, (some .int), 1, yX5_numbersBehind, none)
abbrev mdX5_readNumber : gMD := (RX5, cX5_readNumber, 4, (some .int), 2, yX5_readNumber, none)
abbrev mdX5_letterHere : gMD := (RX5, cX5_letterHere, 1, (some .char), 1, yX5_letterHere, none)
abbrev mdX5_isFigure : gMD := (RX5, cX5_isFigure, 1, (some .boolean), 1, yX5_isFigure, none)
abbrev mdX6_init : gMD := (RX6, cX6_init, 1, none, 1, yX6_init, none)
abbrev mdX6_want : gMD := (RX6, cX6_want, 5, none, 2, yX6_want, none)
abbrev mdX6_isNear : gMD := (RX6, cX6_isNear, 4, (some .boolean), 1, yX6_isNear, none)
abbrev mdX6_isOpenWithin : gMD := (RX6, cX6_isOpenWithin, 4, (some .boolean), 1, yX6_isOpenWithin, none)
abbrev mdX6_ticksOpen : gMD := (RX6, cX6_ticksOpen, 3, (some .int), 1, yX6_ticksOpen, none)
abbrev mdX7_init : gMD := (RX7, cX7_init, 2, none, 2, yX7_init, none)
abbrev mdX7_closeAll : gMD := (RX7, cX7_closeAll, 2, none, 1, yX7_closeAll, none)
abbrev mdX7_judgeAll : gMD := (RX7, cX7_judgeAll, 5, none, 4, yX7_judgeAll, none)
abbrev mdX7_endedOf : gMD := (RX7, cX7_endedOf, 1, (some .int), 1, yX7_endedOf, none)
abbrev mdX7_firstRuleFor : gMD := (RX7, cX7_firstRuleFor, 4, (some .int), 3, yX7_firstRuleFor, none)
abbrev mdX7_openFor : gMD := (RX7, cX7_openFor, 7, none, 3, yX7_openFor, none)
abbrev mdX7_isBlown : gMD := (RX7, cX7_isBlown, 5, (some .boolean), 2, yX7_isBlown, none)
abbrev mdX7_isBad : gMD := (RX7, cX7_isBad, 2, (some .boolean), 1, yX7_isBad, none)
abbrev mdX7_worth : gMD := (RX7, cX7_worth, 4, (some .int), 2, yX7_worth, none)
abbrev mdX7_howMany : gMD := (RX7, cX7_howMany, 6, (some .int), 4, yX7_howMany, none)
abbrev mdX7_isOneOf : gMD := (RX7, cX7_isOneOf, 5, (some .boolean), 3, yX7_isOneOf, none)
abbrev mdX7_howManyBadBy : gMD := (RX7, cX7_howManyBadBy, 5, (some .int), 2, yX7_howManyBadBy, none)
abbrev mdX8_init : gMD := (RX8, cX8_init, 1, none, 5, yX8_init, none)
abbrev mdX8_write : gMD := (RX8, cX8_write, 2, (some .int), 2, yX8_write, none)
abbrev mdX8_wipe : gMD := (RX8, cX8_wipe, 2, (some .int), 1, yX8_wipe, none)
abbrev mdX8_fault : gMD := (RX8, cX8_fault, 1, (some .int), 6, yX8_fault, none)
abbrev mdX8_lay : gMD := (RX8, cX8_lay, 1, (some .int), 6, yX8_lay, none)
abbrev mdX8_see : gMD := (RX8, cX8_see, 5, (some .int), 6, yX8_see, none)
abbrev mdX8_rule : gMD := (RX8, cX8_rule, 4, (some .int), 6, yX8_rule, none)
abbrev mdX8_clear : gMD := (RX8, cX8_clear, 2, (some .int), 4, yX8_clear, none)
abbrev mdX8_undo : gMD := (RX8, cX8_undo, 1, (some .int), 7, yX8_undo, none)
abbrev mdX8_blob : gMD := (RX8, cX8_blob, 4, (some .int), 3, yX8_blob, none)
abbrev mdX8_open : gMD := (RX8, cX8_open, 2, (some .int), 2, yX8_open, none)
abbrev mdX8_opening : gMD := (RX8, cX8_opening, 5, (some .int), 2, yX8_opening, none)
abbrev mdX8_air : gMD := (RX8, cX8_air, 2, (some .int), 2, yX8_air, none)
abbrev mdX8_gain : gMD := (RX8, cX8_gain, 1, (some .int), 3, yX8_gain, none)
abbrev mdX8_best : gMD := (RX8, cX8_best, 7, (some .int), 6, yX8_best, none)
abbrev mdX8_count : gMD := (RX8, cX8_count, 2, (some .int), 5, yX8_count, none)
abbrev mdX8_told : gMD := (RX8, cX8_told, 3, (some .int), 3, yX8_told, none)
abbrev mdX8_isRule : gMD := (RX8, cX8_isRule, 2, (some .boolean), 1, yX8_isRule, none)
abbrev mdX8_isValve : gMD := (RX8, cX8_isValve, 2, (some .boolean), 1, yX8_isValve, none)
abbrev mdX8_asFlag : gMD := (RX8, cX8_asFlag, 1, (some .int), 1, yX8_asFlag, none)
abbrev mdX8_layDraft : gMD := (RX8, cX8_layDraft, 2, none, 4, yX8_layDraft, none)
abbrev mdX8_dropLines : gMD := (RX8, cX8_dropLines, 1, none, 3, yX8_dropLines, none)
abbrev mdX8_foldAll : gMD := (RX8, cX8_foldAll, 2, none, 6, yX8_foldAll, none)
abbrev mdX8_judge : gMD := (RX8, cX8_judge, 1, none, 5, yX8_judge, none)
abbrev mdX8_worthByNumber : gMD := (RX8, cX8_worthByNumber, 3, (some .int), 5, yX8_worthByNumber, none)
abbrev mdX9_init : gMD := (RX9, cX9_init, 1, none, 2, yX9_init, none)
abbrev mdX9_within : gMD := (RX9, cX9_within, 6, (some .boolean), 1, yX9_within, none)
abbrev mdX9_plans : gMD := (RX9, cX9_plans, 1, none, 1, yX9_plans, none)
abbrev mdX9_passes : gMD := (RX9, cX9_passes, 3, (some .boolean), 1, yX9_passes, none)
abbrev mdX9_isFigure : gMD := (RX9, cX9_isFigure, 1, (some .boolean), 2, yX9_isFigure, none)
abbrev mdX9_number : gMD := (RX9, cX9_number, 4, (some .int), 3, yX9_number, none)
abbrev mdX9_isGate : gMD := (RX9, cX9_isGate, 6, (some .boolean), 4, yX9_isGate, none)
abbrev mdX9_isRule : gMD := (RX9, cX9_isRule, 1, (some .boolean), 4, yX9_isRule, none)
abbrev mdX9_isItem : gMD := (RX9, cX9_isItem, 2, (some .boolean), 5, yX9_isItem, none)
abbrev mdX9_faultAt : gMD := (RX9, cX9_faultAt, 2, (some .int), 6, yX9_faultAt, none)
abbrev mdX9_write : gMD := (RX9, cX9_write, 2, (some .int), 2, yX9_write, none)
abbrev mdX9_wipe : gMD := (RX9, cX9_wipe, 2, (some .int), 1, yX9_wipe, none)
abbrev mdX9_fault : gMD := (RX9, cX9_fault, 1, (some .int), 7, yX9_fault, none)
abbrev mdX9_lay : gMD := (RX9, cX9_lay, 2, (some .int), 7, yX9_lay, none)
abbrev mdX9_keeps : gMD := (RX9, cX9_keeps, 2, none, 1, yX9_keeps, none)
abbrev mdX9_lines : gMD := (RX9, cX9_lines, 1, (some .int), 1, yX9_lines, none)
abbrev mdX9_power : gMD := (RX9, cX9_power, 4, (some .long), 1, yX9_power, none)
abbrev mdX9_see : gMD := (RX9, cX9_see, 4, (some .int), 5, yX9_see, none)
abbrev mdX9_isRuleThere : gMD := (RX9, cX9_isRuleThere, 2, (some .boolean), 2, yX9_isRuleThere, none)
abbrev mdX9_rule : gMD := (RX9, cX9_rule, 4, (some .int), 3, yX9_rule, none)
abbrev mdX9_clear : gMD := (RX9, cX9_clear, 2, (some .int), 2, yX9_clear, none)
abbrev mdX9_undo : gMD := (RX9, cX9_undo, 2, (some .int), 1, yX9_undo, none)
abbrev mdX9_laysCells : gMD := (RX9, cX9_laysCells, 5, none, 2, yX9_laysCells, none)
abbrev mdX9_rootOf : gMD := (RX9, cX9_rootOf, 3, (some .int), 1, yX9_rootOf, none)
abbrev mdX9_joins : gMD := (RX9, cX9_joins, 5, none, 2, yX9_joins, none)
abbrev mdX9_joinsAround : gMD := (RX9, cX9_joinsAround, 5, none, 3, yX9_joinsAround, none)
abbrev mdX9_blobOf : gMD := (RX9, cX9_blobOf, 4, (some .int), 1, yX9_blobOf, none)
abbrev mdX9_begins : gMD := (RX9, cX9_begins, 4, none, 1, yX9_begins, none)
abbrev mdX9_counts : gMD := (RX9, cX9_counts, 6, none, 2, yX9_counts, none)
abbrev mdX9_isAhead : gMD := (RX9, cX9_isAhead, 3, (some .boolean), 1, yX9_isAhead, none)
abbrev mdX9_numbersEnded : gMD := (RX9, cX9_numbersEnded, 3, none, 2, yX9_numbersEnded, none)
abbrev mdX9_laysBlobs : gMD := (RX9, cX9_laysBlobs, 3, none, 4, yX9_laysBlobs, none)
abbrev mdX9_valueOf : gMD := (RX9, cX9_valueOf, 3, (some .int), 1, yX9_valueOf, none)
abbrev mdX9_ruleOf : gMD := (RX9, cX9_ruleOf, 3, (some .int), 2, yX9_ruleOf, none)
abbrev mdX9_perValve : gMD := (RX9, cX9_perValve, 1, (some .int), 1, yX9_perValve, none)
abbrev mdX9_wanted : gMD := (RX9, cX9_wanted, 2, (some .int), 1, yX9_wanted, none)
abbrev mdX9_wants : gMD := (RX9, cX9_wants, 6, none, 2, yX9_wants, none)
abbrev mdX9_rests : gMD := (RX9, cX9_rests, 5, none, 1, yX9_rests, none)
abbrev mdX9_isBlownNow : gMD := (RX9, cX9_isBlownNow, 5, (some .boolean), 2, yX9_isBlownNow, none)
abbrev mdX9_judges : gMD := (RX9, cX9_judges, 3, none, 3, yX9_judges, none)
abbrev mdX9_judgesNow : gMD := (RX9, cX9_judgesNow, 2, none, 5, yX9_judgesNow, none)
abbrev mdX9_isLate : gMD := (RX9, cX9_isLate, 2, (some .boolean), 2, yX9_isLate, none)
abbrev mdX9_tellBlob : gMD := (RX9, cX9_tellBlob, 3, (some .int), 3, yX9_tellBlob, none)
abbrev mdX9_blob : gMD := (RX9, cX9_blob, 3, (some .int), 6, yX9_blob, none)
abbrev mdX9_open : gMD := (RX9, cX9_open, 2, (some .int), 5, yX9_open, none)
abbrev mdX9_isValve : gMD := (RX9, cX9_isValve, 2, (some .boolean), 2, yX9_isValve, none)
abbrev mdX9_opening : gMD := (RX9, cX9_opening, 8, (some .int), 6, yX9_opening, none)
abbrev mdX9_air : gMD := (RX9, cX9_air, 4, (some .int), 6, yX9_air, none)
abbrev mdX9_gained : gMD := (RX9, cX9_gained, 5, (some .int), 1, yX9_gained, none)
abbrev mdX9_gain : gMD := (RX9, cX9_gain, 1, (some .int), 6, yX9_gain, none)
abbrev mdX9_best : gMD := (RX9, cX9_best, 7, (some .int), 6, yX9_best, none)
abbrev mdX9_howMany : gMD := (RX9, cX9_howMany, 7, (some .int), 6, yX9_howMany, none)
abbrev mdX9_endedNow : gMD := (RX9, cX9_endedNow, 1, (some .int), 5, yX9_endedNow, none)
abbrev mdX9_count : gMD := (RX9, cX9_count, 2, (some .int), 7, yX9_count, none)
abbrev mdX9_judgedBy : gMD := (RX9, cX9_judgedBy, 4, (some .int), 6, yX9_judgedBy, none)
abbrev mdX9_told : gMD := (RX9, cX9_told, 3, (some .int), 7, yX9_told, none)
abbrev mdJ7_fill_53178 : gMD := (RJ7, cJ7_fill_53178, 4, none, 1, yJ7_fill_53178, none)
abbrev mdL_law (L : Nat) (xs : Nat → Int32) : gMD := (RL, cL_law, 4, some .boolean, 8, yL_law, some (L, xs))
set_option maxRecDepth 20000 in
theorem in_X0 : ∀ w ∈ u_ws (g_R 0) (g_TT 0) (g_nf 0), w ∈ lw_good := lw_gl [178, 180, 182, 184, 186, 188, 190, 192] (by decide +kernel) (by decide +kernel)
set_option maxRecDepth 20000 in
theorem in_X1 : ∀ w ∈ u_ws (g_R 1) (g_TT 1) (g_nf 1), w ∈ lw_good := lw_gl [204, 206, 208, 210, 212] (by decide +kernel) (by decide +kernel)
set_option maxRecDepth 20000 in
theorem in_X2 : ∀ w ∈ u_ws (g_R 2) (g_TT 2) (g_nf 2), w ∈ lw_good := lw_gl [136, 138, 140] (by decide +kernel) (by decide +kernel)
set_option maxRecDepth 20000 in
theorem in_X3 : ∀ w ∈ u_ws (g_R 3) (g_TT 3) (g_nf 3), w ∈ lw_good := lw_gl [287, 289, 291, 293, 295, 297, 299, 301, 303, 305] (by decide +kernel) (by decide +kernel)
set_option maxRecDepth 20000 in
theorem in_X4 : ∀ w ∈ u_ws (g_R 4) (g_TT 4) (g_nf 4), w ∈ lw_good := lw_gl [115, 117, 119] (by decide +kernel) (by decide +kernel)
set_option maxRecDepth 20000 in
theorem in_X5 : ∀ w ∈ u_ws (g_R 5) (g_TT 5) (g_nf 5), w ∈ lw_good := lw_gl [92, 94, 96, 98] (by decide +kernel) (by decide +kernel)
set_option maxRecDepth 20000 in
theorem in_X6 : ∀ w ∈ u_ws (g_R 6) (g_TT 6) (g_nf 6), w ∈ lw_good := lw_gl [235, 237, 239] (by decide +kernel) (by decide +kernel)
set_option maxRecDepth 20000 in
theorem in_X7 : ∀ w ∈ u_ws (g_R 7) (g_TT 7) (g_nf 7), w ∈ lw_good := lw_gl [249, 251, 253] (by decide +kernel) (by decide +kernel)
set_option maxRecDepth 20000 in
theorem in_X8 : ∀ w ∈ u_ws (g_R 8) (g_TT 8) (g_nf 8), w ∈ lw_good := lw_gl [350, 352, 354, 356, 358, 360, 362, 364, 366] (by decide +kernel) (by decide +kernel)
set_option maxRecDepth 20000 in
theorem in_X9 : ∀ w ∈ u_ws (g_R 9) (g_TT 9) (g_nf 9), w ∈ lw_good := lw_gl [732, 734, 736, 738, 740, 742, 744, 746, 748, 750, 752, 754, 756, 758, 760, 762, 764, 766, 768, 770, 772, 774, 776, 778, 780, 782, 784, 786, 788, 790, 792, 794] (by decide +kernel) (by decide +kernel)
theorem g_inn : ∀ ci : Nat, ci < 10 → ∀ w ∈ u_ws (g_R ci) (g_TT ci) (g_nf ci), w ∈ lw_good
  | 0, _ => in_X0 | 1, _ => in_X1 | 2, _ => in_X2 | 3, _ => in_X3 | 4, _ => in_X4 | 5, _ => in_X5 | 6, _ => in_X6 | 7, _ => in_X7 | 8, _ => in_X8 | 9, _ => in_X9
  | n + 10, h => absurd h (by omega)
theorem miX0_init : g_MI mdX0_init 0 := ⟨lw_gd 153 (by decide +kernel) (by decide +kernel), rfl, lw_gd 65 (by decide +kernel) (by decide +kernel), lw_gd 154 (by decide +kernel) (by decide +kernel), (by decide +kernel), rfl, (by decide +kernel), (by decide +kernel), (by decide +kernel), rfl⟩
theorem mvX0_addCell : g_MV mdX0_addCell 0 4 := ⟨lw_gd 472 (by decide +kernel) (by decide +kernel), lw_gd 473 (by decide +kernel) (by decide +kernel), lw_gd 65 (by decide +kernel) (by decide +kernel), lw_gd 474 (by decide +kernel) (by decide +kernel), (by decide +kernel), rfl, (by decide +kernel), (by decide +kernel), (by decide +kernel)⟩
theorem mvX0_beginAt : g_MV mdX0_beginAt 0 2 := ⟨lw_gd 477 (by decide +kernel) (by decide +kernel), lw_gd 10 (by decide +kernel) (by decide +kernel), lw_gd 65 (by decide +kernel) (by decide +kernel), lw_gd 478 (by decide +kernel) (by decide +kernel), (by decide +kernel), rfl, (by decide +kernel), (by decide +kernel), (by decide +kernel)⟩
theorem mvX0_absorb : g_MV mdX0_absorb 0 1 := ⟨lw_gd 488 (by decide +kernel) (by decide +kernel), lw_gd 489 (by decide +kernel) (by decide +kernel), lw_gd 65 (by decide +kernel) (by decide +kernel), lw_gd 490 (by decide +kernel) (by decide +kernel), (by decide +kernel), rfl, (by decide +kernel), (by decide +kernel), (by decide +kernel)⟩
theorem mvX0_copyFrom : g_MV mdX0_copyFrom 0 1 := ⟨lw_gd 508 (by decide +kernel) (by decide +kernel), lw_gd 509 (by decide +kernel) (by decide +kernel), lw_gd 65 (by decide +kernel) (by decide +kernel), lw_gd 510 (by decide +kernel) (by decide +kernel), (by decide +kernel), rfl, (by decide +kernel), (by decide +kernel), (by decide +kernel)⟩
theorem mvX0_beganBefore : g_MV mdX0_beganBefore 0 1 := ⟨lw_gd 492 (by decide +kernel) (by decide +kernel), lw_gd 493 (by decide +kernel) (by decide +kernel), lw_gd 65 (by decide +kernel) (by decide +kernel), lw_gd 494 (by decide +kernel) (by decide +kernel), (by decide +kernel), rfl, (by decide +kernel), (by decide +kernel), (by decide +kernel)⟩
theorem mvX0_endTick : g_MV mdX0_endTick 0 0 := ⟨lw_gd 548 (by decide +kernel) (by decide +kernel), lw_gd 549 (by decide +kernel) (by decide +kernel), lw_gd 65 (by decide +kernel) (by decide +kernel), lw_gd 550 (by decide +kernel) (by decide +kernel), (by decide +kernel), rfl, (by decide +kernel), (by decide +kernel), (by decide +kernel)⟩
theorem mvX0_mean : g_MV mdX0_mean 0 0 := ⟨lw_gd 532 (by decide +kernel) (by decide +kernel), lw_gd 533 (by decide +kernel) (by decide +kernel), lw_gd 65 (by decide +kernel) (by decide +kernel), lw_gd 534 (by decide +kernel) (by decide +kernel), (by decide +kernel), rfl, (by decide +kernel), (by decide +kernel), (by decide +kernel)⟩
theorem mvX0_measure : g_MV mdX0_measure 0 1 := ⟨lw_gd 528 (by decide +kernel) (by decide +kernel), lw_gd 529 (by decide +kernel) (by decide +kernel), lw_gd 65 (by decide +kernel) (by decide +kernel), lw_gd 530 (by decide +kernel) (by decide +kernel), (by decide +kernel), rfl, (by decide +kernel), (by decide +kernel), (by decide +kernel)⟩
theorem mvX0_worth : g_MV mdX0_worth 0 0 := ⟨lw_gd 652 (by decide +kernel) (by decide +kernel), lw_gd 653 (by decide +kernel) (by decide +kernel), lw_gd 65 (by decide +kernel) (by decide +kernel), lw_gd 654 (by decide +kernel) (by decide +kernel), (by decide +kernel), rfl, (by decide +kernel), (by decide +kernel), (by decide +kernel)⟩
theorem miX1_init : g_MI mdX1_init 0 := ⟨lw_gd 146 (by decide +kernel) (by decide +kernel), rfl, lw_gd 64 (by decide +kernel) (by decide +kernel), lw_gd 147 (by decide +kernel) (by decide +kernel), (by decide +kernel), rfl, (by decide +kernel), (by decide +kernel), (by decide +kernel), rfl⟩
theorem mvX1_empty : g_MV mdX1_empty 1 0 := ⟨lw_gd 331 (by decide +kernel) (by decide +kernel), lw_gd 332 (by decide +kernel) (by decide +kernel), lw_gd 64 (by decide +kernel) (by decide +kernel), lw_gd 333 (by decide +kernel) (by decide +kernel), (by decide +kernel), rfl, (by decide +kernel), (by decide +kernel), (by decide +kernel)⟩
theorem mvX1_addLine : g_MV mdX1_addLine 1 3 := ⟨lw_gd 455 (by decide +kernel) (by decide +kernel), lw_gd 456 (by decide +kernel) (by decide +kernel), lw_gd 64 (by decide +kernel) (by decide +kernel), lw_gd 457 (by decide +kernel) (by decide +kernel), (by decide +kernel), rfl, (by decide +kernel), (by decide +kernel), (by decide +kernel)⟩
theorem mvX1_addCell : g_MV mdX1_addCell 1 4 := ⟨lw_gd 462 (by decide +kernel) (by decide +kernel), lw_gd 8 (by decide +kernel) (by decide +kernel), lw_gd 64 (by decide +kernel) (by decide +kernel), lw_gd 463 (by decide +kernel) (by decide +kernel), (by decide +kernel), rfl, (by decide +kernel), (by decide +kernel), (by decide +kernel)⟩
theorem msX1_ownerAt : g_MS mdX1_ownerAt 2 := ⟨lw_gd 465 (by decide +kernel) (by decide +kernel), lw_gd 64 (by decide +kernel) (by decide +kernel), lw_gd 466 (by decide +kernel) (by decide +kernel), (by decide +kernel), rfl, (by decide +kernel), (by decide +kernel), (by decide +kernel)⟩
theorem mvX1_freeSlot : g_MV mdX1_freeSlot 1 0 := ⟨lw_gd 469 (by decide +kernel) (by decide +kernel), lw_gd 9 (by decide +kernel) (by decide +kernel), lw_gd 64 (by decide +kernel) (by decide +kernel), lw_gd 470 (by decide +kernel) (by decide +kernel), (by decide +kernel), rfl, (by decide +kernel), (by decide +kernel), (by decide +kernel)⟩
theorem mvX1_joinTo : g_MV mdX1_joinTo 1 2 := ⟨lw_gd 485 (by decide +kernel) (by decide +kernel), lw_gd 11 (by decide +kernel) (by decide +kernel), lw_gd 64 (by decide +kernel) (by decide +kernel), lw_gd 486 (by decide +kernel) (by decide +kernel), (by decide +kernel), rfl, (by decide +kernel), (by decide +kernel), (by decide +kernel)⟩
theorem msX1_handOver : g_MS mdX1_handOver 3 := ⟨lw_gd 496 (by decide +kernel) (by decide +kernel), lw_gd 64 (by decide +kernel) (by decide +kernel), lw_gd 497 (by decide +kernel) (by decide +kernel), (by decide +kernel), rfl, (by decide +kernel), (by decide +kernel), (by decide +kernel)⟩
theorem mvX1_endAllWithout : g_MV mdX1_endAllWithout 1 1 := ⟨lw_gd 500 (by decide +kernel) (by decide +kernel), lw_gd 12 (by decide +kernel) (by decide +kernel), lw_gd 64 (by decide +kernel) (by decide +kernel), lw_gd 501 (by decide +kernel) (by decide +kernel), (by decide +kernel), rfl, (by decide +kernel), (by decide +kernel), (by decide +kernel)⟩
theorem mvX1_earliestWithout : g_MV mdX1_earliestWithout 1 1 := ⟨lw_gd 504 (by decide +kernel) (by decide +kernel), lw_gd 13 (by decide +kernel) (by decide +kernel), lw_gd 64 (by decide +kernel) (by decide +kernel), lw_gd 505 (by decide +kernel) (by decide +kernel), (by decide +kernel), rfl, (by decide +kernel), (by decide +kernel), (by decide +kernel)⟩
theorem mvX1_liveBlobs : g_MV mdX1_liveBlobs 1 0 := ⟨lw_gd 620 (by decide +kernel) (by decide +kernel), lw_gd 621 (by decide +kernel) (by decide +kernel), lw_gd 64 (by decide +kernel) (by decide +kernel), lw_gd 622 (by decide +kernel) (by decide +kernel), (by decide +kernel), rfl, (by decide +kernel), (by decide +kernel), (by decide +kernel)⟩
theorem mvX1_liveCells : g_MV mdX1_liveCells 1 0 := ⟨lw_gd 624 (by decide +kernel) (by decide +kernel), lw_gd 625 (by decide +kernel) (by decide +kernel), lw_gd 64 (by decide +kernel) (by decide +kernel), lw_gd 626 (by decide +kernel) (by decide +kernel), (by decide +kernel), rfl, (by decide +kernel), (by decide +kernel), (by decide +kernel)⟩
theorem mvX1_hasEndedWith : g_MV mdX1_hasEndedWith 1 2 := ⟨lw_gd 664 (by decide +kernel) (by decide +kernel), lw_gd 665 (by decide +kernel) (by decide +kernel), lw_gd 64 (by decide +kernel) (by decide +kernel), lw_gd 666 (by decide +kernel) (by decide +kernel), (by decide +kernel), rfl, (by decide +kernel), (by decide +kernel), (by decide +kernel)⟩
theorem miX2_init : g_MI mdX2_init 0 := ⟨lw_gd 126 (by decide +kernel) (by decide +kernel), rfl, lw_gd 63 (by decide +kernel) (by decide +kernel), lw_gd 127 (by decide +kernel) (by decide +kernel), (by decide +kernel), rfl, (by decide +kernel), (by decide +kernel), (by decide +kernel), rfl⟩
theorem mvX2_keep : g_MV mdX2_keep 2 1 := ⟨lw_gd 439 (by decide +kernel) (by decide +kernel), lw_gd 440 (by decide +kernel) (by decide +kernel), lw_gd 63 (by decide +kernel) (by decide +kernel), lw_gd 441 (by decide +kernel) (by decide +kernel), (by decide +kernel), rfl, (by decide +kernel), (by decide +kernel), (by decide +kernel)⟩
theorem mvX2_giveBack : g_MV mdX2_giveBack 2 1 := ⟨lw_gd 593 (by decide +kernel) (by decide +kernel), lw_gd 594 (by decide +kernel) (by decide +kernel), lw_gd 63 (by decide +kernel) (by decide +kernel), lw_gd 595 (by decide +kernel) (by decide +kernel), (by decide +kernel), rfl, (by decide +kernel), (by decide +kernel), (by decide +kernel)⟩
theorem mvX2_forget : g_MV mdX2_forget 2 0 := ⟨lw_gd 323 (by decide +kernel) (by decide +kernel), lw_gd 324 (by decide +kernel) (by decide +kernel), lw_gd 63 (by decide +kernel) (by decide +kernel), lw_gd 325 (by decide +kernel) (by decide +kernel), (by decide +kernel), rfl, (by decide +kernel), (by decide +kernel), (by decide +kernel)⟩
theorem miX3_init : g_MI mdX3_init 0 := ⟨lw_gd 259 (by decide +kernel) (by decide +kernel), rfl, lw_gd 68 (by decide +kernel) (by decide +kernel), lw_gd 260 (by decide +kernel) (by decide +kernel), (by decide +kernel), rfl, (by decide +kernel), (by decide +kernel), (by decide +kernel), rfl⟩
theorem mvX3_reset : g_MV mdX3_reset 3 0 := ⟨lw_gd 263 (by decide +kernel) (by decide +kernel), lw_gd 264 (by decide +kernel) (by decide +kernel), lw_gd 68 (by decide +kernel) (by decide +kernel), lw_gd 265 (by decide +kernel) (by decide +kernel), (by decide +kernel), rfl, (by decide +kernel), (by decide +kernel), (by decide +kernel)⟩
theorem mvX3_takeItem : g_MV mdX3_takeItem 3 2 := ⟨lw_gd 409 (by decide +kernel) (by decide +kernel), lw_gd 410 (by decide +kernel) (by decide +kernel), lw_gd 68 (by decide +kernel) (by decide +kernel), lw_gd 411 (by decide +kernel) (by decide +kernel), (by decide +kernel), rfl, (by decide +kernel), (by decide +kernel), (by decide +kernel)⟩
theorem mvX3_takeGrid : g_MV mdX3_takeGrid 3 1 := ⟨lw_gd 414 (by decide +kernel) (by decide +kernel), lw_gd 5 (by decide +kernel) (by decide +kernel), lw_gd 68 (by decide +kernel) (by decide +kernel), lw_gd 415 (by decide +kernel) (by decide +kernel), (by decide +kernel), rfl, (by decide +kernel), (by decide +kernel), (by decide +kernel)⟩
theorem mvX3_addRule : g_MV mdX3_addRule 3 2 := ⟨lw_gd 309 (by decide +kernel) (by decide +kernel), lw_gd 310 (by decide +kernel) (by decide +kernel), lw_gd 68 (by decide +kernel) (by decide +kernel), lw_gd 311 (by decide +kernel) (by decide +kernel), (by decide +kernel), rfl, (by decide +kernel), (by decide +kernel), (by decide +kernel)⟩
theorem mvX3_takeDark : g_MV mdX3_takeDark 3 1 := ⟨lw_gd 419 (by decide +kernel) (by decide +kernel), lw_gd 6 (by decide +kernel) (by decide +kernel), lw_gd 68 (by decide +kernel) (by decide +kernel), lw_gd 420 (by decide +kernel) (by decide +kernel), (by decide +kernel), rfl, (by decide +kernel), (by decide +kernel), (by decide +kernel)⟩
theorem mvX3_takeRest : g_MV mdX3_takeRest 3 1 := ⟨lw_gd 423 (by decide +kernel) (by decide +kernel), lw_gd 7 (by decide +kernel) (by decide +kernel), lw_gd 68 (by decide +kernel) (by decide +kernel), lw_gd 424 (by decide +kernel) (by decide +kernel), (by decide +kernel), rfl, (by decide +kernel), (by decide +kernel), (by decide +kernel)⟩
theorem msX3_isBetween : g_MS mdX3_isBetween 3 := ⟨lw_gd 313 (by decide +kernel) (by decide +kernel), lw_gd 68 (by decide +kernel) (by decide +kernel), lw_gd 314 (by decide +kernel) (by decide +kernel), (by decide +kernel), rfl, (by decide +kernel), (by decide +kernel), (by decide +kernel)⟩
theorem mvX3_lineBound : g_MV mdX3_lineBound 3 0 := ⟨lw_gd 434 (by decide +kernel) (by decide +kernel), lw_gd 435 (by decide +kernel) (by decide +kernel), lw_gd 68 (by decide +kernel) (by decide +kernel), lw_gd 436 (by decide +kernel) (by decide +kernel), (by decide +kernel), rfl, (by decide +kernel), (by decide +kernel), (by decide +kernel)⟩
theorem mvX3_valveOver : g_MV mdX3_valveOver 3 1 := ⟨lw_gd 557 (by decide +kernel) (by decide +kernel), lw_gd 558 (by decide +kernel) (by decide +kernel), lw_gd 68 (by decide +kernel) (by decide +kernel), lw_gd 559 (by decide +kernel) (by decide +kernel), (by decide +kernel), rfl, (by decide +kernel), (by decide +kernel), (by decide +kernel)⟩
theorem mvX3_wantedFrom : g_MV mdX3_wantedFrom 3 1 := ⟨lw_gd 552 (by decide +kernel) (by decide +kernel), lw_gd 553 (by decide +kernel) (by decide +kernel), lw_gd 68 (by decide +kernel) (by decide +kernel), lw_gd 554 (by decide +kernel) (by decide +kernel), (by decide +kernel), rfl, (by decide +kernel), (by decide +kernel), (by decide +kernel)⟩
theorem mvX3_wantedTo : g_MV mdX3_wantedTo 3 1 := ⟨lw_gd 544 (by decide +kernel) (by decide +kernel), lw_gd 545 (by decide +kernel) (by decide +kernel), lw_gd 68 (by decide +kernel) (by decide +kernel), lw_gd 546 (by decide +kernel) (by decide +kernel), (by decide +kernel), rfl, (by decide +kernel), (by decide +kernel), (by decide +kernel)⟩
theorem mvX3_isLate : g_MV mdX3_isLate 3 1 := ⟨lw_gd 607 (by decide +kernel) (by decide +kernel), lw_gd 608 (by decide +kernel) (by decide +kernel), lw_gd 68 (by decide +kernel) (by decide +kernel), lw_gd 609 (by decide +kernel) (by decide +kernel), (by decide +kernel), rfl, (by decide +kernel), (by decide +kernel), (by decide +kernel)⟩
theorem miX4_init : g_MI mdX4_init 0 := ⟨lw_gd 106 (by decide +kernel) (by decide +kernel), rfl, lw_gd 62 (by decide +kernel) (by decide +kernel), lw_gd 107 (by decide +kernel) (by decide +kernel), (by decide +kernel), rfl, (by decide +kernel), (by decide +kernel), (by decide +kernel), rfl⟩
theorem mvX4_addLine : g_MV mdX4_addLine 4 1 := ⟨lw_gd 451 (by decide +kernel) (by decide +kernel), lw_gd 452 (by decide +kernel) (by decide +kernel), lw_gd 62 (by decide +kernel) (by decide +kernel), lw_gd 453 (by decide +kernel) (by decide +kernel), (by decide +kernel), rfl, (by decide +kernel), (by decide +kernel), (by decide +kernel)⟩
theorem mvX4_copyFrom : g_MV mdX4_copyFrom 4 1 := ⟨lw_gd 443 (by decide +kernel) (by decide +kernel), lw_gd 444 (by decide +kernel) (by decide +kernel), lw_gd 62 (by decide +kernel) (by decide +kernel), lw_gd 445 (by decide +kernel) (by decide +kernel), (by decide +kernel), rfl, (by decide +kernel), (by decide +kernel), (by decide +kernel)⟩
theorem miX5_init : g_MI mdX5_init 0 := ⟨lw_gd 84 (by decide +kernel) (by decide +kernel), rfl, lw_gd 61 (by decide +kernel) (by decide +kernel), lw_gd 85 (by decide +kernel) (by decide +kernel), (by decide +kernel), rfl, (by decide +kernel), (by decide +kernel), (by decide +kernel), rfl⟩
theorem mvX5_append : g_MV mdX5_append 5 1 := ⟨lw_gd 374 (by decide +kernel) (by decide +kernel), lw_gd 375 (by decide +kernel) (by decide +kernel), lw_gd 61 (by decide +kernel) (by decide +kernel), lw_gd 376 (by decide +kernel) (by decide +kernel), (by decide +kernel), rfl, (by decide +kernel), (by decide +kernel), (by decide +kernel)⟩
theorem mvX5_readInto : g_MV mdX5_readInto 5 1 := ⟨lw_gd 386 (by decide +kernel) (by decide +kernel), lw_gd 387 (by decide +kernel) (by decide +kernel), lw_gd 61 (by decide +kernel) (by decide +kernel), lw_gd 388 (by decide +kernel) (by decide +kernel), (by decide +kernel), rfl, (by decide +kernel), (by decide +kernel), (by decide +kernel)⟩
theorem mvX5_readItem : g_MV mdX5_readItem 5 1 := ⟨lw_gd 392 (by decide +kernel) (by decide +kernel), lw_gd 2 (by decide +kernel) (by decide +kernel), lw_gd 61 (by decide +kernel) (by decide +kernel), lw_gd 393 (by decide +kernel) (by decide +kernel), (by decide +kernel), rfl, (by decide +kernel), (by decide +kernel), (by decide +kernel)⟩
theorem msX5_numbersBehind : g_MS mdX5_numbersBehind 1 := ⟨lw_gd 399 (by decide +kernel) (by decide +kernel), lw_gd 61 (by decide +kernel) (by decide +kernel), lw_gd 400 (by decide +kernel) (by decide +kernel), (by decide +kernel), rfl, (by decide +kernel), (by decide +kernel), (by decide +kernel)⟩
theorem mvX5_readNumber : g_MV mdX5_readNumber 5 1 := ⟨lw_gd 403 (by decide +kernel) (by decide +kernel), lw_gd 4 (by decide +kernel) (by decide +kernel), lw_gd 61 (by decide +kernel) (by decide +kernel), lw_gd 404 (by decide +kernel) (by decide +kernel), (by decide +kernel), rfl, (by decide +kernel), (by decide +kernel), (by decide +kernel)⟩
theorem mvX5_letterHere : g_MV mdX5_letterHere 5 0 := ⟨lw_gd 396 (by decide +kernel) (by decide +kernel), lw_gd 3 (by decide +kernel) (by decide +kernel), lw_gd 61 (by decide +kernel) (by decide +kernel), lw_gd 397 (by decide +kernel) (by decide +kernel), (by decide +kernel), rfl, (by decide +kernel), (by decide +kernel), (by decide +kernel)⟩
theorem msX5_isFigure : g_MS mdX5_isFigure 1 := ⟨lw_gd 406 (by decide +kernel) (by decide +kernel), lw_gd 61 (by decide +kernel) (by decide +kernel), lw_gd 407 (by decide +kernel) (by decide +kernel), (by decide +kernel), rfl, (by decide +kernel), (by decide +kernel), (by decide +kernel)⟩
theorem miX6_init : g_MI mdX6_init 0 := ⟨lw_gd 225 (by decide +kernel) (by decide +kernel), rfl, lw_gd 67 (by decide +kernel) (by decide +kernel), lw_gd 226 (by decide +kernel) (by decide +kernel), (by decide +kernel), rfl, (by decide +kernel), (by decide +kernel), (by decide +kernel), rfl⟩
theorem mvX6_want : g_MV mdX6_want 6 3 := ⟨lw_gd 561 (by decide +kernel) (by decide +kernel), lw_gd 562 (by decide +kernel) (by decide +kernel), lw_gd 67 (by decide +kernel) (by decide +kernel), lw_gd 563 (by decide +kernel) (by decide +kernel), (by decide +kernel), rfl, (by decide +kernel), (by decide +kernel), (by decide +kernel)⟩
theorem msX6_isNear : g_MS mdX6_isNear 3 := ⟨lw_gd 565 (by decide +kernel) (by decide +kernel), lw_gd 67 (by decide +kernel) (by decide +kernel), lw_gd 566 (by decide +kernel) (by decide +kernel), (by decide +kernel), rfl, (by decide +kernel), (by decide +kernel), (by decide +kernel)⟩
theorem mvX6_isOpenWithin : g_MV mdX6_isOpenWithin 6 2 := ⟨lw_gd 573 (by decide +kernel) (by decide +kernel), lw_gd 574 (by decide +kernel) (by decide +kernel), lw_gd 67 (by decide +kernel) (by decide +kernel), lw_gd 575 (by decide +kernel) (by decide +kernel), (by decide +kernel), rfl, (by decide +kernel), (by decide +kernel), (by decide +kernel)⟩
theorem mvX6_ticksOpen : g_MV mdX6_ticksOpen 6 0 := ⟨lw_gd 640 (by decide +kernel) (by decide +kernel), lw_gd 641 (by decide +kernel) (by decide +kernel), lw_gd 67 (by decide +kernel) (by decide +kernel), lw_gd 642 (by decide +kernel) (by decide +kernel), (by decide +kernel), rfl, (by decide +kernel), (by decide +kernel), (by decide +kernel)⟩
theorem miX7_init : g_MI mdX7_init 0 := ⟨lw_gd 218 (by decide +kernel) (by decide +kernel), rfl, lw_gd 66 (by decide +kernel) (by decide +kernel), lw_gd 219 (by decide +kernel) (by decide +kernel), (by decide +kernel), rfl, (by decide +kernel), (by decide +kernel), (by decide +kernel), rfl⟩
theorem mvX7_closeAll : g_MV mdX7_closeAll 7 0 := ⟨lw_gd 338 (by decide +kernel) (by decide +kernel), lw_gd 339 (by decide +kernel) (by decide +kernel), lw_gd 66 (by decide +kernel) (by decide +kernel), lw_gd 340 (by decide +kernel) (by decide +kernel), (by decide +kernel), rfl, (by decide +kernel), (by decide +kernel), (by decide +kernel)⟩
theorem mvX7_judgeAll : g_MV mdX7_judgeAll 7 3 := ⟨lw_gd 516 (by decide +kernel) (by decide +kernel), lw_gd 517 (by decide +kernel) (by decide +kernel), lw_gd 66 (by decide +kernel) (by decide +kernel), lw_gd 518 (by decide +kernel) (by decide +kernel), (by decide +kernel), rfl, (by decide +kernel), (by decide +kernel), (by decide +kernel)⟩
theorem msX7_endedOf : g_MS mdX7_endedOf 1 := ⟨lw_gd 521 (by decide +kernel) (by decide +kernel), lw_gd 66 (by decide +kernel) (by decide +kernel), lw_gd 522 (by decide +kernel) (by decide +kernel), (by decide +kernel), rfl, (by decide +kernel), (by decide +kernel), (by decide +kernel)⟩
theorem msX7_firstRuleFor : g_MS mdX7_firstRuleFor 3 := ⟨lw_gd 525 (by decide +kernel) (by decide +kernel), lw_gd 66 (by decide +kernel) (by decide +kernel), lw_gd 526 (by decide +kernel) (by decide +kernel), (by decide +kernel), rfl, (by decide +kernel), (by decide +kernel), (by decide +kernel)⟩
theorem mvX7_openFor : g_MV mdX7_openFor 7 2 := ⟨lw_gd 541 (by decide +kernel) (by decide +kernel), lw_gd 15 (by decide +kernel) (by decide +kernel), lw_gd 66 (by decide +kernel) (by decide +kernel), lw_gd 542 (by decide +kernel) (by decide +kernel), (by decide +kernel), rfl, (by decide +kernel), (by decide +kernel), (by decide +kernel)⟩
theorem mvX7_isBlown : g_MV mdX7_isBlown 7 2 := ⟨lw_gd 570 (by decide +kernel) (by decide +kernel), lw_gd 16 (by decide +kernel) (by decide +kernel), lw_gd 66 (by decide +kernel) (by decide +kernel), lw_gd 571 (by decide +kernel) (by decide +kernel), (by decide +kernel), rfl, (by decide +kernel), (by decide +kernel), (by decide +kernel)⟩
theorem mvX7_isBad : g_MV mdX7_isBad 7 1 := ⟨lw_gd 536 (by decide +kernel) (by decide +kernel), lw_gd 537 (by decide +kernel) (by decide +kernel), lw_gd 66 (by decide +kernel) (by decide +kernel), lw_gd 538 (by decide +kernel) (by decide +kernel), (by decide +kernel), rfl, (by decide +kernel), (by decide +kernel), (by decide +kernel)⟩
theorem mvX7_worth : g_MV mdX7_worth 7 1 := ⟨lw_gd 648 (by decide +kernel) (by decide +kernel), lw_gd 649 (by decide +kernel) (by decide +kernel), lw_gd 66 (by decide +kernel) (by decide +kernel), lw_gd 650 (by decide +kernel) (by decide +kernel), (by decide +kernel), rfl, (by decide +kernel), (by decide +kernel), (by decide +kernel)⟩
theorem mvX7_howMany : g_MV mdX7_howMany 7 3 := ⟨lw_gd 673 (by decide +kernel) (by decide +kernel), lw_gd 674 (by decide +kernel) (by decide +kernel), lw_gd 66 (by decide +kernel) (by decide +kernel), lw_gd 675 (by decide +kernel) (by decide +kernel), (by decide +kernel), rfl, (by decide +kernel), (by decide +kernel), (by decide +kernel)⟩
theorem mvX7_isOneOf : g_MV mdX7_isOneOf 7 4 := ⟨lw_gd 678 (by decide +kernel) (by decide +kernel), lw_gd 21 (by decide +kernel) (by decide +kernel), lw_gd 66 (by decide +kernel) (by decide +kernel), lw_gd 679 (by decide +kernel) (by decide +kernel), (by decide +kernel), rfl, (by decide +kernel), (by decide +kernel), (by decide +kernel)⟩
theorem mvX7_howManyBadBy : g_MV mdX7_howManyBadBy 7 2 := ⟨lw_gd 686 (by decide +kernel) (by decide +kernel), lw_gd 687 (by decide +kernel) (by decide +kernel), lw_gd 66 (by decide +kernel) (by decide +kernel), lw_gd 688 (by decide +kernel) (by decide +kernel), (by decide +kernel), rfl, (by decide +kernel), (by decide +kernel), (by decide +kernel)⟩
theorem miX8_init : g_MI mdX8_init 0 := ⟨lw_gd 76 (by decide +kernel) (by decide +kernel), rfl, lw_gd 60 (by decide +kernel) (by decide +kernel), lw_gd 77 (by decide +kernel) (by decide +kernel), (by decide +kernel), rfl, (by decide +kernel), (by decide +kernel), (by decide +kernel), rfl⟩
theorem mvX8_write : g_MV mdX8_write 8 1 := ⟨lw_gd 370 (by decide +kernel) (by decide +kernel), lw_gd 371 (by decide +kernel) (by decide +kernel), lw_gd 60 (by decide +kernel) (by decide +kernel), lw_gd 372 (by decide +kernel) (by decide +kernel), (by decide +kernel), rfl, (by decide +kernel), (by decide +kernel), (by decide +kernel)⟩
theorem mvX8_wipe : g_MV mdX8_wipe 8 0 := ⟨lw_gd 378 (by decide +kernel) (by decide +kernel), lw_gd 379 (by decide +kernel) (by decide +kernel), lw_gd 60 (by decide +kernel) (by decide +kernel), lw_gd 380 (by decide +kernel) (by decide +kernel), (by decide +kernel), rfl, (by decide +kernel), (by decide +kernel), (by decide +kernel)⟩
theorem mvX8_fault : g_MV mdX8_fault 8 0 := ⟨lw_gd 382 (by decide +kernel) (by decide +kernel), lw_gd 383 (by decide +kernel) (by decide +kernel), lw_gd 60 (by decide +kernel) (by decide +kernel), lw_gd 384 (by decide +kernel) (by decide +kernel), (by decide +kernel), rfl, (by decide +kernel), (by decide +kernel), (by decide +kernel)⟩
theorem mvX8_lay : g_MV mdX8_lay 8 0 := ⟨lw_gd 426 (by decide +kernel) (by decide +kernel), lw_gd 427 (by decide +kernel) (by decide +kernel), lw_gd 60 (by decide +kernel) (by decide +kernel), lw_gd 428 (by decide +kernel) (by decide +kernel), (by decide +kernel), rfl, (by decide +kernel), (by decide +kernel), (by decide +kernel)⟩
theorem mvX8_see : g_MV mdX8_see 8 1 := ⟨lw_gd 430 (by decide +kernel) (by decide +kernel), lw_gd 431 (by decide +kernel) (by decide +kernel), lw_gd 60 (by decide +kernel) (by decide +kernel), lw_gd 432 (by decide +kernel) (by decide +kernel), (by decide +kernel), rfl, (by decide +kernel), (by decide +kernel), (by decide +kernel)⟩
theorem mvX8_rule : g_MV mdX8_rule 8 2 := ⟨lw_gd 577 (by decide +kernel) (by decide +kernel), lw_gd 578 (by decide +kernel) (by decide +kernel), lw_gd 60 (by decide +kernel) (by decide +kernel), lw_gd 579 (by decide +kernel) (by decide +kernel), (by decide +kernel), rfl, (by decide +kernel), (by decide +kernel), (by decide +kernel)⟩
theorem mvX8_clear : g_MV mdX8_clear 8 0 := ⟨lw_gd 585 (by decide +kernel) (by decide +kernel), lw_gd 586 (by decide +kernel) (by decide +kernel), lw_gd 60 (by decide +kernel) (by decide +kernel), lw_gd 587 (by decide +kernel) (by decide +kernel), (by decide +kernel), rfl, (by decide +kernel), (by decide +kernel), (by decide +kernel)⟩
theorem mvX8_undo : g_MV mdX8_undo 8 0 := ⟨lw_gd 589 (by decide +kernel) (by decide +kernel), lw_gd 590 (by decide +kernel) (by decide +kernel), lw_gd 60 (by decide +kernel) (by decide +kernel), lw_gd 591 (by decide +kernel) (by decide +kernel), (by decide +kernel), rfl, (by decide +kernel), (by decide +kernel), (by decide +kernel)⟩
theorem mvX8_blob : g_MV mdX8_blob 8 2 := ⟨lw_gd 601 (by decide +kernel) (by decide +kernel), lw_gd 602 (by decide +kernel) (by decide +kernel), lw_gd 60 (by decide +kernel) (by decide +kernel), lw_gd 603 (by decide +kernel) (by decide +kernel), (by decide +kernel), rfl, (by decide +kernel), (by decide +kernel), (by decide +kernel)⟩
theorem mvX8_open : g_MV mdX8_open 8 1 := ⟨lw_gd 616 (by decide +kernel) (by decide +kernel), lw_gd 617 (by decide +kernel) (by decide +kernel), lw_gd 60 (by decide +kernel) (by decide +kernel), lw_gd 618 (by decide +kernel) (by decide +kernel), (by decide +kernel), rfl, (by decide +kernel), (by decide +kernel), (by decide +kernel)⟩
theorem mvX8_opening : g_MV mdX8_opening 8 3 := ⟨lw_gd 628 (by decide +kernel) (by decide +kernel), lw_gd 629 (by decide +kernel) (by decide +kernel), lw_gd 60 (by decide +kernel) (by decide +kernel), lw_gd 630 (by decide +kernel) (by decide +kernel), (by decide +kernel), rfl, (by decide +kernel), (by decide +kernel), (by decide +kernel)⟩
theorem mvX8_air : g_MV mdX8_air 8 1 := ⟨lw_gd 636 (by decide +kernel) (by decide +kernel), lw_gd 637 (by decide +kernel) (by decide +kernel), lw_gd 60 (by decide +kernel) (by decide +kernel), lw_gd 638 (by decide +kernel) (by decide +kernel), (by decide +kernel), rfl, (by decide +kernel), (by decide +kernel), (by decide +kernel)⟩
theorem mvX8_gain : g_MV mdX8_gain 8 0 := ⟨lw_gd 644 (by decide +kernel) (by decide +kernel), lw_gd 645 (by decide +kernel) (by decide +kernel), lw_gd 60 (by decide +kernel) (by decide +kernel), lw_gd 646 (by decide +kernel) (by decide +kernel), (by decide +kernel), rfl, (by decide +kernel), (by decide +kernel), (by decide +kernel)⟩
theorem mvX8_best : g_MV mdX8_best 8 2 := ⟨lw_gd 656 (by decide +kernel) (by decide +kernel), lw_gd 657 (by decide +kernel) (by decide +kernel), lw_gd 60 (by decide +kernel) (by decide +kernel), lw_gd 658 (by decide +kernel) (by decide +kernel), (by decide +kernel), rfl, (by decide +kernel), (by decide +kernel), (by decide +kernel)⟩
theorem mvX8_count : g_MV mdX8_count 8 1 := ⟨lw_gd 669 (by decide +kernel) (by decide +kernel), lw_gd 670 (by decide +kernel) (by decide +kernel), lw_gd 60 (by decide +kernel) (by decide +kernel), lw_gd 671 (by decide +kernel) (by decide +kernel), (by decide +kernel), rfl, (by decide +kernel), (by decide +kernel), (by decide +kernel)⟩
theorem mvX8_told : g_MV mdX8_told 8 2 := ⟨lw_gd 682 (by decide +kernel) (by decide +kernel), lw_gd 683 (by decide +kernel) (by decide +kernel), lw_gd 60 (by decide +kernel) (by decide +kernel), lw_gd 684 (by decide +kernel) (by decide +kernel), (by decide +kernel), rfl, (by decide +kernel), (by decide +kernel), (by decide +kernel)⟩
theorem mvX8_isRule : g_MV mdX8_isRule 8 1 := ⟨lw_gd 582 (by decide +kernel) (by decide +kernel), lw_gd 17 (by decide +kernel) (by decide +kernel), lw_gd 60 (by decide +kernel) (by decide +kernel), lw_gd 583 (by decide +kernel) (by decide +kernel), (by decide +kernel), rfl, (by decide +kernel), (by decide +kernel), (by decide +kernel)⟩
theorem mvX8_isValve : g_MV mdX8_isValve 8 1 := ⟨lw_gd 633 (by decide +kernel) (by decide +kernel), lw_gd 19 (by decide +kernel) (by decide +kernel), lw_gd 60 (by decide +kernel) (by decide +kernel), lw_gd 634 (by decide +kernel) (by decide +kernel), (by decide +kernel), rfl, (by decide +kernel), (by decide +kernel), (by decide +kernel)⟩
theorem msX8_asFlag : g_MS mdX8_asFlag 1 := ⟨lw_gd 613 (by decide +kernel) (by decide +kernel), lw_gd 60 (by decide +kernel) (by decide +kernel), lw_gd 614 (by decide +kernel) (by decide +kernel), (by decide +kernel), rfl, (by decide +kernel), (by decide +kernel), (by decide +kernel)⟩
theorem mvX8_layDraft : g_MV mdX8_layDraft 8 0 := ⟨lw_gd 317 (by decide +kernel) (by decide +kernel), lw_gd 0 (by decide +kernel) (by decide +kernel), lw_gd 60 (by decide +kernel) (by decide +kernel), lw_gd 318 (by decide +kernel) (by decide +kernel), (by decide +kernel), rfl, (by decide +kernel), (by decide +kernel), (by decide +kernel)⟩
theorem mvX8_dropLines : g_MV mdX8_dropLines 8 0 := ⟨lw_gd 328 (by decide +kernel) (by decide +kernel), lw_gd 1 (by decide +kernel) (by decide +kernel), lw_gd 60 (by decide +kernel) (by decide +kernel), lw_gd 329 (by decide +kernel) (by decide +kernel), (by decide +kernel), rfl, (by decide +kernel), (by decide +kernel), (by decide +kernel)⟩
theorem mvX8_foldAll : g_MV mdX8_foldAll 8 0 := ⟨lw_gd 598 (by decide +kernel) (by decide +kernel), lw_gd 18 (by decide +kernel) (by decide +kernel), lw_gd 60 (by decide +kernel) (by decide +kernel), lw_gd 599 (by decide +kernel) (by decide +kernel), (by decide +kernel), rfl, (by decide +kernel), (by decide +kernel), (by decide +kernel)⟩
theorem mvX8_judge : g_MV mdX8_judge 8 0 := ⟨lw_gd 513 (by decide +kernel) (by decide +kernel), lw_gd 14 (by decide +kernel) (by decide +kernel), lw_gd 60 (by decide +kernel) (by decide +kernel), lw_gd 514 (by decide +kernel) (by decide +kernel), (by decide +kernel), rfl, (by decide +kernel), (by decide +kernel), (by decide +kernel)⟩
theorem mvX8_worthByNumber : g_MV mdX8_worthByNumber 8 2 := ⟨lw_gd 661 (by decide +kernel) (by decide +kernel), lw_gd 20 (by decide +kernel) (by decide +kernel), lw_gd 60 (by decide +kernel) (by decide +kernel), lw_gd 662 (by decide +kernel) (by decide +kernel), (by decide +kernel), rfl, (by decide +kernel), (by decide +kernel), (by decide +kernel)⟩
theorem miX9_init : g_MI mdX9_init 0 := ⟨lw_gd 692 (by decide +kernel) (by decide +kernel), rfl, lw_gd 71 (by decide +kernel) (by decide +kernel), lw_gd 693 (by decide +kernel) (by decide +kernel), (by decide +kernel), rfl, (by decide +kernel), (by decide +kernel), (by decide +kernel), rfl⟩
theorem msX9_within : g_MS mdX9_within 3 := ⟨lw_gd 804 (by decide +kernel) (by decide +kernel), lw_gd 71 (by decide +kernel) (by decide +kernel), lw_gd 805 (by decide +kernel) (by decide +kernel), (by decide +kernel), rfl, (by decide +kernel), (by decide +kernel), (by decide +kernel)⟩
theorem msX9_plans : g_MS mdX9_plans 1 := ⟨lw_gd 696 (by decide +kernel) (by decide +kernel), lw_gd 71 (by decide +kernel) (by decide +kernel), lw_gd 697 (by decide +kernel) (by decide +kernel), (by decide +kernel), rfl, (by decide +kernel), (by decide +kernel), (by decide +kernel)⟩
theorem mvX9_passes : g_MV mdX9_passes 9 1 := ⟨lw_gd 824 (by decide +kernel) (by decide +kernel), lw_gd 24 (by decide +kernel) (by decide +kernel), lw_gd 71 (by decide +kernel) (by decide +kernel), lw_gd 825 (by decide +kernel) (by decide +kernel), (by decide +kernel), rfl, (by decide +kernel), (by decide +kernel), (by decide +kernel)⟩
theorem mvX9_isFigure : g_MV mdX9_isFigure 9 0 := ⟨lw_gd 836 (by decide +kernel) (by decide +kernel), lw_gd 27 (by decide +kernel) (by decide +kernel), lw_gd 71 (by decide +kernel) (by decide +kernel), lw_gd 837 (by decide +kernel) (by decide +kernel), (by decide +kernel), rfl, (by decide +kernel), (by decide +kernel), (by decide +kernel)⟩
theorem mvX9_number : g_MV mdX9_number 9 2 := ⟨lw_gd 832 (by decide +kernel) (by decide +kernel), lw_gd 26 (by decide +kernel) (by decide +kernel), lw_gd 71 (by decide +kernel) (by decide +kernel), lw_gd 833 (by decide +kernel) (by decide +kernel), (by decide +kernel), rfl, (by decide +kernel), (by decide +kernel), (by decide +kernel)⟩
theorem mvX9_isGate : g_MV mdX9_isGate 9 0 := ⟨lw_gd 828 (by decide +kernel) (by decide +kernel), lw_gd 25 (by decide +kernel) (by decide +kernel), lw_gd 71 (by decide +kernel) (by decide +kernel), lw_gd 829 (by decide +kernel) (by decide +kernel), (by decide +kernel), rfl, (by decide +kernel), (by decide +kernel), (by decide +kernel)⟩
theorem mvX9_isRule : g_MV mdX9_isRule 9 0 := ⟨lw_gd 842 (by decide +kernel) (by decide +kernel), lw_gd 28 (by decide +kernel) (by decide +kernel), lw_gd 71 (by decide +kernel) (by decide +kernel), lw_gd 843 (by decide +kernel) (by decide +kernel), (by decide +kernel), rfl, (by decide +kernel), (by decide +kernel), (by decide +kernel)⟩
theorem mvX9_isItem : g_MV mdX9_isItem 9 0 := ⟨lw_gd 820 (by decide +kernel) (by decide +kernel), lw_gd 23 (by decide +kernel) (by decide +kernel), lw_gd 71 (by decide +kernel) (by decide +kernel), lw_gd 821 (by decide +kernel) (by decide +kernel), (by decide +kernel), rfl, (by decide +kernel), (by decide +kernel), (by decide +kernel)⟩
theorem mvX9_faultAt : g_MV mdX9_faultAt 9 0 := ⟨lw_gd 816 (by decide +kernel) (by decide +kernel), lw_gd 22 (by decide +kernel) (by decide +kernel), lw_gd 71 (by decide +kernel) (by decide +kernel), lw_gd 817 (by decide +kernel) (by decide +kernel), (by decide +kernel), rfl, (by decide +kernel), (by decide +kernel), (by decide +kernel)⟩
theorem mvX9_write : g_MV mdX9_write 9 1 := ⟨lw_gd 798 (by decide +kernel) (by decide +kernel), lw_gd 799 (by decide +kernel) (by decide +kernel), lw_gd 71 (by decide +kernel) (by decide +kernel), lw_gd 800 (by decide +kernel) (by decide +kernel), (by decide +kernel), rfl, (by decide +kernel), (by decide +kernel), (by decide +kernel)⟩
theorem mvX9_wipe : g_MV mdX9_wipe 9 0 := ⟨lw_gd 807 (by decide +kernel) (by decide +kernel), lw_gd 808 (by decide +kernel) (by decide +kernel), lw_gd 71 (by decide +kernel) (by decide +kernel), lw_gd 809 (by decide +kernel) (by decide +kernel), (by decide +kernel), rfl, (by decide +kernel), (by decide +kernel), (by decide +kernel)⟩
theorem mvX9_fault : g_MV mdX9_fault 9 0 := ⟨lw_gd 811 (by decide +kernel) (by decide +kernel), lw_gd 812 (by decide +kernel) (by decide +kernel), lw_gd 71 (by decide +kernel) (by decide +kernel), lw_gd 813 (by decide +kernel) (by decide +kernel), (by decide +kernel), rfl, (by decide +kernel), (by decide +kernel), (by decide +kernel)⟩
theorem mvX9_lay : g_MV mdX9_lay 9 0 := ⟨lw_gd 845 (by decide +kernel) (by decide +kernel), lw_gd 846 (by decide +kernel) (by decide +kernel), lw_gd 71 (by decide +kernel) (by decide +kernel), lw_gd 847 (by decide +kernel) (by decide +kernel), (by decide +kernel), rfl, (by decide +kernel), (by decide +kernel), (by decide +kernel)⟩
theorem mvX9_keeps : g_MV mdX9_keeps 9 0 := ⟨lw_gd 903 (by decide +kernel) (by decide +kernel), lw_gd 41 (by decide +kernel) (by decide +kernel), lw_gd 71 (by decide +kernel) (by decide +kernel), lw_gd 904 (by decide +kernel) (by decide +kernel), (by decide +kernel), rfl, (by decide +kernel), (by decide +kernel), (by decide +kernel)⟩
theorem mvX9_lines : g_MV mdX9_lines 9 0 := ⟨lw_gd 867 (by decide +kernel) (by decide +kernel), lw_gd 32 (by decide +kernel) (by decide +kernel), lw_gd 71 (by decide +kernel) (by decide +kernel), lw_gd 868 (by decide +kernel) (by decide +kernel), (by decide +kernel), rfl, (by decide +kernel), (by decide +kernel), (by decide +kernel)⟩
theorem mvX9_power : g_MV mdX9_power 9 0 := ⟨lw_gd 854 (by decide +kernel) (by decide +kernel), lw_gd 29 (by decide +kernel) (by decide +kernel), lw_gd 71 (by decide +kernel) (by decide +kernel), lw_gd 855 (by decide +kernel) (by decide +kernel), (by decide +kernel), rfl, (by decide +kernel), (by decide +kernel), (by decide +kernel)⟩
theorem mvX9_see : g_MV mdX9_see 9 1 := ⟨lw_gd 849 (by decide +kernel) (by decide +kernel), lw_gd 850 (by decide +kernel) (by decide +kernel), lw_gd 71 (by decide +kernel) (by decide +kernel), lw_gd 851 (by decide +kernel) (by decide +kernel), (by decide +kernel), rfl, (by decide +kernel), (by decide +kernel), (by decide +kernel)⟩
theorem mvX9_isRuleThere : g_MV mdX9_isRuleThere 9 1 := ⟨lw_gd 911 (by decide +kernel) (by decide +kernel), lw_gd 42 (by decide +kernel) (by decide +kernel), lw_gd 71 (by decide +kernel) (by decide +kernel), lw_gd 912 (by decide +kernel) (by decide +kernel), (by decide +kernel), rfl, (by decide +kernel), (by decide +kernel), (by decide +kernel)⟩
theorem mvX9_rule : g_MV mdX9_rule 9 2 := ⟨lw_gd 906 (by decide +kernel) (by decide +kernel), lw_gd 907 (by decide +kernel) (by decide +kernel), lw_gd 71 (by decide +kernel) (by decide +kernel), lw_gd 908 (by decide +kernel) (by decide +kernel), (by decide +kernel), rfl, (by decide +kernel), (by decide +kernel), (by decide +kernel)⟩
theorem mvX9_clear : g_MV mdX9_clear 9 0 := ⟨lw_gd 915 (by decide +kernel) (by decide +kernel), lw_gd 916 (by decide +kernel) (by decide +kernel), lw_gd 71 (by decide +kernel) (by decide +kernel), lw_gd 917 (by decide +kernel) (by decide +kernel), (by decide +kernel), rfl, (by decide +kernel), (by decide +kernel), (by decide +kernel)⟩
theorem mvX9_undo : g_MV mdX9_undo 9 0 := ⟨lw_gd 919 (by decide +kernel) (by decide +kernel), lw_gd 920 (by decide +kernel) (by decide +kernel), lw_gd 71 (by decide +kernel) (by decide +kernel), lw_gd 921 (by decide +kernel) (by decide +kernel), (by decide +kernel), rfl, (by decide +kernel), (by decide +kernel), (by decide +kernel)⟩
theorem mvX9_laysCells : g_MV mdX9_laysCells 9 0 := ⟨lw_gd 863 (by decide +kernel) (by decide +kernel), lw_gd 31 (by decide +kernel) (by decide +kernel), lw_gd 71 (by decide +kernel) (by decide +kernel), lw_gd 864 (by decide +kernel) (by decide +kernel), (by decide +kernel), rfl, (by decide +kernel), (by decide +kernel), (by decide +kernel)⟩
theorem mvX9_rootOf : g_MV mdX9_rootOf 9 1 := ⟨lw_gd 879 (by decide +kernel) (by decide +kernel), lw_gd 35 (by decide +kernel) (by decide +kernel), lw_gd 71 (by decide +kernel) (by decide +kernel), lw_gd 880 (by decide +kernel) (by decide +kernel), (by decide +kernel), rfl, (by decide +kernel), (by decide +kernel), (by decide +kernel)⟩
theorem mvX9_joins : g_MV mdX9_joins 9 2 := ⟨lw_gd 875 (by decide +kernel) (by decide +kernel), lw_gd 34 (by decide +kernel) (by decide +kernel), lw_gd 71 (by decide +kernel) (by decide +kernel), lw_gd 876 (by decide +kernel) (by decide +kernel), (by decide +kernel), rfl, (by decide +kernel), (by decide +kernel), (by decide +kernel)⟩
theorem mvX9_joinsAround : g_MV mdX9_joinsAround 9 2 := ⟨lw_gd 871 (by decide +kernel) (by decide +kernel), lw_gd 33 (by decide +kernel) (by decide +kernel), lw_gd 71 (by decide +kernel) (by decide +kernel), lw_gd 872 (by decide +kernel) (by decide +kernel), (by decide +kernel), rfl, (by decide +kernel), (by decide +kernel), (by decide +kernel)⟩
theorem mvX9_blobOf : g_MV mdX9_blobOf 9 1 := ⟨lw_gd 887 (by decide +kernel) (by decide +kernel), lw_gd 37 (by decide +kernel) (by decide +kernel), lw_gd 71 (by decide +kernel) (by decide +kernel), lw_gd 888 (by decide +kernel) (by decide +kernel), (by decide +kernel), rfl, (by decide +kernel), (by decide +kernel), (by decide +kernel)⟩
theorem mvX9_begins : g_MV mdX9_begins 9 3 := ⟨lw_gd 891 (by decide +kernel) (by decide +kernel), lw_gd 38 (by decide +kernel) (by decide +kernel), lw_gd 71 (by decide +kernel) (by decide +kernel), lw_gd 892 (by decide +kernel) (by decide +kernel), (by decide +kernel), rfl, (by decide +kernel), (by decide +kernel), (by decide +kernel)⟩
theorem mvX9_counts : g_MV mdX9_counts 9 2 := ⟨lw_gd 883 (by decide +kernel) (by decide +kernel), lw_gd 36 (by decide +kernel) (by decide +kernel), lw_gd 71 (by decide +kernel) (by decide +kernel), lw_gd 884 (by decide +kernel) (by decide +kernel), (by decide +kernel), rfl, (by decide +kernel), (by decide +kernel), (by decide +kernel)⟩
theorem mvX9_isAhead : g_MV mdX9_isAhead 9 2 := ⟨lw_gd 899 (by decide +kernel) (by decide +kernel), lw_gd 40 (by decide +kernel) (by decide +kernel), lw_gd 71 (by decide +kernel) (by decide +kernel), lw_gd 900 (by decide +kernel) (by decide +kernel), (by decide +kernel), rfl, (by decide +kernel), (by decide +kernel), (by decide +kernel)⟩
theorem mvX9_numbersEnded : g_MV mdX9_numbersEnded 9 0 := ⟨lw_gd 895 (by decide +kernel) (by decide +kernel), lw_gd 39 (by decide +kernel) (by decide +kernel), lw_gd 71 (by decide +kernel) (by decide +kernel), lw_gd 896 (by decide +kernel) (by decide +kernel), (by decide +kernel), rfl, (by decide +kernel), (by decide +kernel), (by decide +kernel)⟩
theorem mvX9_laysBlobs : g_MV mdX9_laysBlobs 9 0 := ⟨lw_gd 859 (by decide +kernel) (by decide +kernel), lw_gd 30 (by decide +kernel) (by decide +kernel), lw_gd 71 (by decide +kernel) (by decide +kernel), lw_gd 860 (by decide +kernel) (by decide +kernel), (by decide +kernel), rfl, (by decide +kernel), (by decide +kernel), (by decide +kernel)⟩
theorem mvX9_valueOf : g_MV mdX9_valueOf 9 2 := ⟨lw_gd 940 (by decide +kernel) (by decide +kernel), lw_gd 46 (by decide +kernel) (by decide +kernel), lw_gd 71 (by decide +kernel) (by decide +kernel), lw_gd 941 (by decide +kernel) (by decide +kernel), (by decide +kernel), rfl, (by decide +kernel), (by decide +kernel), (by decide +kernel)⟩
theorem mvX9_ruleOf : g_MV mdX9_ruleOf 9 1 := ⟨lw_gd 936 (by decide +kernel) (by decide +kernel), lw_gd 45 (by decide +kernel) (by decide +kernel), lw_gd 71 (by decide +kernel) (by decide +kernel), lw_gd 937 (by decide +kernel) (by decide +kernel), (by decide +kernel), rfl, (by decide +kernel), (by decide +kernel), (by decide +kernel)⟩
theorem mvX9_perValve : g_MV mdX9_perValve 9 0 := ⟨lw_gd 952 (by decide +kernel) (by decide +kernel), lw_gd 49 (by decide +kernel) (by decide +kernel), lw_gd 71 (by decide +kernel) (by decide +kernel), lw_gd 953 (by decide +kernel) (by decide +kernel), (by decide +kernel), rfl, (by decide +kernel), (by decide +kernel), (by decide +kernel)⟩
theorem mvX9_wanted : g_MV mdX9_wanted 9 1 := ⟨lw_gd 948 (by decide +kernel) (by decide +kernel), lw_gd 48 (by decide +kernel) (by decide +kernel), lw_gd 71 (by decide +kernel) (by decide +kernel), lw_gd 949 (by decide +kernel) (by decide +kernel), (by decide +kernel), rfl, (by decide +kernel), (by decide +kernel), (by decide +kernel)⟩
theorem mvX9_wants : g_MV mdX9_wants 9 1 := ⟨lw_gd 944 (by decide +kernel) (by decide +kernel), lw_gd 47 (by decide +kernel) (by decide +kernel), lw_gd 71 (by decide +kernel) (by decide +kernel), lw_gd 945 (by decide +kernel) (by decide +kernel), (by decide +kernel), rfl, (by decide +kernel), (by decide +kernel), (by decide +kernel)⟩
theorem mvX9_rests : g_MV mdX9_rests 9 1 := ⟨lw_gd 956 (by decide +kernel) (by decide +kernel), lw_gd 50 (by decide +kernel) (by decide +kernel), lw_gd 71 (by decide +kernel) (by decide +kernel), lw_gd 957 (by decide +kernel) (by decide +kernel), (by decide +kernel), rfl, (by decide +kernel), (by decide +kernel), (by decide +kernel)⟩
theorem mvX9_isBlownNow : g_MV mdX9_isBlownNow 9 1 := ⟨lw_gd 960 (by decide +kernel) (by decide +kernel), lw_gd 51 (by decide +kernel) (by decide +kernel), lw_gd 71 (by decide +kernel) (by decide +kernel), lw_gd 961 (by decide +kernel) (by decide +kernel), (by decide +kernel), rfl, (by decide +kernel), (by decide +kernel), (by decide +kernel)⟩
theorem mvX9_judges : g_MV mdX9_judges 9 0 := ⟨lw_gd 932 (by decide +kernel) (by decide +kernel), lw_gd 44 (by decide +kernel) (by decide +kernel), lw_gd 71 (by decide +kernel) (by decide +kernel), lw_gd 933 (by decide +kernel) (by decide +kernel), (by decide +kernel), rfl, (by decide +kernel), (by decide +kernel), (by decide +kernel)⟩
theorem mvX9_judgesNow : g_MV mdX9_judgesNow 9 0 := ⟨lw_gd 928 (by decide +kernel) (by decide +kernel), lw_gd 43 (by decide +kernel) (by decide +kernel), lw_gd 71 (by decide +kernel) (by decide +kernel), lw_gd 929 (by decide +kernel) (by decide +kernel), (by decide +kernel), rfl, (by decide +kernel), (by decide +kernel), (by decide +kernel)⟩
theorem mvX9_isLate : g_MV mdX9_isLate 9 1 := ⟨lw_gd 969 (by decide +kernel) (by decide +kernel), lw_gd 53 (by decide +kernel) (by decide +kernel), lw_gd 71 (by decide +kernel) (by decide +kernel), lw_gd 970 (by decide +kernel) (by decide +kernel), (by decide +kernel), rfl, (by decide +kernel), (by decide +kernel), (by decide +kernel)⟩
theorem mvX9_tellBlob : g_MV mdX9_tellBlob 9 2 := ⟨lw_gd 965 (by decide +kernel) (by decide +kernel), lw_gd 52 (by decide +kernel) (by decide +kernel), lw_gd 71 (by decide +kernel) (by decide +kernel), lw_gd 966 (by decide +kernel) (by decide +kernel), (by decide +kernel), rfl, (by decide +kernel), (by decide +kernel), (by decide +kernel)⟩
theorem mvX9_blob : g_MV mdX9_blob 9 2 := ⟨lw_gd 923 (by decide +kernel) (by decide +kernel), lw_gd 924 (by decide +kernel) (by decide +kernel), lw_gd 71 (by decide +kernel) (by decide +kernel), lw_gd 925 (by decide +kernel) (by decide +kernel), (by decide +kernel), rfl, (by decide +kernel), (by decide +kernel), (by decide +kernel)⟩
theorem mvX9_open : g_MV mdX9_open 9 1 := ⟨lw_gd 972 (by decide +kernel) (by decide +kernel), lw_gd 973 (by decide +kernel) (by decide +kernel), lw_gd 71 (by decide +kernel) (by decide +kernel), lw_gd 974 (by decide +kernel) (by decide +kernel), (by decide +kernel), rfl, (by decide +kernel), (by decide +kernel), (by decide +kernel)⟩
theorem mvX9_isValve : g_MV mdX9_isValve 9 1 := ⟨lw_gd 981 (by decide +kernel) (by decide +kernel), lw_gd 54 (by decide +kernel) (by decide +kernel), lw_gd 71 (by decide +kernel) (by decide +kernel), lw_gd 982 (by decide +kernel) (by decide +kernel), (by decide +kernel), rfl, (by decide +kernel), (by decide +kernel), (by decide +kernel)⟩
theorem mvX9_opening : g_MV mdX9_opening 9 3 := ⟨lw_gd 976 (by decide +kernel) (by decide +kernel), lw_gd 977 (by decide +kernel) (by decide +kernel), lw_gd 71 (by decide +kernel) (by decide +kernel), lw_gd 978 (by decide +kernel) (by decide +kernel), (by decide +kernel), rfl, (by decide +kernel), (by decide +kernel), (by decide +kernel)⟩
theorem mvX9_air : g_MV mdX9_air 9 1 := ⟨lw_gd 984 (by decide +kernel) (by decide +kernel), lw_gd 985 (by decide +kernel) (by decide +kernel), lw_gd 71 (by decide +kernel) (by decide +kernel), lw_gd 986 (by decide +kernel) (by decide +kernel), (by decide +kernel), rfl, (by decide +kernel), (by decide +kernel), (by decide +kernel)⟩
theorem mvX9_gained : g_MV mdX9_gained 9 0 := ⟨lw_gd 993 (by decide +kernel) (by decide +kernel), lw_gd 55 (by decide +kernel) (by decide +kernel), lw_gd 71 (by decide +kernel) (by decide +kernel), lw_gd 994 (by decide +kernel) (by decide +kernel), (by decide +kernel), rfl, (by decide +kernel), (by decide +kernel), (by decide +kernel)⟩
theorem mvX9_gain : g_MV mdX9_gain 9 0 := ⟨lw_gd 988 (by decide +kernel) (by decide +kernel), lw_gd 989 (by decide +kernel) (by decide +kernel), lw_gd 71 (by decide +kernel) (by decide +kernel), lw_gd 990 (by decide +kernel) (by decide +kernel), (by decide +kernel), rfl, (by decide +kernel), (by decide +kernel), (by decide +kernel)⟩
theorem mvX9_best : g_MV mdX9_best 9 2 := ⟨lw_gd 996 (by decide +kernel) (by decide +kernel), lw_gd 997 (by decide +kernel) (by decide +kernel), lw_gd 71 (by decide +kernel) (by decide +kernel), lw_gd 998 (by decide +kernel) (by decide +kernel), (by decide +kernel), rfl, (by decide +kernel), (by decide +kernel), (by decide +kernel)⟩
theorem mvX9_howMany : g_MV mdX9_howMany 9 1 := ⟨lw_gd 1005 (by decide +kernel) (by decide +kernel), lw_gd 56 (by decide +kernel) (by decide +kernel), lw_gd 71 (by decide +kernel) (by decide +kernel), lw_gd 1006 (by decide +kernel) (by decide +kernel), (by decide +kernel), rfl, (by decide +kernel), (by decide +kernel), (by decide +kernel)⟩
theorem mvX9_endedNow : g_MV mdX9_endedNow 9 0 := ⟨lw_gd 1009 (by decide +kernel) (by decide +kernel), lw_gd 57 (by decide +kernel) (by decide +kernel), lw_gd 71 (by decide +kernel) (by decide +kernel), lw_gd 1010 (by decide +kernel) (by decide +kernel), (by decide +kernel), rfl, (by decide +kernel), (by decide +kernel), (by decide +kernel)⟩
theorem mvX9_count : g_MV mdX9_count 9 1 := ⟨lw_gd 1000 (by decide +kernel) (by decide +kernel), lw_gd 1001 (by decide +kernel) (by decide +kernel), lw_gd 71 (by decide +kernel) (by decide +kernel), lw_gd 1002 (by decide +kernel) (by decide +kernel), (by decide +kernel), rfl, (by decide +kernel), (by decide +kernel), (by decide +kernel)⟩
theorem mvX9_judgedBy : g_MV mdX9_judgedBy 9 1 := ⟨lw_gd 1017 (by decide +kernel) (by decide +kernel), lw_gd 58 (by decide +kernel) (by decide +kernel), lw_gd 71 (by decide +kernel) (by decide +kernel), lw_gd 1018 (by decide +kernel) (by decide +kernel), (by decide +kernel), rfl, (by decide +kernel), (by decide +kernel), (by decide +kernel)⟩
theorem mvX9_told : g_MV mdX9_told 9 2 := ⟨lw_gd 1012 (by decide +kernel) (by decide +kernel), lw_gd 1013 (by decide +kernel) (by decide +kernel), lw_gd 71 (by decide +kernel) (by decide +kernel), lw_gd 1014 (by decide +kernel) (by decide +kernel), (by decide +kernel), rfl, (by decide +kernel), (by decide +kernel), (by decide +kernel)⟩
theorem msJ7_fill_53178 : g_MS mdJ7_fill_53178 2 := ⟨lw_gd 335 (by decide +kernel) (by decide +kernel), lw_gd 70 (by decide +kernel) (by decide +kernel), lw_gd 336 (by decide +kernel) (by decide +kernel), (by decide +kernel), rfl, (by decide +kernel), (by decide +kernel), (by decide +kernel)⟩
theorem mlL_9 : Cond.methodLink RL 9 yX8_init ∈ lw_good := lw_gd 75 (by decide +kernel) (by decide +kernel)
theorem mlX8_3 : Cond.methodLink RX8 3 objectInit ∈ lw_good := lw_gd 78 (by decide +kernel) (by decide +kernel)
theorem mlX5_3 : Cond.methodLink RX5 3 objectInit ∈ lw_good := lw_gd 86 (by decide +kernel) (by decide +kernel)
theorem mlX4_3 : Cond.methodLink RX4 3 objectInit ∈ lw_good := lw_gd 108 (by decide +kernel) (by decide +kernel)
theorem mlX8_25 : Cond.methodLink RX8 25 yX2_init ∈ lw_good := lw_gd 125 (by decide +kernel) (by decide +kernel)
theorem mlX2_3 : Cond.methodLink RX2 3 objectInit ∈ lw_good := lw_gd 128 (by decide +kernel) (by decide +kernel)
theorem mlX8_32 : Cond.methodLink RX8 32 yX1_init ∈ lw_good := lw_gd 145 (by decide +kernel) (by decide +kernel)
theorem mlX1_3 : Cond.methodLink RX1 3 objectInit ∈ lw_good := lw_gd 148 (by decide +kernel) (by decide +kernel)
theorem mlX0_3 : Cond.methodLink RX0 3 objectInit ∈ lw_good := lw_gd 155 (by decide +kernel) (by decide +kernel)
theorem mlX8_39 : Cond.methodLink RX8 39 yX7_init ∈ lw_good := lw_gd 217 (by decide +kernel) (by decide +kernel)
theorem mlX7_3 : Cond.methodLink RX7 3 objectInit ∈ lw_good := lw_gd 220 (by decide +kernel) (by decide +kernel)
theorem mlX6_3 : Cond.methodLink RX6 3 objectInit ∈ lw_good := lw_gd 227 (by decide +kernel) (by decide +kernel)
theorem mlX8_53 : Cond.methodLink RX8 53 yX3_init ∈ lw_good := lw_gd 258 (by decide +kernel) (by decide +kernel)
theorem mlX3_3 : Cond.methodLink RX3 3 objectInit ∈ lw_good := lw_gd 261 (by decide +kernel) (by decide +kernel)
theorem mlX3_18 : Cond.methodLink RX3 18 yX3_reset ∈ lw_good := lw_gd 262 (by decide +kernel) (by decide +kernel)
theorem mlX8_61 : Cond.methodLink RX8 61 yX3_addRule ∈ lw_good := lw_gd 308 (by decide +kernel) (by decide +kernel)
theorem mlX3_61 : Cond.methodLink RX3 61 yX3_isBetween ∈ lw_good := lw_gd 312 (by decide +kernel) (by decide +kernel)
theorem mlX8_65 : Cond.methodLink RX8 65 yX8_layDraft ∈ lw_good := lw_gd 315 (by decide +kernel) (by decide +kernel)
theorem mlX8_206 : Cond.methodLink RX8 206 arraycopyName ∈ lw_good := lw_gd 319 (by decide +kernel) (by decide +kernel)
theorem mlX8_234 : Cond.methodLink RX8 234 yX2_forget ∈ lw_good := lw_gd 322 (by decide +kernel) (by decide +kernel)
theorem mlX8_117 : Cond.methodLink RX8 117 yX8_dropLines ∈ lw_good := lw_gd 326 (by decide +kernel) (by decide +kernel)
theorem mlX8_237 : Cond.methodLink RX8 237 yX1_empty ∈ lw_good := lw_gd 330 (by decide +kernel) (by decide +kernel)
theorem mlX1_35 : Cond.methodLink RX1 35 yJ7_fill_53178 ∈ lw_good := lw_gd 334 (by decide +kernel) (by decide +kernel)
theorem mlX8_240 : Cond.methodLink RX8 240 yX7_closeAll ∈ lw_good := lw_gd 337 (by decide +kernel) (by decide +kernel)
theorem mlL_13 : Cond.methodLink RL 13 yX8_write ∈ lw_good := lw_gd 369 (by decide +kernel) (by decide +kernel)
theorem mlX8_72 : Cond.methodLink RX8 72 yX5_append ∈ lw_good := lw_gd 373 (by decide +kernel) (by decide +kernel)
theorem mlL_18 : Cond.methodLink RL 18 yX8_wipe ∈ lw_good := lw_gd 377 (by decide +kernel) (by decide +kernel)
theorem mlL_23 : Cond.methodLink RL 23 yX8_fault ∈ lw_good := lw_gd 381 (by decide +kernel) (by decide +kernel)
theorem mlX8_76 : Cond.methodLink RX8 76 yX5_readInto ∈ lw_good := lw_gd 385 (by decide +kernel) (by decide +kernel)
theorem mlX5_23 : Cond.methodLink RX5 23 yX3_reset ∈ lw_good := lw_gd 389 (by decide +kernel) (by decide +kernel)
theorem mlX5_31 : Cond.methodLink RX5 31 yX5_readItem ∈ lw_good := lw_gd 390 (by decide +kernel) (by decide +kernel)
theorem mlX5_35 : Cond.methodLink RX5 35 yX5_letterHere ∈ lw_good := lw_gd 394 (by decide +kernel) (by decide +kernel)
theorem mlX5_39 : Cond.methodLink RX5 39 yX5_numbersBehind ∈ lw_good := lw_gd 398 (by decide +kernel) (by decide +kernel)
theorem mlX5_43 : Cond.methodLink RX5 43 yX5_readNumber ∈ lw_good := lw_gd 401 (by decide +kernel) (by decide +kernel)
theorem mlX5_50 : Cond.methodLink RX5 50 yX5_isFigure ∈ lw_good := lw_gd 405 (by decide +kernel) (by decide +kernel)
theorem mlX5_46 : Cond.methodLink RX5 46 yX3_takeItem ∈ lw_good := lw_gd 408 (by decide +kernel) (by decide +kernel)
theorem mlX3_46 : Cond.methodLink RX3 46 yX3_takeGrid ∈ lw_good := lw_gd 412 (by decide +kernel) (by decide +kernel)
theorem mlX3_50 : Cond.methodLink RX3 50 yX3_addRule ∈ lw_good := lw_gd 416 (by decide +kernel) (by decide +kernel)
theorem mlX3_54 : Cond.methodLink RX3 54 yX3_takeDark ∈ lw_good := lw_gd 417 (by decide +kernel) (by decide +kernel)
theorem mlX3_58 : Cond.methodLink RX3 58 yX3_takeRest ∈ lw_good := lw_gd 421 (by decide +kernel) (by decide +kernel)
theorem mlL_27 : Cond.methodLink RL 27 yX8_lay ∈ lw_good := lw_gd 425 (by decide +kernel) (by decide +kernel)
theorem mlL_33 : Cond.methodLink RL 33 yX8_see ∈ lw_good := lw_gd 429 (by decide +kernel) (by decide +kernel)
theorem mlX8_86 : Cond.methodLink RX8 86 yX3_lineBound ∈ lw_good := lw_gd 433 (by decide +kernel) (by decide +kernel)
theorem mlX8_96 : Cond.methodLink RX8 96 yX2_keep ∈ lw_good := lw_gd 438 (by decide +kernel) (by decide +kernel)
theorem mlX2_22 : Cond.methodLink RX2 22 yX4_copyFrom ∈ lw_good := lw_gd 442 (by decide +kernel) (by decide +kernel)
theorem mlX4_23 : Cond.methodLink RX4 23 arraycopyName ∈ lw_good := lw_gd 446 (by decide +kernel) (by decide +kernel)
theorem mlX2_29 : Cond.methodLink RX2 29 Lib.Math.min.name ∈ lw_good := lw_gd 447 (by decide +kernel) (by decide +kernel)
theorem mlX8_100 : Cond.methodLink RX8 100 yX4_addLine ∈ lw_good := lw_gd 450 (by decide +kernel) (by decide +kernel)
theorem mlX8_104 : Cond.methodLink RX8 104 yX1_addLine ∈ lw_good := lw_gd 454 (by decide +kernel) (by decide +kernel)
theorem mlX1_41 : Cond.methodLink RX1 41 yX3_lineBound ∈ lw_good := lw_gd 458 (by decide +kernel) (by decide +kernel)
theorem mlX1_55 : Cond.methodLink RX1 55 yX1_addCell ∈ lw_good := lw_gd 460 (by decide +kernel) (by decide +kernel)
theorem mlX1_63 : Cond.methodLink RX1 63 yX1_ownerAt ∈ lw_good := lw_gd 464 (by decide +kernel) (by decide +kernel)
theorem mlX1_67 : Cond.methodLink RX1 67 yX1_freeSlot ∈ lw_good := lw_gd 467 (by decide +kernel) (by decide +kernel)
theorem mlX1_71 : Cond.methodLink RX1 71 yX0_addCell ∈ lw_good := lw_gd 471 (by decide +kernel) (by decide +kernel)
theorem mlX0_15 : Cond.methodLink RX0 15 yX0_beginAt ∈ lw_good := lw_gd 475 (by decide +kernel) (by decide +kernel)
theorem mlX0_22 : Cond.methodLink RX0 22 Lib.Math.max.name ∈ lw_good := lw_gd 479 (by decide +kernel) (by decide +kernel)
theorem mlX0_31 : Cond.methodLink RX0 31 Lib.Math.min.name ∈ lw_good := lw_gd 482 (by decide +kernel) (by decide +kernel)
theorem mlX1_72 : Cond.methodLink RX1 72 yX1_joinTo ∈ lw_good := lw_gd 483 (by decide +kernel) (by decide +kernel)
theorem mlX1_76 : Cond.methodLink RX1 76 yX0_absorb ∈ lw_good := lw_gd 487 (by decide +kernel) (by decide +kernel)
theorem mlX0_49 : Cond.methodLink RX0 49 yX0_beganBefore ∈ lw_good := lw_gd 491 (by decide +kernel) (by decide +kernel)
theorem mlX1_80 : Cond.methodLink RX1 80 yX1_handOver ∈ lw_good := lw_gd 495 (by decide +kernel) (by decide +kernel)
theorem mlX1_59 : Cond.methodLink RX1 59 yX1_endAllWithout ∈ lw_good := lw_gd 498 (by decide +kernel) (by decide +kernel)
theorem mlX1_84 : Cond.methodLink RX1 84 yX1_earliestWithout ∈ lw_good := lw_gd 502 (by decide +kernel) (by decide +kernel)
theorem mlX1_93 : Cond.methodLink RX1 93 yX0_beganBefore ∈ lw_good := lw_gd 506 (by decide +kernel) (by decide +kernel)
theorem mlX1_87 : Cond.methodLink RX1 87 yX0_copyFrom ∈ lw_good := lw_gd 507 (by decide +kernel) (by decide +kernel)
theorem mlX8_107 : Cond.methodLink RX8 107 yX8_judge ∈ lw_good := lw_gd 511 (by decide +kernel) (by decide +kernel)
theorem mlX8_247 : Cond.methodLink RX8 247 yX7_judgeAll ∈ lw_good := lw_gd 515 (by decide +kernel) (by decide +kernel)
theorem mlX7_30 : Cond.methodLink RX7 30 yX7_closeAll ∈ lw_good := lw_gd 519 (by decide +kernel) (by decide +kernel)
theorem mlX7_33 : Cond.methodLink RX7 33 yX7_endedOf ∈ lw_good := lw_gd 520 (by decide +kernel) (by decide +kernel)
theorem mlX7_62 : Cond.methodLink RX7 62 Lib.Math.min.name ∈ lw_good := lw_gd 523 (by decide +kernel) (by decide +kernel)
theorem mlX7_43 : Cond.methodLink RX7 43 yX7_firstRuleFor ∈ lw_good := lw_gd 524 (by decide +kernel) (by decide +kernel)
theorem mlX7_76 : Cond.methodLink RX7 76 yX0_measure ∈ lw_good := lw_gd 527 (by decide +kernel) (by decide +kernel)
theorem mlX0_53 : Cond.methodLink RX0 53 yX0_mean ∈ lw_good := lw_gd 531 (by decide +kernel) (by decide +kernel)
theorem mlX7_47 : Cond.methodLink RX7 47 yX7_isBad ∈ lw_good := lw_gd 535 (by decide +kernel) (by decide +kernel)
theorem mlX7_51 : Cond.methodLink RX7 51 yX7_openFor ∈ lw_good := lw_gd 539 (by decide +kernel) (by decide +kernel)
theorem mlX7_82 : Cond.methodLink RX7 82 yX3_wantedTo ∈ lw_good := lw_gd 543 (by decide +kernel) (by decide +kernel)
theorem mlX7_86 : Cond.methodLink RX7 86 yX0_endTick ∈ lw_good := lw_gd 547 (by decide +kernel) (by decide +kernel)
theorem mlX7_90 : Cond.methodLink RX7 90 yX3_wantedFrom ∈ lw_good := lw_gd 551 (by decide +kernel) (by decide +kernel)
theorem mlX7_93 : Cond.methodLink RX7 93 Lib.Math.max.name ∈ lw_good := lw_gd 555 (by decide +kernel) (by decide +kernel)
theorem mlX7_99 : Cond.methodLink RX7 99 yX3_valveOver ∈ lw_good := lw_gd 556 (by decide +kernel) (by decide +kernel)
theorem mlX7_108 : Cond.methodLink RX7 108 yX6_want ∈ lw_good := lw_gd 560 (by decide +kernel) (by decide +kernel)
theorem mlX6_22 : Cond.methodLink RX6 22 yX6_isNear ∈ lw_good := lw_gd 564 (by decide +kernel) (by decide +kernel)
theorem mlX6_26 : Cond.methodLink RX6 26 Lib.Math.min.name ∈ lw_good := lw_gd 567 (by decide +kernel) (by decide +kernel)
theorem mlX7_55 : Cond.methodLink RX7 55 yX7_isBlown ∈ lw_good := lw_gd 568 (by decide +kernel) (by decide +kernel)
theorem mlX7_121 : Cond.methodLink RX7 121 yX6_isOpenWithin ∈ lw_good := lw_gd 572 (by decide +kernel) (by decide +kernel)
theorem mlL_38 : Cond.methodLink RL 38 yX8_rule ∈ lw_good := lw_gd 576 (by decide +kernel) (by decide +kernel)
theorem mlX8_110 : Cond.methodLink RX8 110 yX8_isRule ∈ lw_good := lw_gd 580 (by decide +kernel) (by decide +kernel)
theorem mlL_43 : Cond.methodLink RL 43 yX8_clear ∈ lw_good := lw_gd 584 (by decide +kernel) (by decide +kernel)
theorem mlL_47 : Cond.methodLink RL 47 yX8_undo ∈ lw_good := lw_gd 588 (by decide +kernel) (by decide +kernel)
theorem mlX8_123 : Cond.methodLink RX8 123 yX2_giveBack ∈ lw_good := lw_gd 592 (by decide +kernel) (by decide +kernel)
theorem mlX8_126 : Cond.methodLink RX8 126 yX8_foldAll ∈ lw_good := lw_gd 596 (by decide +kernel) (by decide +kernel)
theorem mlL_51 : Cond.methodLink RL 51 yX8_blob ∈ lw_good := lw_gd 600 (by decide +kernel) (by decide +kernel)
theorem mlX8_150 : Cond.methodLink RX8 150 yX0_mean ∈ lw_good := lw_gd 604 (by decide +kernel) (by decide +kernel)
theorem mlX8_160 : Cond.methodLink RX8 160 yX7_isBad ∈ lw_good := lw_gd 605 (by decide +kernel) (by decide +kernel)
theorem mlX8_163 : Cond.methodLink RX8 163 yX3_isLate ∈ lw_good := lw_gd 606 (by decide +kernel) (by decide +kernel)
theorem mlX3_75 : Cond.methodLink RX3 75 yX3_wantedFrom ∈ lw_good := lw_gd 610 (by decide +kernel) (by decide +kernel)
theorem mlX3_79 : Cond.methodLink RX3 79 yX0_endTick ∈ lw_good := lw_gd 611 (by decide +kernel) (by decide +kernel)
theorem mlX8_167 : Cond.methodLink RX8 167 yX8_asFlag ∈ lw_good := lw_gd 612 (by decide +kernel) (by decide +kernel)
theorem mlL_55 : Cond.methodLink RL 55 yX8_open ∈ lw_good := lw_gd 615 (by decide +kernel) (by decide +kernel)
theorem mlX8_175 : Cond.methodLink RX8 175 yX1_liveBlobs ∈ lw_good := lw_gd 619 (by decide +kernel) (by decide +kernel)
theorem mlX8_178 : Cond.methodLink RX8 178 yX1_liveCells ∈ lw_good := lw_gd 623 (by decide +kernel) (by decide +kernel)
theorem mlL_59 : Cond.methodLink RL 59 yX8_opening ∈ lw_good := lw_gd 627 (by decide +kernel) (by decide +kernel)
theorem mlX8_181 : Cond.methodLink RX8 181 yX8_isValve ∈ lw_good := lw_gd 631 (by decide +kernel) (by decide +kernel)
theorem mlL_64 : Cond.methodLink RL 64 yX8_air ∈ lw_good := lw_gd 635 (by decide +kernel) (by decide +kernel)
theorem mlX8_199 : Cond.methodLink RX8 199 yX6_ticksOpen ∈ lw_good := lw_gd 639 (by decide +kernel) (by decide +kernel)
theorem mlL_68 : Cond.methodLink RL 68 yX8_gain ∈ lw_good := lw_gd 643 (by decide +kernel) (by decide +kernel)
theorem mlX8_202 : Cond.methodLink RX8 202 yX7_worth ∈ lw_good := lw_gd 647 (by decide +kernel) (by decide +kernel)
theorem mlX7_125 : Cond.methodLink RX7 125 yX0_worth ∈ lw_good := lw_gd 651 (by decide +kernel) (by decide +kernel)
theorem mlL_72 : Cond.methodLink RL 72 yX8_best ∈ lw_good := lw_gd 655 (by decide +kernel) (by decide +kernel)
theorem mlX8_212 : Cond.methodLink RX8 212 yX8_worthByNumber ∈ lw_good := lw_gd 659 (by decide +kernel) (by decide +kernel)
theorem mlX8_219 : Cond.methodLink RX8 219 yX1_hasEndedWith ∈ lw_good := lw_gd 663 (by decide +kernel) (by decide +kernel)
theorem mlX1_97 : Cond.methodLink RX1 97 yX0_measure ∈ lw_good := lw_gd 667 (by decide +kernel) (by decide +kernel)
theorem mlL_76 : Cond.methodLink RL 76 yX8_count ∈ lw_good := lw_gd 668 (by decide +kernel) (by decide +kernel)
theorem mlX8_225 : Cond.methodLink RX8 225 yX7_howMany ∈ lw_good := lw_gd 672 (by decide +kernel) (by decide +kernel)
theorem mlX7_128 : Cond.methodLink RX7 128 yX7_isOneOf ∈ lw_good := lw_gd 676 (by decide +kernel) (by decide +kernel)
theorem mlX7_132 : Cond.methodLink RX7 132 yX3_isLate ∈ lw_good := lw_gd 680 (by decide +kernel) (by decide +kernel)
theorem mlL_80 : Cond.methodLink RL 80 yX8_told ∈ lw_good := lw_gd 681 (by decide +kernel) (by decide +kernel)
theorem mlX8_229 : Cond.methodLink RX8 229 yX7_howManyBadBy ∈ lw_good := lw_gd 685 (by decide +kernel) (by decide +kernel)
theorem mlL_12 : Cond.methodLink RL 12 yX9_init ∈ lw_good := lw_gd 691 (by decide +kernel) (by decide +kernel)
theorem mlX9_1 : Cond.methodLink RX9 1 objectInit ∈ lw_good := lw_gd 694 (by decide +kernel) (by decide +kernel)
theorem mlX9_84 : Cond.methodLink RX9 84 yX9_plans ∈ lw_good := lw_gd 695 (by decide +kernel) (by decide +kernel)
theorem mlL_17 : Cond.methodLink RL 17 yX9_write ∈ lw_good := lw_gd 797 (by decide +kernel) (by decide +kernel)
theorem mlX9_106 : Cond.methodLink RX9 106 yX9_within ∈ lw_good := lw_gd 803 (by decide +kernel) (by decide +kernel)
theorem mlL_22 : Cond.methodLink RL 22 yX9_wipe ∈ lw_good := lw_gd 806 (by decide +kernel) (by decide +kernel)
theorem mlL_26 : Cond.methodLink RL 26 yX9_fault ∈ lw_good := lw_gd 810 (by decide +kernel) (by decide +kernel)
theorem mlX9_138 : Cond.methodLink RX9 138 yX9_faultAt ∈ lw_good := lw_gd 814 (by decide +kernel) (by decide +kernel)
theorem mlX9_131 : Cond.methodLink RX9 131 yX9_isItem ∈ lw_good := lw_gd 818 (by decide +kernel) (by decide +kernel)
theorem mlX9_118 : Cond.methodLink RX9 118 yX9_passes ∈ lw_good := lw_gd 822 (by decide +kernel) (by decide +kernel)
theorem mlX9_125 : Cond.methodLink RX9 125 yX9_isGate ∈ lw_good := lw_gd 826 (by decide +kernel) (by decide +kernel)
theorem mlX9_114 : Cond.methodLink RX9 114 yX9_number ∈ lw_good := lw_gd 830 (by decide +kernel) (by decide +kernel)
theorem mlX9_110 : Cond.methodLink RX9 110 yX9_isFigure ∈ lw_good := lw_gd 834 (by decide +kernel) (by decide +kernel)
theorem mlX9_128 : Cond.methodLink RX9 128 yX9_isRule ∈ lw_good := lw_gd 840 (by decide +kernel) (by decide +kernel)
theorem mlL_30 : Cond.methodLink RL 30 yX9_lay ∈ lw_good := lw_gd 844 (by decide +kernel) (by decide +kernel)
theorem mlL_37 : Cond.methodLink RL 37 yX9_see ∈ lw_good := lw_gd 848 (by decide +kernel) (by decide +kernel)
theorem mlX9_147 : Cond.methodLink RX9 147 yX9_power ∈ lw_good := lw_gd 852 (by decide +kernel) (by decide +kernel)
theorem mlX9_151 : Cond.methodLink RX9 151 yX9_laysBlobs ∈ lw_good := lw_gd 857 (by decide +kernel) (by decide +kernel)
theorem mlX9_193 : Cond.methodLink RX9 193 yX9_laysCells ∈ lw_good := lw_gd 861 (by decide +kernel) (by decide +kernel)
theorem mlX9_154 : Cond.methodLink RX9 154 yX9_lines ∈ lw_good := lw_gd 865 (by decide +kernel) (by decide +kernel)
theorem mlX9_196 : Cond.methodLink RX9 196 yX9_joinsAround ∈ lw_good := lw_gd 869 (by decide +kernel) (by decide +kernel)
theorem mlX9_172 : Cond.methodLink RX9 172 yX9_joins ∈ lw_good := lw_gd 873 (by decide +kernel) (by decide +kernel)
theorem mlX9_168 : Cond.methodLink RX9 168 yX9_rootOf ∈ lw_good := lw_gd 877 (by decide +kernel) (by decide +kernel)
theorem mlX9_199 : Cond.methodLink RX9 199 yX9_counts ∈ lw_good := lw_gd 881 (by decide +kernel) (by decide +kernel)
theorem mlX9_179 : Cond.methodLink RX9 179 yX9_blobOf ∈ lw_good := lw_gd 885 (by decide +kernel) (by decide +kernel)
theorem mlX9_182 : Cond.methodLink RX9 182 yX9_begins ∈ lw_good := lw_gd 889 (by decide +kernel) (by decide +kernel)
theorem mlX9_202 : Cond.methodLink RX9 202 yX9_numbersEnded ∈ lw_good := lw_gd 893 (by decide +kernel) (by decide +kernel)
theorem mlX9_189 : Cond.methodLink RX9 189 yX9_isAhead ∈ lw_good := lw_gd 897 (by decide +kernel) (by decide +kernel)
theorem mlX9_160 : Cond.methodLink RX9 160 yX9_keeps ∈ lw_good := lw_gd 901 (by decide +kernel) (by decide +kernel)
theorem mlL_42 : Cond.methodLink RL 42 yX9_rule ∈ lw_good := lw_gd 905 (by decide +kernel) (by decide +kernel)
theorem mlX9_163 : Cond.methodLink RX9 163 yX9_isRuleThere ∈ lw_good := lw_gd 909 (by decide +kernel) (by decide +kernel)
theorem mlL_46 : Cond.methodLink RL 46 yX9_clear ∈ lw_good := lw_gd 914 (by decide +kernel) (by decide +kernel)
theorem mlL_50 : Cond.methodLink RL 50 yX9_undo ∈ lw_good := lw_gd 918 (by decide +kernel) (by decide +kernel)
theorem mlL_54 : Cond.methodLink RL 54 yX9_blob ∈ lw_good := lw_gd 922 (by decide +kernel) (by decide +kernel)
theorem mlX9_233 : Cond.methodLink RX9 233 yX9_judgesNow ∈ lw_good := lw_gd 926 (by decide +kernel) (by decide +kernel)
theorem mlX9_227 : Cond.methodLink RX9 227 yX9_judges ∈ lw_good := lw_gd 930 (by decide +kernel) (by decide +kernel)
theorem mlX9_214 : Cond.methodLink RX9 214 yX9_ruleOf ∈ lw_good := lw_gd 934 (by decide +kernel) (by decide +kernel)
theorem mlX9_205 : Cond.methodLink RX9 205 yX9_valueOf ∈ lw_good := lw_gd 938 (by decide +kernel) (by decide +kernel)
theorem mlX9_217 : Cond.methodLink RX9 217 yX9_wants ∈ lw_good := lw_gd 942 (by decide +kernel) (by decide +kernel)
theorem mlX9_208 : Cond.methodLink RX9 208 yX9_wanted ∈ lw_good := lw_gd 946 (by decide +kernel) (by decide +kernel)
theorem mlX9_211 : Cond.methodLink RX9 211 yX9_perValve ∈ lw_good := lw_gd 950 (by decide +kernel) (by decide +kernel)
theorem mlX9_221 : Cond.methodLink RX9 221 yX9_rests ∈ lw_good := lw_gd 954 (by decide +kernel) (by decide +kernel)
theorem mlX9_224 : Cond.methodLink RX9 224 yX9_isBlownNow ∈ lw_good := lw_gd 958 (by decide +kernel) (by decide +kernel)
theorem mlX9_238 : Cond.methodLink RX9 238 yX9_tellBlob ∈ lw_good := lw_gd 963 (by decide +kernel) (by decide +kernel)
theorem mlX9_230 : Cond.methodLink RX9 230 yX9_isLate ∈ lw_good := lw_gd 967 (by decide +kernel) (by decide +kernel)
theorem mlL_58 : Cond.methodLink RL 58 yX9_open ∈ lw_good := lw_gd 971 (by decide +kernel) (by decide +kernel)
theorem mlL_63 : Cond.methodLink RL 63 yX9_opening ∈ lw_good := lw_gd 975 (by decide +kernel) (by decide +kernel)
theorem mlX9_241 : Cond.methodLink RX9 241 yX9_isValve ∈ lw_good := lw_gd 979 (by decide +kernel) (by decide +kernel)
theorem mlL_67 : Cond.methodLink RL 67 yX9_air ∈ lw_good := lw_gd 983 (by decide +kernel) (by decide +kernel)
theorem mlL_71 : Cond.methodLink RL 71 yX9_gain ∈ lw_good := lw_gd 987 (by decide +kernel) (by decide +kernel)
theorem mlX9_244 : Cond.methodLink RX9 244 yX9_gained ∈ lw_good := lw_gd 991 (by decide +kernel) (by decide +kernel)
theorem mlL_75 : Cond.methodLink RL 75 yX9_best ∈ lw_good := lw_gd 995 (by decide +kernel) (by decide +kernel)
theorem mlL_79 : Cond.methodLink RL 79 yX9_count ∈ lw_good := lw_gd 999 (by decide +kernel) (by decide +kernel)
theorem mlX9_247 : Cond.methodLink RX9 247 yX9_howMany ∈ lw_good := lw_gd 1003 (by decide +kernel) (by decide +kernel)
theorem mlX9_250 : Cond.methodLink RX9 250 yX9_endedNow ∈ lw_good := lw_gd 1007 (by decide +kernel) (by decide +kernel)
theorem mlL_83 : Cond.methodLink RL 83 yX9_told ∈ lw_good := lw_gd 1011 (by decide +kernel) (by decide +kernel)
theorem mlX9_253 : Cond.methodLink RX9 253 yX9_judgedBy ∈ lw_good := lw_gd 1015 (by decide +kernel) (by decide +kernel)
theorem clL_7 : Cond.classLink RL 7 RX8 ∈ lw_good := lw_gd 73 (by decide +kernel) (by decide +kernel)
theorem clX8_9 : Cond.classLink RX8 9 RX5 ∈ lw_good := lw_gd 81 (by decide +kernel) (by decide +kernel)
theorem clX8_16 : Cond.classLink RX8 16 RX4 ∈ lw_good := lw_gd 103 (by decide +kernel) (by decide +kernel)
theorem clX8_23 : Cond.classLink RX8 23 RX2 ∈ lw_good := lw_gd 123 (by decide +kernel) (by decide +kernel)
theorem clX2_9 : Cond.classLink RX2 9 RX4 ∈ lw_good := lw_gd 129 (by decide +kernel) (by decide +kernel)
theorem clX8_30 : Cond.classLink RX8 30 RX1 ∈ lw_good := lw_gd 143 (by decide +kernel) (by decide +kernel)
theorem clX1_9 : Cond.classLink RX1 9 RX0 ∈ lw_good := lw_gd 149 (by decide +kernel) (by decide +kernel)
theorem clX8_37 : Cond.classLink RX8 37 RX7 ∈ lw_good := lw_gd 215 (by decide +kernel) (by decide +kernel)
theorem clX7_19 : Cond.classLink RX7 19 RX6 ∈ lw_good := lw_gd 221 (by decide +kernel) (by decide +kernel)
theorem clX8_51 : Cond.classLink RX8 51 RX3 ∈ lw_good := lw_gd 256 (by decide +kernel) (by decide +kernel)
theorem clL_10 : Cond.classLink RL 10 RX9 ∈ lw_good := lw_gd 689 (by decide +kernel) (by decide +kernel)
theorem cnX3_65 : Cond.constantLong RX3 65 (Int64.ofInt 10) ∈ lw_good := lw_gd 437 (by decide +kernel) (by decide +kernel)
theorem cnX1_50 : Cond.constantLong RX1 50 (Int64.ofInt 10) ∈ lw_good := lw_gd 459 (by decide +kernel) (by decide +kernel)
theorem cnX9_92 : Cond.constantLong RX9 92 (Int64.ofInt 5) ∈ lw_good := lw_gd 698 (by decide +kernel) (by decide +kernel)
theorem cnX9_94 : Cond.constantLong RX9 94 (Int64.ofInt 2) ∈ lw_good := lw_gd 699 (by decide +kernel) (by decide +kernel)
theorem cnX9_134 : Cond.constantLong RX9 134 (Int64.ofInt 32) ∈ lw_good := lw_gd 801 (by decide +kernel) (by decide +kernel)
theorem cnX9_136 : Cond.constantLong RX9 136 (Int64.ofInt 126) ∈ lw_good := lw_gd 802 (by decide +kernel) (by decide +kernel)
theorem cnX9_102 : Cond.constantLong RX9 102 (Int64.ofInt 48) ∈ lw_good := lw_gd 838 (by decide +kernel) (by decide +kernel)
theorem cnX9_104 : Cond.constantLong RX9 104 (Int64.ofInt 57) ∈ lw_good := lw_gd 839 (by decide +kernel) (by decide +kernel)
theorem cnX9_145 : Cond.constantLong RX9 145 (Int64.ofInt 10) ∈ lw_good := lw_gd 856 (by decide +kernel) (by decide +kernel)
theorem cnX9_166 : Cond.constantLong RX9 166 (Int64.ofInt 99) ∈ lw_good := lw_gd 913 (by decide +kernel) (by decide +kernel)
theorem cnX9_236 : Cond.constantLong RX9 236 (Int64.ofInt 9) ∈ lw_good := lw_gd 962 (by decide +kernel) (by decide +kernel)
theorem cnL_31 : Cond.constantLong RL 31 (Int64.ofInt 4294967295) ∈ lw_good := lw_gd 1019 (by decide +kernel) (by decide +kernel)
theorem flX5_9 : g_FR RX5 9 5 0 true := ⟨by decide, by decide, rfl, rfl, lw_gd 87 (by decide +kernel) (by decide +kernel)⟩
theorem flX5_15 : g_FR RX5 15 5 1 true := ⟨by decide, by decide, rfl, rfl, lw_gd 88 (by decide +kernel) (by decide +kernel)⟩
theorem flX5_19 : g_FI RX5 19 5 2 := ⟨by decide, by decide, rfl, rfl, lw_gd 89 (by decide +kernel) (by decide +kernel)⟩
theorem flX5_28 : g_FI RX5 28 5 3 := ⟨by decide, by decide, rfl, rfl, lw_gd 91 (by decide +kernel) (by decide +kernel)⟩
theorem flX4_9 : g_FR RX4 9 4 0 true := ⟨by decide, by decide, rfl, rfl, lw_gd 109 (by decide +kernel) (by decide +kernel)⟩
theorem flX4_15 : g_FR RX4 15 4 1 true := ⟨by decide, by decide, rfl, rfl, lw_gd 111 (by decide +kernel) (by decide +kernel)⟩
theorem flX4_19 : g_FI RX4 19 4 2 := ⟨by decide, by decide, rfl, rfl, lw_gd 113 (by decide +kernel) (by decide +kernel)⟩
theorem flX2_11 : g_FR RX2 11 2 0 true := ⟨by decide, by decide, rfl, rfl, lw_gd 132 (by decide +kernel) (by decide +kernel)⟩
theorem flX2_26 : g_FI RX2 26 2 1 := ⟨by decide, by decide, rfl, rfl, lw_gd 133 (by decide +kernel) (by decide +kernel)⟩
theorem flX2_18 : g_FI RX2 18 2 2 := ⟨by decide, by decide, rfl, rfl, lw_gd 135 (by decide +kernel) (by decide +kernel)⟩
theorem flX0_43 : g_FI RX0 43 0 0 := ⟨by decide, by decide, rfl, rfl, lw_gd 156 (by decide +kernel) (by decide +kernel)⟩
theorem flX0_19 : g_FI RX0 19 0 1 := ⟨by decide, by decide, rfl, rfl, lw_gd 160 (by decide +kernel) (by decide +kernel)⟩
theorem flX0_46 : g_FI RX0 46 0 2 := ⟨by decide, by decide, rfl, rfl, lw_gd 165 (by decide +kernel) (by decide +kernel)⟩
theorem flX0_28 : g_FI RX0 28 0 3 := ⟨by decide, by decide, rfl, rfl, lw_gd 166 (by decide +kernel) (by decide +kernel)⟩
theorem flX0_34 : g_FI RX0 34 0 4 := ⟨by decide, by decide, rfl, rfl, lw_gd 169 (by decide +kernel) (by decide +kernel)⟩
theorem flX0_9 : g_FI RX0 9 0 5 := ⟨by decide, by decide, rfl, rfl, lw_gd 172 (by decide +kernel) (by decide +kernel)⟩
theorem flX0_37 : g_FI RX0 37 0 6 := ⟨by decide, by decide, rfl, rfl, lw_gd 175 (by decide +kernel) (by decide +kernel)⟩
theorem flX0_40 : g_FI RX0 40 0 7 := ⟨by decide, by decide, rfl, rfl, lw_gd 176 (by decide +kernel) (by decide +kernel)⟩
theorem flX1_11 : g_FR RX1 11 1 0 true := ⟨by decide, by decide, rfl, rfl, lw_gd 195 (by decide +kernel) (by decide +kernel)⟩
theorem flX1_17 : g_FR RX1 17 1 1 true := ⟨by decide, by decide, rfl, rfl, lw_gd 198 (by decide +kernel) (by decide +kernel)⟩
theorem flX1_20 : g_FR RX1 20 1 2 false := ⟨by decide, by decide, rfl, rfl, lw_gd 199 (by decide +kernel) (by decide +kernel)⟩
theorem flX1_24 : g_FR RX1 24 1 3 false := ⟨by decide, by decide, rfl, rfl, lw_gd 200 (by decide +kernel) (by decide +kernel)⟩
theorem flX1_28 : g_FI RX1 28 1 4 := ⟨by decide, by decide, rfl, rfl, lw_gd 201 (by decide +kernel) (by decide +kernel)⟩
theorem flX6_9 : g_FR RX6 9 6 0 true := ⟨by decide, by decide, rfl, rfl, lw_gd 228 (by decide +kernel) (by decide +kernel)⟩
theorem flX6_15 : g_FR RX6 15 6 1 true := ⟨by decide, by decide, rfl, rfl, lw_gd 230 (by decide +kernel) (by decide +kernel)⟩
theorem flX6_18 : g_FI RX6 18 6 2 := ⟨by decide, by decide, rfl, rfl, lw_gd 232 (by decide +kernel) (by decide +kernel)⟩
theorem flX7_9 : g_FR RX7 9 7 0 true := ⟨by decide, by decide, rfl, rfl, lw_gd 243 (by decide +kernel) (by decide +kernel)⟩
theorem flX7_15 : g_FR RX7 15 7 1 true := ⟨by decide, by decide, rfl, rfl, lw_gd 245 (by decide +kernel) (by decide +kernel)⟩
theorem flX7_21 : g_FR RX7 21 7 2 true := ⟨by decide, by decide, rfl, rfl, lw_gd 247 (by decide +kernel) (by decide +kernel)⟩
theorem flX3_9 : g_FR RX3 9 3 0 true := ⟨by decide, by decide, rfl, rfl, lw_gd 266 (by decide +kernel) (by decide +kernel)⟩
theorem flX3_15 : g_FR RX3 15 3 1 true := ⟨by decide, by decide, rfl, rfl, lw_gd 269 (by decide +kernel) (by decide +kernel)⟩
theorem flX3_21 : g_FI RX3 21 3 2 := ⟨by decide, by decide, rfl, rfl, lw_gd 271 (by decide +kernel) (by decide +kernel)⟩
theorem flX3_25 : g_FI RX3 25 3 3 := ⟨by decide, by decide, rfl, rfl, lw_gd 274 (by decide +kernel) (by decide +kernel)⟩
theorem flX3_28 : g_FI RX3 28 3 4 := ⟨by decide, by decide, rfl, rfl, lw_gd 277 (by decide +kernel) (by decide +kernel)⟩
theorem flX3_31 : g_FI RX3 31 3 5 := ⟨by decide, by decide, rfl, rfl, lw_gd 279 (by decide +kernel) (by decide +kernel)⟩
theorem flX3_34 : g_FI RX3 34 3 6 := ⟨by decide, by decide, rfl, rfl, lw_gd 281 (by decide +kernel) (by decide +kernel)⟩
theorem flX3_37 : g_FI RX3 37 3 7 := ⟨by decide, by decide, rfl, rfl, lw_gd 282 (by decide +kernel) (by decide +kernel)⟩
theorem flX3_40 : g_FI RX3 40 3 8 := ⟨by decide, by decide, rfl, rfl, lw_gd 283 (by decide +kernel) (by decide +kernel)⟩
theorem flX3_43 : g_FI RX3 43 3 9 := ⟨by decide, by decide, rfl, rfl, lw_gd 285 (by decide +kernel) (by decide +kernel)⟩
theorem flX8_12 : g_FR RX8 12 8 0 true := ⟨by decide, by decide, rfl, rfl, lw_gd 341 (by decide +kernel) (by decide +kernel)⟩
theorem flX8_19 : g_FR RX8 19 8 1 true := ⟨by decide, by decide, rfl, rfl, lw_gd 342 (by decide +kernel) (by decide +kernel)⟩
theorem flX8_26 : g_FR RX8 26 8 2 true := ⟨by decide, by decide, rfl, rfl, lw_gd 343 (by decide +kernel) (by decide +kernel)⟩
theorem flX8_33 : g_FR RX8 33 8 3 true := ⟨by decide, by decide, rfl, rfl, lw_gd 344 (by decide +kernel) (by decide +kernel)⟩
theorem flX8_40 : g_FR RX8 40 8 4 true := ⟨by decide, by decide, rfl, rfl, lw_gd 345 (by decide +kernel) (by decide +kernel)⟩
theorem flX8_44 : g_FR RX8 44 8 5 true := ⟨by decide, by decide, rfl, rfl, lw_gd 346 (by decide +kernel) (by decide +kernel)⟩
theorem flX8_47 : g_FR RX8 47 8 6 true := ⟨by decide, by decide, rfl, rfl, lw_gd 347 (by decide +kernel) (by decide +kernel)⟩
theorem flX8_54 : g_FR RX8 54 8 7 false := ⟨by decide, by decide, rfl, rfl, lw_gd 348 (by decide +kernel) (by decide +kernel)⟩
theorem flX8_58 : g_FR RX8 58 8 8 false := ⟨by decide, by decide, rfl, rfl, lw_gd 349 (by decide +kernel) (by decide +kernel)⟩
theorem flX9_7 : g_FR RX9 7 9 0 true := ⟨by decide, by decide, rfl, rfl, lw_gd 700 (by decide +kernel) (by decide +kernel)⟩
theorem flX9_88 : g_FI RX9 88 9 1 := ⟨by decide, by decide, rfl, rfl, lw_gd 701 (by decide +kernel) (by decide +kernel)⟩
theorem flX9_13 : g_FR RX9 13 9 2 true := ⟨by decide, by decide, rfl, rfl, lw_gd 702 (by decide +kernel) (by decide +kernel)⟩
theorem flX9_16 : g_FR RX9 16 9 3 true := ⟨by decide, by decide, rfl, rfl, lw_gd 703 (by decide +kernel) (by decide +kernel)⟩
theorem flX9_20 : g_FR RX9 20 9 4 true := ⟨by decide, by decide, rfl, rfl, lw_gd 704 (by decide +kernel) (by decide +kernel)⟩
theorem flX9_142 : g_FI RX9 142 9 5 := ⟨by decide, by decide, rfl, rfl, lw_gd 705 (by decide +kernel) (by decide +kernel)⟩
theorem flX9_23 : g_FR RX9 23 9 6 true := ⟨by decide, by decide, rfl, rfl, lw_gd 706 (by decide +kernel) (by decide +kernel)⟩
theorem flX9_99 : g_FI RX9 99 9 7 := ⟨by decide, by decide, rfl, rfl, lw_gd 707 (by decide +kernel) (by decide +kernel)⟩
theorem flX9_26 : g_FR RX9 26 9 8 true := ⟨by decide, by decide, rfl, rfl, lw_gd 708 (by decide +kernel) (by decide +kernel)⟩
theorem flX9_122 : g_FI RX9 122 9 9 := ⟨by decide, by decide, rfl, rfl, lw_gd 709 (by decide +kernel) (by decide +kernel)⟩
theorem flX9_29 : g_FR RX9 29 9 10 true := ⟨by decide, by decide, rfl, rfl, lw_gd 710 (by decide +kernel) (by decide +kernel)⟩
theorem flX9_32 : g_FR RX9 32 9 11 true := ⟨by decide, by decide, rfl, rfl, lw_gd 711 (by decide +kernel) (by decide +kernel)⟩
theorem flX9_96 : g_FI RX9 96 9 12 := ⟨by decide, by decide, rfl, rfl, lw_gd 712 (by decide +kernel) (by decide +kernel)⟩
theorem flX9_35 : g_FR RX9 35 9 13 true := ⟨by decide, by decide, rfl, rfl, lw_gd 713 (by decide +kernel) (by decide +kernel)⟩
theorem flX9_38 : g_FR RX9 38 9 14 true := ⟨by decide, by decide, rfl, rfl, lw_gd 714 (by decide +kernel) (by decide +kernel)⟩
theorem flX9_176 : g_FI RX9 176 9 15 := ⟨by decide, by decide, rfl, rfl, lw_gd 715 (by decide +kernel) (by decide +kernel)⟩
theorem flX9_157 : g_FI RX9 157 9 16 := ⟨by decide, by decide, rfl, rfl, lw_gd 716 (by decide +kernel) (by decide +kernel)⟩
theorem flX9_186 : g_FI RX9 186 9 17 := ⟨by decide, by decide, rfl, rfl, lw_gd 717 (by decide +kernel) (by decide +kernel)⟩
theorem flX9_41 : g_FR RX9 41 9 18 true := ⟨by decide, by decide, rfl, rfl, lw_gd 718 (by decide +kernel) (by decide +kernel)⟩
theorem flX9_44 : g_FR RX9 44 9 19 true := ⟨by decide, by decide, rfl, rfl, lw_gd 719 (by decide +kernel) (by decide +kernel)⟩
theorem flX9_47 : g_FR RX9 47 9 20 true := ⟨by decide, by decide, rfl, rfl, lw_gd 720 (by decide +kernel) (by decide +kernel)⟩
theorem flX9_50 : g_FR RX9 50 9 21 true := ⟨by decide, by decide, rfl, rfl, lw_gd 721 (by decide +kernel) (by decide +kernel)⟩
theorem flX9_53 : g_FR RX9 53 9 22 true := ⟨by decide, by decide, rfl, rfl, lw_gd 722 (by decide +kernel) (by decide +kernel)⟩
theorem flX9_56 : g_FR RX9 56 9 23 true := ⟨by decide, by decide, rfl, rfl, lw_gd 723 (by decide +kernel) (by decide +kernel)⟩
theorem flX9_59 : g_FR RX9 59 9 24 true := ⟨by decide, by decide, rfl, rfl, lw_gd 724 (by decide +kernel) (by decide +kernel)⟩
theorem flX9_62 : g_FR RX9 62 9 25 true := ⟨by decide, by decide, rfl, rfl, lw_gd 725 (by decide +kernel) (by decide +kernel)⟩
theorem flX9_65 : g_FR RX9 65 9 26 true := ⟨by decide, by decide, rfl, rfl, lw_gd 726 (by decide +kernel) (by decide +kernel)⟩
theorem flX9_68 : g_FR RX9 68 9 27 true := ⟨by decide, by decide, rfl, rfl, lw_gd 727 (by decide +kernel) (by decide +kernel)⟩
theorem flX9_71 : g_FR RX9 71 9 28 true := ⟨by decide, by decide, rfl, rfl, lw_gd 728 (by decide +kernel) (by decide +kernel)⟩
theorem flX9_74 : g_FR RX9 74 9 29 true := ⟨by decide, by decide, rfl, rfl, lw_gd 729 (by decide +kernel) (by decide +kernel)⟩
theorem flX9_77 : g_FR RX9 77 9 30 true := ⟨by decide, by decide, rfl, rfl, lw_gd 730 (by decide +kernel) (by decide +kernel)⟩
theorem flX9_81 : g_FR RX9 81 9 31 true := ⟨by decide, by decide, rfl, rfl, lw_gd 731 (by decide +kernel) (by decide +kernel)⟩
def lw_nest : List Cond := [(Cond.methodLinkNest "SpeckValves" 11 (⟨"SpeckValves$Text", "<init>", "()V"⟩) "SpeckValves"), (Cond.fieldLinkNest "SpeckValves" 68 "SpeckValves$Text" "length" "I" "SpeckValves"), (Cond.methodLinkNest "SpeckValves" 18 (⟨"SpeckValves$Stand", "<init>", "()V"⟩) "SpeckValves"), (Cond.fieldLinkNest "SpeckValves" 243 "SpeckValves$Stand" "lines" "[J" "SpeckValves"), (Cond.fieldLinkNest "SpeckValves" 114 "SpeckValves$Stand" "numbers" "[I" "SpeckValves"), (Cond.fieldLinkNest "SpeckValves" 90 "SpeckValves$Stand" "lineCount" "I" "SpeckValves"), (Cond.methodLinkNest "SpeckValves$History" 17 (⟨"SpeckValves$Stand", "<init>", "()V"⟩) "SpeckValves"), (Cond.fieldLinkNest "SpeckValves" 120 "SpeckValves$History" "held" "I" "SpeckValves"), (Cond.methodLinkNest "SpeckValves$Fold" 27 (⟨"SpeckValves$Blob", "<init>", "()V"⟩) "SpeckValves"), (Cond.fieldLinkNest "SpeckValves$Verdict" 112 "SpeckValves$Blob" "first" "I" "SpeckValves"), (Cond.fieldLinkNest "SpeckValves" 133 "SpeckValves$Blob" "first" "I" "SpeckValves"), (Cond.fieldLinkNest "SpeckValves$Plan" 67 "SpeckValves$Blob" "first" "I" "SpeckValves"), (Cond.fieldLinkNest "SpeckValves$Verdict" 118 "SpeckValves$Blob" "last" "I" "SpeckValves"), (Cond.fieldLinkNest "SpeckValves$Fold" 90 "SpeckValves$Blob" "last" "I" "SpeckValves"), (Cond.fieldLinkNest "SpeckValves" 138 "SpeckValves$Blob" "last" "I" "SpeckValves"), (Cond.fieldLinkNest "SpeckValves$Plan" 72 "SpeckValves$Blob" "last" "I" "SpeckValves"), (Cond.fieldLinkNest "SpeckValves$Verdict" 102 "SpeckValves$Blob" "left" "I" "SpeckValves"), (Cond.fieldLinkNest "SpeckValves" 141 "SpeckValves$Blob" "left" "I" "SpeckValves"), (Cond.fieldLinkNest "SpeckValves$Verdict" 96 "SpeckValves$Blob" "right" "I" "SpeckValves"), (Cond.fieldLinkNest "SpeckValves" 144 "SpeckValves$Blob" "right" "I" "SpeckValves"), (Cond.fieldLinkNest "SpeckValves$Fold" 32 "SpeckValves$Blob" "size" "I" "SpeckValves"), (Cond.fieldLinkNest "SpeckValves" 147 "SpeckValves$Blob" "size" "I" "SpeckValves"), (Cond.fieldLinkNest "SpeckValves" 154 "SpeckValves$Blob" "dark" "I" "SpeckValves"), (Cond.fieldLinkNest "SpeckValves$Verdict" 37 "SpeckValves$Fold" "ended" "[LSpeckValves$Blob;" "SpeckValves"), (Cond.fieldLinkNest "SpeckValves" 129 "SpeckValves$Fold" "ended" "[LSpeckValves$Blob;" "SpeckValves"), (Cond.fieldLinkNest "SpeckValves$Verdict" 59 "SpeckValves$Fold" "endedCount" "I" "SpeckValves"), (Cond.fieldLinkNest "SpeckValves" 93 "SpeckValves$Fold" "endedCount" "I" "SpeckValves"), (Cond.methodLinkNest "SpeckValves$Verdict" 25 (⟨"SpeckValves$Valve", "<init>", "()V"⟩) "SpeckValves"), (Cond.fieldLinkNest "SpeckValves" 193 "SpeckValves$Valve" "firsts" "[I" "SpeckValves"), (Cond.fieldLinkNest "SpeckValves" 196 "SpeckValves$Valve" "lasts" "[I" "SpeckValves"), (Cond.fieldLinkNest "SpeckValves$Verdict" 26 "SpeckValves$Valve" "openings" "I" "SpeckValves"), (Cond.fieldLinkNest "SpeckValves" 188 "SpeckValves$Valve" "openings" "I" "SpeckValves"), (Cond.fieldLinkNest "SpeckValves" 157 "SpeckValves$Verdict" "badBy" "[I" "SpeckValves"), (Cond.fieldLinkNest "SpeckValves" 171 "SpeckValves$Verdict" "blown" "[Z" "SpeckValves"), (Cond.fieldLinkNest "SpeckValves" 184 "SpeckValves$Verdict" "valves" "[LSpeckValves$Valve;" "SpeckValves"), (Cond.fieldLinkNest "SpeckValves$Verdict" 73 "SpeckValves$Plan" "kinds" "[I" "SpeckValves"), (Cond.fieldLinkNest "SpeckValves" 216 "SpeckValves$Plan" "kinds" "[I" "SpeckValves"), (Cond.fieldLinkNest "SpeckValves" 233 "SpeckValves$Plan" "numbers" "[I" "SpeckValves"), (Cond.fieldLinkNest "SpeckValves$Verdict" 68 "SpeckValves$Plan" "ruleCount" "I" "SpeckValves"), (Cond.fieldLinkNest "SpeckValves" 80 "SpeckValves$Plan" "ruleCount" "I" "SpeckValves"), (Cond.fieldLinkNest "SpeckValves$Fold" 47 "SpeckValves$Plan" "width" "I" "SpeckValves"), (Cond.fieldLinkNest "SpeckValves" 83 "SpeckValves$Plan" "width" "I" "SpeckValves"), (Cond.fieldLinkNest "SpeckValves" 222 "SpeckValves$Plan" "valveCount" "I" "SpeckValves"), (Cond.fieldLinkNest "SpeckValves$Verdict" 115 "SpeckValves$Plan" "fall" "I" "SpeckValves"), (Cond.fieldLinkNest "SpeckValves$Fold" 52 "SpeckValves$Plan" "darkFrom" "I" "SpeckValves"), (Cond.fieldLinkNest "SpeckValves$Verdict" 105 "SpeckValves$Plan" "rest" "I" "SpeckValves")]
set_option maxRecDepth 20000 in
theorem lw_nest_in : ∀ w ∈ lw_nest, w ∈ lw_tbl := by
  have h : lw_nest.map some = [83, 90, 105, 110, 112, 114, 131, 134, 152, 157, 158, 159, 161, 162, 163, 164, 167, 168, 170, 171, 173, 174, 177, 196, 197, 202, 203, 224, 229, 231, 233, 234, 244, 246, 248, 267, 268, 270, 272, 273, 275, 276, 278, 280, 284, 286].map (fun i => lw_tbl[i]?) := by decide +kernel
  intro w hw
  have h1 : some w ∈ lw_nest.map some := List.mem_map.mpr ⟨w, hw, rfl⟩
  rw [h] at h1
  obtain ⟨i, -, hi⟩ := List.mem_map.mp h1
  exact List.mem_of_getElem? hi
def g_NI (own : String) (idx ci k : Nat) : Prop := ci < 10 ∧ k < g_nf ci ∧ g_ft ci k = .int ∧ (g_TT ci k).2.2.2 = false ∧ ∃ host, Cond.fieldLinkNest own idx (g_TT ci k).1 (g_TT ci k).2.1 (g_TT ci k).2.2.1 host ∈ lw_nest
def g_NR (own : String) (idx ci k : Nat) (fin : Bool) : Prop := ci < 10 ∧ k < g_nf ci ∧ g_isR (g_ft ci k) = true ∧ (g_TT ci k).2.2.2 = fin ∧ ∃ host, Cond.fieldLinkNest own idx (g_TT ci k).1 (g_TT ci k).2.1 (g_TT ci k).2.2.1 host ∈ lw_nest
theorem mnX8_11 : Cond.methodLinkNest RX8 11 yX5_init "SpeckValves" ∈ lw_nest := List.mem_of_getElem? (i := 0) (by decide +kernel)
theorem fnX8_68 : g_NI RX8 68 5 2 := ⟨by decide, by decide, rfl, rfl, "SpeckValves", List.mem_of_getElem? (i := 1) (by decide +kernel)⟩
theorem mnX8_18 : Cond.methodLinkNest RX8 18 yX4_init "SpeckValves" ∈ lw_nest := List.mem_of_getElem? (i := 2) (by decide +kernel)
theorem fnX8_243 : g_NR RX8 243 4 0 true := ⟨by decide, by decide, rfl, rfl, "SpeckValves", List.mem_of_getElem? (i := 3) (by decide +kernel)⟩
theorem fnX8_114 : g_NR RX8 114 4 1 true := ⟨by decide, by decide, rfl, rfl, "SpeckValves", List.mem_of_getElem? (i := 4) (by decide +kernel)⟩
theorem fnX8_90 : g_NI RX8 90 4 2 := ⟨by decide, by decide, rfl, rfl, "SpeckValves", List.mem_of_getElem? (i := 5) (by decide +kernel)⟩
theorem mnX2_17 : Cond.methodLinkNest RX2 17 yX4_init "SpeckValves" ∈ lw_nest := List.mem_of_getElem? (i := 6) (by decide +kernel)
theorem fnX8_120 : g_NI RX8 120 2 1 := ⟨by decide, by decide, rfl, rfl, "SpeckValves", List.mem_of_getElem? (i := 7) (by decide +kernel)⟩
theorem mnX1_27 : Cond.methodLinkNest RX1 27 yX0_init "SpeckValves" ∈ lw_nest := List.mem_of_getElem? (i := 8) (by decide +kernel)
theorem fnX7_112 : g_NI RX7 112 0 0 := ⟨by decide, by decide, rfl, rfl, "SpeckValves", List.mem_of_getElem? (i := 9) (by decide +kernel)⟩
theorem fnX8_133 : g_NI RX8 133 0 0 := ⟨by decide, by decide, rfl, rfl, "SpeckValves", List.mem_of_getElem? (i := 10) (by decide +kernel)⟩
theorem fnX3_67 : g_NI RX3 67 0 0 := ⟨by decide, by decide, rfl, rfl, "SpeckValves", List.mem_of_getElem? (i := 11) (by decide +kernel)⟩
theorem fnX7_118 : g_NI RX7 118 0 1 := ⟨by decide, by decide, rfl, rfl, "SpeckValves", List.mem_of_getElem? (i := 12) (by decide +kernel)⟩
theorem fnX1_90 : g_NI RX1 90 0 1 := ⟨by decide, by decide, rfl, rfl, "SpeckValves", List.mem_of_getElem? (i := 13) (by decide +kernel)⟩
theorem fnX8_138 : g_NI RX8 138 0 1 := ⟨by decide, by decide, rfl, rfl, "SpeckValves", List.mem_of_getElem? (i := 14) (by decide +kernel)⟩
theorem fnX3_72 : g_NI RX3 72 0 1 := ⟨by decide, by decide, rfl, rfl, "SpeckValves", List.mem_of_getElem? (i := 15) (by decide +kernel)⟩
theorem fnX7_102 : g_NI RX7 102 0 3 := ⟨by decide, by decide, rfl, rfl, "SpeckValves", List.mem_of_getElem? (i := 16) (by decide +kernel)⟩
theorem fnX8_141 : g_NI RX8 141 0 3 := ⟨by decide, by decide, rfl, rfl, "SpeckValves", List.mem_of_getElem? (i := 17) (by decide +kernel)⟩
theorem fnX7_96 : g_NI RX7 96 0 4 := ⟨by decide, by decide, rfl, rfl, "SpeckValves", List.mem_of_getElem? (i := 18) (by decide +kernel)⟩
theorem fnX8_144 : g_NI RX8 144 0 4 := ⟨by decide, by decide, rfl, rfl, "SpeckValves", List.mem_of_getElem? (i := 19) (by decide +kernel)⟩
theorem fnX1_32 : g_NI RX1 32 0 5 := ⟨by decide, by decide, rfl, rfl, "SpeckValves", List.mem_of_getElem? (i := 20) (by decide +kernel)⟩
theorem fnX8_147 : g_NI RX8 147 0 5 := ⟨by decide, by decide, rfl, rfl, "SpeckValves", List.mem_of_getElem? (i := 21) (by decide +kernel)⟩
theorem fnX8_154 : g_NI RX8 154 0 7 := ⟨by decide, by decide, rfl, rfl, "SpeckValves", List.mem_of_getElem? (i := 22) (by decide +kernel)⟩
theorem fnX7_37 : g_NR RX7 37 1 0 true := ⟨by decide, by decide, rfl, rfl, "SpeckValves", List.mem_of_getElem? (i := 23) (by decide +kernel)⟩
theorem fnX8_129 : g_NR RX8 129 1 0 true := ⟨by decide, by decide, rfl, rfl, "SpeckValves", List.mem_of_getElem? (i := 24) (by decide +kernel)⟩
theorem fnX7_59 : g_NI RX7 59 1 4 := ⟨by decide, by decide, rfl, rfl, "SpeckValves", List.mem_of_getElem? (i := 25) (by decide +kernel)⟩
theorem fnX8_93 : g_NI RX8 93 1 4 := ⟨by decide, by decide, rfl, rfl, "SpeckValves", List.mem_of_getElem? (i := 26) (by decide +kernel)⟩
theorem mnX7_25 : Cond.methodLinkNest RX7 25 yX6_init "SpeckValves" ∈ lw_nest := List.mem_of_getElem? (i := 27) (by decide +kernel)
theorem fnX8_193 : g_NR RX8 193 6 0 true := ⟨by decide, by decide, rfl, rfl, "SpeckValves", List.mem_of_getElem? (i := 28) (by decide +kernel)⟩
theorem fnX8_196 : g_NR RX8 196 6 1 true := ⟨by decide, by decide, rfl, rfl, "SpeckValves", List.mem_of_getElem? (i := 29) (by decide +kernel)⟩
theorem fnX7_26 : g_NI RX7 26 6 2 := ⟨by decide, by decide, rfl, rfl, "SpeckValves", List.mem_of_getElem? (i := 30) (by decide +kernel)⟩
theorem fnX8_188 : g_NI RX8 188 6 2 := ⟨by decide, by decide, rfl, rfl, "SpeckValves", List.mem_of_getElem? (i := 31) (by decide +kernel)⟩
theorem fnX8_157 : g_NR RX8 157 7 0 true := ⟨by decide, by decide, rfl, rfl, "SpeckValves", List.mem_of_getElem? (i := 32) (by decide +kernel)⟩
theorem fnX8_171 : g_NR RX8 171 7 1 true := ⟨by decide, by decide, rfl, rfl, "SpeckValves", List.mem_of_getElem? (i := 33) (by decide +kernel)⟩
theorem fnX8_184 : g_NR RX8 184 7 2 true := ⟨by decide, by decide, rfl, rfl, "SpeckValves", List.mem_of_getElem? (i := 34) (by decide +kernel)⟩
theorem fnX7_73 : g_NR RX7 73 3 0 true := ⟨by decide, by decide, rfl, rfl, "SpeckValves", List.mem_of_getElem? (i := 35) (by decide +kernel)⟩
theorem fnX8_216 : g_NR RX8 216 3 0 true := ⟨by decide, by decide, rfl, rfl, "SpeckValves", List.mem_of_getElem? (i := 36) (by decide +kernel)⟩
theorem fnX8_233 : g_NR RX8 233 3 1 true := ⟨by decide, by decide, rfl, rfl, "SpeckValves", List.mem_of_getElem? (i := 37) (by decide +kernel)⟩
theorem fnX7_68 : g_NI RX7 68 3 2 := ⟨by decide, by decide, rfl, rfl, "SpeckValves", List.mem_of_getElem? (i := 38) (by decide +kernel)⟩
theorem fnX8_80 : g_NI RX8 80 3 2 := ⟨by decide, by decide, rfl, rfl, "SpeckValves", List.mem_of_getElem? (i := 39) (by decide +kernel)⟩
theorem fnX1_47 : g_NI RX1 47 3 3 := ⟨by decide, by decide, rfl, rfl, "SpeckValves", List.mem_of_getElem? (i := 40) (by decide +kernel)⟩
theorem fnX8_83 : g_NI RX8 83 3 3 := ⟨by decide, by decide, rfl, rfl, "SpeckValves", List.mem_of_getElem? (i := 41) (by decide +kernel)⟩
theorem fnX8_222 : g_NI RX8 222 3 4 := ⟨by decide, by decide, rfl, rfl, "SpeckValves", List.mem_of_getElem? (i := 42) (by decide +kernel)⟩
theorem fnX7_115 : g_NI RX7 115 3 5 := ⟨by decide, by decide, rfl, rfl, "SpeckValves", List.mem_of_getElem? (i := 43) (by decide +kernel)⟩
theorem fnX1_52 : g_NI RX1 52 3 8 := ⟨by decide, by decide, rfl, rfl, "SpeckValves", List.mem_of_getElem? (i := 44) (by decide +kernel)⟩
theorem fnX7_105 : g_NI RX7 105 3 9 := ⟨by decide, by decide, rfl, rfl, "SpeckValves", List.mem_of_getElem? (i := 45) (by decide +kernel)⟩
theorem wo_inst : Cond.instanceMethod objectInit ∈ lw_good := lw_gd 79 (by decide +kernel) (by decide +kernel)
theorem wo_code : Cond.code objectInit ⟨#[0xb1]⟩ 1 none ∈ lw_good := lw_gd 80 (by decide +kernel) (by decide +kernel)
theorem wmax_stat : Cond.static Lib.Math.max.name ∈ lw_good := lw_gd 480 (by decide +kernel) (by decide +kernel)
theorem wmax_code : Cond.code Lib.Math.max.name Lib.Math.max.code 2 (some .int) ∈ lw_good := lw_gd 481 (by decide +kernel) (by decide +kernel)
theorem wmin_stat : Cond.static Lib.Math.min.name ∈ lw_good := lw_gd 448 (by decide +kernel) (by decide +kernel)
theorem wmin_code : Cond.code Lib.Math.min.name Lib.Math.min.code 2 (some .int) ∈ lw_good := lw_gd 449 (by decide +kernel) (by decide +kernel)
theorem wmath_init : Cond.initialized "java/lang/Math" ∈ lw_good := lw_gd 72 (by decide +kernel) (by decide +kernel)
theorem wsys_init : Cond.initialized "java/lang/System" ∈ lw_good := lw_gd 69 (by decide +kernel) (by decide +kernel)
theorem wcopy_stat : Cond.static arraycopyName ∈ lw_good := lw_gd 320 (by decide +kernel) (by decide +kernel)
theorem wcopy_nat : Cond.native arraycopyName ∈ lw_good := lw_gd 321 (by decide +kernel) (by decide +kernel)
theorem wa_int : Cond.arrayClass .int ∈ lw_good := lw_gd 102 (by decide +kernel) (by decide +kernel)
theorem wa_long : Cond.arrayClass .long ∈ lw_good := lw_gd 122 (by decide +kernel) (by decide +kernel)
theorem wa_boolean : Cond.arrayClass .boolean ∈ lw_good := lw_gd 242 (by decide +kernel) (by decide +kernel)
theorem wa_char : Cond.arrayClass .char ∈ lw_good := lw_gd 101 (by decide +kernel) (by decide +kernel)
theorem wi_X0 : Cond.instantiable (g_R 0) (g_nf 0) ∈ lw_good ∧ Cond.initialized (g_R 0) ∈ lw_good := ⟨lw_gd 151 (by decide +kernel) (by decide +kernel), lw_gd 65 (by decide +kernel) (by decide +kernel)⟩
theorem wi_X1 : Cond.instantiable (g_R 1) (g_nf 1) ∈ lw_good ∧ Cond.initialized (g_R 1) ∈ lw_good := ⟨lw_gd 144 (by decide +kernel) (by decide +kernel), lw_gd 64 (by decide +kernel) (by decide +kernel)⟩
theorem wi_X2 : Cond.instantiable (g_R 2) (g_nf 2) ∈ lw_good ∧ Cond.initialized (g_R 2) ∈ lw_good := ⟨lw_gd 124 (by decide +kernel) (by decide +kernel), lw_gd 63 (by decide +kernel) (by decide +kernel)⟩
theorem wi_X3 : Cond.instantiable (g_R 3) (g_nf 3) ∈ lw_good ∧ Cond.initialized (g_R 3) ∈ lw_good := ⟨lw_gd 257 (by decide +kernel) (by decide +kernel), lw_gd 68 (by decide +kernel) (by decide +kernel)⟩
theorem wi_X4 : Cond.instantiable (g_R 4) (g_nf 4) ∈ lw_good ∧ Cond.initialized (g_R 4) ∈ lw_good := ⟨lw_gd 104 (by decide +kernel) (by decide +kernel), lw_gd 62 (by decide +kernel) (by decide +kernel)⟩
theorem wi_X5 : Cond.instantiable (g_R 5) (g_nf 5) ∈ lw_good ∧ Cond.initialized (g_R 5) ∈ lw_good := ⟨lw_gd 82 (by decide +kernel) (by decide +kernel), lw_gd 61 (by decide +kernel) (by decide +kernel)⟩
theorem wi_X6 : Cond.instantiable (g_R 6) (g_nf 6) ∈ lw_good ∧ Cond.initialized (g_R 6) ∈ lw_good := ⟨lw_gd 223 (by decide +kernel) (by decide +kernel), lw_gd 67 (by decide +kernel) (by decide +kernel)⟩
theorem wi_X7 : Cond.instantiable (g_R 7) (g_nf 7) ∈ lw_good ∧ Cond.initialized (g_R 7) ∈ lw_good := ⟨lw_gd 216 (by decide +kernel) (by decide +kernel), lw_gd 66 (by decide +kernel) (by decide +kernel)⟩
theorem wi_X8 : Cond.instantiable (g_R 8) (g_nf 8) ∈ lw_good ∧ Cond.initialized (g_R 8) ∈ lw_good := ⟨lw_gd 74 (by decide +kernel) (by decide +kernel), lw_gd 60 (by decide +kernel) (by decide +kernel)⟩
theorem wi_X9 : Cond.instantiable (g_R 9) (g_nf 9) ∈ lw_good ∧ Cond.initialized (g_R 9) ∈ lw_good := ⟨lw_gd 690 (by decide +kernel) (by decide +kernel), lw_gd 71 (by decide +kernel) (by decide +kernel)⟩
theorem g_ins : ∀ ci : Nat, ci < 10 → Cond.instantiable (g_R ci) (g_nf ci) ∈ lw_good ∧ Cond.initialized (g_R ci) ∈ lw_good
  | 0, _ => wi_X0 | 1, _ => wi_X1 | 2, _ => wi_X2 | 3, _ => wi_X3 | 4, _ => wi_X4 | 5, _ => wi_X5 | 6, _ => wi_X6 | 7, _ => wi_X7 | 8, _ => wi_X8 | 9, _ => wi_X9
  | n + 10, h => absurd h (by omega)
def lw_over : List String := ["SpeckValves$Stand", "SpeckValves$Blob", "SpeckValves$Valve"]
theorem lw_over_in : ∀ C ∈ lw_over, Cond.arrayOver (.object C) ∈ lw_tbl := by
  intro C hC
  simp only [lw_over, List.mem_cons, List.not_mem_nil, or_false] at hC
  rcases hC with rfl | rfl | rfl
  · exact List.mem_of_getElem? (i := 130) (by decide +kernel)
  · exact List.mem_of_getElem? (i := 150) (by decide +kernel)
  · exact List.mem_of_getElem? (i := 222) (by decide +kernel)
def g_isN : Cond → Bool
  | .fieldLinkNest .. => true
  | .methodLinkNest .. => true
  | _ => false
theorem lw_nest_all : lw_nest.all g_isN = true := by decide +kernel
