/-! printed by wip/gen/main.py: every method is as the small machine wants it -/
theorem tW_law_d : (am_tb MW_law).all (am_bD MW_law) = true := by decide +kernel
theorem tW_law_ok : am_tOk amCl amWS amNW amST amP MW_law := am_bT_s (FL := amFW) (AW := amAW) amFW_ok amAW_ok tW_law_d (by decide +kernel)
theorem tC_init_d : (am_tb MC_init).all (am_bD MC_init) = true := by decide +kernel
theorem tC_init_ok : am_tOk amCl amWS amNW amST amP MC_init := am_bT_s (FL := amFC) (AW := amAW) amFC_ok amAW_ok tC_init_d (by decide +kernel)
set_option maxRecDepth 100000 in
theorem kC_init_ok : am_mOk amCl amWS amNW amST amP MC_init := ⟨am_tc1 15 (by exact rfl) rfl, am_tm 1 (by decide +kernel) rfl, by decide +kernel, by decide +kernel, by decide +kernel, fun h => absurd h (by decide), fun _ => ⟨rfl, am_tm 14 (by decide +kernel) rfl, rfl⟩, fun h => absurd h (by decide), tC_init_ok⟩
theorem tC_type_d : (am_tb MC_type).all (am_bD MC_type) = true := by decide +kernel
theorem tC_type_ok : am_tOk amCl amWS amNW amST amP MC_type := am_bT_s (FL := amFC) (AW := amAW) amFC_ok amAW_ok tC_type_d (by decide +kernel)
set_option maxRecDepth 100000 in
theorem kC_type_ok : am_mOk amCl amWS amNW amST amP MC_type := ⟨am_tc2 10 (by exact rfl) rfl, am_tm 1 (by decide +kernel) rfl, by decide +kernel, by decide +kernel, by decide +kernel, fun _ => ⟨am_tm 248 (by decide +kernel) rfl, am_tm 249 (by decide +kernel) rfl⟩, fun h => absurd h (by decide), fun h => absurd h (by decide), tC_type_ok⟩
theorem tC_wipe_d : (am_tb MC_wipe).all (am_bD MC_wipe) = true := by decide +kernel
theorem tC_wipe_ok : am_tOk amCl amWS amNW amST amP MC_wipe := am_bT_s (FL := amFC) (AW := amAW) amFC_ok amAW_ok tC_wipe_d (by decide +kernel)
set_option maxRecDepth 100000 in
theorem kC_wipe_ok : am_mOk amCl amWS amNW amST amP MC_wipe := ⟨am_tc2 18 (by exact rfl) rfl, am_tm 1 (by decide +kernel) rfl, by decide +kernel, by decide +kernel, by decide +kernel, fun _ => ⟨am_tm 256 (by decide +kernel) rfl, am_tm 257 (by decide +kernel) rfl⟩, fun h => absurd h (by decide), fun h => absurd h (by decide), tC_wipe_ok⟩
theorem tC_read_d : (am_tb MC_read).all (am_bD MC_read) = true := by decide +kernel
theorem tC_read_ok : am_tOk amCl amWS amNW amST amP MC_read := am_bT_s (FL := amFC) (AW := amAW) amFC_ok amAW_ok tC_read_d (by decide +kernel)
set_option maxRecDepth 100000 in
theorem kC_read_ok : am_mOk amCl amWS amNW amST amP MC_read := ⟨am_tc2 22 (by exact rfl) rfl, am_tm 1 (by decide +kernel) rfl, by decide +kernel, by decide +kernel, by decide +kernel, fun _ => ⟨am_tm 260 (by decide +kernel) rfl, am_tm 261 (by decide +kernel) rfl⟩, fun h => absurd h (by decide), fun h => absurd h (by decide), tC_read_ok⟩
theorem tC_nodes_d : (am_tb MC_nodes).all (am_bD MC_nodes) = true := by decide +kernel
theorem tC_nodes_ok : am_tOk amCl amWS amNW amST amP MC_nodes := am_bT_s (FL := amFC) (AW := amAW) amFC_ok amAW_ok tC_nodes_d (by decide +kernel)
set_option maxRecDepth 100000 in
theorem kC_nodes_ok : am_mOk amCl amWS amNW amST amP MC_nodes := ⟨am_tc2 209 (by exact rfl) rfl, am_tm 1 (by decide +kernel) rfl, by decide +kernel, by decide +kernel, by decide +kernel, fun _ => ⟨am_tm 447 (by decide +kernel) rfl, am_tm 448 (by decide +kernel) rfl⟩, fun h => absurd h (by decide), fun h => absurd h (by decide), tC_nodes_ok⟩
theorem tC_attributes_d : (am_tb MC_attributes).all (am_bD MC_attributes) = true := by decide +kernel
theorem tC_attributes_ok : am_tOk amCl amWS amNW amST amP MC_attributes := am_bT_s (FL := amFC) (AW := amAW) amFC_ok amAW_ok tC_attributes_d (by decide +kernel)
set_option maxRecDepth 100000 in
theorem kC_attributes_ok : am_mOk amCl amWS amNW amST amP MC_attributes := ⟨am_tc2 213 (by exact rfl) rfl, am_tm 1 (by decide +kernel) rfl, by decide +kernel, by decide +kernel, by decide +kernel, fun _ => ⟨am_tm 451 (by decide +kernel) rfl, am_tm 452 (by decide +kernel) rfl⟩, fun h => absurd h (by decide), fun h => absurd h (by decide), tC_attributes_ok⟩
theorem tC_reach_d : (am_tb MC_reach).all (am_bD MC_reach) = true := by decide +kernel
theorem tC_reach_ok : am_tOk amCl amWS amNW amST amP MC_reach := am_bT_s (FL := amFC) (AW := amAW) amFC_ok amAW_ok tC_reach_d (by decide +kernel)
set_option maxRecDepth 100000 in
theorem kC_reach_ok : am_mOk amCl amWS amNW amST amP MC_reach := ⟨am_tc2 221 (by exact rfl) rfl, am_tm 1 (by decide +kernel) rfl, by decide +kernel, by decide +kernel, by decide +kernel, fun _ => ⟨am_tm 459 (by decide +kernel) rfl, am_tm 460 (by decide +kernel) rfl⟩, fun h => absurd h (by decide), fun h => absurd h (by decide), tC_reach_ok⟩
theorem tC_set_d : (am_tb MC_set).all (am_bD MC_set) = true := by decide +kernel
theorem tC_set_ok : am_tOk amCl amWS amNW amST amP MC_set := am_bT_s (FL := amFC) (AW := amAW) amFC_ok amAW_ok tC_set_d (by decide +kernel)
set_option maxRecDepth 100000 in
theorem kC_set_ok : am_mOk amCl amWS amNW amST amP MC_set := ⟨am_tc2 225 (by exact rfl) rfl, am_tm 1 (by decide +kernel) rfl, by decide +kernel, by decide +kernel, by decide +kernel, fun _ => ⟨am_tm 463 (by decide +kernel) rfl, am_tm 464 (by decide +kernel) rfl⟩, fun h => absurd h (by decide), fun h => absurd h (by decide), tC_set_ok⟩
theorem tC_value_d : (am_tb MC_value).all (am_bD MC_value) = true := by decide +kernel
theorem tC_value_ok : am_tOk amCl amWS amNW amST amP MC_value := am_bT_s (FL := amFC) (AW := amAW) amFC_ok amAW_ok tC_value_d (by decide +kernel)
set_option maxRecDepth 100000 in
theorem kC_value_ok : am_mOk amCl amWS amNW amST amP MC_value := ⟨am_tc3 4 (by exact rfl) rfl, am_tm 1 (by decide +kernel) rfl, by decide +kernel, by decide +kernel, by decide +kernel, fun _ => ⟨am_tm 482 (by decide +kernel) rfl, am_tm 483 (by decide +kernel) rfl⟩, fun h => absurd h (by decide), fun h => absurd h (by decide), tC_value_ok⟩
theorem tC_culprit_d : (am_tb MC_culprit).all (am_bD MC_culprit) = true := by decide +kernel
theorem tC_culprit_ok : am_tOk amCl amWS amNW amST amP MC_culprit := am_bT_s (FL := amFC) (AW := amAW) amFC_ok amAW_ok tC_culprit_d (by decide +kernel)
set_option maxRecDepth 100000 in
theorem kC_culprit_ok : am_mOk amCl amWS amNW amST amP MC_culprit := ⟨am_tc3 8 (by exact rfl) rfl, am_tm 1 (by decide +kernel) rfl, by decide +kernel, by decide +kernel, by decide +kernel, fun _ => ⟨am_tm 486 (by decide +kernel) rfl, am_tm 487 (by decide +kernel) rfl⟩, fun h => absurd h (by decide), fun h => absurd h (by decide), tC_culprit_ok⟩
theorem tC_objective_d : (am_tb MC_objective).all (am_bD MC_objective) = true := by decide +kernel
theorem tC_objective_ok : am_tOk amCl amWS amNW amST amP MC_objective := am_bT_s (FL := amFC) (AW := amAW) amFC_ok amAW_ok tC_objective_d (by decide +kernel)
set_option maxRecDepth 100000 in
theorem kC_objective_ok : am_mOk amCl amWS amNW amST amP MC_objective := ⟨am_tc3 12 (by exact rfl) rfl, am_tm 1 (by decide +kernel) rfl, by decide +kernel, by decide +kernel, by decide +kernel, fun _ => ⟨am_tm 490 (by decide +kernel) rfl, am_tm 491 (by decide +kernel) rfl⟩, fun h => absurd h (by decide), fun h => absurd h (by decide), tC_objective_ok⟩
theorem tC_require_d : (am_tb MC_require).all (am_bD MC_require) = true := by decide +kernel
theorem tC_require_ok : am_tOk amCl amWS amNW amST amP MC_require := am_bT_s (FL := amFC) (AW := amAW) amFC_ok amAW_ok tC_require_d (by decide +kernel)
set_option maxRecDepth 100000 in
theorem kC_require_ok : am_mOk amCl amWS amNW amST amP MC_require := ⟨am_tc3 20 (by exact rfl) rfl, am_tm 1 (by decide +kernel) rfl, by decide +kernel, by decide +kernel, by decide +kernel, fun _ => ⟨am_tm 498 (by decide +kernel) rfl, am_tm 499 (by decide +kernel) rfl⟩, fun h => absurd h (by decide), fun h => absurd h (by decide), tC_require_ok⟩
theorem tC_withdraw_d : (am_tb MC_withdraw).all (am_bD MC_withdraw) = true := by decide +kernel
theorem tC_withdraw_ok : am_tOk amCl amWS amNW amST amP MC_withdraw := am_bT_s (FL := amFC) (AW := amAW) amFC_ok amAW_ok tC_withdraw_d (by decide +kernel)
set_option maxRecDepth 100000 in
theorem kC_withdraw_ok : am_mOk amCl amWS amNW amST amP MC_withdraw := ⟨am_tc3 28 (by exact rfl) rfl, am_tm 1 (by decide +kernel) rfl, by decide +kernel, by decide +kernel, by decide +kernel, fun _ => ⟨am_tm 506 (by decide +kernel) rfl, am_tm 507 (by decide +kernel) rfl⟩, fun h => absurd h (by decide), fun h => absurd h (by decide), tC_withdraw_ok⟩
theorem tC_compile_d : (am_tb MC_compile).all (am_bD MC_compile) = true := by decide +kernel
theorem tC_compile_ok : am_tOk amCl amWS amNW amST amP MC_compile := am_bT_s (FL := amFC) (AW := amAW) amFC_ok amAW_ok tC_compile_d (by decide +kernel)
set_option maxRecDepth 100000 in
theorem kC_compile_ok : am_mOk amCl amWS amNW amST amP MC_compile := ⟨am_tc3 36 (by exact rfl) rfl, am_tm 1 (by decide +kernel) rfl, by decide +kernel, by decide +kernel, by decide +kernel, fun _ => ⟨am_tm 514 (by decide +kernel) rfl, am_tm 515 (by decide +kernel) rfl⟩, fun h => absurd h (by decide), fun h => absurd h (by decide), tC_compile_ok⟩
theorem tC_rows_d : (am_tb MC_rows).all (am_bD MC_rows) = true := by decide +kernel
theorem tC_rows_ok : am_tOk amCl amWS amNW amST amP MC_rows := am_bT_s (FL := amFC) (AW := amAW) amFC_ok amAW_ok tC_rows_d (by decide +kernel)
set_option maxRecDepth 100000 in
theorem kC_rows_ok : am_mOk amCl amWS amNW amST amP MC_rows := ⟨am_tc3 77 (by exact rfl) rfl, am_tm 1 (by decide +kernel) rfl, by decide +kernel, by decide +kernel, by decide +kernel, fun _ => ⟨am_tm 555 (by decide +kernel) rfl, am_tm 556 (by decide +kernel) rfl⟩, fun h => absurd h (by decide), fun h => absurd h (by decide), tC_rows_ok⟩
theorem tC_entry_d : (am_tb MC_entry).all (am_bD MC_entry) = true := by decide +kernel
theorem tC_entry_ok : am_tOk amCl amWS amNW amST amP MC_entry := am_bT_s (FL := amFC) (AW := amAW) amFC_ok amAW_ok tC_entry_d (by decide +kernel)
set_option maxRecDepth 100000 in
theorem kC_entry_ok : am_mOk amCl amWS amNW amST amP MC_entry := ⟨am_tc3 81 (by exact rfl) rfl, am_tm 1 (by decide +kernel) rfl, by decide +kernel, by decide +kernel, by decide +kernel, fun _ => ⟨am_tm 559 (by decide +kernel) rfl, am_tm 560 (by decide +kernel) rfl⟩, fun h => absurd h (by decide), fun h => absurd h (by decide), tC_entry_ok⟩
theorem tC_column_d : (am_tb MC_column).all (am_bD MC_column) = true := by decide +kernel
theorem tC_column_ok : am_tOk amCl amWS amNW amST amP MC_column := am_bT_s (FL := amFC) (AW := amAW) amFC_ok amAW_ok tC_column_d (by decide +kernel)
set_option maxRecDepth 100000 in
theorem kC_column_ok : am_mOk amCl amWS amNW amST amP MC_column := ⟨am_tc3 125 (by exact rfl) rfl, am_tm 1 (by decide +kernel) rfl, by decide +kernel, by decide +kernel, by decide +kernel, fun _ => ⟨am_tm 603 (by decide +kernel) rfl, am_tm 604 (by decide +kernel) rfl⟩, fun h => absurd h (by decide), fun h => absurd h (by decide), tC_column_ok⟩
theorem tC_lift_d : (am_tb MC_lift).all (am_bD MC_lift) = true := by decide +kernel
theorem tC_lift_ok : am_tOk amCl amWS amNW amST amP MC_lift := am_bT_s (FL := amFC) (AW := amAW) amFC_ok amAW_ok tC_lift_d (by decide +kernel)
set_option maxRecDepth 100000 in
theorem kC_lift_ok : am_mOk amCl amWS amNW amST amP MC_lift := ⟨am_tc3 129 (by exact rfl) rfl, am_tm 1 (by decide +kernel) rfl, by decide +kernel, by decide +kernel, by decide +kernel, fun _ => ⟨am_tm 607 (by decide +kernel) rfl, am_tm 608 (by decide +kernel) rfl⟩, fun h => absurd h (by decide), fun h => absurd h (by decide), tC_lift_ok⟩
theorem tC_fits_d : (am_tb MC_fits).all (am_bD MC_fits) = true := by decide +kernel
theorem tC_fits_ok : am_tOk amCl amWS amNW amST amP MC_fits := am_bT_s (FL := amFC) (AW := amAW) amFC_ok amAW_ok tC_fits_d (by decide +kernel)
set_option maxRecDepth 100000 in
theorem kC_fits_ok : am_mOk amCl amWS amNW amST amP MC_fits := ⟨am_tc3 137 (by exact rfl) rfl, am_tm 1 (by decide +kernel) rfl, by decide +kernel, by decide +kernel, by decide +kernel, fun _ => ⟨am_tm 615 (by decide +kernel) rfl, am_tm 616 (by decide +kernel) rfl⟩, fun h => absurd h (by decide), fun h => absurd h (by decide), tC_fits_ok⟩
theorem tC_cost_d : (am_tb MC_cost).all (am_bD MC_cost) = true := by decide +kernel
theorem tC_cost_ok : am_tOk amCl amWS amNW amST amP MC_cost := am_bT_s (FL := amFC) (AW := amAW) amFC_ok amAW_ok tC_cost_d (by decide +kernel)
set_option maxRecDepth 100000 in
theorem kC_cost_ok : am_mOk amCl amWS amNW amST amP MC_cost := ⟨am_tc3 149 (by exact rfl) rfl, am_tm 1 (by decide +kernel) rfl, by decide +kernel, by decide +kernel, by decide +kernel, fun _ => ⟨am_tm 627 (by decide +kernel) rfl, am_tm 628 (by decide +kernel) rfl⟩, fun h => absurd h (by decide), fun h => absurd h (by decide), tC_cost_ok⟩
theorem tC_feasible_d : (am_tb MC_feasible).all (am_bD MC_feasible) = true := by decide +kernel
theorem tC_feasible_ok : am_tOk amCl amWS amNW amST amP MC_feasible := am_bT_s (FL := amFC) (AW := amAW) amFC_ok amAW_ok tC_feasible_d (by decide +kernel)
set_option maxRecDepth 100000 in
theorem kC_feasible_ok : am_mOk amCl amWS amNW amST amP MC_feasible := ⟨am_tc3 157 (by exact rfl) rfl, am_tm 1 (by decide +kernel) rfl, by decide +kernel, by decide +kernel, by decide +kernel, fun _ => ⟨am_tm 635 (by decide +kernel) rfl, am_tm 636 (by decide +kernel) rfl⟩, fun h => absurd h (by decide), fun h => absurd h (by decide), tC_feasible_ok⟩
theorem tL_init_d : (am_tb ML_init).all (am_bD ML_init) = true := by decide +kernel
theorem tL_init_ok : am_tOk amCl amWS amNW amST amP ML_init := am_bT_s (FL := amFL) (AW := amAW) amFL_ok amAW_ok tL_init_d (by decide +kernel)
set_option maxRecDepth 100000 in
theorem kL_init_ok : am_mOk amCl amWS amNW amST amP ML_init := ⟨am_tc1 23 (by exact rfl) rfl, am_tm 2 (by decide +kernel) rfl, by decide +kernel, by decide +kernel, by decide +kernel, fun h => absurd h (by decide), fun _ => ⟨rfl, am_tm 22 (by decide +kernel) rfl, rfl⟩, fun h => absurd h (by decide), tL_init_ok⟩
theorem tL_append_d : (am_tb ML_append).all (am_bD ML_append) = true := by decide +kernel
theorem tL_append_ok : am_tOk amCl amWS amNW amST amP ML_append := am_bT_s (FL := amFL) (AW := amAW) amFL_ok amAW_ok tL_append_d (by decide +kernel)
set_option maxRecDepth 100000 in
theorem kL_append_ok : am_mOk amCl amWS amNW amST amP ML_append := ⟨am_tc2 14 (by exact rfl) rfl, am_tm 2 (by decide +kernel) rfl, by decide +kernel, by decide +kernel, by decide +kernel, fun _ => ⟨am_tm 253 (by decide +kernel) rfl, am_ts 0 (by decide +kernel) rfl⟩, fun h => absurd h (by decide), fun h => absurd h (by decide), tL_append_ok⟩
theorem tS_init_d : (am_tb MS_init).all (am_bD MS_init) = true := by decide +kernel
theorem tS_init_ok : am_tOk amCl amWS amNW amST amP MS_init := am_bT_s (FL := amFS) (AW := amAW) amFS_ok amAW_ok tS_init_d (by decide +kernel)
set_option maxRecDepth 100000 in
theorem kS_init_ok : am_mOk amCl amWS amNW amST amP MS_init := ⟨am_tc1 40 (by exact rfl) rfl, am_tm 3 (by decide +kernel) rfl, by decide +kernel, by decide +kernel, by decide +kernel, fun h => absurd h (by decide), fun _ => ⟨rfl, am_tm 39 (by decide +kernel) rfl, rfl⟩, fun h => absurd h (by decide), tS_init_ok⟩
theorem tS_add_d : (am_tb MS_add).all (am_bD MS_add) = true := by decide +kernel
theorem tS_add_ok : am_tOk amCl amWS amNW amST amP MS_add := am_bT_s (FL := amFS) (AW := amAW) amFS_ok amAW_ok tS_add_d (by decide +kernel)
set_option maxRecDepth 100000 in
theorem kS_add_ok : am_mOk amCl amWS amNW amST amP MS_add := ⟨am_tc2 46 (by exact rfl) rfl, am_tm 3 (by decide +kernel) rfl, by decide +kernel, by decide +kernel, by decide +kernel, fun _ => ⟨am_tm 285 (by decide +kernel) rfl, am_ts 6 (by decide +kernel) rfl⟩, fun h => absurd h (by decide), fun h => absurd h (by decide), tS_add_ok⟩
theorem tR_init_d : (am_tb MR_init).all (am_bD MR_init) = true := by decide +kernel
theorem tR_init_ok : am_tOk amCl amWS amNW amST amP MR_init := am_bT_s (FL := amFR) (AW := amAW) amFR_ok amAW_ok tR_init_d (by decide +kernel)
set_option maxRecDepth 100000 in
theorem kR_init_ok : am_mOk amCl amWS amNW amST amP MR_init := ⟨am_tc1 61 (by exact rfl) rfl, am_tm 4 (by decide +kernel) rfl, by decide +kernel, by decide +kernel, by decide +kernel, fun h => absurd h (by decide), fun _ => ⟨rfl, am_tm 60 (by decide +kernel) rfl, rfl⟩, fun h => absurd h (by decide), tR_init_ok⟩
theorem tR_parseLine_d : (am_tb MR_parseLine).all (am_bD MR_parseLine) = true := by decide +kernel
theorem tR_parseLine_ok : am_tOk amCl amWS amNW amST amP MR_parseLine := am_bT_s (FL := amFR) (AW := amAW) amFR_ok amAW_ok tR_parseLine_d (by decide +kernel)
set_option maxRecDepth 100000 in
theorem kR_parseLine_ok : am_mOk amCl amWS amNW amST amP MR_parseLine := ⟨am_tc2 26 (by exact rfl) rfl, am_tm 4 (by decide +kernel) rfl, by decide +kernel, by decide +kernel, by decide +kernel, fun _ => ⟨am_tm 265 (by decide +kernel) rfl, am_ts 1 (by decide +kernel) rfl⟩, fun h => absurd h (by decide), fun h => absurd h (by decide), tR_parseLine_ok⟩
theorem tR_parseExpression_d : (am_tb MR_parseExpression).all (am_bD MR_parseExpression) = true := by decide +kernel
theorem tR_parseExpression_ok : am_tOk amCl amWS amNW amST amP MR_parseExpression := am_bT_s (FL := amFR) (AW := amAW) amFR_ok amAW_ok tR_parseExpression_d (by decide +kernel)
set_option maxRecDepth 100000 in
theorem kR_parseExpression_ok : am_mOk amCl amWS amNW amST amP MR_parseExpression := ⟨am_tc2 30 (by exact rfl) rfl, am_tm 4 (by decide +kernel) rfl, by decide +kernel, by decide +kernel, by decide +kernel, fun _ => ⟨am_tm 269 (by decide +kernel) rfl, am_ts 2 (by decide +kernel) rfl⟩, fun h => absurd h (by decide), fun h => absurd h (by decide), tR_parseExpression_ok⟩
theorem tR_parseTerm_d : (am_tb MR_parseTerm).all (am_bD MR_parseTerm) = true := by decide +kernel
theorem tR_parseTerm_ok : am_tOk amCl amWS amNW amST amP MR_parseTerm := am_bT_s (FL := amFR) (AW := amAW) amFR_ok amAW_ok tR_parseTerm_d (by decide +kernel)
set_option maxRecDepth 100000 in
theorem kR_parseTerm_ok : am_mOk amCl amWS amNW amST amP MR_parseTerm := ⟨am_tc2 34 (by exact rfl) rfl, am_tm 4 (by decide +kernel) rfl, by decide +kernel, by decide +kernel, by decide +kernel, fun _ => ⟨am_tm 273 (by decide +kernel) rfl, am_ts 3 (by decide +kernel) rfl⟩, fun h => absurd h (by decide), fun h => absurd h (by decide), tR_parseTerm_ok⟩
theorem tR_parseFactor_d : (am_tb MR_parseFactor).all (am_bD MR_parseFactor) = true := by decide +kernel
theorem tR_parseFactor_ok : am_tOk amCl amWS amNW amST amP MR_parseFactor := am_bT_s (FL := amFR) (AW := amAW) amFR_ok amAW_ok tR_parseFactor_d (by decide +kernel)
set_option maxRecDepth 100000 in
theorem kR_parseFactor_ok : am_mOk amCl amWS amNW amST amP MR_parseFactor := ⟨am_tc2 38 (by exact rfl) rfl, am_tm 4 (by decide +kernel) rfl, by decide +kernel, by decide +kernel, by decide +kernel, fun _ => ⟨am_tm 277 (by decide +kernel) rfl, am_ts 4 (by decide +kernel) rfl⟩, fun h => absurd h (by decide), fun h => absurd h (by decide), tR_parseFactor_ok⟩
theorem tR_parseArguments_d : (am_tb MR_parseArguments).all (am_bD MR_parseArguments) = true := by decide +kernel
theorem tR_parseArguments_ok : am_tOk amCl amWS amNW amST amP MR_parseArguments := am_bT_s (FL := amFR) (AW := amAW) amFR_ok amAW_ok tR_parseArguments_d (by decide +kernel)
set_option maxRecDepth 100000 in
theorem kR_parseArguments_ok : am_mOk amCl amWS amNW amST amP MR_parseArguments := ⟨am_tc2 64 (by exact rfl) rfl, am_tm 4 (by decide +kernel) rfl, by decide +kernel, by decide +kernel, by decide +kernel, fun _ => ⟨am_tm 303 (by decide +kernel) rfl, am_ts 9 (by decide +kernel) rfl⟩, fun h => absurd h (by decide), fun h => absurd h (by decide), tR_parseArguments_ok⟩
theorem tR_parseLetter_d : (am_tb MR_parseLetter).all (am_bD MR_parseLetter) = true := by decide +kernel
theorem tR_parseLetter_ok : am_tOk amCl amWS amNW amST amP MR_parseLetter := am_bT_s (FL := amFR) (AW := amAW) amFR_ok amAW_ok tR_parseLetter_d (by decide +kernel)
set_option maxRecDepth 100000 in
theorem kR_parseLetter_ok : am_mOk amCl amWS amNW amST amP MR_parseLetter := ⟨am_tc2 70 (by exact rfl) rfl, am_tm 4 (by decide +kernel) rfl, by decide +kernel, by decide +kernel, by decide +kernel, fun _ => ⟨am_tm 309 (by decide +kernel) rfl, am_ts 10 (by decide +kernel) rfl⟩, fun h => absurd h (by decide), fun h => absurd h (by decide), tR_parseLetter_ok⟩
theorem tR_parseDigits_d : (am_tb MR_parseDigits).all (am_bD MR_parseDigits) = true := by decide +kernel
theorem tR_parseDigits_ok : am_tOk amCl amWS amNW amST amP MR_parseDigits := am_bT_s (FL := amFR) (AW := amAW) amFR_ok amAW_ok tR_parseDigits_d (by decide +kernel)
set_option maxRecDepth 100000 in
theorem kR_parseDigits_ok : am_mOk amCl amWS amNW amST amP MR_parseDigits := ⟨am_tc2 57 (by exact rfl) rfl, am_tm 4 (by decide +kernel) rfl, by decide +kernel, by decide +kernel, by decide +kernel, fun _ => ⟨am_tm 296 (by decide +kernel) rfl, am_ts 8 (by decide +kernel) rfl⟩, fun h => absurd h (by decide), fun h => absurd h (by decide), tR_parseDigits_ok⟩
theorem tR_expect_d : (am_tb MR_expect).all (am_bD MR_expect) = true := by decide +kernel
theorem tR_expect_ok : am_tOk amCl amWS amNW amST amP MR_expect := am_bT_s (FL := amFR) (AW := amAW) amFR_ok amAW_ok tR_expect_d (by decide +kernel)
set_option maxRecDepth 100000 in
theorem kR_expect_ok : am_mOk amCl amWS amNW amST amP MR_expect := ⟨am_tc2 50 (by exact rfl) rfl, am_tm 4 (by decide +kernel) rfl, by decide +kernel, by decide +kernel, by decide +kernel, fun _ => ⟨am_tm 289 (by decide +kernel) rfl, am_ts 7 (by decide +kernel) rfl⟩, fun h => absurd h (by decide), fun h => absurd h (by decide), tR_expect_ok⟩
theorem tR_ahead_d : (am_tb MR_ahead).all (am_bD MR_ahead) = true := by decide +kernel
theorem tR_ahead_ok : am_tOk amCl amWS amNW amST amP MR_ahead := am_bT_s (FL := amFR) (AW := amAW) amFR_ok amAW_ok tR_ahead_d (by decide +kernel)
set_option maxRecDepth 100000 in
theorem kR_ahead_ok : am_mOk amCl amWS amNW amST amP MR_ahead := ⟨am_tc2 42 (by exact rfl) rfl, am_tm 4 (by decide +kernel) rfl, by decide +kernel, by decide +kernel, by decide +kernel, fun _ => ⟨am_tm 281 (by decide +kernel) rfl, am_ts 5 (by decide +kernel) rfl⟩, fun h => absurd h (by decide), fun h => absurd h (by decide), tR_ahead_ok⟩
theorem tR_isDigit_d : (am_tb MR_isDigit).all (am_bD MR_isDigit) = true := by decide +kernel
theorem tR_isDigit_ok : am_tOk amCl amWS amNW amST amP MR_isDigit := am_bT_s (FL := amFR) (AW := amAW) amFR_ok amAW_ok tR_isDigit_d (by decide +kernel)
set_option maxRecDepth 100000 in
theorem kR_isDigit_ok : am_mOk amCl amWS amNW amST amP MR_isDigit := ⟨am_tc2 53 (by exact rfl) rfl, am_tm 4 (by decide +kernel) rfl, by decide +kernel, by decide +kernel, by decide +kernel, fun h => absurd h (by decide), fun h => absurd h (by decide), fun _ => am_tm 292 (by decide +kernel) rfl, tR_isDigit_ok⟩
theorem tR_functionOf_d : (am_tb MR_functionOf).all (am_bD MR_functionOf) = true := by decide +kernel
theorem tR_functionOf_ok : am_tOk amCl amWS amNW amST amP MR_functionOf := am_bT_s (FL := amFR) (AW := amAW) amFR_ok amAW_ok tR_functionOf_d (by decide +kernel)
set_option maxRecDepth 100000 in
theorem kR_functionOf_ok : am_mOk amCl amWS amNW amST amP MR_functionOf := ⟨am_tc2 60 (by exact rfl) rfl, am_tm 4 (by decide +kernel) rfl, by decide +kernel, by decide +kernel, by decide +kernel, fun h => absurd h (by decide), fun h => absurd h (by decide), fun _ => am_tm 299 (by decide +kernel) rfl, tR_functionOf_ok⟩
theorem tB_init_d : (am_tb MB_init).all (am_bD MB_init) = true := by decide +kernel
theorem tB_init_ok : am_tOk amCl amWS amNW amST amP MB_init := am_bT_s (FL := amFB) (AW := amAW) amFB_ok amAW_ok tB_init_d (by decide +kernel)
set_option maxRecDepth 100000 in
theorem kB_init_ok : am_mOk amCl amWS amNW amST amP MB_init := ⟨am_tc1 132 (by exact rfl) rfl, am_tm 6 (by decide +kernel) rfl, by decide +kernel, by decide +kernel, by decide +kernel, fun h => absurd h (by decide), fun _ => ⟨rfl, am_tm 131 (by decide +kernel) rfl, rfl⟩, fun h => absurd h (by decide), tB_init_ok⟩
