/-! printed by wip/gen/main.py: every method is as the small machine wants it -/
theorem tB_build_d : (am_tb MB_build).all (am_bD MB_build) = true := by decide +kernel
theorem tB_build_ok : am_tOk amCl amWS amNW amST amP MB_build := am_bT_s (FL := amFB) (AW := amAW) amFB_ok amAW_ok tB_build_d (by decide +kernel)
set_option maxRecDepth 100000 in
theorem kB_build_ok : am_mOk amCl amWS amNW amST amP MB_build := ⟨am_tc2 74 (by exact rfl) rfl, am_tm 6 (by decide +kernel) rfl, by decide +kernel, by decide +kernel, by decide +kernel, fun _ => ⟨am_tm 313 (by decide +kernel) rfl, am_ts 11 (by decide +kernel) rfl⟩, fun h => absurd h (by decide), fun h => absurd h (by decide), tB_build_ok⟩
theorem tB_runStep_d : (am_tb MB_runStep).all (am_bD MB_runStep) = true := by decide +kernel
theorem tB_runStep_ok : am_tOk amCl amWS amNW amST amP MB_runStep := am_bT_s (FL := amFB) (AW := amAW) amFB_ok amAW_ok tB_runStep_d (by decide +kernel)
set_option maxRecDepth 100000 in
theorem kB_runStep_ok : am_mOk amCl amWS amNW amST amP MB_runStep := ⟨am_tc2 78 (by exact rfl) rfl, am_tm 6 (by decide +kernel) rfl, by decide +kernel, by decide +kernel, by decide +kernel, fun _ => ⟨am_tm 317 (by decide +kernel) rfl, am_ts 12 (by decide +kernel) rfl⟩, fun h => absurd h (by decide), fun h => absurd h (by decide), tB_runStep_ok⟩
theorem tB_push_d : (am_tb MB_push).all (am_bD MB_push) = true := by decide +kernel
theorem tB_push_ok : am_tOk amCl amWS amNW amST amP MB_push := am_bT_s (FL := amFB) (AW := amAW) amFB_ok amAW_ok tB_push_d (by decide +kernel)
set_option maxRecDepth 100000 in
theorem kB_push_ok : am_mOk amCl amWS amNW amST amP MB_push := ⟨am_tc2 116 (by exact rfl) rfl, am_tm 6 (by decide +kernel) rfl, by decide +kernel, by decide +kernel, by decide +kernel, fun _ => ⟨am_tm 355 (by decide +kernel) rfl, am_ts 19 (by decide +kernel) rfl⟩, fun h => absurd h (by decide), fun h => absurd h (by decide), tB_push_ok⟩
theorem tB_pop_d : (am_tb MB_pop).all (am_bD MB_pop) = true := by decide +kernel
theorem tB_pop_ok : am_tOk amCl amWS amNW amST amP MB_pop := am_bT_s (FL := amFB) (AW := amAW) amFB_ok amAW_ok tB_pop_d (by decide +kernel)
set_option maxRecDepth 100000 in
theorem kB_pop_ok : am_mOk amCl amWS amNW amST amP MB_pop := ⟨am_tc2 83 (by exact rfl) rfl, am_tm 6 (by decide +kernel) rfl, by decide +kernel, by decide +kernel, by decide +kernel, fun _ => ⟨am_tm 322 (by decide +kernel) rfl, am_ts 13 (by decide +kernel) rfl⟩, fun h => absurd h (by decide), fun h => absurd h (by decide), tB_pop_ok⟩
theorem tG_init_d : (am_tb MG_init).all (am_bD MG_init) = true := by decide +kernel
theorem tG_init_ok : am_tOk amCl amWS amNW amST amP MG_init := am_bT_s (FL := amFG) (AW := amAW) amFG_ok amAW_ok tG_init_d (by decide +kernel)
set_option maxRecDepth 100000 in
theorem kG_init_ok : am_mOk amCl amWS amNW amST amP MG_init := ⟨am_tc1 80 (by exact rfl) rfl, am_tm 5 (by decide +kernel) rfl, by decide +kernel, by decide +kernel, by decide +kernel, fun h => absurd h (by decide), fun _ => ⟨rfl, am_tm 79 (by decide +kernel) rfl, rfl⟩, fun h => absurd h (by decide), tG_init_ok⟩
theorem tG_has_d : (am_tb MG_has).all (am_bD MG_has) = true := by decide +kernel
theorem tG_has_ok : am_tOk amCl amWS amNW amST amP MG_has := am_bT_s (FL := amFG) (AW := amAW) amFG_ok amAW_ok tG_has_d (by decide +kernel)
set_option maxRecDepth 100000 in
theorem kG_has_ok : am_mOk amCl amWS amNW amST amP MG_has := ⟨am_tc2 217 (by exact rfl) rfl, am_tm 5 (by decide +kernel) rfl, by decide +kernel, by decide +kernel, by decide +kernel, fun _ => ⟨am_tm 456 (by decide +kernel) rfl, am_ts 39 (by decide +kernel) rfl⟩, fun h => absurd h (by decide), fun h => absurd h (by decide), tG_has_ok⟩
theorem tG_isInput_d : (am_tb MG_isInput).all (am_bD MG_isInput) = true := by decide +kernel
theorem tG_isInput_ok : am_tOk amCl amWS amNW amST amP MG_isInput := am_bT_s (FL := amFG) (AW := amAW) amFG_ok amAW_ok tG_isInput_d (by decide +kernel)
set_option maxRecDepth 100000 in
theorem kG_isInput_ok : am_mOk amCl amWS amNW amST amP MG_isInput := ⟨am_tc2 124 (by exact rfl) rfl, am_tm 5 (by decide +kernel) rfl, by decide +kernel, by decide +kernel, by decide +kernel, fun _ => ⟨am_tm 363 (by decide +kernel) rfl, am_ts 21 (by decide +kernel) rfl⟩, fun h => absurd h (by decide), fun h => absurd h (by decide), tG_isInput_ok⟩
theorem tG_argument_d : (am_tb MG_argument).all (am_bD MG_argument) = true := by decide +kernel
theorem tG_argument_ok : am_tOk amCl amWS amNW amST amP MG_argument := am_bT_s (FL := amFG) (AW := amAW) amFG_ok amAW_ok tG_argument_d (by decide +kernel)
set_option maxRecDepth 100000 in
theorem kG_argument_ok : am_mOk amCl amWS amNW amST amP MG_argument := ⟨am_tc2 95 (by exact rfl) rfl, am_tm 5 (by decide +kernel) rfl, by decide +kernel, by decide +kernel, by decide +kernel, fun _ => ⟨am_tm 334 (by decide +kernel) rfl, am_ts 16 (by decide +kernel) rfl⟩, fun h => absurd h (by decide), fun h => absurd h (by decide), tG_argument_ok⟩
theorem tG_obtain_d : (am_tb MG_obtain).all (am_bD MG_obtain) = true := by decide +kernel
theorem tG_obtain_ok : am_tOk amCl amWS amNW amST amP MG_obtain := am_bT_s (FL := amFG) (AW := amAW) amFG_ok amAW_ok tG_obtain_d (by decide +kernel)
set_option maxRecDepth 100000 in
theorem kG_obtain_ok : am_mOk amCl amWS amNW amST amP MG_obtain := ⟨am_tc2 87 (by exact rfl) rfl, am_tm 5 (by decide +kernel) rfl, by decide +kernel, by decide +kernel, by decide +kernel, fun _ => ⟨am_tm 326 (by decide +kernel) rfl, am_ts 14 (by decide +kernel) rfl⟩, fun h => absurd h (by decide), fun h => absurd h (by decide), tG_obtain_ok⟩
theorem tG_find_d : (am_tb MG_find).all (am_bD MG_find) = true := by decide +kernel
theorem tG_find_ok : am_tOk amCl amWS amNW amST amP MG_find := am_bT_s (FL := amFG) (AW := amAW) amFG_ok amAW_ok tG_find_d (by decide +kernel)
set_option maxRecDepth 100000 in
theorem kG_find_ok : am_mOk amCl amWS amNW amST amP MG_find := ⟨am_tc2 91 (by exact rfl) rfl, am_tm 5 (by decide +kernel) rfl, by decide +kernel, by decide +kernel, by decide +kernel, fun _ => ⟨am_tm 330 (by decide +kernel) rfl, am_ts 15 (by decide +kernel) rfl⟩, fun h => absurd h (by decide), fun h => absurd h (by decide), tG_find_ok⟩
theorem tG_wouldReach_d : (am_tb MG_wouldReach).all (am_bD MG_wouldReach) = true := by decide +kernel
theorem tG_wouldReach_ok : am_tOk amCl amWS amNW amST amP MG_wouldReach := am_bT_s (FL := amFG) (AW := amAW) amFG_ok amAW_ok tG_wouldReach_d (by decide +kernel)
set_option maxRecDepth 100000 in
theorem kG_wouldReach_ok : am_mOk amCl amWS amNW amST amP MG_wouldReach := ⟨am_tc2 99 (by exact rfl) rfl, am_tm 5 (by decide +kernel) rfl, by decide +kernel, by decide +kernel, by decide +kernel, fun _ => ⟨am_tm 338 (by decide +kernel) rfl, am_ts 17 (by decide +kernel) rfl⟩, fun h => absurd h (by decide), fun h => absurd h (by decide), tG_wouldReach_ok⟩
theorem tG_reachOrZero_d : (am_tb MG_reachOrZero).all (am_bD MG_reachOrZero) = true := by decide +kernel
theorem tG_reachOrZero_ok : am_tOk amCl amWS amNW amST amP MG_reachOrZero := am_bT_s (FL := amFG) (AW := amAW) amFG_ok amAW_ok tG_reachOrZero_d (by decide +kernel)
set_option maxRecDepth 100000 in
theorem kG_reachOrZero_ok : am_mOk amCl amWS amNW amST amP MG_reachOrZero := ⟨am_tc2 103 (by exact rfl) rfl, am_tm 5 (by decide +kernel) rfl, by decide +kernel, by decide +kernel, by decide +kernel, fun _ => ⟨am_tm 342 (by decide +kernel) rfl, am_ts 18 (by decide +kernel) rfl⟩, fun h => absurd h (by decide), fun h => absurd h (by decide), tG_reachOrZero_ok⟩
theorem tG_describe_d : (am_tb MG_describe).all (am_bD MG_describe) = true := by decide +kernel
theorem tG_describe_ok : am_tOk amCl amWS amNW amST amP MG_describe := am_bT_s (FL := amFG) (AW := amAW) amFG_ok amAW_ok tG_describe_d (by decide +kernel)
set_option maxRecDepth 100000 in
theorem kG_describe_ok : am_mOk amCl amWS amNW amST amP MG_describe := ⟨am_tc2 120 (by exact rfl) rfl, am_tm 5 (by decide +kernel) rfl, by decide +kernel, by decide +kernel, by decide +kernel, fun _ => ⟨am_tm 359 (by decide +kernel) rfl, am_ts 20 (by decide +kernel) rfl⟩, fun h => absurd h (by decide), fun h => absurd h (by decide), tG_describe_ok⟩
theorem tG_assign_d : (am_tb MG_assign).all (am_bD MG_assign) = true := by decide +kernel
theorem tG_assign_ok : am_tOk amCl amWS amNW amST amP MG_assign := am_bT_s (FL := amFG) (AW := amAW) amFG_ok amAW_ok tG_assign_d (by decide +kernel)
set_option maxRecDepth 100000 in
theorem kG_assign_ok : am_mOk amCl amWS amNW amST amP MG_assign := ⟨am_tc2 230 (by exact rfl) rfl, am_tm 5 (by decide +kernel) rfl, by decide +kernel, by decide +kernel, by decide +kernel, fun _ => ⟨am_tm 469 (by decide +kernel) rfl, am_ts 40 (by decide +kernel) rfl⟩, fun h => absurd h (by decide), fun h => absurd h (by decide), tG_assign_ok⟩
theorem tG_least_d : (am_tb MG_least).all (am_bD MG_least) = true := by decide +kernel
theorem tG_least_ok : am_tOk amCl amWS amNW amST amP MG_least := am_bT_s (FL := amFG) (AW := amAW) amFG_ok amAW_ok tG_least_d (by decide +kernel)
set_option maxRecDepth 100000 in
theorem kG_least_ok : am_mOk amCl amWS amNW amST amP MG_least := ⟨am_tc2 161 (by exact rfl) rfl, am_tm 5 (by decide +kernel) rfl, by decide +kernel, by decide +kernel, by decide +kernel, fun _ => ⟨am_tm 400 (by decide +kernel) rfl, am_ts 28 (by decide +kernel) rfl⟩, fun h => absurd h (by decide), fun h => absurd h (by decide), tG_least_ok⟩
theorem tG_greatest_d : (am_tb MG_greatest).all (am_bD MG_greatest) = true := by decide +kernel
theorem tG_greatest_ok : am_tOk amCl amWS amNW amST amP MG_greatest := am_bT_s (FL := amFG) (AW := amAW) amFG_ok amAW_ok tG_greatest_d (by decide +kernel)
set_option maxRecDepth 100000 in
theorem kG_greatest_ok : am_mOk amCl amWS amNW amST amP MG_greatest := ⟨am_tc2 157 (by exact rfl) rfl, am_tm 5 (by decide +kernel) rfl, by decide +kernel, by decide +kernel, by decide +kernel, fun _ => ⟨am_tm 396 (by decide +kernel) rfl, am_ts 27 (by decide +kernel) rfl⟩, fun h => absurd h (by decide), fun h => absurd h (by decide), tG_greatest_ok⟩
theorem tG_argumentValue_d : (am_tb MG_argumentValue).all (am_bD MG_argumentValue) = true := by decide +kernel
theorem tG_argumentValue_ok : am_tOk amCl amWS amNW amST amP MG_argumentValue := am_bT_s (FL := amFG) (AW := amAW) amFG_ok amAW_ok tG_argumentValue_d (by decide +kernel)
set_option maxRecDepth 100000 in
theorem kG_argumentValue_ok : am_mOk amCl amWS amNW amST amP MG_argumentValue := ⟨am_tc2 132 (by exact rfl) rfl, am_tm 5 (by decide +kernel) rfl, by decide +kernel, by decide +kernel, by decide +kernel, fun _ => ⟨am_tm 371 (by decide +kernel) rfl, am_ts 23 (by decide +kernel) rfl⟩, fun h => absurd h (by decide), fun h => absurd h (by decide), tG_argumentValue_ok⟩
theorem tG_calculate_d : (am_tb MG_calculate).all (am_bD MG_calculate) = true := by decide +kernel
theorem tG_calculate_ok : am_tOk amCl amWS amNW amST amP MG_calculate := am_bT_s (FL := amFG) (AW := amAW) amFG_ok amAW_ok tG_calculate_d (by decide +kernel)
set_option maxRecDepth 100000 in
theorem kG_calculate_ok : am_mOk amCl amWS amNW amST amP MG_calculate := ⟨am_tc2 128 (by exact rfl) rfl, am_tm 5 (by decide +kernel) rfl, by decide +kernel, by decide +kernel, by decide +kernel, fun _ => ⟨am_tm 367 (by decide +kernel) rfl, am_ts 22 (by decide +kernel) rfl⟩, fun h => absurd h (by decide), fun h => absurd h (by decide), tG_calculate_ok⟩
theorem tG_argumentSign_d : (am_tb MG_argumentSign).all (am_bD MG_argumentSign) = true := by decide +kernel
theorem tG_argumentSign_ok : am_tOk amCl amWS amNW amST amP MG_argumentSign := am_bT_s (FL := amFG) (AW := amAW) amFG_ok amAW_ok tG_argumentSign_d (by decide +kernel)
set_option maxRecDepth 100000 in
theorem kG_argumentSign_ok : am_mOk amCl amWS amNW amST amP MG_argumentSign := ⟨am_tc2 146 (by exact rfl) rfl, am_tm 5 (by decide +kernel) rfl, by decide +kernel, by decide +kernel, by decide +kernel, fun _ => ⟨am_tm 385 (by decide +kernel) rfl, am_ts 25 (by decide +kernel) rfl⟩, fun h => absurd h (by decide), fun h => absurd h (by decide), tG_argumentSign_ok⟩
theorem tG_signOf_d : (am_tb MG_signOf).all (am_bD MG_signOf) = true := by decide +kernel
theorem tG_signOf_ok : am_tOk amCl amWS amNW amST amP MG_signOf := am_bT_s (FL := amFG) (AW := amAW) amFG_ok amAW_ok tG_signOf_d (by decide +kernel)
set_option maxRecDepth 100000 in
theorem kG_signOf_ok : am_mOk amCl amWS amNW amST amP MG_signOf := ⟨am_tc2 142 (by exact rfl) rfl, am_tm 5 (by decide +kernel) rfl, by decide +kernel, by decide +kernel, by decide +kernel, fun _ => ⟨am_tm 381 (by decide +kernel) rfl, am_ts 24 (by decide +kernel) rfl⟩, fun h => absurd h (by decide), fun h => absurd h (by decide), tG_signOf_ok⟩
theorem tG_leafSign_d : (am_tb MG_leafSign).all (am_bD MG_leafSign) = true := by decide +kernel
theorem tG_leafSign_ok : am_tOk amCl amWS amNW amST amP MG_leafSign := am_bT_s (FL := amFG) (AW := amAW) amFG_ok amAW_ok tG_leafSign_d (by decide +kernel)
set_option maxRecDepth 100000 in
theorem kG_leafSign_ok : am_mOk amCl amWS amNW amST amP MG_leafSign := ⟨am_tc2 153 (by exact rfl) rfl, am_tm 5 (by decide +kernel) rfl, by decide +kernel, by decide +kernel, by decide +kernel, fun _ => ⟨am_tm 392 (by decide +kernel) rfl, am_ts 26 (by decide +kernel) rfl⟩, fun h => absurd h (by decide), fun h => absurd h (by decide), tG_leafSign_ok⟩
theorem tG_opposite_d : (am_tb MG_opposite).all (am_bD MG_opposite) = true := by decide +kernel
theorem tG_opposite_ok : am_tOk amCl amWS amNW amST amP MG_opposite := am_bT_s (FL := amFG) (AW := amAW) amFG_ok amAW_ok tG_opposite_d (by decide +kernel)
set_option maxRecDepth 100000 in
theorem kG_opposite_ok : am_mOk amCl amWS amNW amST amP MG_opposite := ⟨am_tc2 149 (by exact rfl) rfl, am_tm 5 (by decide +kernel) rfl, by decide +kernel, by decide +kernel, by decide +kernel, fun h => absurd h (by decide), fun h => absurd h (by decide), fun _ => am_tm 388 (by decide +kernel) rfl, tG_opposite_ok⟩
theorem tG_curvatureOf_d : (am_tb MG_curvatureOf).all (am_bD MG_curvatureOf) = true := by decide +kernel
theorem tG_curvatureOf_ok : am_tOk amCl amWS amNW amST amP MG_curvatureOf := am_bT_s (FL := amFG) (AW := amAW) amFG_ok amAW_ok tG_curvatureOf_d (by decide +kernel)
set_option maxRecDepth 100000 in
theorem kG_curvatureOf_ok : am_mOk amCl amWS amNW amST amP MG_curvatureOf := ⟨am_tc2 165 (by exact rfl) rfl, am_tm 5 (by decide +kernel) rfl, by decide +kernel, by decide +kernel, by decide +kernel, fun _ => ⟨am_tm 404 (by decide +kernel) rfl, am_ts 29 (by decide +kernel) rfl⟩, fun h => absurd h (by decide), fun h => absurd h (by decide), tG_curvatureOf_ok⟩
theorem tG_mostBent_d : (am_tb MG_mostBent).all (am_bD MG_mostBent) = true := by decide +kernel
theorem tG_mostBent_ok : am_tOk amCl amWS amNW amST amP MG_mostBent := am_bT_s (FL := amFG) (AW := amAW) amFG_ok amAW_ok tG_mostBent_d (by decide +kernel)
set_option maxRecDepth 100000 in
theorem kG_mostBent_ok : am_mOk amCl amWS amNW amST amP MG_mostBent := ⟨am_tc2 170 (by exact rfl) rfl, am_tm 5 (by decide +kernel) rfl, by decide +kernel, by decide +kernel, by decide +kernel, fun _ => ⟨am_tm 409 (by decide +kernel) rfl, am_ts 30 (by decide +kernel) rfl⟩, fun h => absurd h (by decide), fun h => absurd h (by decide), tG_mostBent_ok⟩
theorem tG_isLinear_d : (am_tb MG_isLinear).all (am_bD MG_isLinear) = true := by decide +kernel
theorem tG_isLinear_ok : am_tOk amCl amWS amNW amST amP MG_isLinear := am_bT_s (FL := amFG) (AW := amAW) amFG_ok amAW_ok tG_isLinear_d (by decide +kernel)
set_option maxRecDepth 100000 in
theorem kG_isLinear_ok : am_mOk amCl amWS amNW amST amP MG_isLinear := ⟨am_tc2 178 (by exact rfl) rfl, am_tm 5 (by decide +kernel) rfl, by decide +kernel, by decide +kernel, by decide +kernel, fun _ => ⟨am_tm 417 (by decide +kernel) rfl, am_ts 32 (by decide +kernel) rfl⟩, fun h => absurd h (by decide), fun h => absurd h (by decide), tG_isLinear_ok⟩
theorem tG_isProductOfTwo_d : (am_tb MG_isProductOfTwo).all (am_bD MG_isProductOfTwo) = true := by decide +kernel
theorem tG_isProductOfTwo_ok : am_tOk amCl amWS amNW amST amP MG_isProductOfTwo := am_bT_s (FL := amFG) (AW := amAW) amFG_ok amAW_ok tG_isProductOfTwo_d (by decide +kernel)
set_option maxRecDepth 100000 in
theorem kG_isProductOfTwo_ok : am_mOk amCl amWS amNW amST amP MG_isProductOfTwo := ⟨am_tc2 174 (by exact rfl) rfl, am_tm 5 (by decide +kernel) rfl, by decide +kernel, by decide +kernel, by decide +kernel, fun _ => ⟨am_tm 413 (by decide +kernel) rfl, am_ts 31 (by decide +kernel) rfl⟩, fun h => absurd h (by decide), fun h => absurd h (by decide), tG_isProductOfTwo_ok⟩
theorem tG_firstAgainst_d : (am_tb MG_firstAgainst).all (am_bD MG_firstAgainst) = true := by decide +kernel
theorem tG_firstAgainst_ok : am_tOk amCl amWS amNW amST amP MG_firstAgainst := am_bT_s (FL := amFG) (AW := amAW) amFG_ok amAW_ok tG_firstAgainst_d (by decide +kernel)
set_option maxRecDepth 100000 in
theorem kG_firstAgainst_ok : am_mOk amCl amWS amNW amST amP MG_firstAgainst := ⟨am_tc2 182 (by exact rfl) rfl, am_tm 5 (by decide +kernel) rfl, by decide +kernel, by decide +kernel, by decide +kernel, fun _ => ⟨am_tm 421 (by decide +kernel) rfl, am_ts 33 (by decide +kernel) rfl⟩, fun h => absurd h (by decide), fun h => absurd h (by decide), tG_firstAgainst_ok⟩
theorem tG_admits_d : (am_tb MG_admits).all (am_bD MG_admits) = true := by decide +kernel
theorem tG_admits_ok : am_tOk amCl amWS amNW amST amP MG_admits := am_bT_s (FL := amFG) (AW := amAW) amFG_ok amAW_ok tG_admits_d (by decide +kernel)
set_option maxRecDepth 100000 in
theorem kG_admits_ok : am_mOk amCl amWS amNW amST amP MG_admits := ⟨am_tc2 186 (by exact rfl) rfl, am_tm 5 (by decide +kernel) rfl, by decide +kernel, by decide +kernel, by decide +kernel, fun _ => ⟨am_tm 425 (by decide +kernel) rfl, am_ts 34 (by decide +kernel) rfl⟩, fun h => absurd h (by decide), fun h => absurd h (by decide), tG_admits_ok⟩
theorem tG_slopeIn_d : (am_tb MG_slopeIn).all (am_bD MG_slopeIn) = true := by decide +kernel
theorem tG_slopeIn_ok : am_tOk amCl amWS amNW amST amP MG_slopeIn := am_bT_s (FL := amFG) (AW := amAW) amFG_ok amAW_ok tG_slopeIn_d (by decide +kernel)
set_option maxRecDepth 100000 in
theorem kG_slopeIn_ok : am_mOk amCl amWS amNW amST amP MG_slopeIn := ⟨am_tc2 190 (by exact rfl) rfl, am_tm 5 (by decide +kernel) rfl, by decide +kernel, by decide +kernel, by decide +kernel, fun _ => ⟨am_tm 429 (by decide +kernel) rfl, am_ts 35 (by decide +kernel) rfl⟩, fun h => absurd h (by decide), fun h => absurd h (by decide), tG_slopeIn_ok⟩
theorem tG_slopeFor_d : (am_tb MG_slopeFor).all (am_bD MG_slopeFor) = true := by decide +kernel
theorem tG_slopeFor_ok : am_tOk amCl amWS amNW amST amP MG_slopeFor := am_bT_s (FL := amFG) (AW := amAW) amFG_ok amAW_ok tG_slopeFor_d (by decide +kernel)
set_option maxRecDepth 100000 in
theorem kG_slopeFor_ok : am_mOk amCl amWS amNW amST amP MG_slopeFor := ⟨am_tc2 193 (by exact rfl) rfl, am_tm 5 (by decide +kernel) rfl, by decide +kernel, by decide +kernel, by decide +kernel, fun h => absurd h (by decide), fun h => absurd h (by decide), fun _ => am_tm 432 (by decide +kernel) rfl, tG_slopeFor_ok⟩
theorem tG_culpritOf_d : (am_tb MG_culpritOf).all (am_bD MG_culpritOf) = true := by decide +kernel
theorem tG_culpritOf_ok : am_tOk amCl amWS amNW amST amP MG_culpritOf := am_bT_s (FL := amFG) (AW := amAW) amFG_ok amAW_ok tG_culpritOf_d (by decide +kernel)
set_option maxRecDepth 100000 in
theorem kG_culpritOf_ok : am_mOk amCl amWS amNW amST amP MG_culpritOf := ⟨am_tc2 197 (by exact rfl) rfl, am_tm 5 (by decide +kernel) rfl, by decide +kernel, by decide +kernel, by decide +kernel, fun _ => ⟨am_tm 436 (by decide +kernel) rfl, am_ts 36 (by decide +kernel) rfl⟩, fun h => absurd h (by decide), fun h => absurd h (by decide), tG_culpritOf_ok⟩
theorem tG_blameOf_d : (am_tb MG_blameOf).all (am_bD MG_blameOf) = true := by decide +kernel
theorem tG_blameOf_ok : am_tOk amCl amWS amNW amST amP MG_blameOf := am_bT_s (FL := amFG) (AW := amAW) amFG_ok amAW_ok tG_blameOf_d (by decide +kernel)
set_option maxRecDepth 100000 in
theorem kG_blameOf_ok : am_mOk amCl amWS amNW amST amP MG_blameOf := ⟨am_tc2 201 (by exact rfl) rfl, am_tm 5 (by decide +kernel) rfl, by decide +kernel, by decide +kernel, by decide +kernel, fun _ => ⟨am_tm 440 (by decide +kernel) rfl, am_ts 37 (by decide +kernel) rfl⟩, fun h => absurd h (by decide), fun h => absurd h (by decide), tG_blameOf_ok⟩
theorem tG_lastBent_d : (am_tb MG_lastBent).all (am_bD MG_lastBent) = true := by decide +kernel
theorem tG_lastBent_ok : am_tOk amCl amWS amNW amST amP MG_lastBent := am_bT_s (FL := amFG) (AW := amAW) amFG_ok amAW_ok tG_lastBent_d (by decide +kernel)
set_option maxRecDepth 100000 in
theorem kG_lastBent_ok : am_mOk amCl amWS amNW amST amP MG_lastBent := ⟨am_tc2 205 (by exact rfl) rfl, am_tm 5 (by decide +kernel) rfl, by decide +kernel, by decide +kernel, by decide +kernel, fun _ => ⟨am_tm 444 (by decide +kernel) rfl, am_ts 38 (by decide +kernel) rfl⟩, fun h => absurd h (by decide), fun h => absurd h (by decide), tG_lastBent_ok⟩
theorem tP_init_d : (am_tb MP_init).all (am_bD MP_init) = true := by decide +kernel
theorem tP_init_ok : am_tOk amCl amWS amNW amST amP MP_init := am_bT_s (FL := amFP) (AW := amAW) amFP_ok amAW_ok tP_init_d (by decide +kernel)
set_option maxRecDepth 100000 in
theorem kP_init_ok : am_mOk amCl amWS amNW amST amP MP_init := ⟨am_tc1 148 (by exact rfl) rfl, am_tm 7 (by decide +kernel) rfl, by decide +kernel, by decide +kernel, by decide +kernel, fun h => absurd h (by decide), fun _ => ⟨rfl, am_tm 147 (by decide +kernel) rfl, rfl⟩, fun h => absurd h (by decide), tP_init_ok⟩
theorem tP_aim_d : (am_tb MP_aim).all (am_bD MP_aim) = true := by decide +kernel
theorem tP_aim_ok : am_tOk amCl amWS amNW amST amP MP_aim := am_bT_s (FL := amFP) (AW := amAW) amFP_ok amAW_ok tP_aim_d (by decide +kernel)
set_option maxRecDepth 100000 in
theorem kP_aim_ok : am_mOk amCl amWS amNW amST amP MP_aim := ⟨am_tc3 16 (by exact rfl) rfl, am_tm 7 (by decide +kernel) rfl, by decide +kernel, by decide +kernel, by decide +kernel, fun _ => ⟨am_tm 495 (by decide +kernel) rfl, am_ts 43 (by decide +kernel) rfl⟩, fun h => absurd h (by decide), fun h => absurd h (by decide), tP_aim_ok⟩
theorem tP_add_d : (am_tb MP_add).all (am_bD MP_add) = true := by decide +kernel
theorem tP_add_ok : am_tOk amCl amWS amNW amST amP MP_add := am_bT_s (FL := amFP) (AW := amAW) amFP_ok amAW_ok tP_add_d (by decide +kernel)
set_option maxRecDepth 100000 in
theorem kP_add_ok : am_mOk amCl amWS amNW amST amP MP_add := ⟨am_tc3 24 (by exact rfl) rfl, am_tm 7 (by decide +kernel) rfl, by decide +kernel, by decide +kernel, by decide +kernel, fun _ => ⟨am_tm 503 (by decide +kernel) rfl, am_ts 44 (by decide +kernel) rfl⟩, fun h => absurd h (by decide), fun h => absurd h (by decide), tP_add_ok⟩
