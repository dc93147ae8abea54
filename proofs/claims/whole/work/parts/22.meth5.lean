/-! printed by wip/gen/main.py: every method is as the small machine wants it -/
theorem tm_wrongPart_d : (am_tb Mm_wrongPart).all (am_bD Mm_wrongPart) = true := by decide +kernel
theorem tm_wrongPart_ok : am_tOk amCl amWS amNW amST amP Mm_wrongPart := am_bT_s (FL := amFm) (AW := amAW) amFm_ok amAW_ok tm_wrongPart_d (by decide +kernel)
set_option maxRecDepth 100000 in
theorem km_wrongPart_ok : am_mOk amCl amWS amNW amST amP Mm_wrongPart := ⟨am_tc4 196 (by exact rfl) rfl, am_tm 9 (by decide +kernel) rfl, by decide +kernel, by decide +kernel, by decide +kernel, fun _ => ⟨am_tm 915 (by decide +kernel) rfl, am_ts 91 (by decide +kernel) rfl⟩, fun h => absurd h (by decide), fun h => absurd h (by decide), tm_wrongPart_ok⟩
theorem tm_compile_d : (am_tb Mm_compile).all (am_bD Mm_compile) = true := by decide +kernel
theorem tm_compile_ok : am_tOk amCl amWS amNW amST amP Mm_compile := am_bT_s (FL := amFm) (AW := amAW) amFm_ok amAW_ok tm_compile_d (by decide +kernel)
set_option maxRecDepth 100000 in
theorem km_compile_ok : am_mOk amCl amWS amNW amST amP Mm_compile := ⟨am_tc4 192 (by exact rfl) rfl, am_tm 9 (by decide +kernel) rfl, by decide +kernel, by decide +kernel, by decide +kernel, fun _ => ⟨am_tm 910 (by decide +kernel) rfl, am_tm 911 (by decide +kernel) rfl⟩, fun h => absurd h (by decide), fun h => absurd h (by decide), tm_compile_ok⟩
theorem tm_mark_d : (am_tb Mm_mark).all (am_bD Mm_mark) = true := by decide +kernel
theorem tm_mark_ok : am_tOk amCl amWS amNW amST amP Mm_mark := am_bT_s (FL := amFm) (AW := amAW) amFm_ok amAW_ok tm_mark_d (by decide +kernel)
set_option maxRecDepth 100000 in
theorem km_mark_ok : am_mOk amCl amWS amNW amST amP Mm_mark := ⟨am_tc4 204 (by exact rfl) rfl, am_tm 9 (by decide +kernel) rfl, by decide +kernel, by decide +kernel, by decide +kernel, fun _ => ⟨am_tm 923 (by decide +kernel) rfl, am_ts 93 (by decide +kernel) rfl⟩, fun h => absurd h (by decide), fun h => absurd h (by decide), tm_mark_ok⟩
theorem tm_auxiliary_d : (am_tb Mm_auxiliary).all (am_bD Mm_auxiliary) = true := by decide +kernel
theorem tm_auxiliary_ok : am_tOk amCl amWS amNW amST amP Mm_auxiliary := am_bT_s (FL := amFm) (AW := amAW) amFm_ok amAW_ok tm_auxiliary_d (by decide +kernel)
set_option maxRecDepth 100000 in
theorem km_auxiliary_ok : am_mOk amCl amWS amNW amST amP Mm_auxiliary := ⟨am_tc4 216 (by exact rfl) rfl, am_tm 9 (by decide +kernel) rfl, by decide +kernel, by decide +kernel, by decide +kernel, fun _ => ⟨am_tm 935 (by decide +kernel) rfl, am_ts 96 (by decide +kernel) rfl⟩, fun h => absurd h (by decide), fun h => absurd h (by decide), tm_auxiliary_ok⟩
theorem tm_variable_d : (am_tb Mm_variable).all (am_bD Mm_variable) = true := by decide +kernel
theorem tm_variable_ok : am_tOk amCl amWS amNW amST amP Mm_variable := am_bT_s (FL := amFm) (AW := amAW) amFm_ok amAW_ok tm_variable_d (by decide +kernel)
set_option maxRecDepth 100000 in
theorem km_variable_ok : am_mOk amCl amWS amNW amST amP Mm_variable := ⟨am_tc4 212 (by exact rfl) rfl, am_tm 9 (by decide +kernel) rfl, by decide +kernel, by decide +kernel, by decide +kernel, fun _ => ⟨am_tm 931 (by decide +kernel) rfl, am_ts 95 (by decide +kernel) rfl⟩, fun h => absurd h (by decide), fun h => absurd h (by decide), tm_variable_ok⟩
theorem tm_columns_d : (am_tb Mm_columns).all (am_bD Mm_columns) = true := by decide +kernel
theorem tm_columns_ok : am_tOk amCl amWS amNW amST amP Mm_columns := am_bT_s (FL := amFm) (AW := amAW) amFm_ok amAW_ok tm_columns_d (by decide +kernel)
set_option maxRecDepth 100000 in
theorem km_columns_ok : am_mOk amCl amWS amNW amST amP Mm_columns := ⟨am_tc4 208 (by exact rfl) rfl, am_tm 9 (by decide +kernel) rfl, by decide +kernel, by decide +kernel, by decide +kernel, fun _ => ⟨am_tm 927 (by decide +kernel) rfl, am_ts 94 (by decide +kernel) rfl⟩, fun h => absurd h (by decide), fun h => absurd h (by decide), tm_columns_ok⟩
theorem tm_place_d : (am_tb Mm_place).all (am_bD Mm_place) = true := by decide +kernel
theorem tm_place_ok : am_tOk amCl amWS amNW amST amP Mm_place := am_bT_s (FL := amFm) (AW := amAW) amFm_ok amAW_ok tm_place_d (by decide +kernel)
set_option maxRecDepth 100000 in
theorem km_place_ok : am_mOk amCl amWS amNW amST amP Mm_place := ⟨am_tc4 224 (by exact rfl) rfl, am_tm 9 (by decide +kernel) rfl, by decide +kernel, by decide +kernel, by decide +kernel, fun _ => ⟨am_tm 943 (by decide +kernel) rfl, am_ts 97 (by decide +kernel) rfl⟩, fun h => absurd h (by decide), fun h => absurd h (by decide), tm_place_ok⟩
theorem tm_column_d : (am_tb Mm_column).all (am_bD Mm_column) = true := by decide +kernel
theorem tm_column_ok : am_tOk amCl amWS amNW amST amP Mm_column := am_bT_s (FL := amFm) (AW := amAW) amFm_ok amAW_ok tm_column_d (by decide +kernel)
set_option maxRecDepth 100000 in
theorem km_column_ok : am_mOk amCl amWS amNW amST amP Mm_column := ⟨am_tc4 220 (by exact rfl) rfl, am_tm 9 (by decide +kernel) rfl, by decide +kernel, by decide +kernel, by decide +kernel, fun _ => ⟨am_tm 938 (by decide +kernel) rfl, am_tm 939 (by decide +kernel) rfl⟩, fun h => absurd h (by decide), fun h => absurd h (by decide), tm_column_ok⟩
theorem tm_chosen_d : (am_tb Mm_chosen).all (am_bD Mm_chosen) = true := by decide +kernel
theorem tm_chosen_ok : am_tOk amCl amWS amNW amST amP Mm_chosen := am_bT_s (FL := amFm) (AW := amAW) amFm_ok amAW_ok tm_chosen_d (by decide +kernel)
set_option maxRecDepth 100000 in
theorem km_chosen_ok : am_mOk amCl amWS amNW amST amP Mm_chosen := ⟨am_tc5 11 (by exact rfl) rfl, am_tm 9 (by decide +kernel) rfl, by decide +kernel, by decide +kernel, by decide +kernel, fun _ => ⟨am_tm 970 (by decide +kernel) rfl, am_ts 101 (by decide +kernel) rfl⟩, fun h => absurd h (by decide), fun h => absurd h (by decide), tm_chosen_ok⟩
theorem tm_expand_d : (am_tb Mm_expand).all (am_bD Mm_expand) = true := by decide +kernel
theorem tm_expand_ok : am_tOk amCl amWS amNW amST amP Mm_expand := am_bT_s (FL := amFm) (AW := amAW) amFm_ok amAW_ok tm_expand_d (by decide +kernel)
set_option maxRecDepth 100000 in
theorem km_expand_ok : am_mOk amCl amWS amNW amST amP Mm_expand := ⟨am_tc5 7 (by exact rfl) rfl, am_tm 9 (by decide +kernel) rfl, by decide +kernel, by decide +kernel, by decide +kernel, fun _ => ⟨am_tm 966 (by decide +kernel) rfl, am_ts 100 (by decide +kernel) rfl⟩, fun h => absurd h (by decide), fun h => absurd h (by decide), tm_expand_ok⟩
theorem tm_rowsOf_d : (am_tb Mm_rowsOf).all (am_bD Mm_rowsOf) = true := by decide +kernel
theorem tm_rowsOf_ok : am_tOk amCl amWS amNW amST amP Mm_rowsOf := am_bT_s (FL := amFm) (AW := amAW) amFm_ok amAW_ok tm_rowsOf_d (by decide +kernel)
set_option maxRecDepth 100000 in
theorem km_rowsOf_ok : am_mOk amCl amWS amNW amST amP Mm_rowsOf := ⟨am_tc4 235 (by exact rfl) rfl, am_tm 9 (by decide +kernel) rfl, by decide +kernel, by decide +kernel, by decide +kernel, fun h => absurd h (by decide), fun h => absurd h (by decide), fun _ => am_tm 954 (by decide +kernel) rfl, tm_rowsOf_ok⟩
theorem tm_rowCount_d : (am_tb Mm_rowCount).all (am_bD Mm_rowCount) = true := by decide +kernel
theorem tm_rowCount_ok : am_tOk amCl amWS amNW amST amP Mm_rowCount := am_bT_s (FL := amFm) (AW := amAW) amFm_ok amAW_ok tm_rowCount_d (by decide +kernel)
set_option maxRecDepth 100000 in
theorem km_rowCount_ok : am_mOk amCl amWS amNW amST amP Mm_rowCount := ⟨am_tc4 232 (by exact rfl) rfl, am_tm 9 (by decide +kernel) rfl, by decide +kernel, by decide +kernel, by decide +kernel, fun _ => ⟨am_tm 951 (by decide +kernel) rfl, am_ts 98 (by decide +kernel) rfl⟩, fun h => absurd h (by decide), fun h => absurd h (by decide), tm_rowCount_ok⟩
theorem tm_rows_d : (am_tb Mm_rows).all (am_bD Mm_rows) = true := by decide +kernel
theorem tm_rows_ok : am_tOk amCl amWS amNW amST amP Mm_rows := am_bT_s (FL := amFm) (AW := amAW) amFm_ok amAW_ok tm_rows_d (by decide +kernel)
set_option maxRecDepth 100000 in
theorem km_rows_ok : am_mOk amCl amWS amNW amST amP Mm_rows := ⟨am_tc4 228 (by exact rfl) rfl, am_tm 9 (by decide +kernel) rfl, by decide +kernel, by decide +kernel, by decide +kernel, fun _ => ⟨am_tm 946 (by decide +kernel) rfl, am_tm 947 (by decide +kernel) rfl⟩, fun h => absurd h (by decide), fun h => absurd h (by decide), tm_rows_ok⟩
theorem tm_rowOf_d : (am_tb Mm_rowOf).all (am_bD Mm_rowOf) = true := by decide +kernel
theorem tm_rowOf_ok : am_tOk amCl amWS amNW amST amP Mm_rowOf := am_bT_s (FL := amFm) (AW := amAW) amFm_ok amAW_ok tm_rowOf_d (by decide +kernel)
set_option maxRecDepth 100000 in
theorem km_rowOf_ok : am_mOk amCl amWS amNW amST amP Mm_rowOf := ⟨am_tc5 19 (by exact rfl) rfl, am_tm 9 (by decide +kernel) rfl, by decide +kernel, by decide +kernel, by decide +kernel, fun _ => ⟨am_tm 978 (by decide +kernel) rfl, am_ts 103 (by decide +kernel) rfl⟩, fun h => absurd h (by decide), fun h => absurd h (by decide), tm_rowOf_ok⟩
theorem tm_rowValue_d : (am_tb Mm_rowValue).all (am_bD Mm_rowValue) = true := by decide +kernel
theorem tm_rowValue_ok : am_tOk amCl amWS amNW amST amP Mm_rowValue := am_bT_s (FL := amFm) (AW := amAW) amFm_ok amAW_ok tm_rowValue_d (by decide +kernel)
set_option maxRecDepth 100000 in
theorem km_rowValue_ok : am_mOk amCl amWS amNW amST amP Mm_rowValue := ⟨am_tc5 15 (by exact rfl) rfl, am_tm 9 (by decide +kernel) rfl, by decide +kernel, by decide +kernel, by decide +kernel, fun _ => ⟨am_tm 974 (by decide +kernel) rfl, am_ts 102 (by decide +kernel) rfl⟩, fun h => absurd h (by decide), fun h => absurd h (by decide), tm_rowValue_ok⟩
theorem tm_allRows_d : (am_tb Mm_allRows).all (am_bD Mm_allRows) = true := by decide +kernel
theorem tm_allRows_ok : am_tOk amCl amWS amNW amST amP Mm_allRows := am_bT_s (FL := amFm) (AW := amAW) amFm_ok amAW_ok tm_allRows_d (by decide +kernel)
set_option maxRecDepth 100000 in
theorem km_allRows_ok : am_mOk amCl amWS amNW amST amP Mm_allRows := ⟨am_tc5 3 (by exact rfl) rfl, am_tm 9 (by decide +kernel) rfl, by decide +kernel, by decide +kernel, by decide +kernel, fun _ => ⟨am_tm 962 (by decide +kernel) rfl, am_ts 99 (by decide +kernel) rfl⟩, fun h => absurd h (by decide), fun h => absurd h (by decide), tm_allRows_ok⟩
theorem tm_entry_d : (am_tb Mm_entry).all (am_bD Mm_entry) = true := by decide +kernel
theorem tm_entry_ok : am_tOk amCl amWS amNW amST amP Mm_entry := am_bT_s (FL := amFm) (AW := amAW) amFm_ok amAW_ok tm_entry_d (by decide +kernel)
set_option maxRecDepth 100000 in
theorem km_entry_ok : am_mOk amCl amWS amNW amST amP Mm_entry := ⟨am_tc4 239 (by exact rfl) rfl, am_tm 9 (by decide +kernel) rfl, by decide +kernel, by decide +kernel, by decide +kernel, fun _ => ⟨am_tm 957 (by decide +kernel) rfl, am_tm 958 (by decide +kernel) rfl⟩, fun h => absurd h (by decide), fun h => absurd h (by decide), tm_entry_ok⟩
theorem tm_set_d : (am_tb Mm_set).all (am_bD Mm_set) = true := by decide +kernel
theorem tm_set_ok : am_tOk amCl amWS amNW amST amP Mm_set := am_bT_s (FL := amFm) (AW := amAW) amFm_ok amAW_ok tm_set_d (by decide +kernel)
set_option maxRecDepth 100000 in
theorem km_set_ok : am_mOk amCl amWS amNW amST amP Mm_set := ⟨am_tc5 24 (by exact rfl) rfl, am_tm 9 (by decide +kernel) rfl, by decide +kernel, by decide +kernel, by decide +kernel, fun _ => ⟨am_tm 982 (by decide +kernel) rfl, am_tm 983 (by decide +kernel) rfl⟩, fun h => absurd h (by decide), fun h => absurd h (by decide), tm_set_ok⟩
theorem tm_lift_d : (am_tb Mm_lift).all (am_bD Mm_lift) = true := by decide +kernel
theorem tm_lift_ok : am_tOk amCl amWS amNW amST amP Mm_lift := am_bT_s (FL := amFm) (AW := amAW) amFm_ok amAW_ok tm_lift_d (by decide +kernel)
set_option maxRecDepth 100000 in
theorem km_lift_ok : am_mOk amCl amWS amNW amST amP Mm_lift := ⟨am_tc5 29 (by exact rfl) rfl, am_tm 9 (by decide +kernel) rfl, by decide +kernel, by decide +kernel, by decide +kernel, fun _ => ⟨am_tm 987 (by decide +kernel) rfl, am_tm 988 (by decide +kernel) rfl⟩, fun h => absurd h (by decide), fun h => absurd h (by decide), tm_lift_ok⟩
theorem tm_inside_d : (am_tb Mm_inside).all (am_bD Mm_inside) = true := by decide +kernel
theorem tm_inside_ok : am_tOk amCl amWS amNW amST amP Mm_inside := am_bT_s (FL := amFm) (AW := amAW) amFm_ok amAW_ok tm_inside_d (by decide +kernel)
set_option maxRecDepth 100000 in
theorem km_inside_ok : am_mOk amCl amWS amNW amST amP Mm_inside := ⟨am_tc5 36 (by exact rfl) rfl, am_tm 9 (by decide +kernel) rfl, by decide +kernel, by decide +kernel, by decide +kernel, fun h => absurd h (by decide), fun h => absurd h (by decide), fun _ => am_tm 995 (by decide +kernel) rfl, tm_inside_ok⟩
theorem tm_fits_d : (am_tb Mm_fits).all (am_bD Mm_fits) = true := by decide +kernel
theorem tm_fits_ok : am_tOk amCl amWS amNW amST amP Mm_fits := am_bT_s (FL := amFm) (AW := amAW) amFm_ok amAW_ok tm_fits_d (by decide +kernel)
set_option maxRecDepth 100000 in
theorem km_fits_ok : am_mOk amCl amWS amNW amST amP Mm_fits := ⟨am_tc5 33 (by exact rfl) rfl, am_tm 9 (by decide +kernel) rfl, by decide +kernel, by decide +kernel, by decide +kernel, fun _ => ⟨am_tm 991 (by decide +kernel) rfl, am_tm 992 (by decide +kernel) rfl⟩, fun h => absurd h (by decide), fun h => absurd h (by decide), tm_fits_ok⟩
theorem tm_cost_d : (am_tb Mm_cost).all (am_bD Mm_cost) = true := by decide +kernel
theorem tm_cost_ok : am_tOk amCl amWS amNW amST amP Mm_cost := am_bT_s (FL := amFm) (AW := amAW) amFm_ok amAW_ok tm_cost_d (by decide +kernel)
set_option maxRecDepth 100000 in
theorem km_cost_ok : am_mOk amCl amWS amNW amST amP Mm_cost := ⟨am_tc5 40 (by exact rfl) rfl, am_tm 9 (by decide +kernel) rfl, by decide +kernel, by decide +kernel, by decide +kernel, fun _ => ⟨am_tm 998 (by decide +kernel) rfl, am_tm 999 (by decide +kernel) rfl⟩, fun h => absurd h (by decide), fun h => absurd h (by decide), tm_cost_ok⟩
