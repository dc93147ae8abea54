/-! printed by wip/gen/main.py: every method is as the small machine wants it -/
theorem tm_type_d : (am_tb Mm_type).all (am_bD Mm_type) = true := by decide +kernel
theorem tm_type_ok : am_tOk amCl amWS amNW amST amP Mm_type := am_bT_s (FL := amFm) (AW := amAW) amFm_ok amAW_ok tm_type_d (by decide +kernel)
set_option maxRecDepth 100000 in
theorem km_type_ok : am_mOk amCl amWS amNW amST amP Mm_type := ⟨am_tc4 40 (by exact rfl) rfl, am_tm 9 (by decide +kernel) rfl, by decide +kernel, by decide +kernel, by decide +kernel, fun _ => ⟨am_tm 758 (by decide +kernel) rfl, am_tm 759 (by decide +kernel) rfl⟩, fun h => absurd h (by decide), fun h => absurd h (by decide), tm_type_ok⟩
theorem tm_wipe_d : (am_tb Mm_wipe).all (am_bD Mm_wipe) = true := by decide +kernel
theorem tm_wipe_ok : am_tOk amCl amWS amNW amST amP Mm_wipe := am_bT_s (FL := amFm) (AW := amAW) amFm_ok amAW_ok tm_wipe_d (by decide +kernel)
set_option maxRecDepth 100000 in
theorem km_wipe_ok : am_mOk amCl amWS amNW amST amP Mm_wipe := ⟨am_tc4 44 (by exact rfl) rfl, am_tm 9 (by decide +kernel) rfl, by decide +kernel, by decide +kernel, by decide +kernel, fun _ => ⟨am_tm 762 (by decide +kernel) rfl, am_tm 763 (by decide +kernel) rfl⟩, fun h => absurd h (by decide), fun h => absurd h (by decide), tm_wipe_ok⟩
theorem tm_emit_d : (am_tb Mm_emit).all (am_bD Mm_emit) = true := by decide +kernel
theorem tm_emit_ok : am_tOk amCl amWS amNW amST amP Mm_emit := am_bT_s (FL := amFm) (AW := amAW) amFm_ok amAW_ok tm_emit_d (by decide +kernel)
set_option maxRecDepth 100000 in
theorem km_emit_ok : am_mOk amCl amWS amNW amST amP Mm_emit := ⟨am_tc4 64 (by exact rfl) rfl, am_tm 9 (by decide +kernel) rfl, by decide +kernel, by decide +kernel, by decide +kernel, fun _ => ⟨am_tm 783 (by decide +kernel) rfl, am_ts 71 (by decide +kernel) rfl⟩, fun h => absurd h (by decide), fun h => absurd h (by decide), tm_emit_ok⟩
theorem tm_negations_d : (am_tb Mm_negations).all (am_bD Mm_negations) = true := by decide +kernel
theorem tm_negations_ok : am_tOk amCl amWS amNW amST amP Mm_negations := am_bT_s (FL := amFm) (AW := amAW) amFm_ok amAW_ok tm_negations_d (by decide +kernel)
set_option maxRecDepth 100000 in
theorem km_negations_ok : am_mOk amCl amWS amNW amST amP Mm_negations := ⟨am_tc4 68 (by exact rfl) rfl, am_tm 9 (by decide +kernel) rfl, by decide +kernel, by decide +kernel, by decide +kernel, fun _ => ⟨am_tm 787 (by decide +kernel) rfl, am_ts 72 (by decide +kernel) rfl⟩, fun h => absurd h (by decide), fun h => absurd h (by decide), tm_negations_ok⟩
theorem tm_operand_d : (am_tb Mm_operand).all (am_bD Mm_operand) = true := by decide +kernel
theorem tm_operand_ok : am_tOk amCl amWS amNW amST amP Mm_operand := am_bT_s (FL := amFm) (AW := amAW) amFm_ok amAW_ok tm_operand_d (by decide +kernel)
set_option maxRecDepth 100000 in
theorem km_operand_ok : am_mOk amCl amWS amNW amST amP Mm_operand := ⟨am_tc4 60 (by exact rfl) rfl, am_tm 9 (by decide +kernel) rfl, by decide +kernel, by decide +kernel, by decide +kernel, fun _ => ⟨am_tm 779 (by decide +kernel) rfl, am_ts 70 (by decide +kernel) rfl⟩, fun h => absurd h (by decide), fun h => absurd h (by decide), tm_operand_ok⟩
theorem tm_unwind_d : (am_tb Mm_unwind).all (am_bD Mm_unwind) = true := by decide +kernel
theorem tm_unwind_ok : am_tOk amCl amWS amNW amST amP Mm_unwind := am_bT_s (FL := amFm) (AW := amAW) amFm_ok amAW_ok tm_unwind_d (by decide +kernel)
set_option maxRecDepth 100000 in
theorem km_unwind_ok : am_mOk amCl amWS amNW amST amP Mm_unwind := ⟨am_tc4 84 (by exact rfl) rfl, am_tm 9 (by decide +kernel) rfl, by decide +kernel, by decide +kernel, by decide +kernel, fun _ => ⟨am_tm 803 (by decide +kernel) rfl, am_ts 76 (by decide +kernel) rfl⟩, fun h => absurd h (by decide), fun h => absurd h (by decide), tm_unwind_ok⟩
theorem tm_open_d : (am_tb Mm_open).all (am_bD Mm_open) = true := by decide +kernel
theorem tm_open_ok : am_tOk amCl amWS amNW amST amP Mm_open := am_bT_s (FL := amFm) (AW := amAW) amFm_ok amAW_ok tm_open_d (by decide +kernel)
set_option maxRecDepth 100000 in
theorem km_open_ok : am_mOk amCl amWS amNW amST amP Mm_open := ⟨am_tc4 76 (by exact rfl) rfl, am_tm 9 (by decide +kernel) rfl, by decide +kernel, by decide +kernel, by decide +kernel, fun _ => ⟨am_tm 795 (by decide +kernel) rfl, am_ts 74 (by decide +kernel) rfl⟩, fun h => absurd h (by decide), fun h => absurd h (by decide), tm_open_ok⟩
theorem tm_begin_d : (am_tb Mm_begin).all (am_bD Mm_begin) = true := by decide +kernel
theorem tm_begin_ok : am_tOk amCl amWS amNW amST amP Mm_begin := am_bT_s (FL := amFm) (AW := amAW) amFm_ok amAW_ok tm_begin_d (by decide +kernel)
set_option maxRecDepth 100000 in
theorem km_begin_ok : am_mOk amCl amWS amNW amST amP Mm_begin := ⟨am_tc4 72 (by exact rfl) rfl, am_tm 9 (by decide +kernel) rfl, by decide +kernel, by decide +kernel, by decide +kernel, fun _ => ⟨am_tm 791 (by decide +kernel) rfl, am_ts 73 (by decide +kernel) rfl⟩, fun h => absurd h (by decide), fun h => absurd h (by decide), tm_begin_ok⟩
theorem tm_commasOf_d : (am_tb Mm_commasOf).all (am_bD Mm_commasOf) = true := by decide +kernel
theorem tm_commasOf_ok : am_tOk amCl amWS amNW amST amP Mm_commasOf := am_bT_s (FL := amFm) (AW := amAW) amFm_ok amAW_ok tm_commasOf_d (by decide +kernel)
set_option maxRecDepth 100000 in
theorem km_commasOf_ok : am_mOk amCl amWS amNW amST amP Mm_commasOf := ⟨am_tc4 87 (by exact rfl) rfl, am_tm 9 (by decide +kernel) rfl, by decide +kernel, by decide +kernel, by decide +kernel, fun h => absurd h (by decide), fun h => absurd h (by decide), fun _ => am_tm 806 (by decide +kernel) rfl, tm_commasOf_ok⟩
theorem tm_follow_d : (am_tb Mm_follow).all (am_bD Mm_follow) = true := by decide +kernel
theorem tm_follow_ok : am_tOk amCl amWS amNW amST amP Mm_follow := am_bT_s (FL := amFm) (AW := amAW) amFm_ok amAW_ok tm_follow_d (by decide +kernel)
set_option maxRecDepth 100000 in
theorem km_follow_ok : am_mOk amCl amWS amNW amST amP Mm_follow := ⟨am_tc4 80 (by exact rfl) rfl, am_tm 9 (by decide +kernel) rfl, by decide +kernel, by decide +kernel, by decide +kernel, fun _ => ⟨am_tm 799 (by decide +kernel) rfl, am_ts 75 (by decide +kernel) rfl⟩, fun h => absurd h (by decide), fun h => absurd h (by decide), tm_follow_ok⟩
theorem tm_accept_d : (am_tb Mm_accept).all (am_bD Mm_accept) = true := by decide +kernel
theorem tm_accept_ok : am_tOk amCl amWS amNW amST amP Mm_accept := am_bT_s (FL := amFm) (AW := amAW) amFm_ok amAW_ok tm_accept_d (by decide +kernel)
set_option maxRecDepth 100000 in
theorem km_accept_ok : am_mOk amCl amWS amNW amST amP Mm_accept := ⟨am_tc4 56 (by exact rfl) rfl, am_tm 9 (by decide +kernel) rfl, by decide +kernel, by decide +kernel, by decide +kernel, fun _ => ⟨am_tm 775 (by decide +kernel) rfl, am_ts 69 (by decide +kernel) rfl⟩, fun h => absurd h (by decide), fun h => absurd h (by decide), tm_accept_ok⟩
theorem tm_parse_d : (am_tb Mm_parse).all (am_bD Mm_parse) = true := by decide +kernel
theorem tm_parse_ok : am_tOk amCl amWS amNW amST amP Mm_parse := am_bT_s (FL := amFm) (AW := amAW) amFm_ok amAW_ok tm_parse_d (by decide +kernel)
set_option maxRecDepth 100000 in
theorem km_parse_ok : am_mOk amCl amWS amNW amST amP Mm_parse := ⟨am_tc4 52 (by exact rfl) rfl, am_tm 9 (by decide +kernel) rfl, by decide +kernel, by decide +kernel, by decide +kernel, fun _ => ⟨am_tm 771 (by decide +kernel) rfl, am_ts 68 (by decide +kernel) rfl⟩, fun h => absurd h (by decide), fun h => absurd h (by decide), tm_parse_ok⟩
theorem tm_arity_d : (am_tb Mm_arity).all (am_bD Mm_arity) = true := by decide +kernel
theorem tm_arity_ok : am_tOk amCl amWS amNW amST amP Mm_arity := am_bT_s (FL := amFm) (AW := amAW) amFm_ok amAW_ok tm_arity_d (by decide +kernel)
set_option maxRecDepth 100000 in
theorem km_arity_ok : am_mOk amCl amWS amNW amST amP Mm_arity := ⟨am_tc4 94 (by exact rfl) rfl, am_tm 9 (by decide +kernel) rfl, by decide +kernel, by decide +kernel, by decide +kernel, fun h => absurd h (by decide), fun h => absurd h (by decide), fun _ => am_tm 813 (by decide +kernel) rfl, tm_arity_ok⟩
theorem tm_reachOf_d : (am_tb Mm_reachOf).all (am_bD Mm_reachOf) = true := by decide +kernel
theorem tm_reachOf_ok : am_tOk amCl amWS amNW amST amP Mm_reachOf := am_bT_s (FL := amFm) (AW := amAW) amFm_ok amAW_ok tm_reachOf_d (by decide +kernel)
set_option maxRecDepth 100000 in
theorem km_reachOf_ok : am_mOk amCl amWS amNW amST amP Mm_reachOf := ⟨am_tc4 102 (by exact rfl) rfl, am_tm 9 (by decide +kernel) rfl, by decide +kernel, by decide +kernel, by decide +kernel, fun _ => ⟨am_tm 821 (by decide +kernel) rfl, am_ts 79 (by decide +kernel) rfl⟩, fun h => absurd h (by decide), fun h => absurd h (by decide), tm_reachOf_ok⟩
theorem tm_make_d : (am_tb Mm_make).all (am_bD Mm_make) = true := by decide +kernel
theorem tm_make_ok : am_tOk amCl amWS amNW amST amP Mm_make := am_bT_s (FL := amFm) (AW := amAW) amFm_ok amAW_ok tm_make_d (by decide +kernel)
set_option maxRecDepth 100000 in
theorem km_make_ok : am_mOk amCl amWS amNW amST amP Mm_make := ⟨am_tc4 98 (by exact rfl) rfl, am_tm 9 (by decide +kernel) rfl, by decide +kernel, by decide +kernel, by decide +kernel, fun _ => ⟨am_tm 817 (by decide +kernel) rfl, am_ts 78 (by decide +kernel) rfl⟩, fun h => absurd h (by decide), fun h => absurd h (by decide), tm_make_ok⟩
theorem tm_build_d : (am_tb Mm_build).all (am_bD Mm_build) = true := by decide +kernel
theorem tm_build_ok : am_tOk amCl amWS amNW amST amP Mm_build := am_bT_s (FL := amFm) (AW := amAW) amFm_ok amAW_ok tm_build_d (by decide +kernel)
set_option maxRecDepth 100000 in
theorem km_build_ok : am_mOk amCl amWS amNW amST amP Mm_build := ⟨am_tc4 91 (by exact rfl) rfl, am_tm 9 (by decide +kernel) rfl, by decide +kernel, by decide +kernel, by decide +kernel, fun _ => ⟨am_tm 810 (by decide +kernel) rfl, am_ts 77 (by decide +kernel) rfl⟩, fun h => absurd h (by decide), fun h => absurd h (by decide), tm_build_ok⟩
theorem tm_read_d : (am_tb Mm_read).all (am_bD Mm_read) = true := by decide +kernel
theorem tm_read_ok : am_tOk amCl amWS amNW amST amP Mm_read := am_bT_s (FL := amFm) (AW := amAW) amFm_ok amAW_ok tm_read_d (by decide +kernel)
set_option maxRecDepth 100000 in
theorem km_read_ok : am_mOk amCl amWS amNW amST amP Mm_read := ⟨am_tc4 48 (by exact rfl) rfl, am_tm 9 (by decide +kernel) rfl, by decide +kernel, by decide +kernel, by decide +kernel, fun _ => ⟨am_tm 766 (by decide +kernel) rfl, am_tm 767 (by decide +kernel) rfl⟩, fun h => absurd h (by decide), fun h => absurd h (by decide), tm_read_ok⟩
theorem tm_nodes_d : (am_tb Mm_nodes).all (am_bD Mm_nodes) = true := by decide +kernel
theorem tm_nodes_ok : am_tOk amCl amWS amNW amST amP Mm_nodes := am_bT_s (FL := amFm) (AW := amAW) amFm_ok amAW_ok tm_nodes_d (by decide +kernel)
set_option maxRecDepth 100000 in
theorem km_nodes_ok : am_mOk amCl amWS amNW amST amP Mm_nodes := ⟨am_tc4 109 (by exact rfl) rfl, am_tm 9 (by decide +kernel) rfl, by decide +kernel, by decide +kernel, by decide +kernel, fun _ => ⟨am_tm 827 (by decide +kernel) rfl, am_tm 828 (by decide +kernel) rfl⟩, fun h => absurd h (by decide), fun h => absurd h (by decide), tm_nodes_ok⟩
theorem tm_isNode_d : (am_tb Mm_isNode).all (am_bD Mm_isNode) = true := by decide +kernel
theorem tm_isNode_ok : am_tOk amCl amWS amNW amST amP Mm_isNode := am_bT_s (FL := amFm) (AW := amAW) amFm_ok amAW_ok tm_isNode_d (by decide +kernel)
set_option maxRecDepth 100000 in
theorem km_isNode_ok : am_mOk amCl amWS amNW amST amP Mm_isNode := ⟨am_tc4 156 (by exact rfl) rfl, am_tm 9 (by decide +kernel) rfl, by decide +kernel, by decide +kernel, by decide +kernel, fun _ => ⟨am_tm 875 (by decide +kernel) rfl, am_ts 89 (by decide +kernel) rfl⟩, fun h => absurd h (by decide), fun h => absurd h (by decide), tm_isNode_ok⟩
