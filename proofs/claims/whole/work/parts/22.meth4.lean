/-! printed by wip/gen/main.py: every method is as the small machine wants it -/
theorem tm_signs_d : (am_tb Mm_signs).all (am_bD Mm_signs) = true := by decide +kernel
theorem tm_signs_ok : am_tOk amCl amWS amNW amST amP Mm_signs := am_bT_s (FL := amFm) (AW := amAW) amFm_ok amAW_ok tm_signs_d (by decide +kernel)
set_option maxRecDepth 100000 in
theorem km_signs_ok : am_mOk amCl amWS amNW amST amP Mm_signs := ⟨am_tc4 121 (by exact rfl) rfl, am_tm 9 (by decide +kernel) rfl, by decide +kernel, by decide +kernel, by decide +kernel, fun _ => ⟨am_tm 840 (by decide +kernel) rfl, am_ts 81 (by decide +kernel) rfl⟩, fun h => absurd h (by decide), fun h => absurd h (by decide), tm_signs_ok⟩
theorem tm_greater_d : (am_tb Mm_greater).all (am_bD Mm_greater) = true := by decide +kernel
theorem tm_greater_ok : am_tOk amCl amWS amNW amST amP Mm_greater := am_bT_s (FL := amFm) (AW := amAW) amFm_ok amAW_ok tm_greater_d (by decide +kernel)
set_option maxRecDepth 100000 in
theorem km_greater_ok : am_mOk amCl amWS amNW amST amP Mm_greater := ⟨am_tc4 128 (by exact rfl) rfl, am_tm 9 (by decide +kernel) rfl, by decide +kernel, by decide +kernel, by decide +kernel, fun h => absurd h (by decide), fun h => absurd h (by decide), fun _ => am_tm 847 (by decide +kernel) rfl, tm_greater_ok⟩
theorem tm_worthOf_d : (am_tb Mm_worthOf).all (am_bD Mm_worthOf) = true := by decide +kernel
theorem tm_worthOf_ok : am_tOk amCl amWS amNW amST amP Mm_worthOf := am_bT_s (FL := amFm) (AW := amAW) amFm_ok amAW_ok tm_worthOf_d (by decide +kernel)
set_option maxRecDepth 100000 in
theorem km_worthOf_ok : am_mOk amCl amWS amNW amST amP Mm_worthOf := ⟨am_tc4 125 (by exact rfl) rfl, am_tm 9 (by decide +kernel) rfl, by decide +kernel, by decide +kernel, by decide +kernel, fun _ => ⟨am_tm 844 (by decide +kernel) rfl, am_ts 82 (by decide +kernel) rfl⟩, fun h => absurd h (by decide), fun h => absurd h (by decide), tm_worthOf_ok⟩
theorem tm_trend_d : (am_tb Mm_trend).all (am_bD Mm_trend) = true := by decide +kernel
theorem tm_trend_ok : am_tOk amCl amWS amNW amST amP Mm_trend := am_bT_s (FL := amFm) (AW := amAW) amFm_ok amAW_ok tm_trend_d (by decide +kernel)
set_option maxRecDepth 100000 in
theorem km_trend_ok : am_mOk amCl amWS amNW amST amP Mm_trend := ⟨am_tc4 148 (by exact rfl) rfl, am_tm 9 (by decide +kernel) rfl, by decide +kernel, by decide +kernel, by decide +kernel, fun _ => ⟨am_tm 867 (by decide +kernel) rfl, am_ts 87 (by decide +kernel) rfl⟩, fun h => absurd h (by decide), fun h => absurd h (by decide), tm_trend_ok⟩
theorem tm_admits_d : (am_tb Mm_admits).all (am_bD Mm_admits) = true := by decide +kernel
theorem tm_admits_ok : am_tOk amCl amWS amNW amST amP Mm_admits := am_bT_s (FL := amFm) (AW := amAW) amFm_ok amAW_ok tm_admits_d (by decide +kernel)
set_option maxRecDepth 100000 in
theorem km_admits_ok : am_mOk amCl amWS amNW amST amP Mm_admits := ⟨am_tc4 144 (by exact rfl) rfl, am_tm 9 (by decide +kernel) rfl, by decide +kernel, by decide +kernel, by decide +kernel, fun _ => ⟨am_tm 863 (by decide +kernel) rfl, am_ts 86 (by decide +kernel) rfl⟩, fun h => absurd h (by decide), fun h => absurd h (by decide), tm_admits_ok⟩
theorem tm_firstNot_d : (am_tb Mm_firstNot).all (am_bD Mm_firstNot) = true := by decide +kernel
theorem tm_firstNot_ok : am_tOk amCl amWS amNW amST amP Mm_firstNot := am_bT_s (FL := amFm) (AW := amAW) amFm_ok amAW_ok tm_firstNot_d (by decide +kernel)
set_option maxRecDepth 100000 in
theorem km_firstNot_ok : am_mOk amCl amWS amNW amST amP Mm_firstNot := ⟨am_tc4 140 (by exact rfl) rfl, am_tm 9 (by decide +kernel) rfl, by decide +kernel, by decide +kernel, by decide +kernel, fun _ => ⟨am_tm 859 (by decide +kernel) rfl, am_ts 85 (by decide +kernel) rfl⟩, fun h => absurd h (by decide), fun h => absurd h (by decide), tm_firstNot_ok⟩
theorem tm_having_d : (am_tb Mm_having).all (am_bD Mm_having) = true := by decide +kernel
theorem tm_having_ok : am_tOk amCl amWS amNW amST amP Mm_having := am_bT_s (FL := amFm) (AW := amAW) amFm_ok amAW_ok tm_having_d (by decide +kernel)
set_option maxRecDepth 100000 in
theorem km_having_ok : am_mOk amCl amWS amNW amST amP Mm_having := ⟨am_tc4 136 (by exact rfl) rfl, am_tm 9 (by decide +kernel) rfl, by decide +kernel, by decide +kernel, by decide +kernel, fun _ => ⟨am_tm 855 (by decide +kernel) rfl, am_ts 84 (by decide +kernel) rfl⟩, fun h => absurd h (by decide), fun h => absurd h (by decide), tm_having_ok⟩
theorem tm_curveOf_d : (am_tb Mm_curveOf).all (am_bD Mm_curveOf) = true := by decide +kernel
theorem tm_curveOf_ok : am_tOk amCl amWS amNW amST amP Mm_curveOf := am_bT_s (FL := amFm) (AW := amAW) amFm_ok amAW_ok tm_curveOf_d (by decide +kernel)
set_option maxRecDepth 100000 in
theorem km_curveOf_ok : am_mOk amCl amWS amNW amST amP Mm_curveOf := ⟨am_tc4 132 (by exact rfl) rfl, am_tm 9 (by decide +kernel) rfl, by decide +kernel, by decide +kernel, by decide +kernel, fun _ => ⟨am_tm 851 (by decide +kernel) rfl, am_ts 83 (by decide +kernel) rfl⟩, fun h => absurd h (by decide), fun h => absurd h (by decide), tm_curveOf_ok⟩
theorem tm_blameOf_d : (am_tb Mm_blameOf).all (am_bD Mm_blameOf) = true := by decide +kernel
theorem tm_blameOf_ok : am_tOk amCl amWS amNW amST amP Mm_blameOf := am_bT_s (FL := amFm) (AW := amAW) amFm_ok amAW_ok tm_blameOf_d (by decide +kernel)
set_option maxRecDepth 100000 in
theorem km_blameOf_ok : am_mOk amCl amWS amNW amST amP Mm_blameOf := ⟨am_tc4 152 (by exact rfl) rfl, am_tm 9 (by decide +kernel) rfl, by decide +kernel, by decide +kernel, by decide +kernel, fun _ => ⟨am_tm 871 (by decide +kernel) rfl, am_ts 88 (by decide +kernel) rfl⟩, fun h => absurd h (by decide), fun h => absurd h (by decide), tm_blameOf_ok⟩
theorem tm_work_d : (am_tb Mm_work).all (am_bD Mm_work) = true := by decide +kernel
theorem tm_work_ok : am_tOk amCl amWS amNW amST amP Mm_work := am_bT_s (FL := amFm) (AW := amAW) amFm_ok amAW_ok tm_work_d (by decide +kernel)
set_option maxRecDepth 100000 in
theorem km_work_ok : am_mOk amCl amWS amNW amST amP Mm_work := ⟨am_tc4 117 (by exact rfl) rfl, am_tm 9 (by decide +kernel) rfl, by decide +kernel, by decide +kernel, by decide +kernel, fun _ => ⟨am_tm 836 (by decide +kernel) rfl, am_ts 80 (by decide +kernel) rfl⟩, fun h => absurd h (by decide), fun h => absurd h (by decide), tm_work_ok⟩
theorem tm_attributes_d : (am_tb Mm_attributes).all (am_bD Mm_attributes) = true := by decide +kernel
theorem tm_attributes_ok : am_tOk amCl amWS amNW amST amP Mm_attributes := am_bT_s (FL := amFm) (AW := amAW) amFm_ok amAW_ok tm_attributes_d (by decide +kernel)
set_option maxRecDepth 100000 in
theorem km_attributes_ok : am_mOk amCl amWS amNW amST amP Mm_attributes := ⟨am_tc4 113 (by exact rfl) rfl, am_tm 9 (by decide +kernel) rfl, by decide +kernel, by decide +kernel, by decide +kernel, fun _ => ⟨am_tm 831 (by decide +kernel) rfl, am_tm 832 (by decide +kernel) rfl⟩, fun h => absurd h (by decide), fun h => absurd h (by decide), tm_attributes_ok⟩
theorem tm_reach_d : (am_tb Mm_reach).all (am_bD Mm_reach) = true := by decide +kernel
theorem tm_reach_ok : am_tOk amCl amWS amNW amST amP Mm_reach := am_bT_s (FL := amFm) (AW := amAW) amFm_ok amAW_ok tm_reach_d (by decide +kernel)
set_option maxRecDepth 100000 in
theorem km_reach_ok : am_mOk amCl amWS amNW amST amP Mm_reach := ⟨am_tc4 160 (by exact rfl) rfl, am_tm 9 (by decide +kernel) rfl, by decide +kernel, by decide +kernel, by decide +kernel, fun _ => ⟨am_tm 878 (by decide +kernel) rfl, am_tm 879 (by decide +kernel) rfl⟩, fun h => absurd h (by decide), fun h => absurd h (by decide), tm_reach_ok⟩
theorem tm_value_d : (am_tb Mm_value).all (am_bD Mm_value) = true := by decide +kernel
theorem tm_value_ok : am_tOk amCl amWS amNW amST amP Mm_value := am_bT_s (FL := amFm) (AW := amAW) amFm_ok amAW_ok tm_value_d (by decide +kernel)
set_option maxRecDepth 100000 in
theorem km_value_ok : am_mOk amCl amWS amNW amST amP Mm_value := ⟨am_tc4 164 (by exact rfl) rfl, am_tm 9 (by decide +kernel) rfl, by decide +kernel, by decide +kernel, by decide +kernel, fun _ => ⟨am_tm 882 (by decide +kernel) rfl, am_tm 883 (by decide +kernel) rfl⟩, fun h => absurd h (by decide), fun h => absurd h (by decide), tm_value_ok⟩
theorem tm_walk_d : (am_tb Mm_walk).all (am_bD Mm_walk) = true := by decide +kernel
theorem tm_walk_ok : am_tOk amCl amWS amNW amST amP Mm_walk := am_bT_s (FL := amFm) (AW := amAW) amFm_ok amAW_ok tm_walk_d (by decide +kernel)
set_option maxRecDepth 100000 in
theorem km_walk_ok : am_mOk amCl amWS amNW amST amP Mm_walk := ⟨am_tc4 172 (by exact rfl) rfl, am_tm 9 (by decide +kernel) rfl, by decide +kernel, by decide +kernel, by decide +kernel, fun _ => ⟨am_tm 891 (by decide +kernel) rfl, am_ts 90 (by decide +kernel) rfl⟩, fun h => absurd h (by decide), fun h => absurd h (by decide), tm_walk_ok⟩
theorem tm_culprit_d : (am_tb Mm_culprit).all (am_bD Mm_culprit) = true := by decide +kernel
theorem tm_culprit_ok : am_tOk amCl amWS amNW amST amP Mm_culprit := am_bT_s (FL := amFm) (AW := amAW) amFm_ok amAW_ok tm_culprit_d (by decide +kernel)
set_option maxRecDepth 100000 in
theorem km_culprit_ok : am_mOk amCl amWS amNW amST amP Mm_culprit := ⟨am_tc4 168 (by exact rfl) rfl, am_tm 9 (by decide +kernel) rfl, by decide +kernel, by decide +kernel, by decide +kernel, fun _ => ⟨am_tm 886 (by decide +kernel) rfl, am_tm 887 (by decide +kernel) rfl⟩, fun h => absurd h (by decide), fun h => absurd h (by decide), tm_culprit_ok⟩
theorem tm_objective_d : (am_tb Mm_objective).all (am_bD Mm_objective) = true := by decide +kernel
theorem tm_objective_ok : am_tOk amCl amWS amNW amST amP Mm_objective := am_bT_s (FL := amFm) (AW := amAW) amFm_ok amAW_ok tm_objective_d (by decide +kernel)
set_option maxRecDepth 100000 in
theorem km_objective_ok : am_mOk amCl amWS amNW amST amP Mm_objective := ⟨am_tc4 176 (by exact rfl) rfl, am_tm 9 (by decide +kernel) rfl, by decide +kernel, by decide +kernel, by decide +kernel, fun _ => ⟨am_tm 894 (by decide +kernel) rfl, am_tm 895 (by decide +kernel) rfl⟩, fun h => absurd h (by decide), fun h => absurd h (by decide), tm_objective_ok⟩
theorem tm_require_d : (am_tb Mm_require).all (am_bD Mm_require) = true := by decide +kernel
theorem tm_require_ok : am_tOk amCl amWS amNW amST amP Mm_require := am_bT_s (FL := amFm) (AW := amAW) amFm_ok amAW_ok tm_require_d (by decide +kernel)
set_option maxRecDepth 100000 in
theorem km_require_ok : am_mOk amCl amWS amNW amST amP Mm_require := ⟨am_tc4 180 (by exact rfl) rfl, am_tm 9 (by decide +kernel) rfl, by decide +kernel, by decide +kernel, by decide +kernel, fun _ => ⟨am_tm 898 (by decide +kernel) rfl, am_tm 899 (by decide +kernel) rfl⟩, fun h => absurd h (by decide), fun h => absurd h (by decide), tm_require_ok⟩
theorem tm_withdraw_d : (am_tb Mm_withdraw).all (am_bD Mm_withdraw) = true := by decide +kernel
theorem tm_withdraw_ok : am_tOk amCl amWS amNW amST amP Mm_withdraw := am_bT_s (FL := amFm) (AW := amAW) amFm_ok amAW_ok tm_withdraw_d (by decide +kernel)
set_option maxRecDepth 100000 in
theorem km_withdraw_ok : am_mOk amCl amWS amNW amST amP Mm_withdraw := ⟨am_tc4 184 (by exact rfl) rfl, am_tm 9 (by decide +kernel) rfl, by decide +kernel, by decide +kernel, by decide +kernel, fun _ => ⟨am_tm 902 (by decide +kernel) rfl, am_tm 903 (by decide +kernel) rfl⟩, fun h => absurd h (by decide), fun h => absurd h (by decide), tm_withdraw_ok⟩
theorem tm_feasible_d : (am_tb Mm_feasible).all (am_bD Mm_feasible) = true := by decide +kernel
theorem tm_feasible_ok : am_tOk amCl amWS amNW amST amP Mm_feasible := am_bT_s (FL := amFm) (AW := amAW) amFm_ok amAW_ok tm_feasible_d (by decide +kernel)
set_option maxRecDepth 100000 in
theorem km_feasible_ok : am_mOk amCl amWS amNW amST amP Mm_feasible := ⟨am_tc4 188 (by exact rfl) rfl, am_tm 9 (by decide +kernel) rfl, by decide +kernel, by decide +kernel, by decide +kernel, fun _ => ⟨am_tm 906 (by decide +kernel) rfl, am_tm 907 (by decide +kernel) rfl⟩, fun h => absurd h (by decide), fun h => absurd h (by decide), tm_feasible_ok⟩
theorem tm_good_d : (am_tb Mm_good).all (am_bD Mm_good) = true := by decide +kernel
theorem tm_good_ok : am_tOk amCl amWS amNW amST amP Mm_good := am_bT_s (FL := amFm) (AW := amAW) amFm_ok amAW_ok tm_good_d (by decide +kernel)
set_option maxRecDepth 100000 in
theorem km_good_ok : am_mOk amCl amWS amNW amST amP Mm_good := ⟨am_tc4 200 (by exact rfl) rfl, am_tm 9 (by decide +kernel) rfl, by decide +kernel, by decide +kernel, by decide +kernel, fun _ => ⟨am_tm 919 (by decide +kernel) rfl, am_ts 92 (by decide +kernel) rfl⟩, fun h => absurd h (by decide), fun h => absurd h (by decide), tm_good_ok⟩
