/-! printed by wip/gen/main.py: every method is as the small machine wants it -/
theorem tP_remove_d : (am_tb MP_remove).all (am_bD MP_remove) = true := by decide +kernel
theorem tP_remove_ok : am_tOk amCl amWS amNW amST amP MP_remove := am_bT_s (FL := amFP) (AW := amAW) amFP_ok amAW_ok tP_remove_d (by decide +kernel)
set_option maxRecDepth 100000 in
theorem kP_remove_ok : am_mOk amCl amWS amNW amST amP MP_remove := ⟨am_tc3 32 (by exact rfl) rfl, am_tm 7 (by decide +kernel) rfl, by decide +kernel, by decide +kernel, by decide +kernel, fun _ => ⟨am_tm 511 (by decide +kernel) rfl, am_ts 45 (by decide +kernel) rfl⟩, fun h => absurd h (by decide), fun h => absurd h (by decide), tP_remove_ok⟩
theorem tP_allHold_d : (am_tb MP_allHold).all (am_bD MP_allHold) = true := by decide +kernel
theorem tP_allHold_ok : am_tOk amCl amWS amNW amST amP MP_allHold := am_bT_s (FL := amFP) (AW := amAW) amFP_ok amAW_ok tP_allHold_d (by decide +kernel)
set_option maxRecDepth 100000 in
theorem kP_allHold_ok : am_mOk amCl amWS amNW amST amP MP_allHold := ⟨am_tc3 161 (by exact rfl) rfl, am_tm 7 (by decide +kernel) rfl, by decide +kernel, by decide +kernel, by decide +kernel, fun _ => ⟨am_tm 640 (by decide +kernel) rfl, am_ts 67 (by decide +kernel) rfl⟩, fun h => absurd h (by decide), fun h => absurd h (by decide), tP_allHold_ok⟩
theorem tP_guiltyNode_d : (am_tb MP_guiltyNode).all (am_bD MP_guiltyNode) = true := by decide +kernel
theorem tP_guiltyNode_ok : am_tOk amCl amWS amNW amST amP MP_guiltyNode := am_bT_s (FL := amFP) (AW := amAW) amFP_ok amAW_ok tP_guiltyNode_d (by decide +kernel)
set_option maxRecDepth 100000 in
theorem kP_guiltyNode_ok : am_mOk amCl amWS amNW amST amP MP_guiltyNode := ⟨am_tc3 40 (by exact rfl) rfl, am_tm 7 (by decide +kernel) rfl, by decide +kernel, by decide +kernel, by decide +kernel, fun _ => ⟨am_tm 519 (by decide +kernel) rfl, am_ts 46 (by decide +kernel) rfl⟩, fun h => absurd h (by decide), fun h => absurd h (by decide), tP_guiltyNode_ok⟩
theorem tP_guiltOf_d : (am_tb MP_guiltOf).all (am_bD MP_guiltOf) = true := by decide +kernel
theorem tP_guiltOf_ok : am_tOk amCl amWS amNW amST amP MP_guiltOf := am_bT_s (FL := amFP) (AW := amAW) amFP_ok amAW_ok tP_guiltOf_d (by decide +kernel)
set_option maxRecDepth 100000 in
theorem kP_guiltOf_ok : am_mOk amCl amWS amNW amST amP MP_guiltOf := ⟨am_tc3 43 (by exact rfl) rfl, am_tm 7 (by decide +kernel) rfl, by decide +kernel, by decide +kernel, by decide +kernel, fun h => absurd h (by decide), fun h => absurd h (by decide), fun _ => am_tm 522 (by decide +kernel) rfl, tP_guiltOf_ok⟩
theorem tF_init_d : (am_tb MF_init).all (am_bD MF_init) = true := by decide +kernel
theorem tF_init_ok : am_tOk amCl amWS amNW amST amP MF_init := am_bT_s (FL := amFF) (AW := amAW) amFF_ok amAW_ok tF_init_d (by decide +kernel)
set_option maxRecDepth 100000 in
theorem kF_init_ok : am_mOk amCl amWS amNW amST amP MF_init := ⟨am_tc1 181 (by exact rfl) rfl, am_tm 8 (by decide +kernel) rfl, by decide +kernel, by decide +kernel, by decide +kernel, fun h => absurd h (by decide), fun _ => ⟨rfl, am_tm 180 (by decide +kernel) rfl, rfl⟩, fun h => absurd h (by decide), tF_init_ok⟩
theorem tF_hasRow_d : (am_tb MF_hasRow).all (am_bD MF_hasRow) = true := by decide +kernel
theorem tF_hasRow_ok : am_tOk amCl amWS amNW amST amP MF_hasRow := am_bT_s (FL := amFF) (AW := amAW) amFF_ok amAW_ok tF_hasRow_d (by decide +kernel)
set_option maxRecDepth 100000 in
theorem kF_hasRow_ok : am_mOk amCl amWS amNW amST amP MF_hasRow := ⟨am_tc3 85 (by exact rfl) rfl, am_tm 8 (by decide +kernel) rfl, by decide +kernel, by decide +kernel, by decide +kernel, fun _ => ⟨am_tm 564 (by decide +kernel) rfl, am_ts 54 (by decide +kernel) rfl⟩, fun h => absurd h (by decide), fun h => absurd h (by decide), tF_hasRow_ok⟩
theorem tF_hasColumn_d : (am_tb MF_hasColumn).all (am_bD MF_hasColumn) = true := by decide +kernel
theorem tF_hasColumn_ok : am_tOk amCl amWS amNW amST amP MF_hasColumn := am_bT_s (FL := amFF) (AW := amAW) amFF_ok amAW_ok tF_hasColumn_d (by decide +kernel)
set_option maxRecDepth 100000 in
theorem kF_hasColumn_ok : am_mOk amCl amWS amNW amST amP MF_hasColumn := ⟨am_tc3 89 (by exact rfl) rfl, am_tm 8 (by decide +kernel) rfl, by decide +kernel, by decide +kernel, by decide +kernel, fun _ => ⟨am_tm 568 (by decide +kernel) rfl, am_ts 55 (by decide +kernel) rfl⟩, fun h => absurd h (by decide), fun h => absurd h (by decide), tF_hasColumn_ok⟩
theorem tF_make_d : (am_tb MF_make).all (am_bD MF_make) = true := by decide +kernel
theorem tF_make_ok : am_tOk amCl amWS amNW amST amP MF_make := am_bT_s (FL := amFF) (AW := amAW) amFF_ok amAW_ok tF_make_d (by decide +kernel)
set_option maxRecDepth 100000 in
theorem kF_make_ok : am_mOk amCl amWS amNW amST amP MF_make := ⟨am_tc3 47 (by exact rfl) rfl, am_tm 8 (by decide +kernel) rfl, by decide +kernel, by decide +kernel, by decide +kernel, fun _ => ⟨am_tm 526 (by decide +kernel) rfl, am_ts 47 (by decide +kernel) rfl⟩, fun h => absurd h (by decide), fun h => absurd h (by decide), tF_make_ok⟩
theorem tF_markUsed_d : (am_tb MF_markUsed).all (am_bD MF_markUsed) = true := by decide +kernel
theorem tF_markUsed_ok : am_tOk amCl amWS amNW amST amP MF_markUsed := am_bT_s (FL := amFF) (AW := amAW) amFF_ok amAW_ok tF_markUsed_d (by decide +kernel)
set_option maxRecDepth 100000 in
theorem kF_markUsed_ok : am_mOk amCl amWS amNW amST amP MF_markUsed := ⟨am_tc3 51 (by exact rfl) rfl, am_tm 8 (by decide +kernel) rfl, by decide +kernel, by decide +kernel, by decide +kernel, fun _ => ⟨am_tm 530 (by decide +kernel) rfl, am_ts 48 (by decide +kernel) rfl⟩, fun h => absurd h (by decide), fun h => absurd h (by decide), tF_markUsed_ok⟩
theorem tF_isAuxiliary_d : (am_tb MF_isAuxiliary).all (am_bD MF_isAuxiliary) = true := by decide +kernel
theorem tF_isAuxiliary_ok : am_tOk amCl amWS amNW amST amP MF_isAuxiliary := am_bT_s (FL := amFF) (AW := amAW) amFF_ok amAW_ok tF_isAuxiliary_d (by decide +kernel)
set_option maxRecDepth 100000 in
theorem kF_isAuxiliary_ok : am_mOk amCl amWS amNW amST amP MF_isAuxiliary := ⟨am_tc2 238 (by exact rfl) rfl, am_tm 8 (by decide +kernel) rfl, by decide +kernel, by decide +kernel, by decide +kernel, fun _ => ⟨am_tm 477 (by decide +kernel) rfl, am_ts 42 (by decide +kernel) rfl⟩, fun h => absurd h (by decide), fun h => absurd h (by decide), tF_isAuxiliary_ok⟩
theorem tF_numberColumns_d : (am_tb MF_numberColumns).all (am_bD MF_numberColumns) = true := by decide +kernel
theorem tF_numberColumns_ok : am_tOk amCl amWS amNW amST amP MF_numberColumns := am_bT_s (FL := amFF) (AW := amAW) amFF_ok amAW_ok tF_numberColumns_d (by decide +kernel)
set_option maxRecDepth 100000 in
theorem kF_numberColumns_ok : am_mOk amCl amWS amNW amST amP MF_numberColumns := ⟨am_tc3 57 (by exact rfl) rfl, am_tm 8 (by decide +kernel) rfl, by decide +kernel, by decide +kernel, by decide +kernel, fun _ => ⟨am_tm 536 (by decide +kernel) rfl, am_ts 49 (by decide +kernel) rfl⟩, fun h => absurd h (by decide), fun h => absurd h (by decide), tF_numberColumns_ok⟩
theorem tF_numberRows_d : (am_tb MF_numberRows).all (am_bD MF_numberRows) = true := by decide +kernel
theorem tF_numberRows_ok : am_tOk amCl amWS amNW amST amP MF_numberRows := am_bT_s (FL := amFF) (AW := amAW) amFF_ok amAW_ok tF_numberRows_d (by decide +kernel)
set_option maxRecDepth 100000 in
theorem kF_numberRows_ok : am_mOk amCl amWS amNW amST amP MF_numberRows := ⟨am_tc3 61 (by exact rfl) rfl, am_tm 8 (by decide +kernel) rfl, by decide +kernel, by decide +kernel, by decide +kernel, fun _ => ⟨am_tm 540 (by decide +kernel) rfl, am_ts 50 (by decide +kernel) rfl⟩, fun h => absurd h (by decide), fun h => absurd h (by decide), tF_numberRows_ok⟩
theorem tF_addRequirementRows_d : (am_tb MF_addRequirementRows).all (am_bD MF_addRequirementRows) = true := by decide +kernel
theorem tF_addRequirementRows_ok : am_tOk amCl amWS amNW amST amP MF_addRequirementRows := am_bT_s (FL := amFF) (AW := amAW) amFF_ok amAW_ok tF_addRequirementRows_d (by decide +kernel)
set_option maxRecDepth 100000 in
theorem kF_addRequirementRows_ok : am_mOk amCl amWS amNW amST amP MF_addRequirementRows := ⟨am_tc3 65 (by exact rfl) rfl, am_tm 8 (by decide +kernel) rfl, by decide +kernel, by decide +kernel, by decide +kernel, fun _ => ⟨am_tm 544 (by decide +kernel) rfl, am_ts 51 (by decide +kernel) rfl⟩, fun h => absurd h (by decide), fun h => absurd h (by decide), tF_addRequirementRows_ok⟩
theorem tF_addAuxiliaryRows_d : (am_tb MF_addAuxiliaryRows).all (am_bD MF_addAuxiliaryRows) = true := by decide +kernel
theorem tF_addAuxiliaryRows_ok : am_tOk amCl amWS amNW amST amP MF_addAuxiliaryRows := am_bT_s (FL := amFF) (AW := amAW) amFF_ok amAW_ok tF_addAuxiliaryRows_d (by decide +kernel)
set_option maxRecDepth 100000 in
theorem kF_addAuxiliaryRows_ok : am_mOk amCl amWS amNW amST amP MF_addAuxiliaryRows := ⟨am_tc3 73 (by exact rfl) rfl, am_tm 8 (by decide +kernel) rfl, by decide +kernel, by decide +kernel, by decide +kernel, fun _ => ⟨am_tm 552 (by decide +kernel) rfl, am_ts 53 (by decide +kernel) rfl⟩, fun h => absurd h (by decide), fun h => absurd h (by decide), tF_addAuxiliaryRows_ok⟩
theorem tF_addRow_d : (am_tb MF_addRow).all (am_bD MF_addRow) = true := by decide +kernel
theorem tF_addRow_ok : am_tOk amCl amWS amNW amST amP MF_addRow := am_bT_s (FL := amFF) (AW := amAW) amFF_ok amAW_ok tF_addRow_d (by decide +kernel)
set_option maxRecDepth 100000 in
theorem kF_addRow_ok : am_mOk amCl amWS amNW amST amP MF_addRow := ⟨am_tc3 69 (by exact rfl) rfl, am_tm 8 (by decide +kernel) rfl, by decide +kernel, by decide +kernel, by decide +kernel, fun _ => ⟨am_tm 548 (by decide +kernel) rfl, am_ts 52 (by decide +kernel) rfl⟩, fun h => absurd h (by decide), fun h => absurd h (by decide), tF_addRow_ok⟩
theorem tF_assignOwn_d : (am_tb MF_assignOwn).all (am_bD MF_assignOwn) = true := by decide +kernel
theorem tF_assignOwn_ok : am_tOk amCl amWS amNW amST amP MF_assignOwn := am_bT_s (FL := amFF) (AW := amAW) amFF_ok amAW_ok tF_assignOwn_d (by decide +kernel)
set_option maxRecDepth 100000 in
theorem kF_assignOwn_ok : am_mOk amCl amWS amNW amST amP MF_assignOwn := ⟨am_tc2 234 (by exact rfl) rfl, am_tm 8 (by decide +kernel) rfl, by decide +kernel, by decide +kernel, by decide +kernel, fun _ => ⟨am_tm 473 (by decide +kernel) rfl, am_ts 41 (by decide +kernel) rfl⟩, fun h => absurd h (by decide), fun h => absurd h (by decide), tF_assignOwn_ok⟩
theorem tF_liftOwn_d : (am_tb MF_liftOwn).all (am_bD MF_liftOwn) = true := by decide +kernel
theorem tF_liftOwn_ok : am_tOk amCl amWS amNW amST amP MF_liftOwn := am_bT_s (FL := amFF) (AW := amAW) amFF_ok amAW_ok tF_liftOwn_d (by decide +kernel)
set_option maxRecDepth 100000 in
theorem kF_liftOwn_ok : am_mOk amCl amWS amNW amST amP MF_liftOwn := ⟨am_tc3 133 (by exact rfl) rfl, am_tm 8 (by decide +kernel) rfl, by decide +kernel, by decide +kernel, by decide +kernel, fun _ => ⟨am_tm 612 (by decide +kernel) rfl, am_ts 63 (by decide +kernel) rfl⟩, fun h => absurd h (by decide), fun h => absurd h (by decide), tF_liftOwn_ok⟩
theorem tF_numberAt_d : (am_tb MF_numberAt).all (am_bD MF_numberAt) = true := by decide +kernel
theorem tF_numberAt_ok : am_tOk amCl amWS amNW amST amP MF_numberAt := am_bT_s (FL := amFF) (AW := amAW) amFF_ok amAW_ok tF_numberAt_d (by decide +kernel)
set_option maxRecDepth 100000 in
theorem kF_numberAt_ok : am_mOk amCl amWS amNW amST amP MF_numberAt := ⟨am_tc3 93 (by exact rfl) rfl, am_tm 8 (by decide +kernel) rfl, by decide +kernel, by decide +kernel, by decide +kernel, fun _ => ⟨am_tm 572 (by decide +kernel) rfl, am_ts 56 (by decide +kernel) rfl⟩, fun h => absurd h (by decide), fun h => absurd h (by decide), tF_numberAt_ok⟩
theorem tF_costValue_d : (am_tb MF_costValue).all (am_bD MF_costValue) = true := by decide +kernel
theorem tF_costValue_ok : am_tOk amCl amWS amNW amST amP MF_costValue := am_bT_s (FL := amFF) (AW := amAW) amFF_ok amAW_ok tF_costValue_d (by decide +kernel)
set_option maxRecDepth 100000 in
theorem kF_costValue_ok : am_mOk amCl amWS amNW amST amP MF_costValue := ⟨am_tc3 153 (by exact rfl) rfl, am_tm 8 (by decide +kernel) rfl, by decide +kernel, by decide +kernel, by decide +kernel, fun _ => ⟨am_tm 632 (by decide +kernel) rfl, am_ts 66 (by decide +kernel) rfl⟩, fun h => absurd h (by decide), fun h => absurd h (by decide), tF_costValue_ok⟩
theorem tF_expand_d : (am_tb MF_expand).all (am_bD MF_expand) = true := by decide +kernel
theorem tF_expand_ok : am_tOk amCl amWS amNW amST amP MF_expand := am_bT_s (FL := amFF) (AW := amAW) amFF_ok amAW_ok tF_expand_d (by decide +kernel)
set_option maxRecDepth 100000 in
theorem kF_expand_ok : am_mOk amCl amWS amNW amST amP MF_expand := ⟨am_tc3 97 (by exact rfl) rfl, am_tm 8 (by decide +kernel) rfl, by decide +kernel, by decide +kernel, by decide +kernel, fun _ => ⟨am_tm 576 (by decide +kernel) rfl, am_ts 57 (by decide +kernel) rfl⟩, fun h => absurd h (by decide), fun h => absurd h (by decide), tF_expand_ok⟩
theorem tF_expandNode_d : (am_tb MF_expandNode).all (am_bD MF_expandNode) = true := by decide +kernel
theorem tF_expandNode_ok : am_tOk amCl amWS amNW amST amP MF_expandNode := am_bT_s (FL := amFF) (AW := amAW) amFF_ok amAW_ok tF_expandNode_d (by decide +kernel)
set_option maxRecDepth 100000 in
theorem kF_expandNode_ok : am_mOk amCl amWS amNW amST amP MF_expandNode := ⟨am_tc3 101 (by exact rfl) rfl, am_tm 8 (by decide +kernel) rfl, by decide +kernel, by decide +kernel, by decide +kernel, fun _ => ⟨am_tm 580 (by decide +kernel) rfl, am_ts 58 (by decide +kernel) rfl⟩, fun h => absurd h (by decide), fun h => absurd h (by decide), tF_expandNode_ok⟩
theorem tF_expandColumn_d : (am_tb MF_expandColumn).all (am_bD MF_expandColumn) = true := by decide +kernel
theorem tF_expandColumn_ok : am_tOk amCl amWS amNW amST amP MF_expandColumn := am_bT_s (FL := amFF) (AW := amAW) amFF_ok amAW_ok tF_expandColumn_d (by decide +kernel)
set_option maxRecDepth 100000 in
theorem kF_expandColumn_ok : am_mOk amCl amWS amNW amST amP MF_expandColumn := ⟨am_tc3 105 (by exact rfl) rfl, am_tm 8 (by decide +kernel) rfl, by decide +kernel, by decide +kernel, by decide +kernel, fun _ => ⟨am_tm 584 (by decide +kernel) rfl, am_ts 59 (by decide +kernel) rfl⟩, fun h => absurd h (by decide), fun h => absurd h (by decide), tF_expandColumn_ok⟩
theorem tF_rowNumber_d : (am_tb MF_rowNumber).all (am_bD MF_rowNumber) = true := by decide +kernel
theorem tF_rowNumber_ok : am_tOk amCl amWS amNW amST amP MF_rowNumber := am_bT_s (FL := amFF) (AW := amAW) amFF_ok amAW_ok tF_rowNumber_d (by decide +kernel)
set_option maxRecDepth 100000 in
theorem kF_rowNumber_ok : am_mOk amCl amWS amNW amST amP MF_rowNumber := ⟨am_tc3 109 (by exact rfl) rfl, am_tm 8 (by decide +kernel) rfl, by decide +kernel, by decide +kernel, by decide +kernel, fun _ => ⟨am_tm 588 (by decide +kernel) rfl, am_ts 60 (by decide +kernel) rfl⟩, fun h => absurd h (by decide), fun h => absurd h (by decide), tF_rowNumber_ok⟩
theorem tF_auxiliaryRow_d : (am_tb MF_auxiliaryRow).all (am_bD MF_auxiliaryRow) = true := by decide +kernel
theorem tF_auxiliaryRow_ok : am_tOk amCl amWS amNW amST amP MF_auxiliaryRow := am_bT_s (FL := amFF) (AW := amAW) amFF_ok amAW_ok tF_auxiliaryRow_d (by decide +kernel)
set_option maxRecDepth 100000 in
theorem kF_auxiliaryRow_ok : am_mOk amCl amWS amNW amST amP MF_auxiliaryRow := ⟨am_tc3 113 (by exact rfl) rfl, am_tm 8 (by decide +kernel) rfl, by decide +kernel, by decide +kernel, by decide +kernel, fun _ => ⟨am_tm 592 (by decide +kernel) rfl, am_ts 61 (by decide +kernel) rfl⟩, fun h => absurd h (by decide), fun h => absurd h (by decide), tF_auxiliaryRow_ok⟩
theorem tF_squareRow_d : (am_tb MF_squareRow).all (am_bD MF_squareRow) = true := by decide +kernel
theorem tF_squareRow_ok : am_tOk amCl amWS amNW amST amP MF_squareRow := am_bT_s (FL := amFF) (AW := amAW) amFF_ok amAW_ok tF_squareRow_d (by decide +kernel)
set_option maxRecDepth 100000 in
theorem kF_squareRow_ok : am_mOk amCl amWS amNW amST amP MF_squareRow := ⟨am_tc3 120 (by exact rfl) rfl, am_tm 8 (by decide +kernel) rfl, by decide +kernel, by decide +kernel, by decide +kernel, fun h => absurd h (by decide), fun h => absurd h (by decide), fun _ => am_tm 599 (by decide +kernel) rfl, tF_squareRow_ok⟩
theorem tF_argumentSpread_d : (am_tb MF_argumentSpread).all (am_bD MF_argumentSpread) = true := by decide +kernel
theorem tF_argumentSpread_ok : am_tOk amCl amWS amNW amST amP MF_argumentSpread := am_bT_s (FL := amFF) (AW := amAW) amFF_ok amAW_ok tF_argumentSpread_d (by decide +kernel)
set_option maxRecDepth 100000 in
theorem kF_argumentSpread_ok : am_mOk amCl amWS amNW amST amP MF_argumentSpread := ⟨am_tc3 117 (by exact rfl) rfl, am_tm 8 (by decide +kernel) rfl, by decide +kernel, by decide +kernel, by decide +kernel, fun _ => ⟨am_tm 596 (by decide +kernel) rfl, am_ts 62 (by decide +kernel) rfl⟩, fun h => absurd h (by decide), fun h => absurd h (by decide), tF_argumentSpread_ok⟩
theorem tF_allRowsFit_d : (am_tb MF_allRowsFit).all (am_bD MF_allRowsFit) = true := by decide +kernel
theorem tF_allRowsFit_ok : am_tOk amCl amWS amNW amST amP MF_allRowsFit := am_bT_s (FL := amFF) (AW := amAW) amFF_ok amAW_ok tF_allRowsFit_d (by decide +kernel)
set_option maxRecDepth 100000 in
theorem kF_allRowsFit_ok : am_mOk amCl amWS amNW amST amP MF_allRowsFit := ⟨am_tc3 141 (by exact rfl) rfl, am_tm 8 (by decide +kernel) rfl, by decide +kernel, by decide +kernel, by decide +kernel, fun _ => ⟨am_tm 620 (by decide +kernel) rfl, am_ts 64 (by decide +kernel) rfl⟩, fun h => absurd h (by decide), fun h => absurd h (by decide), tF_allRowsFit_ok⟩
theorem tF_squareFits_d : (am_tb MF_squareFits).all (am_bD MF_squareFits) = true := by decide +kernel
theorem tF_squareFits_ok : am_tOk amCl amWS amNW amST amP MF_squareFits := am_bT_s (FL := amFF) (AW := amAW) amFF_ok amAW_ok tF_squareFits_d (by decide +kernel)
set_option maxRecDepth 100000 in
theorem kF_squareFits_ok : am_mOk amCl amWS amNW amST amP MF_squareFits := ⟨am_tc3 145 (by exact rfl) rfl, am_tm 8 (by decide +kernel) rfl, by decide +kernel, by decide +kernel, by decide +kernel, fun _ => ⟨am_tm 624 (by decide +kernel) rfl, am_ts 65 (by decide +kernel) rfl⟩, fun h => absurd h (by decide), fun h => absurd h (by decide), tF_squareFits_ok⟩
theorem tm_init_d : (am_tb Mm_init).all (am_bD Mm_init) = true := by decide +kernel
theorem tm_init_ok : am_tOk amCl amWS amNW amST amP Mm_init := am_bT_s (FL := amFm) (AW := amAW) amFm_ok amAW_ok tm_init_d (by decide +kernel)
set_option maxRecDepth 100000 in
theorem km_init_ok : am_mOk amCl amWS amNW amST amP Mm_init := ⟨am_tc3 166 (by exact rfl) rfl, am_tm 9 (by decide +kernel) rfl, by decide +kernel, by decide +kernel, by decide +kernel, fun h => absurd h (by decide), fun _ => ⟨rfl, am_tm 645 (by decide +kernel) rfl, rfl⟩, fun h => absurd h (by decide), tm_init_ok⟩
