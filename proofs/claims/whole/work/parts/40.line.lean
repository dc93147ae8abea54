/-! the line -/
theorem xin_mk {x : Int} (h1 : -2147483648 ≤ x) (h2 : x ≤ 2147483647) : xin x := ⟨h1, h2⟩
theorem xinl_mk {x : Int} (h1 : -9223372036854775808 ≤ x) (h2 : x ≤ 9223372036854775807) : xinl x := ⟨h1, h2⟩
theorem xbo_0 : xbo 0 := Or.inl rfl
theorem xbo_1 : xbo 1 := Or.inr rfl
section SP
variable {sc : Nat × (Nat → Int32)} {d : Nat} {Q : Option Value → am_H → Prop} {G : xG} {K : xK}
theorem sL_append {c : Int} (h0 : 0 ≤ c) (h1 : c < 65536) (hl : 0 ≤ xg G 3 1) : xc sc d ML_append [.ref 3, xI c] (xH G K) Q ↔ (if c < 33 ∨ 126 < c ∨ 20 ≤ xg G 3 1 then Q (some (xI 0)) (xH G K) else Q (some (xI 1)) (xH (xp (xp G 4 (xg G 3 1) c) 3 1 (xg G 3 1 + 1)) K)) := by
  rw [eL_append]
  simp (contextual := true) (disch := first | assumption | exact xin_g _ _ _ | exact xin_ar _ | exact xin_sc _ _ | exact xin_cmp | exact xinl_g _ _ _ | omega | exact xin_mk (by omega) (by omega) | exact xinl_mk (by omega) (by omega) | exact xbo_0 | exact xbo_1) only [rL_append_0, rL_append_1, rL_append_3, rL_append_6, rL_append_7, rL_append_9, rL_append_12, rL_append_13, rL_append_16, rL_append_18, rL_append_21, rL_append_22, rL_append_23, rL_append_24, rL_append_27, rL_append_28, rL_append_31, rL_append_32, rL_append_33, rL_append_34, rL_append_35, rL_append_38, rL_append_39, rL_append_40, rL_append_43, rL_append_44, xg_cell, Option.toList_some, Option.toList_none, List.singleton_append, List.append_nil, List.nil_append, List.cons_append]
  grind
theorem sC_type {c : Int} (h0 : 0 ≤ c) (h1 : c < 65536) (hl : 0 ≤ xg G 3 1) : xc sc (d + 1) MC_type [.ref 2, xI c] (xH G K) Q ↔ (if c < 33 ∨ 126 < c ∨ 20 ≤ xg G 3 1 then Q (some (xI 0)) (xH G K) else Q (some (xI 1)) (xH (xp (xp G 4 (xg G 3 1) c) 3 1 (xg G 3 1 + 1)) K)) := by
  rw [eC_type]
  simp (contextual := true) (disch := first | assumption | exact xin_g _ _ _ | exact xin_ar _ | exact xin_sc _ _ | exact xin_cmp | exact xinl_g _ _ _ | omega | exact xin_mk (by omega) (by omega) | exact xinl_mk (by omega) (by omega) | exact xbo_0 | exact xbo_1) only [rC_type_0, rC_type_1, rC_type_4, rC_type_5, rC_type_8, ↓sL_append, xg_cell, Option.toList_some, Option.toList_none, List.singleton_append, List.append_nil, List.nil_append, List.cons_append]
theorem sC_wipe : xc sc d MC_wipe [.ref 2] (xH G K) Q ↔ Q none (xH (xp G 3 1 0) K) := by
  rw [eC_wipe]
  simp (contextual := true) (disch := first | assumption | exact xin_g _ _ _ | exact xin_ar _ | exact xin_sc _ _ | exact xin_cmp | exact xinl_g _ _ _ | omega | exact xin_mk (by omega) (by omega) | exact xinl_mk (by omega) (by omega) | exact xbo_0 | exact xbo_1) only [rC_wipe_0, rC_wipe_1, rC_wipe_4, rC_wipe_5, rC_wipe_8, xg_cell, Option.toList_some, Option.toList_none, List.singleton_append, List.append_nil, List.nil_append, List.cons_append]
theorem sm_type {c : Int} (h0 : 0 ≤ c) (h1 : c < 65536) (hl : 0 ≤ xg G 33 1) (hm : xg G 33 1 ≤ 20) : xc sc d Mm_type [.ref 33, xI c] (xH G K) Q ↔ (if c < 33 ∨ 126 < c ∨ xg G 33 1 = 20 then Q (some (xI 0)) (xH G K) else Q (some (xI 1)) (xH (xp (xp G 34 (xg G 33 1) c) 33 1 (xg G 33 1 + 1)) K)) := by
  rw [em_type]
  simp (contextual := true) (disch := first | assumption | exact xin_g _ _ _ | exact xin_ar _ | exact xin_sc _ _ | exact xin_cmp | exact xinl_g _ _ _ | omega | exact xin_mk (by omega) (by omega) | exact xinl_mk (by omega) (by omega) | exact xbo_0 | exact xbo_1) only [rm_type_0, rm_type_1, rm_type_3, rm_type_6, rm_type_7, rm_type_9, rm_type_12, rm_type_13, rm_type_16, rm_type_18, rm_type_21, rm_type_22, rm_type_23, rm_type_24, rm_type_27, rm_type_28, rm_type_31, rm_type_32, rm_type_33, rm_type_34, rm_type_35, rm_type_38, rm_type_39, rm_type_40, rm_type_43, rm_type_44, xg_cell, Option.toList_some, Option.toList_none, List.singleton_append, List.append_nil, List.nil_append, List.cons_append]
  grind
theorem sm_wipe : xc sc d Mm_wipe [.ref 33] (xH G K) Q ↔ Q none (xH (xp G 33 1 0) K) := by
  rw [em_wipe]
  simp (contextual := true) (disch := first | assumption | exact xin_g _ _ _ | exact xin_ar _ | exact xin_sc _ _ | exact xin_cmp | exact xinl_g _ _ _ | omega | exact xin_mk (by omega) (by omega) | exact xinl_mk (by omega) (by omega) | exact xbo_0 | exact xbo_1) only [rm_wipe_0, rm_wipe_1, rm_wipe_2, rm_wipe_5, xg_cell, Option.toList_some, Option.toList_none, List.singleton_append, List.append_nil, List.nil_append, List.cons_append]
/-! leaves of the graph -/
theorem sG_has {k : Int} (hk : xin k) : xc sc d MG_has [.ref 9, xI k] (xH G K) Q ↔ Q (some (xI (if 0 ≤ k ∧ k < xg G 9 9 then 1 else 0))) (xH G K) := by
  rw [eG_has]
  simp (contextual := true) (disch := first | assumption | exact xin_g _ _ _ | exact xin_ar _ | exact xin_sc _ _ | exact xin_cmp | exact xinl_g _ _ _ | omega | exact xin_mk (by omega) (by omega) | exact xinl_mk (by omega) (by omega) | exact xbo_0 | exact xbo_1) only [rG_has_0, rG_has_1, rG_has_4, rG_has_5, rG_has_6, rG_has_9, rG_has_12, rG_has_13, rG_has_16, rG_has_17, xg_cell, Option.toList_some, Option.toList_none, List.singleton_append, List.append_nil, List.nil_append, List.cons_append]
  grind
theorem sG_isInput {k : Int} (h0 : 0 ≤ k) (h1 : k < 36) : xc sc d MG_isInput [.ref 9, xI k] (xH G K) Q ↔ Q (some (xI (if xg G 10 k = 1 ∨ xg G 10 k = 2 then 1 else 0))) (xH G K) := by
  rw [eG_isInput]
  simp (contextual := true) (disch := first | assumption | exact xin_g _ _ _ | exact xin_ar _ | exact xin_sc _ _ | exact xin_cmp | exact xinl_g _ _ _ | omega | exact xin_mk (by omega) (by omega) | exact xinl_mk (by omega) (by omega) | exact xbo_0 | exact xbo_1) only [rG_isInput_0, rG_isInput_1, rG_isInput_4, rG_isInput_5, rG_isInput_6, rG_isInput_7, rG_isInput_10, rG_isInput_11, rG_isInput_14, rG_isInput_15, rG_isInput_16, rG_isInput_17, rG_isInput_20, rG_isInput_21, rG_isInput_24, rG_isInput_25, xg_cell, Option.toList_some, Option.toList_none, List.singleton_append, List.append_nil, List.nil_append, List.cons_append]
  grind
theorem sG_argument {k p : Int} (h0 : 0 ≤ 3 * k + p) (h1 : 3 * k + p < 108) : xc sc d MG_argument [.ref 9, xI k, xI p] (xH G K) Q ↔ Q (some (xI (xg G 12 (3 * k + p)))) (xH G K) := by
  rw [eG_argument]
  simp (contextual := true) (disch := first | assumption | exact xin_g _ _ _ | exact xin_ar _ | exact xin_sc _ _ | exact xin_cmp | exact xinl_g _ _ _ | omega | exact xin_mk (by omega) (by omega) | exact xinl_mk (by omega) (by omega) | exact xbo_0 | exact xbo_1) only [rG_argument_0, rG_argument_1, rG_argument_4, rG_argument_5, rG_argument_6, rG_argument_7, rG_argument_8, rG_argument_9, rG_argument_10, xg_cell, Option.toList_some, Option.toList_none, List.singleton_append, List.append_nil, List.nil_append, List.cons_append]
theorem sG_reachOrZero {k : Int} (h0 : -1 ≤ k) (h1 : k < 36) : xc sc d MG_reachOrZero [.ref 9, xI k] (xH G K) Q ↔ Q (some (xJ (if k = -1 then 0 else xg G 13 k))) (xH G K) := by
  rw [eG_reachOrZero]
  simp (contextual := true) (disch := first | assumption | exact xin_g _ _ _ | exact xin_ar _ | exact xin_sc _ _ | exact xin_cmp | exact xinl_g _ _ _ | omega | exact xin_mk (by omega) (by omega) | exact xinl_mk (by omega) (by omega) | exact xbo_0 | exact xbo_1) only [rG_reachOrZero_0, rG_reachOrZero_1, rG_reachOrZero_2, rG_reachOrZero_5, rG_reachOrZero_6, rG_reachOrZero_9, rG_reachOrZero_10, rG_reachOrZero_13, rG_reachOrZero_14, rG_reachOrZero_15, rG_reachOrZero_16, xg_cell, Option.toList_some, Option.toList_none, List.singleton_append, List.append_nil, List.nil_append, List.cons_append]
  grind
theorem sG_least {k : Int} (h0 : 0 ≤ k) (h1 : k < 36) : xc sc d MG_least [.ref 9, xI k] (xH G K) Q ↔ Q (some (xI (if xg G 10 k = 1 then -20 else if xg G 11 k = 112 then 0 else -9))) (xH G K) := by
  rw [eG_least]
  simp (contextual := true) (disch := first | assumption | exact xin_g _ _ _ | exact xin_ar _ | exact xin_sc _ _ | exact xin_cmp | exact xinl_g _ _ _ | omega | exact xin_mk (by omega) (by omega) | exact xinl_mk (by omega) (by omega) | exact xbo_0 | exact xbo_1) only [rG_least_0, rG_least_1, rG_least_4, rG_least_5, rG_least_6, rG_least_7, rG_least_10, rG_least_12, rG_least_13, rG_least_14, rG_least_17, rG_least_18, rG_least_19, rG_least_21, rG_least_24, rG_least_25, rG_least_28, rG_least_30, xg_cell, Option.toList_some, Option.toList_none, List.singleton_append, List.append_nil, List.nil_append, List.cons_append]
  grind
theorem sG_greatest {k : Int} (h0 : 0 ≤ k) (h1 : k < 36) : xc sc d MG_greatest [.ref 9, xI k] (xH G K) Q ↔ Q (some (xI (if xg G 10 k = 1 then 20 else if xg G 11 k = 113 then 0 else 9))) (xH G K) := by
  rw [eG_greatest]
  simp (contextual := true) (disch := first | assumption | exact xin_g _ _ _ | exact xin_ar _ | exact xin_sc _ _ | exact xin_cmp | exact xinl_g _ _ _ | omega | exact xin_mk (by omega) (by omega) | exact xinl_mk (by omega) (by omega) | exact xbo_0 | exact xbo_1) only [rG_greatest_0, rG_greatest_1, rG_greatest_4, rG_greatest_5, rG_greatest_6, rG_greatest_7, rG_greatest_10, rG_greatest_12, rG_greatest_13, rG_greatest_14, rG_greatest_17, rG_greatest_18, rG_greatest_19, rG_greatest_21, rG_greatest_24, rG_greatest_25, rG_greatest_28, rG_greatest_30, xg_cell, Option.toList_some, Option.toList_none, List.singleton_append, List.append_nil, List.nil_append, List.cons_append]
  grind
theorem sG_argumentValue {k p : Int} (h0 : 0 ≤ 3 * k + p) (h1 : 3 * k + p < 108) (h2 : -1 ≤ xg G 12 (3 * k + p)) (h3 : xg G 12 (3 * k + p) < 36) : xc sc (d + 1) MG_argumentValue [.ref 9, xI k, xI p] (xH G K) Q ↔ Q (some (xI (if xg G 12 (3 * k + p) = -1 then 0 else xg G 18 (xg G 12 (3 * k + p))))) (xH G K) := by
  rw [eG_argumentValue]
  simp (contextual := true) (disch := first | assumption | exact xin_g _ _ _ | exact xin_ar _ | exact xin_sc _ _ | exact xin_cmp | exact xinl_g _ _ _ | omega | exact xin_mk (by omega) (by omega) | exact xinl_mk (by omega) (by omega) | exact xbo_0 | exact xbo_1) only [rG_argumentValue_0, rG_argumentValue_1, rG_argumentValue_2, rG_argumentValue_3, rG_argumentValue_6, rG_argumentValue_7, rG_argumentValue_8, rG_argumentValue_9, rG_argumentValue_12, rG_argumentValue_13, rG_argumentValue_16, rG_argumentValue_17, rG_argumentValue_20, rG_argumentValue_21, rG_argumentValue_22, ↓sG_argument, xg_cell, Option.toList_some, Option.toList_none, List.singleton_append, List.append_nil, List.nil_append, List.cons_append]
  grind
theorem sG_argumentSign {k p : Int} (h0 : 0 ≤ 3 * k + p) (h1 : 3 * k + p < 108) (h2 : -1 ≤ xg G 12 (3 * k + p)) (h3 : xg G 12 (3 * k + p) < 36) : xc sc (d + 1) MG_argumentSign [.ref 9, xI k, xI p] (xH G K) Q ↔ Q (some (xI (if xg G 12 (3 * k + p) = -1 then 0 else xg G 14 (xg G 12 (3 * k + p))))) (xH G K) := by
  rw [eG_argumentSign]
  simp (contextual := true) (disch := first | assumption | exact xin_g _ _ _ | exact xin_ar _ | exact xin_sc _ _ | exact xin_cmp | exact xinl_g _ _ _ | omega | exact xin_mk (by omega) (by omega) | exact xinl_mk (by omega) (by omega) | exact xbo_0 | exact xbo_1) only [rG_argumentSign_0, rG_argumentSign_1, rG_argumentSign_2, rG_argumentSign_3, rG_argumentSign_6, rG_argumentSign_7, rG_argumentSign_8, rG_argumentSign_9, rG_argumentSign_12, rG_argumentSign_13, rG_argumentSign_16, rG_argumentSign_17, rG_argumentSign_20, rG_argumentSign_21, rG_argumentSign_22, ↓sG_argument, xg_cell, Option.toList_some, Option.toList_none, List.singleton_append, List.append_nil, List.nil_append, List.cons_append]
  grind
end SP
