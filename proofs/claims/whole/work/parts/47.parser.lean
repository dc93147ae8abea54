/-! the class's parser on its cells -/
def gAh (G : xG) : Int := if ¬ xg G 8 3 = 0 ∨ ¬ xg G 8 2 < xg G 3 1 then 0 else xg G 4 (xg G 8 2)
def gAdv (G : xG) : xG := xp G 8 2 (xg G 8 2 + 1)
def gBrk (G : xG) : xG := xp G 8 3 1
def gAdd (G : xG) (k v : Int) : xG := if xg G 5 2 < 20 then xp (xp (xp G 6 (xg G 5 2) k) 7 (xg G 5 2) v) 5 2 (xg G 5 2 + 1) else G
/-- place and lengths are in order, the line's signs are chars -/
def okP (G : xG) : Prop := 0 ≤ xg G 8 2 ∧ xg G 8 2 ≤ xg G 3 1 ∧ xg G 3 1 ≤ 20 ∧ 0 ≤ xg G 5 2 ∧ xg G 5 2 ≤ 20 ∧ (∀ i, 0 ≤ i → i < xg G 3 1 → 0 ≤ xg G 4 i ∧ xg G 4 i < 65536)
theorem okP_ah {G : xG} (h : okP G) : 0 ≤ gAh G ∧ gAh G < 65536 := by
  unfold gAh
  split
  · omega
  · rename_i hc
    obtain ⟨h1, h2, h3, h4, h5, h6⟩ := h
    exact h6 _ h1 (by omega)
theorem okP_adv {G : xG} (h : okP G) (ha : ¬ gAh G = 0) : okP (gAdv G) := by
  obtain ⟨h1, h2, h3, h4, h5, h6⟩ := h
  have hc : xg G 8 2 < xg G 3 1 := by
    unfold gAh at ha
    split at ha
    · exact absurd rfl ha
    · omega
  unfold okP gAdv
  rw [xg_self ⟨by omega, by omega⟩]
  simp only [xg_cell (show ¬ 3 = 8 by decide), xg_cell (show ¬ 5 = 8 by decide), xg_cell (show ¬ 4 = 8 by decide)]
  exact ⟨by omega, by omega, h3, h4, h5, h6⟩
theorem okP_brk {G : xG} {x : Int} (h : okP G) : okP (xp G 8 3 x) := by
  obtain ⟨h1, h2, h3, h4, h5, h6⟩ := h
  unfold okP
  rw [xg_idx (i := 3) (j := 2) (by decide) (by decide) (by decide)]
  simp only [xg_cell (show ¬ 3 = 8 by decide), xg_cell (show ¬ 5 = 8 by decide), xg_cell (show ¬ 4 = 8 by decide)]
  exact ⟨h1, h2, h3, h4, h5, h6⟩
theorem okP_add {G : xG} {k v : Int} (h : okP G) : okP (gAdd G k v) := by
  obtain ⟨h1, h2, h3, h4, h5, h6⟩ := h
  unfold gAdd
  split
  · unfold okP
    rw [xg_self ⟨by omega, by omega⟩]
    simp only [xg_cell (show ¬ 8 = 5 by decide), xg_cell (show ¬ 8 = 7 by decide), xg_cell (show ¬ 8 = 6 by decide), xg_cell (show ¬ 3 = 5 by decide), xg_cell (show ¬ 3 = 7 by decide), xg_cell (show ¬ 3 = 6 by decide), xg_cell (show ¬ 4 = 5 by decide), xg_cell (show ¬ 4 = 7 by decide), xg_cell (show ¬ 4 = 6 by decide)]
    exact ⟨h1, h2, h3, by omega, by omega, h6⟩
  · exact ⟨h1, h2, h3, h4, h5, h6⟩
def gDg : Nat → Int → xG → Int × xG
  | 0, v, G => (v, G)
  | n + 1, v, G => if pdg (gAh G) = true then gDg n (10 * v + (gAh G - 48)) (gAdv G) else (v, G)
def gX (c : Int) (G : xG) : xG := if gAh G = c then gAdv G else gBrk G
theorem pdg_nz {c : Int} (h : pdg c = true) : ¬ c = 0 ∧ 48 ≤ c ∧ c ≤ 57 := by
  simp only [pdg, Bool.and_eq_true, decide_eq_true_eq] at h
  omega
theorem okP_dg : ∀ (n : Nat) (v : Int) (G : xG), okP G → okP (gDg n v G).2
  | 0, v, G, h => h
  | n + 1, v, G, h => by
    unfold gDg
    split
    · rename_i hd
      exact okP_dg n _ _ (okP_adv h (pdg_nz hd).1)
    · exact h
theorem okP_X {c : Int} {G : xG} (hc : ¬ c = 0) (h : okP G) : okP (gX c G) := by
  unfold gX
  split
  · rename_i he
    exact okP_adv h (by rw [he]; exact hc)
  · exact okP_brk h
section SP
variable {sc : Nat × (Nat → Int32)} {d : Nat} {Q : Option Value → am_H → Prop} {G : xG} {K : xK} {h : am_H}
theorem sR_ahead (hP : okP G) : xc sc d MR_ahead [.ref 8] (xH G K) Q ↔ Q (some (xI (gAh G))) (xH G K) := by
  rw [eR_ahead]
  obtain ⟨h1, h2, h3, h4, h5, h6⟩ := hP
  have h7 : xg G 8 2 < xg G 3 1 → 0 ≤ xg G 4 (xg G 8 2) ∧ xg G 4 (xg G 8 2) < 65536 := fun q => h6 _ h1 q
  simp (contextual := true) (disch := first | assumption | exact xin_g _ _ _ | exact xin_ar _ | exact xin_sc _ _ | exact xin_cmp | exact xin_and | exact xin_or | exact xinl_g _ _ _ | omega | exact xin_mk (by omega) (by omega) | exact xinl_mk (by omega) (by omega) | exact xbo_0 | exact xbo_1 | exact xin_sl | exact xin_fa | exact xbo_ad | exact xin_bo xbo_ad | exact xin_mb | exact xin_A | exact xin_op | ((repeat refine gN_q ?_ (by omega) (by omega)); assumption)) only [rR_ahead_0, rR_ahead_1, rR_ahead_4, rR_ahead_7, rR_ahead_8, rR_ahead_11, rR_ahead_12, rR_ahead_15, rR_ahead_18, rR_ahead_21, rR_ahead_22, rR_ahead_25, rR_ahead_26, rR_ahead_29, rR_ahead_32, rR_ahead_33, rR_ahead_36, rR_ahead_37, xg_cell, Option.toList_some, Option.toList_none, List.singleton_append, List.append_nil, List.nil_append, List.cons_append, gAh]
  grind
theorem sR_isDigit {c : Int} (hc : xin c) : xc sc d MR_isDigit [xI c] h Q ↔ Q (some (xI (if pdg c = true then 1 else 0))) h := by
  rw [eR_isDigit]
  simp (contextual := true) (disch := first | assumption | exact xin_g _ _ _ | exact xin_ar _ | exact xin_sc _ _ | exact xin_cmp | exact xin_and | exact xin_or | exact xinl_g _ _ _ | omega | exact xin_mk (by omega) (by omega) | exact xinl_mk (by omega) (by omega) | exact xbo_0 | exact xbo_1 | exact xin_sl | exact xin_fa | exact xbo_ad | exact xin_bo xbo_ad | exact xin_mb | exact xin_A | exact xin_op | ((repeat refine gN_q ?_ (by omega) (by omega)); assumption)) only [rR_isDigit_0, rR_isDigit_1, rR_isDigit_3, rR_isDigit_6, rR_isDigit_7, rR_isDigit_9, rR_isDigit_12, rR_isDigit_13, rR_isDigit_16, rR_isDigit_17, xg_cell, Option.toList_some, Option.toList_none, List.singleton_append, List.append_nil, List.nil_append, List.cons_append, pdg]
  grind
theorem sR_functionOf {c : Int} (hc : xin c) : xc sc d MR_functionOf [xI c] h Q ↔ Q (some (xI (pfn c))) h := by
  rw [eR_functionOf]
  by_cases h1 : c = 65
  · simp (contextual := true) (disch := first | assumption | exact xin_g _ _ _ | exact xin_ar _ | exact xin_sc _ _ | exact xin_cmp | exact xin_and | exact xin_or | exact xinl_g _ _ _ | omega | exact xin_mk (by omega) (by omega) | exact xinl_mk (by omega) (by omega) | exact xbo_0 | exact xbo_1 | exact xin_sl | exact xin_fa | exact xbo_ad | exact xin_bo xbo_ad | exact xin_mb | exact xin_A | exact xin_op | ((repeat refine gN_q ?_ (by omega) (by omega)); assumption)) only [h1, rR_functionOf_0, rR_functionOf_1_65, rR_functionOf_1_76, rR_functionOf_1_77, rR_functionOf_1_80, rR_functionOf_1_83, rR_functionOf_1_d, rR_functionOf_52, rR_functionOf_54, rR_functionOf_55, rR_functionOf_57, rR_functionOf_58, rR_functionOf_60, rR_functionOf_61, rR_functionOf_63, rR_functionOf_64, rR_functionOf_66, rR_functionOf_67, rR_functionOf_68, xg_cell, Option.toList_some, Option.toList_none, List.singleton_append, List.append_nil, List.nil_append, List.cons_append, pfn, false_and, if_false, if_true, Int.reduceAdd, Int.reduceSub, Int.reduceMul, Int.reduceNeg, Int.reduceLE, Int.reduceLT, Int.reduceEq, false_implies, true_implies, not_true_eq_false, not_false_eq_true, and_true, true_and, xar_0, xar_1, xar_2, xar_3, xar_4, xar_5, xar_6, xar_7, xar_8, xar_9, xar_10, xar_11, xar_12]
  · by_cases h2 : c = 76
    · simp (contextual := true) (disch := first | assumption | exact xin_g _ _ _ | exact xin_ar _ | exact xin_sc _ _ | exact xin_cmp | exact xin_and | exact xin_or | exact xinl_g _ _ _ | omega | exact xin_mk (by omega) (by omega) | exact xinl_mk (by omega) (by omega) | exact xbo_0 | exact xbo_1 | exact xin_sl | exact xin_fa | exact xbo_ad | exact xin_bo xbo_ad | exact xin_mb | exact xin_A | exact xin_op | ((repeat refine gN_q ?_ (by omega) (by omega)); assumption)) only [h2, rR_functionOf_0, rR_functionOf_1_65, rR_functionOf_1_76, rR_functionOf_1_77, rR_functionOf_1_80, rR_functionOf_1_83, rR_functionOf_1_d, rR_functionOf_52, rR_functionOf_54, rR_functionOf_55, rR_functionOf_57, rR_functionOf_58, rR_functionOf_60, rR_functionOf_61, rR_functionOf_63, rR_functionOf_64, rR_functionOf_66, rR_functionOf_67, rR_functionOf_68, xg_cell, Option.toList_some, Option.toList_none, List.singleton_append, List.append_nil, List.nil_append, List.cons_append, pfn, false_and, if_false, if_true, Int.reduceAdd, Int.reduceSub, Int.reduceMul, Int.reduceNeg, Int.reduceLE, Int.reduceLT, Int.reduceEq, false_implies, true_implies, not_true_eq_false, not_false_eq_true, and_true, true_and, xar_0, xar_1, xar_2, xar_3, xar_4, xar_5, xar_6, xar_7, xar_8, xar_9, xar_10, xar_11, xar_12]
    · by_cases h3 : c = 77
      · simp (contextual := true) (disch := first | assumption | exact xin_g _ _ _ | exact xin_ar _ | exact xin_sc _ _ | exact xin_cmp | exact xin_and | exact xin_or | exact xinl_g _ _ _ | omega | exact xin_mk (by omega) (by omega) | exact xinl_mk (by omega) (by omega) | exact xbo_0 | exact xbo_1 | exact xin_sl | exact xin_fa | exact xbo_ad | exact xin_bo xbo_ad | exact xin_mb | exact xin_A | exact xin_op | ((repeat refine gN_q ?_ (by omega) (by omega)); assumption)) only [h3, rR_functionOf_0, rR_functionOf_1_65, rR_functionOf_1_76, rR_functionOf_1_77, rR_functionOf_1_80, rR_functionOf_1_83, rR_functionOf_1_d, rR_functionOf_52, rR_functionOf_54, rR_functionOf_55, rR_functionOf_57, rR_functionOf_58, rR_functionOf_60, rR_functionOf_61, rR_functionOf_63, rR_functionOf_64, rR_functionOf_66, rR_functionOf_67, rR_functionOf_68, xg_cell, Option.toList_some, Option.toList_none, List.singleton_append, List.append_nil, List.nil_append, List.cons_append, pfn, false_and, if_false, if_true, Int.reduceAdd, Int.reduceSub, Int.reduceMul, Int.reduceNeg, Int.reduceLE, Int.reduceLT, Int.reduceEq, false_implies, true_implies, not_true_eq_false, not_false_eq_true, and_true, true_and, xar_0, xar_1, xar_2, xar_3, xar_4, xar_5, xar_6, xar_7, xar_8, xar_9, xar_10, xar_11, xar_12]
      · by_cases h4 : c = 80
        · simp (contextual := true) (disch := first | assumption | exact xin_g _ _ _ | exact xin_ar _ | exact xin_sc _ _ | exact xin_cmp | exact xin_and | exact xin_or | exact xinl_g _ _ _ | omega | exact xin_mk (by omega) (by omega) | exact xinl_mk (by omega) (by omega) | exact xbo_0 | exact xbo_1 | exact xin_sl | exact xin_fa | exact xbo_ad | exact xin_bo xbo_ad | exact xin_mb | exact xin_A | exact xin_op | ((repeat refine gN_q ?_ (by omega) (by omega)); assumption)) only [h4, rR_functionOf_0, rR_functionOf_1_65, rR_functionOf_1_76, rR_functionOf_1_77, rR_functionOf_1_80, rR_functionOf_1_83, rR_functionOf_1_d, rR_functionOf_52, rR_functionOf_54, rR_functionOf_55, rR_functionOf_57, rR_functionOf_58, rR_functionOf_60, rR_functionOf_61, rR_functionOf_63, rR_functionOf_64, rR_functionOf_66, rR_functionOf_67, rR_functionOf_68, xg_cell, Option.toList_some, Option.toList_none, List.singleton_append, List.append_nil, List.nil_append, List.cons_append, pfn, false_and, if_false, if_true, Int.reduceAdd, Int.reduceSub, Int.reduceMul, Int.reduceNeg, Int.reduceLE, Int.reduceLT, Int.reduceEq, false_implies, true_implies, not_true_eq_false, not_false_eq_true, and_true, true_and, xar_0, xar_1, xar_2, xar_3, xar_4, xar_5, xar_6, xar_7, xar_8, xar_9, xar_10, xar_11, xar_12]
        · by_cases h5 : c = 83
          · simp (contextual := true) (disch := first | assumption | exact xin_g _ _ _ | exact xin_ar _ | exact xin_sc _ _ | exact xin_cmp | exact xin_and | exact xin_or | exact xinl_g _ _ _ | omega | exact xin_mk (by omega) (by omega) | exact xinl_mk (by omega) (by omega) | exact xbo_0 | exact xbo_1 | exact xin_sl | exact xin_fa | exact xbo_ad | exact xin_bo xbo_ad | exact xin_mb | exact xin_A | exact xin_op | ((repeat refine gN_q ?_ (by omega) (by omega)); assumption)) only [h5, rR_functionOf_0, rR_functionOf_1_65, rR_functionOf_1_76, rR_functionOf_1_77, rR_functionOf_1_80, rR_functionOf_1_83, rR_functionOf_1_d, rR_functionOf_52, rR_functionOf_54, rR_functionOf_55, rR_functionOf_57, rR_functionOf_58, rR_functionOf_60, rR_functionOf_61, rR_functionOf_63, rR_functionOf_64, rR_functionOf_66, rR_functionOf_67, rR_functionOf_68, xg_cell, Option.toList_some, Option.toList_none, List.singleton_append, List.append_nil, List.nil_append, List.cons_append, pfn, false_and, if_false, if_true, Int.reduceAdd, Int.reduceSub, Int.reduceMul, Int.reduceNeg, Int.reduceLE, Int.reduceLT, Int.reduceEq, false_implies, true_implies, not_true_eq_false, not_false_eq_true, and_true, true_and, xar_0, xar_1, xar_2, xar_3, xar_4, xar_5, xar_6, xar_7, xar_8, xar_9, xar_10, xar_11, xar_12]
          · have hd : ¬ c = 65 ∧ ¬ c = 76 ∧ ¬ c = 77 ∧ ¬ c = 80 ∧ ¬ c = 83 := ⟨h1, h2, h3, h4, h5⟩
            simp (contextual := true) (disch := first | assumption | exact xin_g _ _ _ | exact xin_ar _ | exact xin_sc _ _ | exact xin_cmp | exact xin_and | exact xin_or | exact xinl_g _ _ _ | omega | exact xin_mk (by omega) (by omega) | exact xinl_mk (by omega) (by omega) | exact xbo_0 | exact xbo_1 | exact xin_sl | exact xin_fa | exact xbo_ad | exact xin_bo xbo_ad | exact xin_mb | exact xin_A | exact xin_op | ((repeat refine gN_q ?_ (by omega) (by omega)); assumption)) only [h1, h2, h3, h4, h5, rR_functionOf_0, rR_functionOf_1_65, rR_functionOf_1_76, rR_functionOf_1_77, rR_functionOf_1_80, rR_functionOf_1_83, rR_functionOf_1_d, rR_functionOf_52, rR_functionOf_54, rR_functionOf_55, rR_functionOf_57, rR_functionOf_58, rR_functionOf_60, rR_functionOf_61, rR_functionOf_63, rR_functionOf_64, rR_functionOf_66, rR_functionOf_67, rR_functionOf_68, xg_cell, Option.toList_some, Option.toList_none, List.singleton_append, List.append_nil, List.nil_append, List.cons_append, pfn, false_and, if_false, if_true, Int.reduceAdd, Int.reduceSub, Int.reduceMul, Int.reduceNeg, Int.reduceLE, Int.reduceLT, Int.reduceEq, false_implies, true_implies, not_true_eq_false, not_false_eq_true, and_true, true_and, xar_0, xar_1, xar_2, xar_3, xar_4, xar_5, xar_6, xar_7, xar_8, xar_9, xar_10, xar_11, xar_12]
theorem sS_add {k v : Int} (h0 : 0 ≤ xg G 5 2) : xc sc d MS_add [.ref 5, xI k, xI v] (xH G K) Q ↔ Q none (xH (gAdd G k v) K) := by
  rw [eS_add]
  by_cases hc : xg G 5 2 < 20
  · simp (contextual := true) (disch := first | assumption | exact xin_g _ _ _ | exact xin_ar _ | exact xin_sc _ _ | exact xin_cmp | exact xin_and | exact xin_or | exact xinl_g _ _ _ | omega | exact xin_mk (by omega) (by omega) | exact xinl_mk (by omega) (by omega) | exact xbo_0 | exact xbo_1 | exact xin_sl | exact xin_fa | exact xbo_ad | exact xin_bo xbo_ad | exact xin_mb | exact xin_A | exact xin_op | ((repeat refine gN_q ?_ (by omega) (by omega)); assumption)) only [rS_add_0, rS_add_1, rS_add_4, rS_add_6, rS_add_9, rS_add_10, rS_add_13, rS_add_14, rS_add_17, rS_add_18, rS_add_19, rS_add_20, rS_add_23, rS_add_24, rS_add_27, rS_add_28, rS_add_29, rS_add_30, rS_add_31, rS_add_34, rS_add_35, rS_add_36, rS_add_39, xg_cell, Option.toList_some, Option.toList_none, List.singleton_append, List.append_nil, List.nil_append, List.cons_append, gAdd, hc, false_and, if_false, if_true, Int.reduceAdd, Int.reduceSub, Int.reduceMul, Int.reduceNeg, Int.reduceLE, Int.reduceLT, Int.reduceEq, false_implies, true_implies, not_true_eq_false, not_false_eq_true, and_true, true_and, xar_0, xar_1, xar_2, xar_3, xar_4, xar_5, xar_6, xar_7, xar_8, xar_9, xar_10, xar_11, xar_12]
    grind
  · simp (contextual := true) (disch := first | assumption | exact xin_g _ _ _ | exact xin_ar _ | exact xin_sc _ _ | exact xin_cmp | exact xin_and | exact xin_or | exact xinl_g _ _ _ | omega | exact xin_mk (by omega) (by omega) | exact xinl_mk (by omega) (by omega) | exact xbo_0 | exact xbo_1 | exact xin_sl | exact xin_fa | exact xbo_ad | exact xin_bo xbo_ad | exact xin_mb | exact xin_A | exact xin_op | ((repeat refine gN_q ?_ (by omega) (by omega)); assumption)) only [rS_add_0, rS_add_1, rS_add_4, rS_add_6, rS_add_9, rS_add_10, rS_add_13, rS_add_14, rS_add_17, rS_add_18, rS_add_19, rS_add_20, rS_add_23, rS_add_24, rS_add_27, rS_add_28, rS_add_29, rS_add_30, rS_add_31, rS_add_34, rS_add_35, rS_add_36, rS_add_39, xg_cell, Option.toList_some, Option.toList_none, List.singleton_append, List.append_nil, List.nil_append, List.cons_append, gAdd, hc, false_and, if_false, if_true, Int.reduceAdd, Int.reduceSub, Int.reduceMul, Int.reduceNeg, Int.reduceLE, Int.reduceLT, Int.reduceEq, false_implies, true_implies, not_true_eq_false, not_false_eq_true, and_true, true_and, xar_0, xar_1, xar_2, xar_3, xar_4, xar_5, xar_6, xar_7, xar_8, xar_9, xar_10, xar_11, xar_12]
    grind
theorem sS_addP {k v : Int} (hP : okP G) : xc sc d MS_add [.ref 5, xI k, xI v] (xH G K) Q ↔ Q none (xH (gAdd G k v) K) := sS_add hP.2.2.2.1
theorem sR_expect {c : Int} (hP : okP G) (hc : xin c) : xc sc (d + 1) MR_expect [.ref 8, xI c] (xH G K) Q ↔ Q none (xH (gX c G) K) := by
  rw [eR_expect]
  obtain ⟨a0, a1⟩ := okP_ah hP
  by_cases he : gAh G = c
  · simp (contextual := true) (disch := first | assumption | exact xin_g _ _ _ | exact xin_ar _ | exact xin_sc _ _ | exact xin_cmp | exact xin_and | exact xin_or | exact xinl_g _ _ _ | omega | exact xin_mk (by omega) (by omega) | exact xinl_mk (by omega) (by omega) | exact xbo_0 | exact xbo_1 | exact xin_sl | exact xin_fa | exact xbo_ad | exact xin_bo xbo_ad | exact xin_mb | exact xin_A | exact xin_op | ((repeat refine gN_q ?_ (by omega) (by omega)); assumption)) only [rR_expect_0, rR_expect_1, rR_expect_4, rR_expect_5, rR_expect_8, rR_expect_9, rR_expect_10, rR_expect_13, rR_expect_14, rR_expect_15, rR_expect_18, rR_expect_21, rR_expect_22, rR_expect_23, rR_expect_26, ↓sR_ahead, xg_cell, Option.toList_some, Option.toList_none, List.singleton_append, List.append_nil, List.nil_append, List.cons_append, gX, gAdv, gBrk, he, false_and, if_false, if_true, Int.reduceAdd, Int.reduceSub, Int.reduceMul, Int.reduceNeg, Int.reduceLE, Int.reduceLT, Int.reduceEq, false_implies, true_implies, not_true_eq_false, not_false_eq_true, and_true, true_and, xar_0, xar_1, xar_2, xar_3, xar_4, xar_5, xar_6, xar_7, xar_8, xar_9, xar_10, xar_11, xar_12]
  · simp (contextual := true) (disch := first | assumption | exact xin_g _ _ _ | exact xin_ar _ | exact xin_sc _ _ | exact xin_cmp | exact xin_and | exact xin_or | exact xinl_g _ _ _ | omega | exact xin_mk (by omega) (by omega) | exact xinl_mk (by omega) (by omega) | exact xbo_0 | exact xbo_1 | exact xin_sl | exact xin_fa | exact xbo_ad | exact xin_bo xbo_ad | exact xin_mb | exact xin_A | exact xin_op | ((repeat refine gN_q ?_ (by omega) (by omega)); assumption)) only [rR_expect_0, rR_expect_1, rR_expect_4, rR_expect_5, rR_expect_8, rR_expect_9, rR_expect_10, rR_expect_13, rR_expect_14, rR_expect_15, rR_expect_18, rR_expect_21, rR_expect_22, rR_expect_23, rR_expect_26, ↓sR_ahead, xg_cell, Option.toList_some, Option.toList_none, List.singleton_append, List.append_nil, List.nil_append, List.cons_append, gX, gAdv, gBrk, he, false_and, if_false, if_true, Int.reduceAdd, Int.reduceSub, Int.reduceMul, Int.reduceNeg, Int.reduceLE, Int.reduceLT, Int.reduceEq, false_implies, true_implies, not_true_eq_false, not_false_eq_true, and_true, true_and, xar_0, xar_1, xar_2, xar_3, xar_4, xar_5, xar_6, xar_7, xar_8, xar_9, xar_10, xar_11, xar_12]
end SP
