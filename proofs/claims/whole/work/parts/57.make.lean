/-! making the form, and what asks it -/
section SP
variable {sc : Nat × (Nat → Int32)} {d : Nat} {Q : Option Value → am_H → Prop} {G : xG} {K : xK} {h : am_H}
theorem sF_nr {N1 N3 N4 N6 : xG} (h1 : ∀ Q : Option Value → am_H → Prop, xc sc d MF_addRequirementRows [.ref 25, xI 1] (xH (xp G 25 9 0) K) Q ↔ Q none (xH N1 K)) (h3 : ∀ Q : Option Value → am_H → Prop, xc sc d MF_addRequirementRows [.ref 25, xI 0] (xH (xp N1 29 0 (xg N1 25 9)) K) Q ↔ Q none (xH N3 K)) (h4 : ∀ Q : Option Value → am_H → Prop, xc sc d MF_addAuxiliaryRows [.ref 25, xI 0] (xH N3 K) Q ↔ Q none (xH N4 K)) (h6 : ∀ Q : Option Value → am_H → Prop, xc sc d MF_addAuxiliaryRows [.ref 25, xI 1] (xH (xp N4 29 1 (xg N4 25 9 - xg N4 29 0)) K) Q ↔ Q none (xH N6 K)) : xc sc (d + 1) MF_numberRows [.ref 25] (xH G K) Q ↔ Q none (xH (xp N6 29 2 (xg N6 25 9 - xg N4 25 9)) K) := by
  rw [eF_numberRows]
  simp (contextual := true) (disch := first | assumption | exact xin_g _ _ _ | exact xin_ar _ | exact xin_sc _ _ | exact xin_cmp | exact xin_and | exact xin_or | exact xinl_g _ _ _ | omega | exact xin_mk (by omega) (by omega) | exact xinl_mk (by omega) (by omega) | exact xbo_0 | exact xbo_1 | exact xin_sl | exact xin_fa | exact xbo_ad | exact xin_bo xbo_ad | exact xin_mb | exact xin_A | exact xin_op | ((repeat refine gN_q ?_ (by omega) (by omega)); assumption)) only [rF_numberRows_0, rF_numberRows_1, rF_numberRows_2, rF_numberRows_5, rF_numberRows_6, rF_numberRows_7, rF_numberRows_10, rF_numberRows_11, rF_numberRows_14, rF_numberRows_15, rF_numberRows_16, rF_numberRows_19, rF_numberRows_20, rF_numberRows_21, rF_numberRows_22, rF_numberRows_25, rF_numberRows_26, rF_numberRows_27, rF_numberRows_30, rF_numberRows_31, rF_numberRows_34, rF_numberRows_35, rF_numberRows_36, rF_numberRows_39, rF_numberRows_40, rF_numberRows_43, rF_numberRows_44, rF_numberRows_45, rF_numberRows_46, rF_numberRows_47, rF_numberRows_48, rF_numberRows_51, rF_numberRows_52, rF_numberRows_53, rF_numberRows_54, rF_numberRows_57, rF_numberRows_58, rF_numberRows_61, rF_numberRows_62, rF_numberRows_63, rF_numberRows_66, rF_numberRows_67, rF_numberRows_68, rF_numberRows_69, ↓h1, ↓h3, ↓h4, ↓h6, xg_cell, Option.toList_some, Option.toList_none, List.singleton_append, List.append_nil, List.nil_append, List.cons_append]
def gN1 (G : xG) : xG := gAq 1 (xg G 21 3).toNat 0 (xp G 25 9 0)
def gN3 (G : xG) : xG := gAq 0 (xg G 21 3).toNat 0 (xp (gN1 G) 29 0 (xg (gN1 G) 25 9))
def gN4 (G : xG) : xG := gAa 0 (xg G 9 9).toNat 0 (gN3 G)
def gN6 (G : xG) : xG := gAa 1 (xg G 9 9).toNat 0 (xp (gN4 G) 29 1 (xg (gN4 G) 25 9 - xg (gN4 G) 29 0))
def gNr (G : xG) : xG := xp (gN6 G) 29 2 (xg (gN6 G) 25 9 - xg (gN4 G) 25 9)
theorem gAq_c {s : Int} {a : Nat} (h1 : ¬ a = 30) (h2 : ¬ a = 31) (h3 : ¬ a = 25) : ∀ (n : Nat) (k : Int) (G : xG) (j : Int), xg (gAq s n k G) a j = xg G a j
  | 0, k, G, j => rfl
  | n + 1, k, G, j => (gAq_c h1 h2 h3 n (k + 1) _ j).trans (by
      split
      · exact gAr_c h1 h2 h3
      · rfl)
theorem gAa_c {s : Int} {a : Nat} (h1 : ¬ a = 30) (h2 : ¬ a = 31) (h3 : ¬ a = 25) : ∀ (n : Nat) (k : Int) (G : xG) (j : Int), xg (gAa s n k G) a j = xg G a j
  | 0, k, G, j => rfl
  | n + 1, k, G, j => (gAa_c h1 h2 h3 n (k + 1) _ j).trans (gAa1_c h1 h2 h3)
theorem gAq_n {s : Int} : ∀ (n : Nat) (k : Int) (G : xG), 0 ≤ xg G 25 9 → 0 ≤ xg (gAq s n k G) 25 9
  | 0, k, G, h => h
  | n + 1, k, G, h => gAq_n n (k + 1) _ (by
      split
      · exact gAr_n h
      · exact h)
theorem gAa_n {s : Int} : ∀ (n : Nat) (k : Int) (G : xG), 0 ≤ xg G 25 9 → 0 ≤ xg (gAa s n k G) 25 9
  | 0, k, G, h => h
  | n + 1, k, G, h => gAa_n n (k + 1) _ (gAa1_n h)
theorem gN1_c {a : Nat} (h1 : ¬ a = 30) (h2 : ¬ a = 31) (h3 : ¬ a = 25) (j : Int) : xg (gN1 G) a j = xg G a j := by
  unfold gN1
  rw [gAq_c h1 h2 h3, xg_cell h3]
theorem gN3_c {a : Nat} (h1 : ¬ a = 30) (h2 : ¬ a = 31) (h3 : ¬ a = 25) (h4 : ¬ a = 29) (j : Int) : xg (gN3 G) a j = xg G a j := by
  unfold gN3
  rw [gAq_c h1 h2 h3, xg_cell h4, gN1_c h1 h2 h3]
theorem gN4_c {a : Nat} (h1 : ¬ a = 30) (h2 : ¬ a = 31) (h3 : ¬ a = 25) (h4 : ¬ a = 29) (j : Int) : xg (gN4 G) a j = xg G a j := by
  unfold gN4
  rw [gAa_c h1 h2 h3, gN3_c h1 h2 h3 h4]
theorem gN6_c {a : Nat} (h1 : ¬ a = 30) (h2 : ¬ a = 31) (h3 : ¬ a = 25) (h4 : ¬ a = 29) (j : Int) : xg (gN6 G) a j = xg G a j := by
  unfold gN6
  rw [gAa_c h1 h2 h3, xg_cell h4, gN4_c h1 h2 h3 h4]
theorem sF_numberRows (h0 : 0 ≤ xg G 21 3) (h1 : xg G 21 3 ≤ 6) (g0 : 0 ≤ xg G 9 9) (g1 : xg G 9 9 ≤ 36) : xc sc (d + 2) MF_numberRows [.ref 25] (xH G K) Q ↔ Q none (xH (gNr G) K) := by
  have r0 : xg (xp G 25 9 0) 25 9 = 0 := xg_self xin_0
  have c0 : xg (xp G 25 9 0) 21 3 = xg G 21 3 := xg_cell (by decide)
  have r1 : 0 ≤ xg (gN1 G) 25 9 := gAq_n _ _ _ (by omega)
  have c1 : xg (gN1 G) 21 3 = xg G 21 3 := gN1_c (by decide) (by decide) (by decide) _
  have c2 : xg (xp (gN1 G) 29 0 (xg (gN1 G) 25 9)) 21 3 = xg G 21 3 := by rw [xg_cell (by decide)]; exact c1
  have r2 : 0 ≤ xg (xp (gN1 G) 29 0 (xg (gN1 G) 25 9)) 25 9 := by rw [xg_cell (by decide)]; exact r1
  have r3 : 0 ≤ xg (gN3 G) 25 9 := gAq_n _ _ _ r2
  have c3 : xg (gN3 G) 9 9 = xg G 9 9 := gN3_c (by decide) (by decide) (by decide) (by decide) _
  have r4 : 0 ≤ xg (gN4 G) 25 9 := gAa_n _ _ _ r3
  have c4 : xg (gN4 G) 9 9 = xg G 9 9 := gN4_c (by decide) (by decide) (by decide) (by decide) _
  have c5 : xg (xp (gN4 G) 29 1 (xg (gN4 G) 25 9 - xg (gN4 G) 29 0)) 9 9 = xg G 9 9 := by rw [xg_cell (by decide)]; exact c4
  have r5 : 0 ≤ xg (xp (gN4 G) 29 1 (xg (gN4 G) 25 9 - xg (gN4 G) 29 0)) 25 9 := by rw [xg_cell (by decide)]; exact r4
  refine sF_nr (d := d + 1) (N1 := gN1 G) (N3 := gN3 G) (N4 := gN4 G) (N6 := gN6 G) (fun Q => ?_) (fun Q => ?_) (fun Q => ?_) (fun Q => ?_)
  · have := sF_aq (sc := sc) (d := d) (K := K) (Q := Q) (G := xp G 25 9 0) (s := 1) ⟨by decide, by decide⟩ (by omega) (by omega) (by omega)
    rw [c0] at this
    exact this
  · have := sF_aq (sc := sc) (d := d) (K := K) (Q := Q) (G := xp (gN1 G) 29 0 (xg (gN1 G) 25 9)) (s := 0) ⟨by decide, by decide⟩ (by omega) (by omega) r2
    rw [c2] at this
    exact this
  · have := sF_aa (sc := sc) (d := d) (K := K) (Q := Q) (G := gN3 G) (s := 0) (Or.inl rfl) (by omega) (by omega) r3
    rw [c3] at this
    exact this
  · have := sF_aa (sc := sc) (d := d) (K := K) (Q := Q) (G := xp (gN4 G) 29 1 (xg (gN4 G) 25 9 - xg (gN4 G) 29 0)) (s := 1) (Or.inr rfl) (by omega) (by omega) r5
    rw [c5] at this
    exact this
def gMake (G : xG) : xG := xp (gNr (gNc (gMu G))) 25 11 1
theorem gNc_c {a : Nat} (h1 : ¬ a = 27) (h2 : ¬ a = 28) (h3 : ¬ a = 25) (j : Int) : xg (gNc G) a j = xg G a j := by
  unfold gNc
  rw [gC3_c h1 h3, gC2_c h1 h3, gC1_c h1 h2, xg_cell h3]
theorem sF_make (hO : gMuOk G) : xc sc (d + 3) MF_make [.ref 25] (xH G K) Q ↔ Q none (xH (gMake G) K) := by
  rw [eF_make]
  have m1 := fun (Q : Option Value → am_H → Prop) => sF_markUsed (sc := sc) (d := d + 1) (K := K) (Q := Q) hO
  obtain ⟨o1, o2, o3, o4, o5, o6, o7, o8⟩ := hO
  have c9 : xg (gMu G) 9 9 = xg G 9 9 := gMu_c (by decide) _
  have c21 : xg (gMu G) 21 3 = xg G 21 3 := gMu_c (by decide) _
  have m2 := fun (Q : Option Value → am_H → Prop) => sF_numberColumns (sc := sc) (d := d + 1) (K := K) (Q := Q) (G := gMu G) (by omega) (by omega)
  have e9 : xg (gNc (gMu G)) 9 9 = xg G 9 9 := by rw [gNc_c (by decide) (by decide) (by decide)]; exact c9
  have e21 : xg (gNc (gMu G)) 21 3 = xg G 21 3 := by rw [gNc_c (by decide) (by decide) (by decide)]; exact c21
  have m3 := fun (Q : Option Value → am_H → Prop) => sF_numberRows (sc := sc) (d := d) (K := K) (Q := Q) (G := gNc (gMu G)) (by omega) (by omega) (by omega) (by omega)
  unfold gMake
  generalize gNr (gNc (gMu G)) = G3 at m3
  generalize gNc (gMu G) = G2 at m2 m3
  generalize gMu G = G1 at m1 m2
  simp (contextual := true) (disch := first | assumption | exact xin_g _ _ _ | exact xin_ar _ | exact xin_sc _ _ | exact xin_cmp | exact xin_and | exact xin_or | exact xinl_g _ _ _ | omega | exact xin_mk (by omega) (by omega) | exact xinl_mk (by omega) (by omega) | exact xbo_0 | exact xbo_1 | exact xin_sl | exact xin_fa | exact xbo_ad | exact xin_bo xbo_ad | exact xin_mb | exact xin_A | exact xin_op | ((repeat refine gN_q ?_ (by omega) (by omega)); assumption)) only [rF_make_0, rF_make_1, rF_make_4, rF_make_5, rF_make_8, rF_make_9, rF_make_12, rF_make_13, rF_make_14, rF_make_17, ↓m1, ↓m2, ↓m3, xg_cell, Option.toList_some, Option.toList_none, List.singleton_append, List.append_nil, List.nil_append, List.cons_append]
theorem sC_compile {g : Int} {X : xG} (hx : xin g) (hg : ¬ xg G 21 4 = -1 → ∀ Q : Option Value → am_H → Prop, xc sc d MP_guiltyNode [.ref 21, .ref 9] (xH G K) Q ↔ Q (some (xI g)) (xH G K)) (hm : ¬ xg G 21 4 = -1 → g = -1 → ∀ Q : Option Value → am_H → Prop, xc sc d MF_make [.ref 25] (xH G K) Q ↔ Q none (xH X K)) : xc sc (d + 1) MC_compile [.ref 2] (xH G K) Q ↔ (if xg G 21 4 = -1 then Q (some (xI (-1))) (xH G K) else if ¬ g = -1 then Q (some (xI (-2 - g))) (xH G K) else Q (some (xI (xg X 25 10))) (xH X K)) := by
  rw [eC_compile]
  by_cases h1 : xg G 21 4 = -1
  · simp (contextual := true) (disch := first | assumption | exact xin_g _ _ _ | exact xin_ar _ | exact xin_sc _ _ | exact xin_cmp | exact xin_and | exact xin_or | exact xinl_g _ _ _ | omega | exact xin_mk (by omega) (by omega) | exact xinl_mk (by omega) (by omega) | exact xbo_0 | exact xbo_1 | exact xin_sl | exact xin_fa | exact xbo_ad | exact xin_bo xbo_ad | exact xin_mb | exact xin_A | exact xin_op | ((repeat refine gN_q ?_ (by omega) (by omega)); assumption)) only [rC_compile_0, rC_compile_1, rC_compile_4, rC_compile_7, rC_compile_8, rC_compile_11, rC_compile_12, rC_compile_13, rC_compile_14, rC_compile_17, rC_compile_18, rC_compile_21, rC_compile_24, rC_compile_25, rC_compile_26, rC_compile_27, rC_compile_30, rC_compile_32, rC_compile_33, rC_compile_34, rC_compile_35, rC_compile_36, rC_compile_39, rC_compile_42, rC_compile_43, rC_compile_46, rC_compile_49, xg_cell, Option.toList_some, Option.toList_none, List.singleton_append, List.append_nil, List.nil_append, List.cons_append, false_and, if_false, if_true, Int.reduceAdd, Int.reduceSub, Int.reduceMul, Int.reduceNeg, Int.reduceLE, Int.reduceLT, Int.reduceEq, false_implies, true_implies, not_true_eq_false, not_false_eq_true, and_true, true_and, xar_0, xar_1, xar_2, xar_3, xar_4, xar_5, xar_6, xar_7, xar_8, xar_9, xar_10, xar_11, xar_12, h1]
  · have hg' := hg h1
    by_cases h2 : g = -1
    · have hm' := hm h1 h2
      subst h2
      simp (contextual := true) (disch := first | assumption | exact xin_g _ _ _ | exact xin_ar _ | exact xin_sc _ _ | exact xin_cmp | exact xin_and | exact xin_or | exact xinl_g _ _ _ | omega | exact xin_mk (by omega) (by omega) | exact xinl_mk (by omega) (by omega) | exact xbo_0 | exact xbo_1 | exact xin_sl | exact xin_fa | exact xbo_ad | exact xin_bo xbo_ad | exact xin_mb | exact xin_A | exact xin_op | ((repeat refine gN_q ?_ (by omega) (by omega)); assumption)) only [rC_compile_0, rC_compile_1, rC_compile_4, rC_compile_7, rC_compile_8, rC_compile_11, rC_compile_12, rC_compile_13, rC_compile_14, rC_compile_17, rC_compile_18, rC_compile_21, rC_compile_24, rC_compile_25, rC_compile_26, rC_compile_27, rC_compile_30, rC_compile_32, rC_compile_33, rC_compile_34, rC_compile_35, rC_compile_36, rC_compile_39, rC_compile_42, rC_compile_43, rC_compile_46, rC_compile_49, ↓hg', ↓hm', xg_cell, Option.toList_some, Option.toList_none, List.singleton_append, List.append_nil, List.nil_append, List.cons_append, false_and, if_false, if_true, Int.reduceAdd, Int.reduceSub, Int.reduceMul, Int.reduceNeg, Int.reduceLE, Int.reduceLT, Int.reduceEq, false_implies, true_implies, not_true_eq_false, not_false_eq_true, and_true, true_and, xar_0, xar_1, xar_2, xar_3, xar_4, xar_5, xar_6, xar_7, xar_8, xar_9, xar_10, xar_11, xar_12, h1]
    · simp (contextual := true) (disch := first | assumption | exact xin_g _ _ _ | exact xin_ar _ | exact xin_sc _ _ | exact xin_cmp | exact xin_and | exact xin_or | exact xinl_g _ _ _ | omega | exact xin_mk (by omega) (by omega) | exact xinl_mk (by omega) (by omega) | exact xbo_0 | exact xbo_1 | exact xin_sl | exact xin_fa | exact xbo_ad | exact xin_bo xbo_ad | exact xin_mb | exact xin_A | exact xin_op | ((repeat refine gN_q ?_ (by omega) (by omega)); assumption)) only [rC_compile_0, rC_compile_1, rC_compile_4, rC_compile_7, rC_compile_8, rC_compile_11, rC_compile_12, rC_compile_13, rC_compile_14, rC_compile_17, rC_compile_18, rC_compile_21, rC_compile_24, rC_compile_25, rC_compile_26, rC_compile_27, rC_compile_30, rC_compile_32, rC_compile_33, rC_compile_34, rC_compile_35, rC_compile_36, rC_compile_39, rC_compile_42, rC_compile_43, rC_compile_46, rC_compile_49, ↓hg', xg_cell, Option.toList_some, Option.toList_none, List.singleton_append, List.append_nil, List.nil_append, List.cons_append, false_and, if_false, if_true, Int.reduceAdd, Int.reduceSub, Int.reduceMul, Int.reduceNeg, Int.reduceLE, Int.reduceLT, Int.reduceEq, false_implies, true_implies, not_true_eq_false, not_false_eq_true, and_true, true_and, xar_0, xar_1, xar_2, xar_3, xar_4, xar_5, xar_6, xar_7, xar_8, xar_9, xar_10, xar_11, xar_12, h1, h2]
theorem sC_rows {c : Int} (hc : xin c) : xc sc d MC_rows [.ref 2, xI c] (xH G K) Q ↔ Q (some (xI (if ¬ xg G 25 11 = 0 ∧ 0 ≤ c ∧ c < 3 then xg G 29 c else 0))) (xH G K) := by
  rw [eC_rows]
  simp (contextual := true) (disch := first | assumption | exact xin_g _ _ _ | exact xin_ar _ | exact xin_sc _ _ | exact xin_cmp | exact xin_and | exact xin_or | exact xinl_g _ _ _ | omega | exact xin_mk (by omega) (by omega) | exact xinl_mk (by omega) (by omega) | exact xbo_0 | exact xbo_1 | exact xin_sl | exact xin_fa | exact xbo_ad | exact xin_bo xbo_ad | exact xin_mb | exact xin_A | exact xin_op | ((repeat refine gN_q ?_ (by omega) (by omega)); assumption)) only [rC_rows_0, rC_rows_1, rC_rows_4, rC_rows_7, rC_rows_10, rC_rows_11, rC_rows_14, rC_rows_15, rC_rows_16, rC_rows_19, rC_rows_20, rC_rows_23, rC_rows_26, rC_rows_27, rC_rows_28, rC_rows_31, rC_rows_32, xg_cell, Option.toList_some, Option.toList_none, List.singleton_append, List.append_nil, List.nil_append, List.cons_append]
  grind
theorem sC_column {k : Int} (hk : xin k) (h2 : xg G 9 9 ≤ 36) : xc sc (d + 1) MC_column [.ref 2, xI k] (xH G K) Q ↔ Q (some (xI (if ¬ xg G 25 11 = 0 ∧ 0 ≤ k ∧ k < xg G 9 9 then xg G 27 k else -1))) (xH G K) := by
  rw [eC_column]
  by_cases h1 : xg G 25 11 = 0
  · simp (contextual := true) (disch := first | assumption | exact xin_g _ _ _ | exact xin_ar _ | exact xin_sc _ _ | exact xin_cmp | exact xin_and | exact xin_or | exact xinl_g _ _ _ | omega | exact xin_mk (by omega) (by omega) | exact xinl_mk (by omega) (by omega) | exact xbo_0 | exact xbo_1 | exact xin_sl | exact xin_fa | exact xbo_ad | exact xin_bo xbo_ad | exact xin_mb | exact xin_A | exact xin_op | ((repeat refine gN_q ?_ (by omega) (by omega)); assumption)) only [rC_column_0, rC_column_1, rC_column_4, rC_column_7, rC_column_10, rC_column_11, rC_column_14, rC_column_15, rC_column_18, rC_column_21, rC_column_22, rC_column_25, rC_column_28, rC_column_29, rC_column_30, rC_column_33, rC_column_34, xg_cell, Option.toList_some, Option.toList_none, List.singleton_append, List.append_nil, List.nil_append, List.cons_append, false_and, if_false, if_true, Int.reduceAdd, Int.reduceSub, Int.reduceMul, Int.reduceNeg, Int.reduceLE, Int.reduceLT, Int.reduceEq, false_implies, true_implies, not_true_eq_false, not_false_eq_true, and_true, true_and, xar_0, xar_1, xar_2, xar_3, xar_4, xar_5, xar_6, xar_7, xar_8, xar_9, xar_10, xar_11, xar_12, h1]
  · by_cases h : 0 ≤ k ∧ k < xg G 9 9
    · have e1 : ∀ Q : Option Value → am_H → Prop, xc sc d MG_has [.ref 9, xI k] (xH G K) Q ↔ Q (some (xI 1)) (xH G K) := fun Q => by rw [sG_has hk, if_pos h]
      rw [if_pos ⟨h1, h.1, h.2⟩]
      simp (contextual := true) (disch := first | assumption | exact xin_g _ _ _ | exact xin_ar _ | exact xin_sc _ _ | exact xin_cmp | exact xin_and | exact xin_or | exact xinl_g _ _ _ | omega | exact xin_mk (by omega) (by omega) | exact xinl_mk (by omega) (by omega) | exact xbo_0 | exact xbo_1 | exact xin_sl | exact xin_fa | exact xbo_ad | exact xin_bo xbo_ad | exact xin_mb | exact xin_A | exact xin_op | ((repeat refine gN_q ?_ (by omega) (by omega)); assumption)) only [rC_column_0, rC_column_1, rC_column_4, rC_column_7, rC_column_10, rC_column_11, rC_column_14, rC_column_15, rC_column_18, rC_column_21, rC_column_22, rC_column_25, rC_column_28, rC_column_29, rC_column_30, rC_column_33, rC_column_34, ↓e1, xg_cell, Option.toList_some, Option.toList_none, List.singleton_append, List.append_nil, List.nil_append, List.cons_append, false_and, if_false, if_true, Int.reduceAdd, Int.reduceSub, Int.reduceMul, Int.reduceNeg, Int.reduceLE, Int.reduceLT, Int.reduceEq, false_implies, true_implies, not_true_eq_false, not_false_eq_true, and_true, true_and, xar_0, xar_1, xar_2, xar_3, xar_4, xar_5, xar_6, xar_7, xar_8, xar_9, xar_10, xar_11, xar_12, h1]
    · have e1 : ∀ Q : Option Value → am_H → Prop, xc sc d MG_has [.ref 9, xI k] (xH G K) Q ↔ Q (some (xI 0)) (xH G K) := fun Q => by rw [sG_has hk, if_neg h]
      rw [if_neg (fun q => h ⟨q.2.1, q.2.2⟩)]
      simp (contextual := true) (disch := first | assumption | exact xin_g _ _ _ | exact xin_ar _ | exact xin_sc _ _ | exact xin_cmp | exact xin_and | exact xin_or | exact xinl_g _ _ _ | omega | exact xin_mk (by omega) (by omega) | exact xinl_mk (by omega) (by omega) | exact xbo_0 | exact xbo_1 | exact xin_sl | exact xin_fa | exact xbo_ad | exact xin_bo xbo_ad | exact xin_mb | exact xin_A | exact xin_op | ((repeat refine gN_q ?_ (by omega) (by omega)); assumption)) only [rC_column_0, rC_column_1, rC_column_4, rC_column_7, rC_column_10, rC_column_11, rC_column_14, rC_column_15, rC_column_18, rC_column_21, rC_column_22, rC_column_25, rC_column_28, rC_column_29, rC_column_30, rC_column_33, rC_column_34, ↓e1, xg_cell, Option.toList_some, Option.toList_none, List.singleton_append, List.append_nil, List.nil_append, List.cons_append, false_and, if_false, if_true, Int.reduceAdd, Int.reduceSub, Int.reduceMul, Int.reduceNeg, Int.reduceLE, Int.reduceLT, Int.reduceEq, false_implies, true_implies, not_true_eq_false, not_false_eq_true, and_true, true_and, xar_0, xar_1, xar_2, xar_3, xar_4, xar_5, xar_6, xar_7, xar_8, xar_9, xar_10, xar_11, xar_12, h1]
theorem sF_hasRow {r : Int} (hr : xin r) : xc sc d MF_hasRow [.ref 25, xI r] (xH G K) Q ↔ Q (some (xI (if ¬ xg G 25 11 = 0 ∧ -1 ≤ r ∧ r < xg G 25 9 then 1 else 0))) (xH G K) := by
  rw [eF_hasRow]
  simp (contextual := true) (disch := first | assumption | exact xin_g _ _ _ | exact xin_ar _ | exact xin_sc _ _ | exact xin_cmp | exact xin_and | exact xin_or | exact xinl_g _ _ _ | omega | exact xin_mk (by omega) (by omega) | exact xinl_mk (by omega) (by omega) | exact xbo_0 | exact xbo_1 | exact xin_sl | exact xin_fa | exact xbo_ad | exact xin_bo xbo_ad | exact xin_mb | exact xin_A | exact xin_op | ((repeat refine gN_q ?_ (by omega) (by omega)); assumption)) only [rF_hasRow_0, rF_hasRow_1, rF_hasRow_4, rF_hasRow_7, rF_hasRow_8, rF_hasRow_9, rF_hasRow_12, rF_hasRow_13, rF_hasRow_14, rF_hasRow_17, rF_hasRow_20, rF_hasRow_21, rF_hasRow_24, rF_hasRow_25, xg_cell, Option.toList_some, Option.toList_none, List.singleton_append, List.append_nil, List.nil_append, List.cons_append]
  grind
theorem sF_hasColumn {c : Int} (hr : xin c) : xc sc d MF_hasColumn [.ref 25, xI c] (xH G K) Q ↔ Q (some (xI (if ¬ xg G 25 11 = 0 ∧ -1 ≤ c ∧ c < xg G 25 10 then 1 else 0))) (xH G K) := by
  rw [eF_hasColumn]
  simp (contextual := true) (disch := first | assumption | exact xin_g _ _ _ | exact xin_ar _ | exact xin_sc _ _ | exact xin_cmp | exact xin_and | exact xin_or | exact xinl_g _ _ _ | omega | exact xin_mk (by omega) (by omega) | exact xinl_mk (by omega) (by omega) | exact xbo_0 | exact xbo_1 | exact xin_sl | exact xin_fa | exact xbo_ad | exact xin_bo xbo_ad | exact xin_mb | exact xin_A | exact xin_op | ((repeat refine gN_q ?_ (by omega) (by omega)); assumption)) only [rF_hasColumn_0, rF_hasColumn_1, rF_hasColumn_4, rF_hasColumn_7, rF_hasColumn_8, rF_hasColumn_9, rF_hasColumn_12, rF_hasColumn_13, rF_hasColumn_14, rF_hasColumn_17, rF_hasColumn_20, rF_hasColumn_21, rF_hasColumn_24, rF_hasColumn_25, xg_cell, Option.toList_some, Option.toList_none, List.singleton_append, List.append_nil, List.nil_append, List.cons_append]
  grind
theorem sF_assignOwn {k v : Int} (k0 : 0 ≤ k) (k1 : k < 36) (hv : xin v) : xc sc (d + 1) MF_assignOwn [.ref 25, xI k, xI v] (xH G K) Q ↔ (if ¬ xg G 25 11 = 0 ∧ gAx G k ∧ -1000000 ≤ v ∧ v ≤ 1000000 then Q (some (xI 1)) (xH (xp G 28 k v) K) else Q (some (xI 0)) (xH G K)) := by
  rw [eF_assignOwn]
  by_cases h1 : xg G 25 11 = 0
  · simp (contextual := true) (disch := first | assumption | exact xin_g _ _ _ | exact xin_ar _ | exact xin_sc _ _ | exact xin_cmp | exact xin_and | exact xin_or | exact xinl_g _ _ _ | omega | exact xin_mk (by omega) (by omega) | exact xinl_mk (by omega) (by omega) | exact xbo_0 | exact xbo_1 | exact xin_sl | exact xin_fa | exact xbo_ad | exact xin_bo xbo_ad | exact xin_mb | exact xin_A | exact xin_op | ((repeat refine gN_q ?_ (by omega) (by omega)); assumption)) only [rF_assignOwn_0, rF_assignOwn_1, rF_assignOwn_4, rF_assignOwn_7, rF_assignOwn_8, rF_assignOwn_9, rF_assignOwn_12, rF_assignOwn_15, rF_assignOwn_16, rF_assignOwn_18, rF_assignOwn_21, rF_assignOwn_22, rF_assignOwn_24, rF_assignOwn_27, rF_assignOwn_28, rF_assignOwn_29, rF_assignOwn_30, rF_assignOwn_33, rF_assignOwn_34, rF_assignOwn_35, rF_assignOwn_36, rF_assignOwn_37, xg_cell, Option.toList_some, Option.toList_none, List.singleton_append, List.append_nil, List.nil_append, List.cons_append, false_and, if_false, if_true, Int.reduceAdd, Int.reduceSub, Int.reduceMul, Int.reduceNeg, Int.reduceLE, Int.reduceLT, Int.reduceEq, false_implies, true_implies, not_true_eq_false, not_false_eq_true, and_true, true_and, xar_0, xar_1, xar_2, xar_3, xar_4, xar_5, xar_6, xar_7, xar_8, xar_9, xar_10, xar_11, xar_12, h1]
  · by_cases h2 : gAx G k
    · have e1 : ∀ Q : Option Value → am_H → Prop, xc sc d MF_isAuxiliary [.ref 25, xI k] (xH G K) Q ↔ Q (some (xI 1)) (xH G K) := fun Q => by rw [sF_isAuxiliary k0 k1, if_pos h2]
      by_cases h3 : v < -1000000
      · rw [if_neg (fun q => by omega)]
        simp (contextual := true) (disch := first | assumption | exact xin_g _ _ _ | exact xin_ar _ | exact xin_sc _ _ | exact xin_cmp | exact xin_and | exact xin_or | exact xinl_g _ _ _ | omega | exact xin_mk (by omega) (by omega) | exact xinl_mk (by omega) (by omega) | exact xbo_0 | exact xbo_1 | exact xin_sl | exact xin_fa | exact xbo_ad | exact xin_bo xbo_ad | exact xin_mb | exact xin_A | exact xin_op | ((repeat refine gN_q ?_ (by omega) (by omega)); assumption)) only [rF_assignOwn_0, rF_assignOwn_1, rF_assignOwn_4, rF_assignOwn_7, rF_assignOwn_8, rF_assignOwn_9, rF_assignOwn_12, rF_assignOwn_15, rF_assignOwn_16, rF_assignOwn_18, rF_assignOwn_21, rF_assignOwn_22, rF_assignOwn_24, rF_assignOwn_27, rF_assignOwn_28, rF_assignOwn_29, rF_assignOwn_30, rF_assignOwn_33, rF_assignOwn_34, rF_assignOwn_35, rF_assignOwn_36, rF_assignOwn_37, ↓e1, xg_cell, Option.toList_some, Option.toList_none, List.singleton_append, List.append_nil, List.nil_append, List.cons_append, false_and, if_false, if_true, Int.reduceAdd, Int.reduceSub, Int.reduceMul, Int.reduceNeg, Int.reduceLE, Int.reduceLT, Int.reduceEq, false_implies, true_implies, not_true_eq_false, not_false_eq_true, and_true, true_and, xar_0, xar_1, xar_2, xar_3, xar_4, xar_5, xar_6, xar_7, xar_8, xar_9, xar_10, xar_11, xar_12, h1, h3]
      · by_cases h4 : 1000000 < v
        · rw [if_neg (fun q => by omega)]
          have h4' : ¬ v ≤ 1000000 := by omega
          simp (contextual := true) (disch := first | assumption | exact xin_g _ _ _ | exact xin_ar _ | exact xin_sc _ _ | exact xin_cmp | exact xin_and | exact xin_or | exact xinl_g _ _ _ | omega | exact xin_mk (by omega) (by omega) | exact xinl_mk (by omega) (by omega) | exact xbo_0 | exact xbo_1 | exact xin_sl | exact xin_fa | exact xbo_ad | exact xin_bo xbo_ad | exact xin_mb | exact xin_A | exact xin_op | ((repeat refine gN_q ?_ (by omega) (by omega)); assumption)) only [rF_assignOwn_0, rF_assignOwn_1, rF_assignOwn_4, rF_assignOwn_7, rF_assignOwn_8, rF_assignOwn_9, rF_assignOwn_12, rF_assignOwn_15, rF_assignOwn_16, rF_assignOwn_18, rF_assignOwn_21, rF_assignOwn_22, rF_assignOwn_24, rF_assignOwn_27, rF_assignOwn_28, rF_assignOwn_29, rF_assignOwn_30, rF_assignOwn_33, rF_assignOwn_34, rF_assignOwn_35, rF_assignOwn_36, rF_assignOwn_37, ↓e1, xg_cell, Option.toList_some, Option.toList_none, List.singleton_append, List.append_nil, List.nil_append, List.cons_append, false_and, if_false, if_true, Int.reduceAdd, Int.reduceSub, Int.reduceMul, Int.reduceNeg, Int.reduceLE, Int.reduceLT, Int.reduceEq, false_implies, true_implies, not_true_eq_false, not_false_eq_true, and_true, true_and, xar_0, xar_1, xar_2, xar_3, xar_4, xar_5, xar_6, xar_7, xar_8, xar_9, xar_10, xar_11, xar_12, h1, h3, h4, h4']
        · rw [if_pos ⟨h1, h2, by omega, by omega⟩]
          have h4' : v ≤ 1000000 := by omega
          simp (contextual := true) (disch := first | assumption | exact xin_g _ _ _ | exact xin_ar _ | exact xin_sc _ _ | exact xin_cmp | exact xin_and | exact xin_or | exact xinl_g _ _ _ | omega | exact xin_mk (by omega) (by omega) | exact xinl_mk (by omega) (by omega) | exact xbo_0 | exact xbo_1 | exact xin_sl | exact xin_fa | exact xbo_ad | exact xin_bo xbo_ad | exact xin_mb | exact xin_A | exact xin_op | ((repeat refine gN_q ?_ (by omega) (by omega)); assumption)) only [rF_assignOwn_0, rF_assignOwn_1, rF_assignOwn_4, rF_assignOwn_7, rF_assignOwn_8, rF_assignOwn_9, rF_assignOwn_12, rF_assignOwn_15, rF_assignOwn_16, rF_assignOwn_18, rF_assignOwn_21, rF_assignOwn_22, rF_assignOwn_24, rF_assignOwn_27, rF_assignOwn_28, rF_assignOwn_29, rF_assignOwn_30, rF_assignOwn_33, rF_assignOwn_34, rF_assignOwn_35, rF_assignOwn_36, rF_assignOwn_37, ↓e1, xg_cell, Option.toList_some, Option.toList_none, List.singleton_append, List.append_nil, List.nil_append, List.cons_append, false_and, if_false, if_true, Int.reduceAdd, Int.reduceSub, Int.reduceMul, Int.reduceNeg, Int.reduceLE, Int.reduceLT, Int.reduceEq, false_implies, true_implies, not_true_eq_false, not_false_eq_true, and_true, true_and, xar_0, xar_1, xar_2, xar_3, xar_4, xar_5, xar_6, xar_7, xar_8, xar_9, xar_10, xar_11, xar_12, h1, h3, h4, h4']
    · have e1 : ∀ Q : Option Value → am_H → Prop, xc sc d MF_isAuxiliary [.ref 25, xI k] (xH G K) Q ↔ Q (some (xI 0)) (xH G K) := fun Q => by rw [sF_isAuxiliary k0 k1, if_neg h2]
      rw [if_neg (fun q => h2 q.2.1)]
      simp (contextual := true) (disch := first | assumption | exact xin_g _ _ _ | exact xin_ar _ | exact xin_sc _ _ | exact xin_cmp | exact xin_and | exact xin_or | exact xinl_g _ _ _ | omega | exact xin_mk (by omega) (by omega) | exact xinl_mk (by omega) (by omega) | exact xbo_0 | exact xbo_1 | exact xin_sl | exact xin_fa | exact xbo_ad | exact xin_bo xbo_ad | exact xin_mb | exact xin_A | exact xin_op | ((repeat refine gN_q ?_ (by omega) (by omega)); assumption)) only [rF_assignOwn_0, rF_assignOwn_1, rF_assignOwn_4, rF_assignOwn_7, rF_assignOwn_8, rF_assignOwn_9, rF_assignOwn_12, rF_assignOwn_15, rF_assignOwn_16, rF_assignOwn_18, rF_assignOwn_21, rF_assignOwn_22, rF_assignOwn_24, rF_assignOwn_27, rF_assignOwn_28, rF_assignOwn_29, rF_assignOwn_30, rF_assignOwn_33, rF_assignOwn_34, rF_assignOwn_35, rF_assignOwn_36, rF_assignOwn_37, ↓e1, xg_cell, Option.toList_some, Option.toList_none, List.singleton_append, List.append_nil, List.nil_append, List.cons_append, false_and, if_false, if_true, Int.reduceAdd, Int.reduceSub, Int.reduceMul, Int.reduceNeg, Int.reduceLE, Int.reduceLT, Int.reduceEq, false_implies, true_implies, not_true_eq_false, not_false_eq_true, and_true, true_and, xar_0, xar_1, xar_2, xar_3, xar_4, xar_5, xar_6, xar_7, xar_8, xar_9, xar_10, xar_11, xar_12, h1]
end SP
