/-! a node's curvature, culprit, blame -/
theorem xar_0 : xar 0 = 0 := rfl
theorem xar_1 : xar 1 = 0 := rfl
theorem xar_2 : xar 2 = 0 := rfl
theorem xar_3 : xar 3 = 2 := rfl
theorem xar_4 : xar 4 = 2 := rfl
theorem xar_5 : xar 5 = 1 := rfl
theorem xar_6 : xar 6 = 2 := rfl
theorem xar_7 : xar 7 = 2 := rfl
theorem xar_8 : xar 8 = 2 := rfl
theorem xar_9 : xar 9 = 1 := rfl
theorem xar_10 : xar 10 = 1 := rfl
theorem xar_11 : xar 11 = 3 := rfl
theorem xar_12 : xar 12 = 0 := rfl
/-- kind and arguments are in order -/
def gN (G : xG) (k : Int) : Prop := 0 ≤ k ∧ k < 36 ∧ 0 ≤ xg G 10 k ∧ xg G 10 k ≤ 11 ∧ -1 ≤ xg G 12 (3 * k + 0) ∧ xg G 12 (3 * k + 0) < 36 ∧ -1 ≤ xg G 12 (3 * k + 1) ∧ xg G 12 (3 * k + 1) < 36 ∧ -1 ≤ xg G 12 (3 * k + 2) ∧ xg G 12 (3 * k + 2) < 36 ∧ (3 ≤ xg G 10 k → 0 ≤ xg G 12 (3 * k + 0)) ∧ ((xg G 10 k = 3 ∨ xg G 10 k = 4 ∨ (6 ≤ xg G 10 k ∧ xg G 10 k ≤ 8) ∨ xg G 10 k = 11) → 0 ≤ xg G 12 (3 * k + 1)) ∧ (xg G 10 k = 11 → 0 ≤ xg G 12 (3 * k + 2))
theorem gN_q {G : xG} {k j x : Int} {a : Nat} (h : gN G k) (h1 : ¬ 10 = a) (h2 : ¬ 12 = a) : gN (xp G a j x) k := by
  unfold gN
  simp only [xg_cell h1, xg_cell h2]
  exact h
theorem gN_k {G : xG} {k : Int} (h : gN G k) : xg G 10 k = 0 ∨ xg G 10 k = 1 ∨ xg G 10 k = 2 ∨ xg G 10 k = 3 ∨ xg G 10 k = 4 ∨ xg G 10 k = 5 ∨ xg G 10 k = 6 ∨ xg G 10 k = 7 ∨ xg G 10 k = 8 ∨ xg G 10 k = 9 ∨ xg G 10 k = 10 ∨ xg G 10 k = 11 := by
  have h1 := h.2.2.1
  have h2 := h.2.2.2.1
  omega
def gFa (n A0 A1 A2 : Int) : Int := if 0 < n ∧ A0 = 0 then 0 else if 1 < n ∧ A1 = 0 then 1 else if 2 < n ∧ A2 = 0 then 2 else -1
def gMx (a b : Int) : Int := if a < b then b else a
def gMb (n c0 c1 c2 : Int) : Int := if n = 0 then 0 else if n = 1 then gMx 0 c0 else if n = 2 then gMx (gMx 0 c0) c1 else gMx (gMx (gMx 0 c0) c1) c2
def gLb (n c0 c1 c2 : Int) : Int := if 2 < n ∧ 1 < c2 then 2 else if 1 < n ∧ 1 < c1 then 1 else if 0 < n ∧ 1 < c0 then 0 else -1
abbrev gLi (kd : Int) : Prop := kd = 3 ∨ kd = 4 ∨ kd = 5 ∨ kd = 6
theorem xin_fa {n A0 A1 A2 : Int} : xin (gFa n A0 A1 A2) := by
  unfold gFa
  split
  · exact ⟨by decide, by decide⟩
  · split
    · exact ⟨by decide, by decide⟩
    · split <;> exact ⟨by decide, by decide⟩
theorem xbo_ad {kd p c s0 s1 w : Int} : xbo (gAd kd p c s0 s1 w) := by
  unfold gAd
  by_cases h1 : c = 0 ∨ c = 1
  · rw [if_pos h1]
    exact Or.inr rfl
  · rw [if_neg h1]
    by_cases h2 : (c = w ∧ 0 < gSl kd p s0 s1) ∨ (c = (if w = 2 then 3 else 2) ∧ gSl kd p s0 s1 < 0)
    · rw [if_pos h2]
      exact Or.inr rfl
    · rw [if_neg h2]
      exact Or.inl rfl
theorem xin_bo {x : Int} (h : xbo x) : xin x := by
  rcases h with rfl | rfl <;> exact ⟨by decide, by decide⟩
section SP
variable {sc : Nat × (Nat → Int32)} {d : Nat} {Q : Option Value → am_H → Prop} {G : xG} {K : xK} {h : am_H}
theorem sG_admits {k p w : Int} (hN : gN G k) (hp : p = 0 ∨ p = 1 ∨ p = 2) (hw : w = 2 ∨ w = 3) (hp0 : 0 ≤ xg G 12 (3 * k + p)) (ha : xg G 10 k = 6 → p < 2) : xc sc (d + 2) MG_admits [.ref 9, xI k, xI p, xI w] (xH G K) Q ↔ Q (some (xI (gAd (xg G 10 k) p (xg G 15 (xg G 12 (3 * k + p))) (xg G 14 (xg G 12 (3 * k + 0))) (xg G 14 (xg G 12 (3 * k + 1))) w))) (xH G K) := by
  rw [eG_admits]
  unfold gN at hN
  have hp1 : xg G 12 (3 * k + p) < 36 := by rcases hp with rfl | rfl | rfl <;> omega
  simp (contextual := true) (disch := first | assumption | exact xin_g _ _ _ | exact xin_ar _ | exact xin_sc _ _ | exact xin_cmp | exact xin_and | exact xin_or | exact xinl_g _ _ _ | omega | exact xin_mk (by omega) (by omega) | exact xinl_mk (by omega) (by omega) | exact xbo_0 | exact xbo_1 | exact xin_sl | exact xin_fa | exact xbo_ad | exact xin_bo xbo_ad | exact xin_mb | exact xin_A | exact xin_op | ((repeat refine gN_q ?_ (by omega) (by omega)); assumption)) only [rG_admits_0, rG_admits_1, rG_admits_4, rG_admits_5, rG_admits_6, rG_admits_7, rG_admits_10, rG_admits_11, rG_admits_13, rG_admits_15, rG_admits_18, rG_admits_20, rG_admits_21, rG_admits_24, rG_admits_25, rG_admits_26, rG_admits_27, rG_admits_28, rG_admits_31, rG_admits_32, rG_admits_35, rG_admits_36, rG_admits_38, rG_admits_39, rG_admits_40, rG_admits_41, rG_admits_44, rG_admits_46, rG_admits_48, rG_admits_49, rG_admits_52, rG_admits_54, rG_admits_57, rG_admits_59, rG_admits_61, rG_admits_64, rG_admits_66, rG_admits_69, rG_admits_70, rG_admits_73, rG_admits_74, ↓sG_argument, ↓sG_slopeIn, xg_cell, Option.toList_some, Option.toList_none, List.singleton_append, List.append_nil, List.nil_append, List.cons_append, gAd]
  grind
theorem sG_isLinear {k : Int} (hN : gN G k) : xc sc d MG_isLinear [.ref 9, xI k] (xH G K) Q ↔ Q (some (xI (if xg G 10 k = 3 ∨ xg G 10 k = 4 ∨ xg G 10 k = 5 ∨ xg G 10 k = 6 then 1 else 0))) (xH G K) := by
  rw [eG_isLinear]
  unfold gN at hN
  simp (contextual := true) (disch := first | assumption | exact xin_g _ _ _ | exact xin_ar _ | exact xin_sc _ _ | exact xin_cmp | exact xin_and | exact xin_or | exact xinl_g _ _ _ | omega | exact xin_mk (by omega) (by omega) | exact xinl_mk (by omega) (by omega) | exact xbo_0 | exact xbo_1 | exact xin_sl | exact xin_fa | exact xbo_ad | exact xin_bo xbo_ad | exact xin_mb | exact xin_A | exact xin_op | ((repeat refine gN_q ?_ (by omega) (by omega)); assumption)) only [rG_isLinear_0, rG_isLinear_1, rG_isLinear_4, rG_isLinear_5, rG_isLinear_6, rG_isLinear_7, rG_isLinear_10, rG_isLinear_11, rG_isLinear_14, rG_isLinear_15, rG_isLinear_16, rG_isLinear_17, rG_isLinear_20, rG_isLinear_21, rG_isLinear_24, rG_isLinear_25, rG_isLinear_26, rG_isLinear_27, rG_isLinear_30, rG_isLinear_31, rG_isLinear_34, rG_isLinear_35, rG_isLinear_36, rG_isLinear_38, rG_isLinear_41, rG_isLinear_42, rG_isLinear_45, rG_isLinear_46, xg_cell, Option.toList_some, Option.toList_none, List.singleton_append, List.append_nil, List.nil_append, List.cons_append]
  grind
theorem sG_isProductOfTwo {k : Int} (hN : gN G k) : xc sc (d + 1) MG_isProductOfTwo [.ref 9, xI k] (xH G K) Q ↔ Q (some (xI (if xg G 10 k = 6 ∧ ¬ xg G 15 (xg G 12 (3 * k + 0)) = 0 ∧ ¬ xg G 15 (xg G 12 (3 * k + 1)) = 0 then 1 else 0))) (xH G K) := by
  rw [eG_isProductOfTwo]
  unfold gN at hN
  simp (contextual := true) (disch := first | assumption | exact xin_g _ _ _ | exact xin_ar _ | exact xin_sc _ _ | exact xin_cmp | exact xin_and | exact xin_or | exact xinl_g _ _ _ | omega | exact xin_mk (by omega) (by omega) | exact xinl_mk (by omega) (by omega) | exact xbo_0 | exact xbo_1 | exact xin_sl | exact xin_fa | exact xbo_ad | exact xin_bo xbo_ad | exact xin_mb | exact xin_A | exact xin_op | ((repeat refine gN_q ?_ (by omega) (by omega)); assumption)) only [rG_isProductOfTwo_0, rG_isProductOfTwo_1, rG_isProductOfTwo_4, rG_isProductOfTwo_5, rG_isProductOfTwo_6, rG_isProductOfTwo_8, rG_isProductOfTwo_11, rG_isProductOfTwo_12, rG_isProductOfTwo_15, rG_isProductOfTwo_16, rG_isProductOfTwo_17, rG_isProductOfTwo_18, rG_isProductOfTwo_21, rG_isProductOfTwo_22, rG_isProductOfTwo_25, rG_isProductOfTwo_26, rG_isProductOfTwo_29, rG_isProductOfTwo_30, rG_isProductOfTwo_31, rG_isProductOfTwo_32, rG_isProductOfTwo_35, rG_isProductOfTwo_36, rG_isProductOfTwo_39, rG_isProductOfTwo_40, rG_isProductOfTwo_43, rG_isProductOfTwo_44, ↓sG_argument, xg_cell, Option.toList_some, Option.toList_none, List.singleton_append, List.append_nil, List.nil_append, List.cons_append]
  grind
set_option maxHeartbeats 4000000 in
theorem sG_firstAgainst {k w : Int} (hN : gN G k) (hw : w = 2 ∨ w = 3) : xc sc (d + 3) MG_firstAgainst [.ref 9, xI k, xI w] (xH G K) Q ↔ Q (some (xI (gFa (xar (xg G 10 k)) (gAd (xg G 10 k) 0 (xg G 15 (xg G 12 (3 * k + 0))) (xg G 14 (xg G 12 (3 * k + 0))) (xg G 14 (xg G 12 (3 * k + 1))) w) (gAd (xg G 10 k) 1 (xg G 15 (xg G 12 (3 * k + 1))) (xg G 14 (xg G 12 (3 * k + 0))) (xg G 14 (xg G 12 (3 * k + 1))) w) (gAd (xg G 10 k) 2 (xg G 15 (xg G 12 (3 * k + 2))) (xg G 14 (xg G 12 (3 * k + 0))) (xg G 14 (xg G 12 (3 * k + 1))) w)))) (xH G K) := by
  rw [eG_firstAgainst]
  have hM := hN
  unfold gN at hM
  have hc := gN_k hN
  rcases hc with e | e | e | e | e | e | e | e | e | e | e | e <;> simp (contextual := true) (disch := first | assumption | exact xin_g _ _ _ | exact xin_ar _ | exact xin_sc _ _ | exact xin_cmp | exact xin_and | exact xin_or | exact xinl_g _ _ _ | omega | exact xin_mk (by omega) (by omega) | exact xinl_mk (by omega) (by omega) | exact xbo_0 | exact xbo_1 | exact xin_sl | exact xin_fa | exact xbo_ad | exact xin_bo xbo_ad | exact xin_mb | exact xin_A | exact xin_op | ((repeat refine gN_q ?_ (by omega) (by omega)); assumption)) only [e, rG_firstAgainst_0, rG_firstAgainst_1, rG_firstAgainst_2, rG_firstAgainst_3, rG_firstAgainst_6, rG_firstAgainst_7, rG_firstAgainst_10, rG_firstAgainst_11, rG_firstAgainst_12, rG_firstAgainst_13, rG_firstAgainst_16, rG_firstAgainst_17, rG_firstAgainst_18, rG_firstAgainst_19, rG_firstAgainst_20, rG_firstAgainst_23, rG_firstAgainst_26, rG_firstAgainst_27, rG_firstAgainst_28, rG_firstAgainst_31, rG_firstAgainst_34, rG_firstAgainst_35, ↓sG_admits, xg_cell, Option.toList_some, Option.toList_none, List.singleton_append, List.append_nil, List.nil_append, List.cons_append, false_and, if_false, if_true, Int.reduceAdd, Int.reduceSub, Int.reduceMul, Int.reduceNeg, Int.reduceLE, Int.reduceLT, Int.reduceEq, false_implies, true_implies, not_true_eq_false, not_false_eq_true, and_true, true_and, xar_0, xar_1, xar_2, xar_3, xar_4, xar_5, xar_6, xar_7, xar_8, xar_9, xar_10, xar_11, xar_12, gFa] <;> grind
theorem sG_mostBent {k : Int} (hN : gN G k) : xc sc (d + 1) MG_mostBent [.ref 9, xI k] (xH G K) Q ↔ Q (some (xI (gMb (xar (xg G 10 k)) (xg G 15 (xg G 12 (3 * k + 0))) (xg G 15 (xg G 12 (3 * k + 1))) (xg G 15 (xg G 12 (3 * k + 2)))))) (xH G K) := by
  rw [eG_mostBent]
  have hM := hN
  unfold gN at hM
  have hc := gN_k hN
  have hx : ∀ a b : Int, xin a → xin b → xin (if a < b then b else a) := by
    intro a b ha hb
    split
    · exact hb
    · exact ha
  have hx0 := hx 0 _ xin_0 (xin_g G 15 (xg G 12 (3 * k + 0)))
  have hx1 := hx _ _ hx0 (xin_g G 15 (xg G 12 (3 * k + 1)))
  rcases hc with e | e | e | e | e | e | e | e | e | e | e | e <;> simp (contextual := true) (disch := first | assumption | exact xin_g _ _ _ | exact xin_ar _ | exact xin_sc _ _ | exact xin_cmp | exact xin_and | exact xin_or | exact xinl_g _ _ _ | omega | exact xin_mk (by omega) (by omega) | exact xinl_mk (by omega) (by omega) | exact xbo_0 | exact xbo_1 | exact xin_sl | exact xin_fa | exact xbo_ad | exact xin_bo xbo_ad | exact xin_mb | exact xin_A | exact xin_op | ((repeat refine gN_q ?_ (by omega) (by omega)); assumption)) only [e, rG_mostBent_0, rG_mostBent_1, rG_mostBent_2, rG_mostBent_3, rG_mostBent_4, rG_mostBent_5, rG_mostBent_8, rG_mostBent_9, rG_mostBent_12, rG_mostBent_13, rG_mostBent_14, rG_mostBent_15, rG_mostBent_18, rG_mostBent_19, rG_mostBent_20, rG_mostBent_23, rG_mostBent_24, rG_mostBent_25, rG_mostBent_26, rG_mostBent_29, rG_mostBent_30, rG_mostBent_33, rG_mostBent_34, rG_mostBent_37, rG_mostBent_40, rG_mostBent_41, ↓sG_argument, xg_cell, Option.toList_some, Option.toList_none, List.singleton_append, List.append_nil, List.nil_append, List.cons_append, false_and, if_false, if_true, Int.reduceAdd, Int.reduceSub, Int.reduceMul, Int.reduceNeg, Int.reduceLE, Int.reduceLT, Int.reduceEq, false_implies, true_implies, not_true_eq_false, not_false_eq_true, and_true, true_and, xar_0, xar_1, xar_2, xar_3, xar_4, xar_5, xar_6, xar_7, xar_8, xar_9, xar_10, xar_11, xar_12, gMb, gMx] <;> exact Iff.rfl
theorem sG_lastBent {k : Int} (hN : gN G k) : xc sc (d + 1) MG_lastBent [.ref 9, xI k] (xH G K) Q ↔ Q (some (xI (gLb (xar (xg G 10 k)) (xg G 15 (xg G 12 (3 * k + 0))) (xg G 15 (xg G 12 (3 * k + 1))) (xg G 15 (xg G 12 (3 * k + 2)))))) (xH G K) := by
  rw [eG_lastBent]
  have hM := hN
  unfold gN at hM
  have hc := gN_k hN
  rcases hc with e | e | e | e | e | e | e | e | e | e | e | e <;> simp (contextual := true) (disch := first | assumption | exact xin_g _ _ _ | exact xin_ar _ | exact xin_sc _ _ | exact xin_cmp | exact xin_and | exact xin_or | exact xinl_g _ _ _ | omega | exact xin_mk (by omega) (by omega) | exact xinl_mk (by omega) (by omega) | exact xbo_0 | exact xbo_1 | exact xin_sl | exact xin_fa | exact xbo_ad | exact xin_bo xbo_ad | exact xin_mb | exact xin_A | exact xin_op | ((repeat refine gN_q ?_ (by omega) (by omega)); assumption)) only [e, rG_lastBent_0, rG_lastBent_1, rG_lastBent_2, rG_lastBent_3, rG_lastBent_4, rG_lastBent_5, rG_lastBent_8, rG_lastBent_9, rG_lastBent_12, rG_lastBent_13, rG_lastBent_14, rG_lastBent_15, rG_lastBent_18, rG_lastBent_19, rG_lastBent_22, rG_lastBent_23, rG_lastBent_24, rG_lastBent_25, rG_lastBent_28, rG_lastBent_29, rG_lastBent_30, rG_lastBent_33, rG_lastBent_34, rG_lastBent_35, rG_lastBent_38, rG_lastBent_41, rG_lastBent_42, ↓sG_argument, xg_cell, Option.toList_some, Option.toList_none, List.singleton_append, List.append_nil, List.nil_append, List.cons_append, false_and, if_false, if_true, Int.reduceAdd, Int.reduceSub, Int.reduceMul, Int.reduceNeg, Int.reduceLE, Int.reduceLT, Int.reduceEq, false_implies, true_implies, not_true_eq_false, not_false_eq_true, and_true, true_and, xar_0, xar_1, xar_2, xar_3, xar_4, xar_5, xar_6, xar_7, xar_8, xar_9, xar_10, xar_11, xar_12, gLb] <;> grind
def gCu (n cv c0 c1 c2 u0 u1 u2 k : Int) : Int := if ¬ cv = 4 then -1 else if 0 < n ∧ c0 = 4 then u0 else if 1 < n ∧ c1 = 4 then u1 else if 2 < n ∧ c2 = 4 then u2 else k
theorem sG_culpritOf {k : Int} (hN : gN G k) : xc sc (d + 1) MG_culpritOf [.ref 9, xI k] (xH G K) Q ↔ Q (some (xI (gCu (xar (xg G 10 k)) (xg G 15 k) (xg G 15 (xg G 12 (3 * k + 0))) (xg G 15 (xg G 12 (3 * k + 1))) (xg G 15 (xg G 12 (3 * k + 2))) (xg G 17 (xg G 12 (3 * k + 0))) (xg G 17 (xg G 12 (3 * k + 1))) (xg G 17 (xg G 12 (3 * k + 2))) k))) (xH G K) := by
  rw [eG_culpritOf]
  have hM := hN
  unfold gN at hM
  have hc := gN_k hN
  rcases hc with e | e | e | e | e | e | e | e | e | e | e | e <;> simp (contextual := true) (disch := first | assumption | exact xin_g _ _ _ | exact xin_ar _ | exact xin_sc _ _ | exact xin_cmp | exact xin_and | exact xin_or | exact xinl_g _ _ _ | omega | exact xin_mk (by omega) (by omega) | exact xinl_mk (by omega) (by omega) | exact xbo_0 | exact xbo_1 | exact xin_sl | exact xin_fa | exact xbo_ad | exact xin_bo xbo_ad | exact xin_mb | exact xin_A | exact xin_op | ((repeat refine gN_q ?_ (by omega) (by omega)); assumption)) only [e, rG_culpritOf_0, rG_culpritOf_1, rG_culpritOf_4, rG_culpritOf_5, rG_culpritOf_6, rG_culpritOf_7, rG_culpritOf_10, rG_culpritOf_11, rG_culpritOf_12, rG_culpritOf_13, rG_culpritOf_14, rG_culpritOf_15, rG_culpritOf_18, rG_culpritOf_19, rG_culpritOf_22, rG_culpritOf_23, rG_culpritOf_24, rG_culpritOf_25, rG_culpritOf_28, rG_culpritOf_29, rG_culpritOf_32, rG_culpritOf_33, rG_culpritOf_34, rG_culpritOf_35, rG_culpritOf_38, rG_culpritOf_39, rG_culpritOf_40, rG_culpritOf_43, rG_culpritOf_44, rG_culpritOf_47, rG_culpritOf_48, rG_culpritOf_49, rG_culpritOf_50, rG_culpritOf_53, rG_culpritOf_54, rG_culpritOf_55, rG_culpritOf_58, rG_culpritOf_61, rG_culpritOf_62, ↓sG_argument, xg_cell, Option.toList_some, Option.toList_none, List.singleton_append, List.append_nil, List.nil_append, List.cons_append, false_and, if_false, if_true, Int.reduceAdd, Int.reduceSub, Int.reduceMul, Int.reduceNeg, Int.reduceLE, Int.reduceLT, Int.reduceEq, false_implies, true_implies, not_true_eq_false, not_false_eq_true, and_true, true_and, xar_0, xar_1, xar_2, xar_3, xar_4, xar_5, xar_6, xar_7, xar_8, xar_9, xar_10, xar_11, xar_12, gCu] <;> grind
end SP
