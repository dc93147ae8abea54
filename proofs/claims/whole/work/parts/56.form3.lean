/-! making the form: rows -/
section SP
variable {sc : Nat × (Nat → Int32)} {d : Nat} {Q : Option Value → am_H → Prop} {G : xG} {K : xK} {h : am_H}
def gNc (G : xG) : xG := gC3 (xg G 9 9).toNat 0 (gC2 (xg G 9 9).toNat 0 (gC1 36 0 (xp G 25 10 0)))
theorem gC1_c {a : Nat} (h1 : ¬ a = 27) (h2 : ¬ a = 28) : ∀ (n : Nat) (k : Int) (G : xG) (j : Int), xg (gC1 n k G) a j = xg G a j
  | 0, k, G, j => rfl
  | n + 1, k, G, j => (gC1_c h1 h2 n (k + 1) _ j).trans (by rw [xg_cell h2, xg_cell h1])
theorem gCk_c {a : Nat} (h1 : ¬ a = 27) (h2 : ¬ a = 25) {k j : Int} : xg (gCk G k) a j = xg G a j := by
  unfold gCk
  rw [xg_cell h2, xg_cell h1]
theorem gC2_c {a : Nat} (h1 : ¬ a = 27) (h2 : ¬ a = 25) : ∀ (n : Nat) (k : Int) (G : xG) (j : Int), xg (gC2 n k G) a j = xg G a j
  | 0, k, G, j => rfl
  | n + 1, k, G, j => (gC2_c h1 h2 n (k + 1) _ j).trans (by
      split
      · exact gCk_c h1 h2
      · rfl)
theorem gC3_c {a : Nat} (h1 : ¬ a = 27) (h2 : ¬ a = 25) : ∀ (n : Nat) (k : Int) (G : xG) (j : Int), xg (gC3 n k G) a j = xg G a j
  | 0, k, G, j => rfl
  | n + 1, k, G, j => (gC3_c h1 h2 n (k + 1) _ j).trans (by
      split
      · exact gCk_c h1 h2
      · rfl)
theorem sF_numberColumns (h0 : 0 ≤ xg G 9 9) (h1 : xg G 9 9 ≤ 36) : xc sc (d + 1) MF_numberColumns [.ref 25] (xH G K) Q ↔ Q none (xH (gNc G) K) := by
  rw [eF_numberColumns]
  have a1 := lF_c1 (sc := sc) (d := d + 1) (K := K) (Q := Q) 36 0 (xp G 25 10 0) (by decide) (by decide)
  have t1 : xg (gC1 36 0 (xp G 25 10 0)) 9 9 = xg G 9 9 := by rw [gC1_c (by decide) (by decide), xg_cell (by decide)]
  have a2 := lF_c2 (sc := sc) (d := d + 1) (K := K) (Q := Q) (xg G 9 9).toNat 0 (gC1 36 0 (xp G 25 10 0)) (by omega) (by decide) (by omega)
  have t2 : xg (gC2 (xg G 9 9).toNat 0 (gC1 36 0 (xp G 25 10 0))) 9 9 = xg G 9 9 := by rw [gC2_c (by decide) (by decide)]; exact t1
  have a3 := lF_c3 (sc := sc) (d := d) (K := K) (Q := Q) (xg G 9 9).toNat 0 (gC2 (xg G 9 9).toNat 0 (gC1 36 0 (xp G 25 10 0))) (by omega) (by decide) (by omega)
  unfold gNc
  generalize gC1 36 0 (xp G 25 10 0) = G1 at a1 t1 a2 t2 a3
  generalize gC2 (xg G 9 9).toNat 0 G1 = G2 at a2 t2 a3
  simp (contextual := true) (disch := first | assumption | exact xin_g _ _ _ | exact xin_ar _ | exact xin_sc _ _ | exact xin_cmp | exact xin_and | exact xin_or | exact xinl_g _ _ _ | omega | exact xin_mk (by omega) (by omega) | exact xinl_mk (by omega) (by omega) | exact xbo_0 | exact xbo_1 | exact xin_sl | exact xin_fa | exact xbo_ad | exact xin_bo xbo_ad | exact xin_mb | exact xin_A | exact xin_op | ((repeat refine gN_q ?_ (by omega) (by omega)); assumption)) only [rF_numberColumns_0, rF_numberColumns_1, rF_numberColumns_2, rF_numberColumns_5, rF_numberColumns_6, xg_cell, Option.toList_some, Option.toList_none, List.singleton_append, List.append_nil, List.nil_append, List.cons_append, a1]
  simp (contextual := true) (disch := first | assumption | exact xin_g _ _ _ | exact xin_ar _ | exact xin_sc _ _ | exact xin_cmp | exact xin_and | exact xin_or | exact xinl_g _ _ _ | omega | exact xin_mk (by omega) (by omega) | exact xinl_mk (by omega) (by omega) | exact xbo_0 | exact xbo_1 | exact xin_sl | exact xin_fa | exact xbo_ad | exact xin_bo xbo_ad | exact xin_mb | exact xin_A | exact xin_op | ((repeat refine gN_q ?_ (by omega) (by omega)); assumption)) only [rF_numberColumns_33, rF_numberColumns_34, xg_cell, Option.toList_some, Option.toList_none, List.singleton_append, List.append_nil, List.nil_append, List.cons_append, a2]
  simp (contextual := true) (disch := first | assumption | exact xin_g _ _ _ | exact xin_ar _ | exact xin_sc _ _ | exact xin_cmp | exact xin_and | exact xin_or | exact xinl_g _ _ _ | omega | exact xin_mk (by omega) (by omega) | exact xinl_mk (by omega) (by omega) | exact xbo_0 | exact xbo_1 | exact xin_sl | exact xin_fa | exact xbo_ad | exact xin_bo xbo_ad | exact xin_mb | exact xin_A | exact xin_op | ((repeat refine gN_q ?_ (by omega) (by omega)); assumption)) only [rF_numberColumns_94, rF_numberColumns_95, xg_cell, Option.toList_some, Option.toList_none, List.singleton_append, List.append_nil, List.nil_append, List.cons_append, a3]
def gAr (G : xG) (o p : Int) : xG := if xg G 25 9 < 114 then xp (xp (xp G 30 (xg G 25 9) o) 31 (xg G 25 9) p) 25 9 (xg G 25 9 + 1) else G
theorem sF_addRow {o p : Int} (h0 : 0 ≤ xg G 25 9) : xc sc d MF_addRow [.ref 25, xI o, xI p] (xH G K) Q ↔ Q none (xH (gAr G o p) K) := by
  rw [eF_addRow]
  by_cases hc : xg G 25 9 < 114
  · have hc' : ¬ 114 ≤ xg G 25 9 := by omega
    simp (contextual := true) (disch := first | assumption | exact xin_g _ _ _ | exact xin_ar _ | exact xin_sc _ _ | exact xin_cmp | exact xin_and | exact xin_or | exact xinl_g _ _ _ | omega | exact xin_mk (by omega) (by omega) | exact xinl_mk (by omega) (by omega) | exact xbo_0 | exact xbo_1 | exact xin_sl | exact xin_fa | exact xbo_ad | exact xin_bo xbo_ad | exact xin_mb | exact xin_A | exact xin_op | ((repeat refine gN_q ?_ (by omega) (by omega)); assumption)) only [rF_addRow_0, rF_addRow_1, rF_addRow_4, rF_addRow_6, rF_addRow_9, rF_addRow_10, rF_addRow_13, rF_addRow_14, rF_addRow_17, rF_addRow_18, rF_addRow_19, rF_addRow_20, rF_addRow_23, rF_addRow_24, rF_addRow_27, rF_addRow_28, rF_addRow_29, rF_addRow_30, rF_addRow_31, rF_addRow_34, rF_addRow_35, rF_addRow_36, rF_addRow_39, xg_cell, Option.toList_some, Option.toList_none, List.singleton_append, List.append_nil, List.nil_append, List.cons_append, false_and, if_false, if_true, Int.reduceAdd, Int.reduceSub, Int.reduceMul, Int.reduceNeg, Int.reduceLE, Int.reduceLT, Int.reduceEq, false_implies, true_implies, not_true_eq_false, not_false_eq_true, and_true, true_and, xar_0, xar_1, xar_2, xar_3, xar_4, xar_5, xar_6, xar_7, xar_8, xar_9, xar_10, xar_11, xar_12, gAr, hc, hc']
  · have hc' : 114 ≤ xg G 25 9 := by omega
    simp (contextual := true) (disch := first | assumption | exact xin_g _ _ _ | exact xin_ar _ | exact xin_sc _ _ | exact xin_cmp | exact xin_and | exact xin_or | exact xinl_g _ _ _ | omega | exact xin_mk (by omega) (by omega) | exact xinl_mk (by omega) (by omega) | exact xbo_0 | exact xbo_1 | exact xin_sl | exact xin_fa | exact xbo_ad | exact xin_bo xbo_ad | exact xin_mb | exact xin_A | exact xin_op | ((repeat refine gN_q ?_ (by omega) (by omega)); assumption)) only [rF_addRow_0, rF_addRow_1, rF_addRow_4, rF_addRow_6, rF_addRow_9, rF_addRow_10, rF_addRow_13, rF_addRow_14, rF_addRow_17, rF_addRow_18, rF_addRow_19, rF_addRow_20, rF_addRow_23, rF_addRow_24, rF_addRow_27, rF_addRow_28, rF_addRow_29, rF_addRow_30, rF_addRow_31, rF_addRow_34, rF_addRow_35, rF_addRow_36, rF_addRow_39, xg_cell, Option.toList_some, Option.toList_none, List.singleton_append, List.append_nil, List.nil_append, List.cons_append, false_and, if_false, if_true, Int.reduceAdd, Int.reduceSub, Int.reduceMul, Int.reduceNeg, Int.reduceLE, Int.reduceLT, Int.reduceEq, false_implies, true_implies, not_true_eq_false, not_false_eq_true, and_true, true_and, xar_0, xar_1, xar_2, xar_3, xar_4, xar_5, xar_6, xar_7, xar_8, xar_9, xar_10, xar_11, xar_12, gAr, hc, hc']
theorem gAr_c {o p j : Int} {a : Nat} (h1 : ¬ a = 30) (h2 : ¬ a = 31) (h3 : ¬ a = 25) : xg (gAr G o p) a j = xg G a j := by
  unfold gAr
  split
  · rw [xg_cell h3, xg_cell h2, xg_cell h1]
  · rfl
theorem gAr_n {o p : Int} (h0 : 0 ≤ xg G 25 9) : 0 ≤ xg (gAr G o p) 25 9 := by
  unfold gAr
  split
  · rw [xg_self ⟨by omega, by omega⟩]
    omega
  · exact h0
def gAq (s : Int) : Nat → Int → xG → xG
  | 0, _, G => G
  | n + 1, j, G => gAq s n (j + 1) (if xg G 22 j = s then gAr G j 0 else G)
theorem lF_aq {s : Int} (hs : xin s) : ∀ (n : Nat) (j : Int) (G : xG), j + n = xg G 21 3 → 0 ≤ j → xg G 21 3 ≤ 6 → 0 ≤ xg G 25 9 → (xw sc (d + 1) MF_addRequirementRows cF_addRequirementRows_2 [some (.ref 25), some (xI s), some (xI j)] [] (xH G K) Q ↔ Q none (xH (gAq s n j G) K)) := by
  intro n
  induction n with
  | zero =>
    intro j G hk j0 hn hr
    have hge : xg G 21 3 ≤ j := by omega
    rw [rF_addRequirementRows_2]
    simp (contextual := true) (disch := first | assumption | exact xin_g _ _ _ | exact xin_ar _ | exact xin_sc _ _ | exact xin_cmp | exact xin_and | exact xin_or | exact xinl_g _ _ _ | omega | exact xin_mk (by omega) (by omega) | exact xinl_mk (by omega) (by omega) | exact xbo_0 | exact xbo_1 | exact xin_sl | exact xin_fa | exact xbo_ad | exact xin_bo xbo_ad | exact xin_mb | exact xin_A | exact xin_op | ((repeat refine gN_q ?_ (by omega) (by omega)); assumption)) only [rF_addRequirementRows_0, rF_addRequirementRows_1, rF_addRequirementRows_3, rF_addRequirementRows_4, rF_addRequirementRows_7, rF_addRequirementRows_10, rF_addRequirementRows_13, rF_addRequirementRows_14, rF_addRequirementRows_17, rF_addRequirementRows_20, rF_addRequirementRows_21, rF_addRequirementRows_22, rF_addRequirementRows_23, rF_addRequirementRows_26, rF_addRequirementRows_27, rF_addRequirementRows_28, rF_addRequirementRows_29, rF_addRequirementRows_32, rF_addRequirementRows_35, rF_addRequirementRows_38, xg_cell, Option.toList_some, Option.toList_none, List.singleton_append, List.append_nil, List.nil_append, List.cons_append, false_and, if_false, if_true, Int.reduceAdd, Int.reduceSub, Int.reduceMul, Int.reduceNeg, Int.reduceLE, Int.reduceLT, Int.reduceEq, false_implies, true_implies, not_true_eq_false, not_false_eq_true, and_true, true_and, xar_0, xar_1, xar_2, xar_3, xar_4, xar_5, xar_6, xar_7, xar_8, xar_9, xar_10, xar_11, xar_12, gAq, hge]
  | succ n ih =>
    intro j G hk j0 hn hr
    have hlt : ¬ xg G 21 3 ≤ j := by omega
    rw [rF_addRequirementRows_2]
    by_cases hc : xg G 22 j = s
    · have e0 : xg (gAr G j 0) 21 3 = xg G 21 3 := gAr_c (by decide) (by decide) (by decide)
      have ih' := ih (j + 1) (gAr G j 0) (by omega) (by omega) (by omega) (gAr_n hr)
      have e1 : gAq s (n + 1) j G = gAq s n (j + 1) (gAr G j 0) := by
        show gAq s n (j + 1) (if xg G 22 j = s then gAr G j 0 else G) = _
        rw [if_pos hc]
      rw [e1]
      simp (contextual := true) (disch := first | assumption | exact xin_g _ _ _ | exact xin_ar _ | exact xin_sc _ _ | exact xin_cmp | exact xin_and | exact xin_or | exact xinl_g _ _ _ | omega | exact xin_mk (by omega) (by omega) | exact xinl_mk (by omega) (by omega) | exact xbo_0 | exact xbo_1 | exact xin_sl | exact xin_fa | exact xbo_ad | exact xin_bo xbo_ad | exact xin_mb | exact xin_A | exact xin_op | ((repeat refine gN_q ?_ (by omega) (by omega)); assumption)) only [rF_addRequirementRows_0, rF_addRequirementRows_1, rF_addRequirementRows_3, rF_addRequirementRows_4, rF_addRequirementRows_7, rF_addRequirementRows_10, rF_addRequirementRows_13, rF_addRequirementRows_14, rF_addRequirementRows_17, rF_addRequirementRows_20, rF_addRequirementRows_21, rF_addRequirementRows_22, rF_addRequirementRows_23, rF_addRequirementRows_26, rF_addRequirementRows_27, rF_addRequirementRows_28, rF_addRequirementRows_29, rF_addRequirementRows_32, rF_addRequirementRows_35, rF_addRequirementRows_38, ↓sF_addRow, xg_cell, Option.toList_some, Option.toList_none, List.singleton_append, List.append_nil, List.nil_append, List.cons_append, false_and, if_false, if_true, Int.reduceAdd, Int.reduceSub, Int.reduceMul, Int.reduceNeg, Int.reduceLE, Int.reduceLT, Int.reduceEq, false_implies, true_implies, not_true_eq_false, not_false_eq_true, and_true, true_and, xar_0, xar_1, xar_2, xar_3, xar_4, xar_5, xar_6, xar_7, xar_8, xar_9, xar_10, xar_11, xar_12, hlt, hc, ih']
    · have ih' := ih (j + 1) G (by omega) (by omega) hn hr
      have e1 : gAq s (n + 1) j G = gAq s n (j + 1) G := by
        show gAq s n (j + 1) (if xg G 22 j = s then gAr G j 0 else G) = _
        rw [if_neg hc]
      rw [e1]
      simp (contextual := true) (disch := first | assumption | exact xin_g _ _ _ | exact xin_ar _ | exact xin_sc _ _ | exact xin_cmp | exact xin_and | exact xin_or | exact xinl_g _ _ _ | omega | exact xin_mk (by omega) (by omega) | exact xinl_mk (by omega) (by omega) | exact xbo_0 | exact xbo_1 | exact xin_sl | exact xin_fa | exact xbo_ad | exact xin_bo xbo_ad | exact xin_mb | exact xin_A | exact xin_op | ((repeat refine gN_q ?_ (by omega) (by omega)); assumption)) only [rF_addRequirementRows_0, rF_addRequirementRows_1, rF_addRequirementRows_3, rF_addRequirementRows_4, rF_addRequirementRows_7, rF_addRequirementRows_10, rF_addRequirementRows_13, rF_addRequirementRows_14, rF_addRequirementRows_17, rF_addRequirementRows_20, rF_addRequirementRows_21, rF_addRequirementRows_22, rF_addRequirementRows_23, rF_addRequirementRows_26, rF_addRequirementRows_27, rF_addRequirementRows_28, rF_addRequirementRows_29, rF_addRequirementRows_32, rF_addRequirementRows_35, rF_addRequirementRows_38, ↓sF_addRow, xg_cell, Option.toList_some, Option.toList_none, List.singleton_append, List.append_nil, List.nil_append, List.cons_append, false_and, if_false, if_true, Int.reduceAdd, Int.reduceSub, Int.reduceMul, Int.reduceNeg, Int.reduceLE, Int.reduceLT, Int.reduceEq, false_implies, true_implies, not_true_eq_false, not_false_eq_true, and_true, true_and, xar_0, xar_1, xar_2, xar_3, xar_4, xar_5, xar_6, xar_7, xar_8, xar_9, xar_10, xar_11, xar_12, hlt, hc, ih']
theorem sF_aq {s : Int} (hs : xin s) (h0 : 0 ≤ xg G 21 3) (h1 : xg G 21 3 ≤ 6) (hr : 0 ≤ xg G 25 9) : xc sc (d + 1) MF_addRequirementRows [.ref 25, xI s] (xH G K) Q ↔ Q none (xH (gAq s (xg G 21 3).toNat 0 G) K) := by
  rw [eF_addRequirementRows]
  have hl := lF_aq (sc := sc) (d := d) (K := K) (Q := Q) hs (xg G 21 3).toNat 0 G (by omega) (by omega) h1 hr
  simp (contextual := true) (disch := first | assumption | exact xin_g _ _ _ | exact xin_ar _ | exact xin_sc _ _ | exact xin_cmp | exact xin_and | exact xin_or | exact xinl_g _ _ _ | omega | exact xin_mk (by omega) (by omega) | exact xinl_mk (by omega) (by omega) | exact xbo_0 | exact xbo_1 | exact xin_sl | exact xin_fa | exact xbo_ad | exact xin_bo xbo_ad | exact xin_mb | exact xin_A | exact xin_op | ((repeat refine gN_q ?_ (by omega) (by omega)); assumption)) only [rF_addRequirementRows_0, rF_addRequirementRows_1, xg_cell, Option.toList_some, Option.toList_none, List.singleton_append, List.append_nil, List.nil_append, List.cons_append, hl]
def gAa1 (s : Int) (G : xG) (k : Int) : xG := if gAx G k ∧ ((xg G 10 k = 10 ∧ s = 1) ∨ (¬ xg G 10 k = 10 ∧ s = 0)) then (if ¬ s = 0 ∨ xg G 10 k = 11 then gAr (gAr (gAr G k 0) k 1) k 2 else gAr (gAr G k 0) k 1) else G
def gAa (s : Int) : Nat → Int → xG → xG
  | 0, _, G => G
  | n + 1, k, G => gAa s n (k + 1) (gAa1 s G k)
theorem gAa1_c {s k j : Int} {a : Nat} (h1 : ¬ a = 30) (h2 : ¬ a = 31) (h3 : ¬ a = 25) : xg (gAa1 s G k) a j = xg G a j := by
  unfold gAa1
  split
  · split
    · rw [gAr_c h1 h2 h3, gAr_c h1 h2 h3, gAr_c h1 h2 h3]
    · rw [gAr_c h1 h2 h3, gAr_c h1 h2 h3]
  · rfl
theorem gAa1_n {s k : Int} (h0 : 0 ≤ xg G 25 9) : 0 ≤ xg (gAa1 s G k) 25 9 := by
  have a1 := gAr_n (o := k) (p := 0) h0
  have a2 := gAr_n (o := k) (p := 1) a1
  have a3 := gAr_n (o := k) (p := 2) a2
  unfold gAa1
  split
  · split
    · exact a3
    · exact a2
  · exact h0
set_option maxHeartbeats 4000000 in
theorem lF_aa {s : Int} (hs : s = 0 ∨ s = 1) : ∀ (n : Nat) (k : Int) (G : xG), k + n = xg G 9 9 → 0 ≤ k → xg G 9 9 ≤ 36 → 0 ≤ xg G 25 9 → (∀ u3 u4 : Option Value, xw sc (d + 1) MF_addAuxiliaryRows cF_addAuxiliaryRows_2 [some (.ref 25), some (xI s), some (xI k), none, none] [] (xH G K) Q ↔ Q none (xH (gAa s n k G) K)) := by
  intro n
  induction n with
  | zero =>
    intro k G hk k0 hn hr _ _
    have hge : xg G 9 9 ≤ k := by omega
    rw [rF_addAuxiliaryRows_2]
    simp (contextual := true) (disch := first | assumption | exact xin_g _ _ _ | exact xin_ar _ | exact xin_sc _ _ | exact xin_cmp | exact xin_and | exact xin_or | exact xinl_g _ _ _ | omega | exact xin_mk (by omega) (by omega) | exact xinl_mk (by omega) (by omega) | exact xbo_0 | exact xbo_1 | exact xin_sl | exact xin_fa | exact xbo_ad | exact xin_bo xbo_ad | exact xin_mb | exact xin_A | exact xin_op | ((repeat refine gN_q ?_ (by omega) (by omega)); assumption)) only [rF_addAuxiliaryRows_3, rF_addAuxiliaryRows_4, rF_addAuxiliaryRows_7, rF_addAuxiliaryRows_10, rF_addAuxiliaryRows_96, xg_cell, Option.toList_some, Option.toList_none, List.singleton_append, List.append_nil, List.nil_append, List.cons_append, false_and, if_false, if_true, Int.reduceAdd, Int.reduceSub, Int.reduceMul, Int.reduceNeg, Int.reduceLE, Int.reduceLT, Int.reduceEq, false_implies, true_implies, not_true_eq_false, not_false_eq_true, and_true, true_and, xar_0, xar_1, xar_2, xar_3, xar_4, xar_5, xar_6, xar_7, xar_8, xar_9, xar_10, xar_11, xar_12, gAa, hge]
  | succ n ih =>
    intro k G hk k0 hn hr _ _
    have hlt : ¬ xg G 9 9 ≤ k := by omega
    have e9 : xg (gAa1 s G k) 9 9 = xg G 9 9 := gAa1_c (by decide) (by decide) (by decide)
    have ih' := ih (k + 1) (gAa1 s G k) (by omega) (by omega) (by omega) (gAa1_n hr) none none
    have ha := fun (Q : Option Value → am_H → Prop) => sF_isAuxiliary (sc := sc) (d := d) (K := K) (Q := Q) (G := G) (k := k) k0 (by omega)
    have n1 : 0 ≤ xg (gAr G k 0) 25 9 := gAr_n hr
    have n2 : 0 ≤ xg (gAr (gAr G k 0) k 1) 25 9 := gAr_n n1
    have hs0 : xin s := by rcases hs with rfl | rfl <;> exact ⟨by decide, by decide⟩
    have e1 : gAa s (n + 1) k G = gAa s n (k + 1) (gAa1 s G k) := rfl
    rw [e1, rF_addAuxiliaryRows_2]
    by_cases hc : gAx G k
    · simp only [if_pos hc] at ha
      by_cases h10 : xg G 10 k = 10
      · rcases hs with rfl | rfl
        · have e2 : gAa1 0 G k = G := by
            unfold gAa1
            rw [if_neg (fun q => q.2.elim (fun z => absurd z.2 (by decide)) (fun z => z.1 h10))]
          rw [e2] at ih' ⊢
          simp (contextual := true) (disch := first | assumption | exact xin_g _ _ _ | exact xin_ar _ | exact xin_sc _ _ | exact xin_cmp | exact xin_and | exact xin_or | exact xinl_g _ _ _ | omega | exact xin_mk (by omega) (by omega) | exact xinl_mk (by omega) (by omega) | exact xbo_0 | exact xbo_1 | exact xin_sl | exact xin_fa | exact xbo_ad | exact xin_bo xbo_ad | exact xin_mb | exact xin_A | exact xin_op | ((repeat refine gN_q ?_ (by omega) (by omega)); assumption)) only [rF_addAuxiliaryRows_0, rF_addAuxiliaryRows_1, rF_addAuxiliaryRows_3, rF_addAuxiliaryRows_4, rF_addAuxiliaryRows_7, rF_addAuxiliaryRows_10, rF_addAuxiliaryRows_13, rF_addAuxiliaryRows_14, rF_addAuxiliaryRows_15, rF_addAuxiliaryRows_18, rF_addAuxiliaryRows_21, rF_addAuxiliaryRows_22, rF_addAuxiliaryRows_25, rF_addAuxiliaryRows_28, rF_addAuxiliaryRows_29, rF_addAuxiliaryRows_30, rF_addAuxiliaryRows_32, rF_addAuxiliaryRows_35, rF_addAuxiliaryRows_36, rF_addAuxiliaryRows_39, rF_addAuxiliaryRows_40, rF_addAuxiliaryRows_41, rF_addAuxiliaryRows_44, rF_addAuxiliaryRows_45, rF_addAuxiliaryRows_48, rF_addAuxiliaryRows_49, rF_addAuxiliaryRows_52, rF_addAuxiliaryRows_55, rF_addAuxiliaryRows_56, rF_addAuxiliaryRows_57, rF_addAuxiliaryRows_59, rF_addAuxiliaryRows_62, rF_addAuxiliaryRows_63, rF_addAuxiliaryRows_66, rF_addAuxiliaryRows_67, rF_addAuxiliaryRows_68, rF_addAuxiliaryRows_69, rF_addAuxiliaryRows_71, rF_addAuxiliaryRows_73, rF_addAuxiliaryRows_74, rF_addAuxiliaryRows_77, rF_addAuxiliaryRows_78, rF_addAuxiliaryRows_79, rF_addAuxiliaryRows_81, rF_addAuxiliaryRows_84, rF_addAuxiliaryRows_87, rF_addAuxiliaryRows_90, rF_addAuxiliaryRows_93, rF_addAuxiliaryRows_96, ↓ha, ↓sF_addRow, xg_cell, Option.toList_some, Option.toList_none, List.singleton_append, List.append_nil, List.nil_append, List.cons_append, false_and, if_false, if_true, Int.reduceAdd, Int.reduceSub, Int.reduceMul, Int.reduceNeg, Int.reduceLE, Int.reduceLT, Int.reduceEq, false_implies, true_implies, not_true_eq_false, not_false_eq_true, and_true, true_and, xar_0, xar_1, xar_2, xar_3, xar_4, xar_5, xar_6, xar_7, xar_8, xar_9, xar_10, xar_11, xar_12, hlt, h10, ih']
        · have e2 : gAa1 1 G k = gAr (gAr (gAr G k 0) k 1) k 2 := by
            unfold gAa1
            rw [if_pos ⟨hc, Or.inl ⟨h10, rfl⟩⟩, if_pos (Or.inl (by decide))]
          rw [e2] at ih' ⊢
          simp (contextual := true) (disch := first | assumption | exact xin_g _ _ _ | exact xin_ar _ | exact xin_sc _ _ | exact xin_cmp | exact xin_and | exact xin_or | exact xinl_g _ _ _ | omega | exact xin_mk (by omega) (by omega) | exact xinl_mk (by omega) (by omega) | exact xbo_0 | exact xbo_1 | exact xin_sl | exact xin_fa | exact xbo_ad | exact xin_bo xbo_ad | exact xin_mb | exact xin_A | exact xin_op | ((repeat refine gN_q ?_ (by omega) (by omega)); assumption)) only [rF_addAuxiliaryRows_0, rF_addAuxiliaryRows_1, rF_addAuxiliaryRows_3, rF_addAuxiliaryRows_4, rF_addAuxiliaryRows_7, rF_addAuxiliaryRows_10, rF_addAuxiliaryRows_13, rF_addAuxiliaryRows_14, rF_addAuxiliaryRows_15, rF_addAuxiliaryRows_18, rF_addAuxiliaryRows_21, rF_addAuxiliaryRows_22, rF_addAuxiliaryRows_25, rF_addAuxiliaryRows_28, rF_addAuxiliaryRows_29, rF_addAuxiliaryRows_30, rF_addAuxiliaryRows_32, rF_addAuxiliaryRows_35, rF_addAuxiliaryRows_36, rF_addAuxiliaryRows_39, rF_addAuxiliaryRows_40, rF_addAuxiliaryRows_41, rF_addAuxiliaryRows_44, rF_addAuxiliaryRows_45, rF_addAuxiliaryRows_48, rF_addAuxiliaryRows_49, rF_addAuxiliaryRows_52, rF_addAuxiliaryRows_55, rF_addAuxiliaryRows_56, rF_addAuxiliaryRows_57, rF_addAuxiliaryRows_59, rF_addAuxiliaryRows_62, rF_addAuxiliaryRows_63, rF_addAuxiliaryRows_66, rF_addAuxiliaryRows_67, rF_addAuxiliaryRows_68, rF_addAuxiliaryRows_69, rF_addAuxiliaryRows_71, rF_addAuxiliaryRows_73, rF_addAuxiliaryRows_74, rF_addAuxiliaryRows_77, rF_addAuxiliaryRows_78, rF_addAuxiliaryRows_79, rF_addAuxiliaryRows_81, rF_addAuxiliaryRows_84, rF_addAuxiliaryRows_87, rF_addAuxiliaryRows_90, rF_addAuxiliaryRows_93, rF_addAuxiliaryRows_96, ↓ha, ↓sF_addRow, xg_cell, Option.toList_some, Option.toList_none, List.singleton_append, List.append_nil, List.nil_append, List.cons_append, false_and, if_false, if_true, Int.reduceAdd, Int.reduceSub, Int.reduceMul, Int.reduceNeg, Int.reduceLE, Int.reduceLT, Int.reduceEq, false_implies, true_implies, not_true_eq_false, not_false_eq_true, and_true, true_and, xar_0, xar_1, xar_2, xar_3, xar_4, xar_5, xar_6, xar_7, xar_8, xar_9, xar_10, xar_11, xar_12, hlt, h10, ih']
      · rcases hs with rfl | rfl
        · by_cases h11 : xg G 10 k = 11
          · have e2 : gAa1 0 G k = gAr (gAr (gAr G k 0) k 1) k 2 := by
              unfold gAa1
              rw [if_pos ⟨hc, Or.inr ⟨h10, rfl⟩⟩, if_pos (Or.inr h11)]
            rw [e2] at ih' ⊢
            simp (contextual := true) (disch := first | assumption | exact xin_g _ _ _ | exact xin_ar _ | exact xin_sc _ _ | exact xin_cmp | exact xin_and | exact xin_or | exact xinl_g _ _ _ | omega | exact xin_mk (by omega) (by omega) | exact xinl_mk (by omega) (by omega) | exact xbo_0 | exact xbo_1 | exact xin_sl | exact xin_fa | exact xbo_ad | exact xin_bo xbo_ad | exact xin_mb | exact xin_A | exact xin_op | ((repeat refine gN_q ?_ (by omega) (by omega)); assumption)) only [rF_addAuxiliaryRows_0, rF_addAuxiliaryRows_1, rF_addAuxiliaryRows_3, rF_addAuxiliaryRows_4, rF_addAuxiliaryRows_7, rF_addAuxiliaryRows_10, rF_addAuxiliaryRows_13, rF_addAuxiliaryRows_14, rF_addAuxiliaryRows_15, rF_addAuxiliaryRows_18, rF_addAuxiliaryRows_21, rF_addAuxiliaryRows_22, rF_addAuxiliaryRows_25, rF_addAuxiliaryRows_28, rF_addAuxiliaryRows_29, rF_addAuxiliaryRows_30, rF_addAuxiliaryRows_32, rF_addAuxiliaryRows_35, rF_addAuxiliaryRows_36, rF_addAuxiliaryRows_39, rF_addAuxiliaryRows_40, rF_addAuxiliaryRows_41, rF_addAuxiliaryRows_44, rF_addAuxiliaryRows_45, rF_addAuxiliaryRows_48, rF_addAuxiliaryRows_49, rF_addAuxiliaryRows_52, rF_addAuxiliaryRows_55, rF_addAuxiliaryRows_56, rF_addAuxiliaryRows_57, rF_addAuxiliaryRows_59, rF_addAuxiliaryRows_62, rF_addAuxiliaryRows_63, rF_addAuxiliaryRows_66, rF_addAuxiliaryRows_67, rF_addAuxiliaryRows_68, rF_addAuxiliaryRows_69, rF_addAuxiliaryRows_71, rF_addAuxiliaryRows_73, rF_addAuxiliaryRows_74, rF_addAuxiliaryRows_77, rF_addAuxiliaryRows_78, rF_addAuxiliaryRows_79, rF_addAuxiliaryRows_81, rF_addAuxiliaryRows_84, rF_addAuxiliaryRows_87, rF_addAuxiliaryRows_90, rF_addAuxiliaryRows_93, rF_addAuxiliaryRows_96, ↓ha, ↓sF_addRow, xg_cell, Option.toList_some, Option.toList_none, List.singleton_append, List.append_nil, List.nil_append, List.cons_append, false_and, if_false, if_true, Int.reduceAdd, Int.reduceSub, Int.reduceMul, Int.reduceNeg, Int.reduceLE, Int.reduceLT, Int.reduceEq, false_implies, true_implies, not_true_eq_false, not_false_eq_true, and_true, true_and, xar_0, xar_1, xar_2, xar_3, xar_4, xar_5, xar_6, xar_7, xar_8, xar_9, xar_10, xar_11, xar_12, hlt, h11, ih']
          · have e2 : gAa1 0 G k = gAr (gAr G k 0) k 1 := by
              unfold gAa1
              rw [if_pos ⟨hc, Or.inr ⟨h10, rfl⟩⟩, if_neg (fun q => q.elim (fun z => z rfl) h11)]
            rw [e2] at ih' ⊢
            simp (contextual := true) (disch := first | assumption | exact xin_g _ _ _ | exact xin_ar _ | exact xin_sc _ _ | exact xin_cmp | exact xin_and | exact xin_or | exact xinl_g _ _ _ | omega | exact xin_mk (by omega) (by omega) | exact xinl_mk (by omega) (by omega) | exact xbo_0 | exact xbo_1 | exact xin_sl | exact xin_fa | exact xbo_ad | exact xin_bo xbo_ad | exact xin_mb | exact xin_A | exact xin_op | ((repeat refine gN_q ?_ (by omega) (by omega)); assumption)) only [rF_addAuxiliaryRows_0, rF_addAuxiliaryRows_1, rF_addAuxiliaryRows_3, rF_addAuxiliaryRows_4, rF_addAuxiliaryRows_7, rF_addAuxiliaryRows_10, rF_addAuxiliaryRows_13, rF_addAuxiliaryRows_14, rF_addAuxiliaryRows_15, rF_addAuxiliaryRows_18, rF_addAuxiliaryRows_21, rF_addAuxiliaryRows_22, rF_addAuxiliaryRows_25, rF_addAuxiliaryRows_28, rF_addAuxiliaryRows_29, rF_addAuxiliaryRows_30, rF_addAuxiliaryRows_32, rF_addAuxiliaryRows_35, rF_addAuxiliaryRows_36, rF_addAuxiliaryRows_39, rF_addAuxiliaryRows_40, rF_addAuxiliaryRows_41, rF_addAuxiliaryRows_44, rF_addAuxiliaryRows_45, rF_addAuxiliaryRows_48, rF_addAuxiliaryRows_49, rF_addAuxiliaryRows_52, rF_addAuxiliaryRows_55, rF_addAuxiliaryRows_56, rF_addAuxiliaryRows_57, rF_addAuxiliaryRows_59, rF_addAuxiliaryRows_62, rF_addAuxiliaryRows_63, rF_addAuxiliaryRows_66, rF_addAuxiliaryRows_67, rF_addAuxiliaryRows_68, rF_addAuxiliaryRows_69, rF_addAuxiliaryRows_71, rF_addAuxiliaryRows_73, rF_addAuxiliaryRows_74, rF_addAuxiliaryRows_77, rF_addAuxiliaryRows_78, rF_addAuxiliaryRows_79, rF_addAuxiliaryRows_81, rF_addAuxiliaryRows_84, rF_addAuxiliaryRows_87, rF_addAuxiliaryRows_90, rF_addAuxiliaryRows_93, rF_addAuxiliaryRows_96, ↓ha, ↓sF_addRow, xg_cell, Option.toList_some, Option.toList_none, List.singleton_append, List.append_nil, List.nil_append, List.cons_append, false_and, if_false, if_true, Int.reduceAdd, Int.reduceSub, Int.reduceMul, Int.reduceNeg, Int.reduceLE, Int.reduceLT, Int.reduceEq, false_implies, true_implies, not_true_eq_false, not_false_eq_true, and_true, true_and, xar_0, xar_1, xar_2, xar_3, xar_4, xar_5, xar_6, xar_7, xar_8, xar_9, xar_10, xar_11, xar_12, hlt, h10, h11, ih']
        · have e2 : gAa1 1 G k = G := by
            unfold gAa1
            rw [if_neg (fun q => q.2.elim (fun z => h10 z.1) (fun z => absurd z.2 (by decide)))]
          rw [e2] at ih' ⊢
          simp (contextual := true) (disch := first | assumption | exact xin_g _ _ _ | exact xin_ar _ | exact xin_sc _ _ | exact xin_cmp | exact xin_and | exact xin_or | exact xinl_g _ _ _ | omega | exact xin_mk (by omega) (by omega) | exact xinl_mk (by omega) (by omega) | exact xbo_0 | exact xbo_1 | exact xin_sl | exact xin_fa | exact xbo_ad | exact xin_bo xbo_ad | exact xin_mb | exact xin_A | exact xin_op | ((repeat refine gN_q ?_ (by omega) (by omega)); assumption)) only [rF_addAuxiliaryRows_0, rF_addAuxiliaryRows_1, rF_addAuxiliaryRows_3, rF_addAuxiliaryRows_4, rF_addAuxiliaryRows_7, rF_addAuxiliaryRows_10, rF_addAuxiliaryRows_13, rF_addAuxiliaryRows_14, rF_addAuxiliaryRows_15, rF_addAuxiliaryRows_18, rF_addAuxiliaryRows_21, rF_addAuxiliaryRows_22, rF_addAuxiliaryRows_25, rF_addAuxiliaryRows_28, rF_addAuxiliaryRows_29, rF_addAuxiliaryRows_30, rF_addAuxiliaryRows_32, rF_addAuxiliaryRows_35, rF_addAuxiliaryRows_36, rF_addAuxiliaryRows_39, rF_addAuxiliaryRows_40, rF_addAuxiliaryRows_41, rF_addAuxiliaryRows_44, rF_addAuxiliaryRows_45, rF_addAuxiliaryRows_48, rF_addAuxiliaryRows_49, rF_addAuxiliaryRows_52, rF_addAuxiliaryRows_55, rF_addAuxiliaryRows_56, rF_addAuxiliaryRows_57, rF_addAuxiliaryRows_59, rF_addAuxiliaryRows_62, rF_addAuxiliaryRows_63, rF_addAuxiliaryRows_66, rF_addAuxiliaryRows_67, rF_addAuxiliaryRows_68, rF_addAuxiliaryRows_69, rF_addAuxiliaryRows_71, rF_addAuxiliaryRows_73, rF_addAuxiliaryRows_74, rF_addAuxiliaryRows_77, rF_addAuxiliaryRows_78, rF_addAuxiliaryRows_79, rF_addAuxiliaryRows_81, rF_addAuxiliaryRows_84, rF_addAuxiliaryRows_87, rF_addAuxiliaryRows_90, rF_addAuxiliaryRows_93, rF_addAuxiliaryRows_96, ↓ha, ↓sF_addRow, xg_cell, Option.toList_some, Option.toList_none, List.singleton_append, List.append_nil, List.nil_append, List.cons_append, false_and, if_false, if_true, Int.reduceAdd, Int.reduceSub, Int.reduceMul, Int.reduceNeg, Int.reduceLE, Int.reduceLT, Int.reduceEq, false_implies, true_implies, not_true_eq_false, not_false_eq_true, and_true, true_and, xar_0, xar_1, xar_2, xar_3, xar_4, xar_5, xar_6, xar_7, xar_8, xar_9, xar_10, xar_11, xar_12, hlt, h10, ih']
    · simp only [if_neg hc] at ha
      have e2 : gAa1 s G k = G := by
        unfold gAa1
        rw [if_neg (fun q => hc q.1)]
      rw [e2] at ih' ⊢
      simp (contextual := true) (disch := first | assumption | exact xin_g _ _ _ | exact xin_ar _ | exact xin_sc _ _ | exact xin_cmp | exact xin_and | exact xin_or | exact xinl_g _ _ _ | omega | exact xin_mk (by omega) (by omega) | exact xinl_mk (by omega) (by omega) | exact xbo_0 | exact xbo_1 | exact xin_sl | exact xin_fa | exact xbo_ad | exact xin_bo xbo_ad | exact xin_mb | exact xin_A | exact xin_op | ((repeat refine gN_q ?_ (by omega) (by omega)); assumption)) only [rF_addAuxiliaryRows_0, rF_addAuxiliaryRows_1, rF_addAuxiliaryRows_3, rF_addAuxiliaryRows_4, rF_addAuxiliaryRows_7, rF_addAuxiliaryRows_10, rF_addAuxiliaryRows_13, rF_addAuxiliaryRows_14, rF_addAuxiliaryRows_15, rF_addAuxiliaryRows_18, rF_addAuxiliaryRows_21, rF_addAuxiliaryRows_22, rF_addAuxiliaryRows_25, rF_addAuxiliaryRows_28, rF_addAuxiliaryRows_29, rF_addAuxiliaryRows_30, rF_addAuxiliaryRows_32, rF_addAuxiliaryRows_35, rF_addAuxiliaryRows_36, rF_addAuxiliaryRows_39, rF_addAuxiliaryRows_40, rF_addAuxiliaryRows_41, rF_addAuxiliaryRows_44, rF_addAuxiliaryRows_45, rF_addAuxiliaryRows_48, rF_addAuxiliaryRows_49, rF_addAuxiliaryRows_52, rF_addAuxiliaryRows_55, rF_addAuxiliaryRows_56, rF_addAuxiliaryRows_57, rF_addAuxiliaryRows_59, rF_addAuxiliaryRows_62, rF_addAuxiliaryRows_63, rF_addAuxiliaryRows_66, rF_addAuxiliaryRows_67, rF_addAuxiliaryRows_68, rF_addAuxiliaryRows_69, rF_addAuxiliaryRows_71, rF_addAuxiliaryRows_73, rF_addAuxiliaryRows_74, rF_addAuxiliaryRows_77, rF_addAuxiliaryRows_78, rF_addAuxiliaryRows_79, rF_addAuxiliaryRows_81, rF_addAuxiliaryRows_84, rF_addAuxiliaryRows_87, rF_addAuxiliaryRows_90, rF_addAuxiliaryRows_93, rF_addAuxiliaryRows_96, ↓ha, xg_cell, Option.toList_some, Option.toList_none, List.singleton_append, List.append_nil, List.nil_append, List.cons_append, false_and, if_false, if_true, Int.reduceAdd, Int.reduceSub, Int.reduceMul, Int.reduceNeg, Int.reduceLE, Int.reduceLT, Int.reduceEq, false_implies, true_implies, not_true_eq_false, not_false_eq_true, and_true, true_and, xar_0, xar_1, xar_2, xar_3, xar_4, xar_5, xar_6, xar_7, xar_8, xar_9, xar_10, xar_11, xar_12, hlt, ih']
theorem sF_aa {s : Int} (hs : s = 0 ∨ s = 1) (h0 : 0 ≤ xg G 9 9) (h1 : xg G 9 9 ≤ 36) (hr : 0 ≤ xg G 25 9) : xc sc (d + 1) MF_addAuxiliaryRows [.ref 25, xI s] (xH G K) Q ↔ Q none (xH (gAa s (xg G 9 9).toNat 0 G) K) := by
  rw [eF_addAuxiliaryRows]
  have hl := lF_aa (sc := sc) (d := d) (K := K) (Q := Q) hs (xg G 9 9).toNat 0 G (by omega) (by omega) h1 hr none none
  simp (contextual := true) (disch := first | assumption | exact xin_g _ _ _ | exact xin_ar _ | exact xin_sc _ _ | exact xin_cmp | exact xin_and | exact xin_or | exact xinl_g _ _ _ | omega | exact xin_mk (by omega) (by omega) | exact xinl_mk (by omega) (by omega) | exact xbo_0 | exact xbo_1 | exact xin_sl | exact xin_fa | exact xbo_ad | exact xin_bo xbo_ad | exact xin_mb | exact xin_A | exact xin_op | ((repeat refine gN_q ?_ (by omega) (by omega)); assumption)) only [rF_addAuxiliaryRows_0, rF_addAuxiliaryRows_1, xg_cell, Option.toList_some, Option.toList_none, List.singleton_append, List.append_nil, List.nil_append, List.cons_append, hl]
end SP
