/-! the reference: withdraw, feasible -/
section SP
variable {sc : Nat × (Nat → Int32)} {d : Nat} {Q : Option Value → am_H → Prop} {G X : xG} {K : xK} {h : am_H}
def mRm1 (G : xG) (i : Int) : xG := xp (xp (xp G 55 i (xg G 55 (i + 1))) 56 i (xg G 56 (i + 1))) 57 i (xg G 57 (i + 1))
def mRm : Nat → Int → xG → xG
  | 0, _, G => G
  | n + 1, i, G => mRm n (i + 1) (mRm1 G i)
def mB55 (G : xG) : Prop := ∀ j, 0 ≤ j → j < 6 → xbo (xg G 55 j)
theorem mRm1_b {i : Int} (h : mB55 G) (h0 : 0 ≤ i) (h1 : i < 5) : mB55 (mRm1 G i) := by
  intro j j0 j1
  unfold mRm1
  rw [xg_cell (by decide), xg_cell (by decide)]
  by_cases hj : j = i
  · subst hj
    have hb := h (j + 1) (by omega) (by omega)
    rw [xg_self (xin_bo hb)]
    exact hb
  · rw [xg_idx h0 j0 hj]
    exact h j j0 j1
theorem mRm1_33 {i j : Int} : xg (mRm1 G i) 33 j = xg G 33 j := by
  unfold mRm1
  rw [xg_cell (by decide), xg_cell (by decide), xg_cell (by decide)]
theorem lm_withdraw : ∀ (n : Nat) (i : Int) (G : xG) (u1 : Option Value), mB55 G → i + n = xg G 33 30 → 0 ≤ i → xg G 33 30 ≤ 5 → (xw sc d Mm_withdraw cm_withdraw_26 [some (.ref 33), u1, some (xI i)] [] (xH G K) Q ↔ Q (some (xI 1)) (xH (xp (mRm n i G) 33 34 0) K)) := by
  intro n
  induction n with
  | zero =>
    intro i G u1 hB hk i0 hn
    have hge : xg G 33 30 ≤ i := by omega
    rw [rm_withdraw_26]
    simp (contextual := true) (disch := first | assumption | exact xin_g _ _ _ | exact xin_ar _ | exact xin_sc _ _ | exact xin_cmp | exact xin_and | exact xin_or | exact xinl_g _ _ _ | omega | exact xin_mk (by omega) (by omega) | exact xinl_mk (by omega) (by omega) | exact xbo_0 | exact xbo_1 | exact xin_sl | exact xin_fa | exact xbo_ad | exact xin_bo xbo_ad | exact xin_mb | exact xin_A | exact xin_op | ((repeat refine gN_q ?_ (by omega) (by omega)); assumption)) only [rm_withdraw_0, rm_withdraw_1, rm_withdraw_4, rm_withdraw_5, rm_withdraw_6, rm_withdraw_9, rm_withdraw_12, rm_withdraw_13, rm_withdraw_14, rm_withdraw_15, rm_withdraw_16, rm_withdraw_19, rm_withdraw_20, rm_withdraw_21, rm_withdraw_24, rm_withdraw_25, rm_withdraw_27, rm_withdraw_28, rm_withdraw_31, rm_withdraw_34, rm_withdraw_35, rm_withdraw_38, rm_withdraw_39, rm_withdraw_40, rm_withdraw_43, rm_withdraw_44, rm_withdraw_45, rm_withdraw_46, rm_withdraw_47, rm_withdraw_48, rm_withdraw_49, rm_withdraw_52, rm_withdraw_53, rm_withdraw_54, rm_withdraw_57, rm_withdraw_58, rm_withdraw_59, rm_withdraw_60, rm_withdraw_61, rm_withdraw_62, rm_withdraw_63, rm_withdraw_66, rm_withdraw_67, rm_withdraw_68, rm_withdraw_71, rm_withdraw_72, rm_withdraw_73, rm_withdraw_74, rm_withdraw_75, rm_withdraw_76, rm_withdraw_79, rm_withdraw_82, rm_withdraw_83, rm_withdraw_84, rm_withdraw_87, rm_withdraw_88, xg_cell, Option.toList_some, Option.toList_none, List.singleton_append, List.append_nil, List.nil_append, List.cons_append, false_and, if_false, if_true, Int.reduceAdd, Int.reduceSub, Int.reduceMul, Int.reduceNeg, Int.reduceLE, Int.reduceLT, Int.reduceEq, false_implies, true_implies, not_true_eq_false, not_false_eq_true, and_true, true_and, xar_0, xar_1, xar_2, xar_3, xar_4, xar_5, xar_6, xar_7, xar_8, xar_9, xar_10, xar_11, xar_12, mRm, hge]
  | succ n ih =>
    intro i G u1 hB hk i0 hn
    have ih' := ih (i + 1) (mRm1 G i) none (mRm1_b hB i0 (by omega)) (by rw [mRm1_33]; omega) (by omega) (by rw [mRm1_33]; exact hn)
    have hlt : ¬ xg G 33 30 ≤ i := by omega
    have hb := hB (i + 1) (by omega) (by omega)
    unfold mRm1 at ih'
    rw [rm_withdraw_26]
    simp (contextual := true) (disch := first | assumption | exact xin_g _ _ _ | exact xin_ar _ | exact xin_sc _ _ | exact xin_cmp | exact xin_and | exact xin_or | exact xinl_g _ _ _ | omega | exact xin_mk (by omega) (by omega) | exact xinl_mk (by omega) (by omega) | exact xbo_0 | exact xbo_1 | exact xin_sl | exact xin_fa | exact xbo_ad | exact xin_bo xbo_ad | exact xin_mb | exact xin_A | exact xin_op | ((repeat refine gN_q ?_ (by omega) (by omega)); assumption)) only [rm_withdraw_0, rm_withdraw_1, rm_withdraw_4, rm_withdraw_5, rm_withdraw_6, rm_withdraw_9, rm_withdraw_12, rm_withdraw_13, rm_withdraw_14, rm_withdraw_15, rm_withdraw_16, rm_withdraw_19, rm_withdraw_20, rm_withdraw_21, rm_withdraw_24, rm_withdraw_25, rm_withdraw_27, rm_withdraw_28, rm_withdraw_31, rm_withdraw_34, rm_withdraw_35, rm_withdraw_38, rm_withdraw_39, rm_withdraw_40, rm_withdraw_43, rm_withdraw_44, rm_withdraw_45, rm_withdraw_46, rm_withdraw_47, rm_withdraw_48, rm_withdraw_49, rm_withdraw_52, rm_withdraw_53, rm_withdraw_54, rm_withdraw_57, rm_withdraw_58, rm_withdraw_59, rm_withdraw_60, rm_withdraw_61, rm_withdraw_62, rm_withdraw_63, rm_withdraw_66, rm_withdraw_67, rm_withdraw_68, rm_withdraw_71, rm_withdraw_72, rm_withdraw_73, rm_withdraw_74, rm_withdraw_75, rm_withdraw_76, rm_withdraw_79, rm_withdraw_82, rm_withdraw_83, rm_withdraw_84, rm_withdraw_87, rm_withdraw_88, xg_cell, Option.toList_some, Option.toList_none, List.singleton_append, List.append_nil, List.nil_append, List.cons_append, false_and, if_false, if_true, Int.reduceAdd, Int.reduceSub, Int.reduceMul, Int.reduceNeg, Int.reduceLE, Int.reduceLT, Int.reduceEq, false_implies, true_implies, not_true_eq_false, not_false_eq_true, and_true, true_and, xar_0, xar_1, xar_2, xar_3, xar_4, xar_5, xar_6, xar_7, xar_8, xar_9, xar_10, xar_11, xar_12, mRm, mRm1, hlt, ih']
theorem sm_withdraw {j : Int} (hj : xin j) (hB : mB55 G) (h0 : 0 ≤ xg G 33 30) (h1 : xg G 33 30 ≤ 6) : xc sc d Mm_withdraw [.ref 33, xI j] (xH G K) Q ↔ (if 0 ≤ j ∧ j < xg G 33 30 then Q (some (xI 1)) (xH (xp (mRm (xg G 33 30 - 1 - j).toNat j (xp G 33 30 (xg G 33 30 - 1))) 33 34 0) K) else Q (some (xI 0)) (xH G K)) := by
  rw [em_withdraw]
  by_cases hc : 0 ≤ j ∧ j < xg G 33 30
  · have hx : xin (xg G 33 30 - 1) := ⟨by omega, by omega⟩
    have hB' : mB55 (xp G 33 30 (xg G 33 30 - 1)) := fun k k0 k1 => by rw [xg_cell (by decide)]; exact hB k k0 k1
    have hl := fun u1 => lm_withdraw (sc := sc) (d := d) (K := K) (Q := Q) (xg G 33 30 - 1 - j).toNat j (xp G 33 30 (xg G 33 30 - 1)) u1 hB' (by rw [xg_self hx]; omega) hc.1 (by rw [xg_self hx]; omega)
    have c1 : ¬ j < 0 := by omega
    have c2 : j < xg G 33 30 := hc.2
    rw [if_pos hc]
    simp (contextual := true) (disch := first | assumption | exact xin_g _ _ _ | exact xin_ar _ | exact xin_sc _ _ | exact xin_cmp | exact xin_and | exact xin_or | exact xinl_g _ _ _ | omega | exact xin_mk (by omega) (by omega) | exact xinl_mk (by omega) (by omega) | exact xbo_0 | exact xbo_1 | exact xin_sl | exact xin_fa | exact xbo_ad | exact xin_bo xbo_ad | exact xin_mb | exact xin_A | exact xin_op | ((repeat refine gN_q ?_ (by omega) (by omega)); assumption)) only [rm_withdraw_0, rm_withdraw_1, rm_withdraw_4, rm_withdraw_5, rm_withdraw_6, rm_withdraw_9, rm_withdraw_12, rm_withdraw_13, rm_withdraw_14, rm_withdraw_15, rm_withdraw_16, rm_withdraw_19, rm_withdraw_20, rm_withdraw_21, rm_withdraw_24, rm_withdraw_25, xg_cell, Option.toList_some, Option.toList_none, List.singleton_append, List.append_nil, List.nil_append, List.cons_append, false_and, if_false, if_true, Int.reduceAdd, Int.reduceSub, Int.reduceMul, Int.reduceNeg, Int.reduceLE, Int.reduceLT, Int.reduceEq, false_implies, true_implies, not_true_eq_false, not_false_eq_true, and_true, true_and, xar_0, xar_1, xar_2, xar_3, xar_4, xar_5, xar_6, xar_7, xar_8, xar_9, xar_10, xar_11, xar_12, c1, c2, hl]
  · rw [if_neg hc]
    by_cases c1 : j < 0
    · simp (contextual := true) (disch := first | assumption | exact xin_g _ _ _ | exact xin_ar _ | exact xin_sc _ _ | exact xin_cmp | exact xin_and | exact xin_or | exact xinl_g _ _ _ | omega | exact xin_mk (by omega) (by omega) | exact xinl_mk (by omega) (by omega) | exact xbo_0 | exact xbo_1 | exact xin_sl | exact xin_fa | exact xbo_ad | exact xin_bo xbo_ad | exact xin_mb | exact xin_A | exact xin_op | ((repeat refine gN_q ?_ (by omega) (by omega)); assumption)) only [rm_withdraw_0, rm_withdraw_1, rm_withdraw_4, rm_withdraw_5, rm_withdraw_6, rm_withdraw_9, rm_withdraw_12, rm_withdraw_13, rm_withdraw_14, rm_withdraw_15, rm_withdraw_16, rm_withdraw_19, rm_withdraw_20, rm_withdraw_21, rm_withdraw_24, rm_withdraw_25, xg_cell, Option.toList_some, Option.toList_none, List.singleton_append, List.append_nil, List.nil_append, List.cons_append, false_and, if_false, if_true, Int.reduceAdd, Int.reduceSub, Int.reduceMul, Int.reduceNeg, Int.reduceLE, Int.reduceLT, Int.reduceEq, false_implies, true_implies, not_true_eq_false, not_false_eq_true, and_true, true_and, xar_0, xar_1, xar_2, xar_3, xar_4, xar_5, xar_6, xar_7, xar_8, xar_9, xar_10, xar_11, xar_12, c1]
    · have c2 : ¬ j < xg G 33 30 := by omega
      simp (contextual := true) (disch := first | assumption | exact xin_g _ _ _ | exact xin_ar _ | exact xin_sc _ _ | exact xin_cmp | exact xin_and | exact xin_or | exact xinl_g _ _ _ | omega | exact xin_mk (by omega) (by omega) | exact xinl_mk (by omega) (by omega) | exact xbo_0 | exact xbo_1 | exact xin_sl | exact xin_fa | exact xbo_ad | exact xin_bo xbo_ad | exact xin_mb | exact xin_A | exact xin_op | ((repeat refine gN_q ?_ (by omega) (by omega)); assumption)) only [rm_withdraw_0, rm_withdraw_1, rm_withdraw_4, rm_withdraw_5, rm_withdraw_6, rm_withdraw_9, rm_withdraw_12, rm_withdraw_13, rm_withdraw_14, rm_withdraw_15, rm_withdraw_16, rm_withdraw_19, rm_withdraw_20, rm_withdraw_21, rm_withdraw_24, rm_withdraw_25, xg_cell, Option.toList_some, Option.toList_none, List.singleton_append, List.append_nil, List.nil_append, List.cons_append, false_and, if_false, if_true, Int.reduceAdd, Int.reduceSub, Int.reduceMul, Int.reduceNeg, Int.reduceLE, Int.reduceLT, Int.reduceEq, false_implies, true_implies, not_true_eq_false, not_false_eq_true, and_true, true_and, xar_0, xar_1, xar_2, xar_3, xar_4, xar_5, xar_6, xar_7, xar_8, xar_9, xar_10, xar_11, xar_12, c1, c2]
end SP
