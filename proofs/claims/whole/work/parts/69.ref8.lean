/-! the reference: feasible -/
section SP
variable {sc : Nat × (Nat → Int32)} {d : Nat} {Q : Option Value → am_H → Prop} {G X : xG} {K : xK} {h : am_H}
def mFe (G : xG) : Nat → Int → Int → Int
  | 0, _, f => f
  | n + 1, j, f => mFe G n (j + 1) (if ¬ f = 0 ∧ (if xg G 55 j = 0 then xg G 49 (xg G 56 j) ≤ xg G 49 (xg G 57 j) else xg G 49 (xg G 56 j) = xg G 49 (xg G 57 j)) then 1 else 0)
def mRq (G : xG) : Prop := ∀ j, 0 ≤ j → j < xg G 33 30 → 0 ≤ xg G 56 j ∧ xg G 56 j < 36 ∧ 0 ≤ xg G 57 j ∧ xg G 57 j < 36
theorem lm_feasible (hR : mRq G) (hn : xg G 33 30 ≤ 6) : ∀ (n : Nat) (j f : Int), xbo f → j + n = xg G 33 30 → 0 ≤ j → (xw sc d Mm_feasible cm_feasible_8 [some (.ref 33), some (xI f), some (xI j), none, none] [] (xH G K) Q ↔ Q (some (xI (mFe G n j f))) (xH G K)) := by
  intro n
  induction n with
  | zero =>
    intro j f hf hk j0
    have hge : xg G 33 30 ≤ j := by omega
    rw [rm_feasible_8]
    simp (contextual := true) (disch := first | assumption | exact xin_g _ _ _ | exact xin_ar _ | exact xin_sc _ _ | exact xin_cmp | exact xin_and | exact xin_or | exact xinl_g _ _ _ | omega | exact xin_mk (by omega) (by omega) | exact xinl_mk (by omega) (by omega) | exact xbo_0 | exact xbo_1 | exact xin_sl | exact xin_fa | exact xbo_ad | exact xin_bo xbo_ad | exact xin_mb | exact xin_A | exact xin_op | ((repeat refine gN_q ?_ (by omega) (by omega)); assumption)) only [rm_feasible_0, rm_feasible_1, rm_feasible_4, rm_feasible_5, rm_feasible_6, rm_feasible_7, rm_feasible_9, rm_feasible_10, rm_feasible_13, rm_feasible_16, rm_feasible_17, rm_feasible_20, rm_feasible_21, rm_feasible_24, rm_feasible_25, rm_feasible_26, rm_feasible_27, rm_feasible_28, rm_feasible_29, rm_feasible_32, rm_feasible_33, rm_feasible_36, rm_feasible_37, rm_feasible_38, rm_feasible_39, rm_feasible_41, rm_feasible_42, rm_feasible_45, rm_feasible_46, rm_feasible_49, rm_feasible_50, rm_feasible_51, rm_feasible_54, rm_feasible_55, rm_feasible_57, rm_feasible_60, rm_feasible_63, rm_feasible_64, rm_feasible_66, rm_feasible_69, rm_feasible_70, rm_feasible_73, rm_feasible_74, rm_feasible_75, rm_feasible_78, rm_feasible_81, rm_feasible_82, xg_cell, Option.toList_some, Option.toList_none, List.singleton_append, List.append_nil, List.nil_append, List.cons_append, false_and, if_false, if_true, Int.reduceAdd, Int.reduceSub, Int.reduceMul, Int.reduceNeg, Int.reduceLE, Int.reduceLT, Int.reduceEq, false_implies, true_implies, not_true_eq_false, not_false_eq_true, and_true, true_and, xar_0, xar_1, xar_2, xar_3, xar_4, xar_5, xar_6, xar_7, xar_8, xar_9, xar_10, xar_11, xar_12, mFe, hge]
  | succ n ih =>
    intro j f hf hk j0
    have hlt : ¬ xg G 33 30 ≤ j := by omega
    obtain ⟨l0, l1, r0, r1⟩ := hR j j0 (by omega)
    have ih0 := ih (j + 1) 0 (Or.inl rfl) (by omega) (by omega)
    have ih1 := ih (j + 1) 1 (Or.inr rfl) (by omega) (by omega)
    have hx := xin_bo hf
    rw [rm_feasible_8]
    simp (contextual := true) (disch := first | assumption | exact xin_g _ _ _ | exact xin_ar _ | exact xin_sc _ _ | exact xin_cmp | exact xin_and | exact xin_or | exact xinl_g _ _ _ | omega | exact xin_mk (by omega) (by omega) | exact xinl_mk (by omega) (by omega) | exact xbo_0 | exact xbo_1 | exact xin_sl | exact xin_fa | exact xbo_ad | exact xin_bo xbo_ad | exact xin_mb | exact xin_A | exact xin_op | ((repeat refine gN_q ?_ (by omega) (by omega)); assumption)) only [rm_feasible_0, rm_feasible_1, rm_feasible_4, rm_feasible_5, rm_feasible_6, rm_feasible_7, rm_feasible_9, rm_feasible_10, rm_feasible_13, rm_feasible_16, rm_feasible_17, rm_feasible_20, rm_feasible_21, rm_feasible_24, rm_feasible_25, rm_feasible_26, rm_feasible_27, rm_feasible_28, rm_feasible_29, rm_feasible_32, rm_feasible_33, rm_feasible_36, rm_feasible_37, rm_feasible_38, rm_feasible_39, rm_feasible_41, rm_feasible_42, rm_feasible_45, rm_feasible_46, rm_feasible_49, rm_feasible_50, rm_feasible_51, rm_feasible_54, rm_feasible_55, rm_feasible_57, rm_feasible_60, rm_feasible_63, rm_feasible_64, rm_feasible_66, rm_feasible_69, rm_feasible_70, rm_feasible_73, rm_feasible_74, rm_feasible_75, rm_feasible_78, rm_feasible_81, rm_feasible_82, xg_cell, Option.toList_some, Option.toList_none, List.singleton_append, List.append_nil, List.nil_append, List.cons_append, false_and, if_false, if_true, Int.reduceAdd, Int.reduceSub, Int.reduceMul, Int.reduceNeg, Int.reduceLE, Int.reduceLT, Int.reduceEq, false_implies, true_implies, not_true_eq_false, not_false_eq_true, and_true, true_and, xar_0, xar_1, xar_2, xar_3, xar_4, xar_5, xar_6, xar_7, xar_8, xar_9, xar_10, xar_11, xar_12, hlt, ih0, ih1, mFe]
    grind
end SP
