/-! calls of both: set, lift -/
section SP
variable {sc : Nat × (Nat → Int32)} {d : Nat} {Q : Option Value → am_H → Prop} {G : xG} {K : xK} {A : aG}
abbrev gOut (G : xG) (k v : Int) : Prop := v < (if xg G 10 k = 1 then -20 else if xg G 11 k = 112 then 0 else -9) ∨ (if xg G 10 k = 1 then 20 else if xg G 11 k = 113 then 0 else 9) < v
theorem sG_assign2 {k v : Int} (k0 : 0 ≤ k) (k1 : k < xg G 9 9) (hn : xg G 9 9 ≤ 36) (hv : xin v) (hO : ¬ gOut G k v → gAsOk (xg G 9 9 - (k + 1)).toNat (k + 1) (xp G 18 k v)) : xc sc (d + 3) MG_assign [.ref 9, xI k, xI v] (xH G K) Q ↔ (if gOut G k v then Q (some (xI 0)) (xH G K) else Q (some (xI 1)) (xH (gAs (xg G 9 9 - (k + 1)).toNat (k + 1) (xp G 18 k v)) K)) := by
  by_cases c : gOut G k v
  · rw [if_pos c, eG_assign]
    have xl : xin (if xg G 10 k = 1 then -20 else if xg G 11 k = 112 then 0 else -9) := by
      split
      · exact ⟨by decide, by decide⟩
      · split <;> exact ⟨by decide, by decide⟩
    have xg' : xin (if xg G 10 k = 1 then 20 else if xg G 11 k = 113 then 0 else 9) := by
      split
      · exact ⟨by decide, by decide⟩
      · split <;> exact ⟨by decide, by decide⟩
    have hl := fun (Q : Option Value → am_H → Prop) => sG_least (sc := sc) (d := d + 2) (G := G) (K := K) (Q := Q) (k := k) k0 (by omega)
    have hg := fun (Q : Option Value → am_H → Prop) => sG_greatest (sc := sc) (d := d + 2) (G := G) (K := K) (Q := Q) (k := k) k0 (by omega)
    unfold gOut at c
    generalize (if xg G 10 k = 1 then (-20 : Int) else if xg G 11 k = 112 then 0 else -9) = a at *
    generalize (if xg G 10 k = 1 then (20 : Int) else if xg G 11 k = 113 then 0 else 9) = b at *
    by_cases c1 : v < a
    · simp (contextual := true) (disch := first | assumption | exact xin_g _ _ _ | exact xin_ar _ | exact xin_sc _ _ | exact xin_cmp | exact xin_and | exact xin_or | exact xinl_g _ _ _ | omega | exact xin_mk (by omega) (by omega) | exact xinl_mk (by omega) (by omega) | exact xbo_0 | exact xbo_1 | exact xin_sl | exact xin_fa | exact xbo_ad | exact xin_bo xbo_ad | exact xin_mb | exact xin_A | exact xin_op | ((repeat refine gN_q ?_ (by omega) (by omega)); assumption)) only [rG_assign_0, rG_assign_1, rG_assign_2, rG_assign_3, rG_assign_6, rG_assign_9, rG_assign_10, rG_assign_11, rG_assign_12, rG_assign_15, rG_assign_18, rG_assign_19, rG_assign_20, rG_assign_21, rG_assign_24, rG_assign_25, rG_assign_26, rG_assign_27, rG_assign_28, rG_assign_29, rG_assign_30, ↓hl, ↓hg, xg_cell, Option.toList_some, Option.toList_none, List.singleton_append, List.append_nil, List.nil_append, List.cons_append, false_and, if_false, if_true, Int.reduceAdd, Int.reduceSub, Int.reduceMul, Int.reduceNeg, Int.reduceLE, Int.reduceLT, Int.reduceEq, false_implies, true_implies, not_true_eq_false, not_false_eq_true, and_true, true_and, xar_0, xar_1, xar_2, xar_3, xar_4, xar_5, xar_6, xar_7, xar_8, xar_9, xar_10, xar_11, xar_12, c1]
    · have c2 : b < v := c.resolve_left c1
      have c2' : ¬ v ≤ b := by omega
      simp (contextual := true) (disch := first | assumption | exact xin_g _ _ _ | exact xin_ar _ | exact xin_sc _ _ | exact xin_cmp | exact xin_and | exact xin_or | exact xinl_g _ _ _ | omega | exact xin_mk (by omega) (by omega) | exact xinl_mk (by omega) (by omega) | exact xbo_0 | exact xbo_1 | exact xin_sl | exact xin_fa | exact xbo_ad | exact xin_bo xbo_ad | exact xin_mb | exact xin_A | exact xin_op | ((repeat refine gN_q ?_ (by omega) (by omega)); assumption)) only [rG_assign_0, rG_assign_1, rG_assign_2, rG_assign_3, rG_assign_6, rG_assign_9, rG_assign_10, rG_assign_11, rG_assign_12, rG_assign_15, rG_assign_18, rG_assign_19, rG_assign_20, rG_assign_21, rG_assign_24, rG_assign_25, rG_assign_26, rG_assign_27, rG_assign_28, rG_assign_29, rG_assign_30, ↓hl, ↓hg, xg_cell, Option.toList_some, Option.toList_none, List.singleton_append, List.append_nil, List.nil_append, List.cons_append, false_and, if_false, if_true, Int.reduceAdd, Int.reduceSub, Int.reduceMul, Int.reduceNeg, Int.reduceLE, Int.reduceLT, Int.reduceEq, false_implies, true_implies, not_true_eq_false, not_false_eq_true, and_true, true_and, xar_0, xar_1, xar_2, xar_3, xar_4, xar_5, xar_6, xar_7, xar_8, xar_9, xar_10, xar_11, xar_12, c1, c2']
  · have := sG_assign (sc := sc) (d := d) (K := K) (Q := Q) k0 k1 hn hv (hO c)
    rw [if_neg c] at this ⊢
    exact this
theorem sC_set2 {k v : Int} (hk : xin k) (hv : xin v) (h1 : xg G 9 9 ≤ 36) (hO : 0 ≤ k → k < xg G 9 9 → (xg G 10 k = 1 ∨ xg G 10 k = 2) → ¬ gOut G k v → gAsOk (xg G 9 9 - (k + 1)).toNat (k + 1) (xp G 18 k v)) : xc sc (d + 4) MC_set [.ref 2, xI k, xI v] (xH G K) Q ↔
    (if ¬ (0 ≤ k ∧ k < xg G 9 9) then Q (some (xI 0)) (xH G K)
     else if xg G 10 k = 1 ∨ xg G 10 k = 2 then (if gOut G k v then Q (some (xI 0)) (xH G K) else Q (some (xI 1)) (xH (gAs (xg G 9 9 - (k + 1)).toNat (k + 1) (xp G 18 k v)) K))
     else (if ¬ xg G 25 11 = 0 ∧ gAx G k ∧ -1000000 ≤ v ∧ v ≤ 1000000 then Q (some (xI 1)) (xH (xp G 28 k v) K) else Q (some (xI 0)) (xH G K))) := by
  rw [eC_set]
  by_cases hc : 0 ≤ k ∧ k < xg G 9 9
  · have e1 : ∀ Q : Option Value → am_H → Prop, xc sc (d + 3) MG_has [.ref 9, xI k] (xH G K) Q ↔ Q (some (xI 1)) (xH G K) := fun Q => by rw [sG_has hk, if_pos hc]
    rw [if_neg (fun q => q hc)]
    by_cases hi : xg G 10 k = 1 ∨ xg G 10 k = 2
    · have e2 : ∀ Q : Option Value → am_H → Prop, xc sc (d + 3) MG_isInput [.ref 9, xI k] (xH G K) Q ↔ Q (some (xI 1)) (xH G K) := fun Q => by rw [sG_isInput hc.1 (by omega), if_pos hi]
      have e3 := fun (Q : Option Value → am_H → Prop) => sG_assign2 (sc := sc) (d := d) (K := K) (Q := Q) hc.1 hc.2 h1 hv (hO hc.1 hc.2 hi)
      rw [if_pos hi]
      by_cases hr : gOut G k v
      · simp only [if_pos hr] at e3
        rw [if_pos hr]
        simp (contextual := true) (disch := first | assumption | exact xin_g _ _ _ | exact xin_ar _ | exact xin_sc _ _ | exact xin_cmp | exact xin_and | exact xin_or | exact xinl_g _ _ _ | omega | exact xin_mk (by omega) (by omega) | exact xinl_mk (by omega) (by omega) | exact xbo_0 | exact xbo_1 | exact xin_sl | exact xin_fa | exact xbo_ad | exact xin_bo xbo_ad | exact xin_mb | exact xin_A | exact xin_op | ((repeat refine gN_q ?_ (by omega) (by omega)); assumption)) only [rC_set_0, rC_set_1, rC_set_4, rC_set_5, rC_set_8, rC_set_11, rC_set_12, rC_set_13, rC_set_14, rC_set_17, rC_set_18, rC_set_21, rC_set_24, rC_set_25, rC_set_28, rC_set_29, rC_set_30, rC_set_33, rC_set_34, rC_set_35, rC_set_38, rC_set_39, rC_set_40, rC_set_43, ↓e1, ↓e2, ↓e3, xg_cell, Option.toList_some, Option.toList_none, List.singleton_append, List.append_nil, List.nil_append, List.cons_append, false_and, if_false, if_true, Int.reduceAdd, Int.reduceSub, Int.reduceMul, Int.reduceNeg, Int.reduceLE, Int.reduceLT, Int.reduceEq, false_implies, true_implies, not_true_eq_false, not_false_eq_true, and_true, true_and, xar_0, xar_1, xar_2, xar_3, xar_4, xar_5, xar_6, xar_7, xar_8, xar_9, xar_10, xar_11, xar_12]
      · simp only [if_neg hr] at e3
        rw [if_neg hr]
        simp (contextual := true) (disch := first | assumption | exact xin_g _ _ _ | exact xin_ar _ | exact xin_sc _ _ | exact xin_cmp | exact xin_and | exact xin_or | exact xinl_g _ _ _ | omega | exact xin_mk (by omega) (by omega) | exact xinl_mk (by omega) (by omega) | exact xbo_0 | exact xbo_1 | exact xin_sl | exact xin_fa | exact xbo_ad | exact xin_bo xbo_ad | exact xin_mb | exact xin_A | exact xin_op | ((repeat refine gN_q ?_ (by omega) (by omega)); assumption)) only [rC_set_0, rC_set_1, rC_set_4, rC_set_5, rC_set_8, rC_set_11, rC_set_12, rC_set_13, rC_set_14, rC_set_17, rC_set_18, rC_set_21, rC_set_24, rC_set_25, rC_set_28, rC_set_29, rC_set_30, rC_set_33, rC_set_34, rC_set_35, rC_set_38, rC_set_39, rC_set_40, rC_set_43, ↓e1, ↓e2, ↓e3, xg_cell, Option.toList_some, Option.toList_none, List.singleton_append, List.append_nil, List.nil_append, List.cons_append, false_and, if_false, if_true, Int.reduceAdd, Int.reduceSub, Int.reduceMul, Int.reduceNeg, Int.reduceLE, Int.reduceLT, Int.reduceEq, false_implies, true_implies, not_true_eq_false, not_false_eq_true, and_true, true_and, xar_0, xar_1, xar_2, xar_3, xar_4, xar_5, xar_6, xar_7, xar_8, xar_9, xar_10, xar_11, xar_12]
    · have e2 : ∀ Q : Option Value → am_H → Prop, xc sc (d + 3) MG_isInput [.ref 9, xI k] (xH G K) Q ↔ Q (some (xI 0)) (xH G K) := fun Q => by rw [sG_isInput hc.1 (by omega), if_neg hi]
      have e3 := fun (Q : Option Value → am_H → Prop) => sF_assignOwn (sc := sc) (d := d + 2) (K := K) (Q := Q) (G := G) hc.1 (by omega) hv
      rw [if_neg hi]
      by_cases hr : ¬ xg G 25 11 = 0 ∧ gAx G k ∧ -1000000 ≤ v ∧ v ≤ 1000000
      · simp only [if_pos hr] at e3
        rw [if_pos hr]
        simp (contextual := true) (disch := first | assumption | exact xin_g _ _ _ | exact xin_ar _ | exact xin_sc _ _ | exact xin_cmp | exact xin_and | exact xin_or | exact xinl_g _ _ _ | omega | exact xin_mk (by omega) (by omega) | exact xinl_mk (by omega) (by omega) | exact xbo_0 | exact xbo_1 | exact xin_sl | exact xin_fa | exact xbo_ad | exact xin_bo xbo_ad | exact xin_mb | exact xin_A | exact xin_op | ((repeat refine gN_q ?_ (by omega) (by omega)); assumption)) only [rC_set_0, rC_set_1, rC_set_4, rC_set_5, rC_set_8, rC_set_11, rC_set_12, rC_set_13, rC_set_14, rC_set_17, rC_set_18, rC_set_21, rC_set_24, rC_set_25, rC_set_28, rC_set_29, rC_set_30, rC_set_33, rC_set_34, rC_set_35, rC_set_38, rC_set_39, rC_set_40, rC_set_43, ↓e1, ↓e2, ↓e3, xg_cell, Option.toList_some, Option.toList_none, List.singleton_append, List.append_nil, List.nil_append, List.cons_append, false_and, if_false, if_true, Int.reduceAdd, Int.reduceSub, Int.reduceMul, Int.reduceNeg, Int.reduceLE, Int.reduceLT, Int.reduceEq, false_implies, true_implies, not_true_eq_false, not_false_eq_true, and_true, true_and, xar_0, xar_1, xar_2, xar_3, xar_4, xar_5, xar_6, xar_7, xar_8, xar_9, xar_10, xar_11, xar_12]
      · simp only [if_neg hr] at e3
        rw [if_neg hr]
        simp (contextual := true) (disch := first | assumption | exact xin_g _ _ _ | exact xin_ar _ | exact xin_sc _ _ | exact xin_cmp | exact xin_and | exact xin_or | exact xinl_g _ _ _ | omega | exact xin_mk (by omega) (by omega) | exact xinl_mk (by omega) (by omega) | exact xbo_0 | exact xbo_1 | exact xin_sl | exact xin_fa | exact xbo_ad | exact xin_bo xbo_ad | exact xin_mb | exact xin_A | exact xin_op | ((repeat refine gN_q ?_ (by omega) (by omega)); assumption)) only [rC_set_0, rC_set_1, rC_set_4, rC_set_5, rC_set_8, rC_set_11, rC_set_12, rC_set_13, rC_set_14, rC_set_17, rC_set_18, rC_set_21, rC_set_24, rC_set_25, rC_set_28, rC_set_29, rC_set_30, rC_set_33, rC_set_34, rC_set_35, rC_set_38, rC_set_39, rC_set_40, rC_set_43, ↓e1, ↓e2, ↓e3, xg_cell, Option.toList_some, Option.toList_none, List.singleton_append, List.append_nil, List.nil_append, List.cons_append, false_and, if_false, if_true, Int.reduceAdd, Int.reduceSub, Int.reduceMul, Int.reduceNeg, Int.reduceLE, Int.reduceLT, Int.reduceEq, false_implies, true_implies, not_true_eq_false, not_false_eq_true, and_true, true_and, xar_0, xar_1, xar_2, xar_3, xar_4, xar_5, xar_6, xar_7, xar_8, xar_9, xar_10, xar_11, xar_12]
  · have e1 : ∀ Q : Option Value → am_H → Prop, xc sc (d + 3) MG_has [.ref 9, xI k] (xH G K) Q ↔ Q (some (xI 0)) (xH G K) := fun Q => by rw [sG_has hk, if_neg hc]
    rw [if_pos hc]
    simp (contextual := true) (disch := first | assumption | exact xin_g _ _ _ | exact xin_ar _ | exact xin_sc _ _ | exact xin_cmp | exact xin_and | exact xin_or | exact xinl_g _ _ _ | omega | exact xin_mk (by omega) (by omega) | exact xinl_mk (by omega) (by omega) | exact xbo_0 | exact xbo_1 | exact xin_sl | exact xin_fa | exact xbo_ad | exact xin_bo xbo_ad | exact xin_mb | exact xin_A | exact xin_op | ((repeat refine gN_q ?_ (by omega) (by omega)); assumption)) only [rC_set_0, rC_set_1, rC_set_4, rC_set_5, rC_set_8, rC_set_11, rC_set_12, rC_set_13, rC_set_14, rC_set_17, rC_set_18, rC_set_21, rC_set_24, rC_set_25, rC_set_28, rC_set_29, rC_set_30, rC_set_33, rC_set_34, rC_set_35, rC_set_38, rC_set_39, rC_set_40, rC_set_43, ↓e1, xg_cell, Option.toList_some, Option.toList_none, List.singleton_append, List.append_nil, List.nil_append, List.cons_append, false_and, if_false, if_true, Int.reduceAdd, Int.reduceSub, Int.reduceMul, Int.reduceNeg, Int.reduceLE, Int.reduceLT, Int.reduceEq, false_implies, true_implies, not_true_eq_false, not_false_eq_true, and_true, true_and, xar_0, xar_1, xar_2, xar_3, xar_4, xar_5, xar_6, xar_7, xar_8, xar_9, xar_10, xar_11, xar_12]
end SP
/-! new values -/
theorem gS1_c {G : xG} {k j : Int} {a : Nat} (h : ¬ a = 18) : xg (gS1 G k) a j = xg G a j := by
  unfold gS1
  split
  · rfl
  · exact xg_cell h
theorem gS1_o {G : xG} {k j : Int} {a : Nat} (hk : 0 ≤ k) (hj : 0 ≤ j) (h : ¬ j = k) : xg (gS1 G k) a j = xg G a j := by
  unfold gS1
  split
  · rfl
  · by_cases ha : a = 18
    · subst ha; exact xg_idx hk hj h
    · exact xg_cell ha
theorem as_step {G : xG} {A : aG} {k : Int} (hR : cRep G A) (hA : aOk A) (k0 : 0 ≤ k) (k1 : k < A.1) (h : ∀ j, 0 ≤ j → j < k → aV A (xg G 18) j) (hi : aIn (A.2 k).1 (A.2 k).2.1 (xg G 18 k)) : gN G k ∧ gVb G k ∧ (∀ j, 0 ≤ j → j < k + 1 → aV A (xg (gS1 G k) 18) j) ∧ (((A.2 k).1 = 1 ∨ (A.2 k).1 = 2) → xg (gS1 G k) 18 k = xg G 18 k) := by
  have hN := (gN_of hR hA k0 k1).1
  obtain ⟨e1, e2, e3, e4, e5, e6⟩ := hR.2 k k0 k1
  obtain ⟨q1, q2, q3, q4, q5, q6, q7, q8⟩ := hA.2.2 k k0 k1
  obtain ⟨d1, d2, d3⟩ := aAr_d q5
  have hA' := aCut_ok hA k0 (show k ≤ A.1 by omega)
  have bb := fun (x : Int) (x0 : 0 ≤ x) (x1 : x < k) => aV_bb (A := aCut A k) hA' (fun i i0 i1 => h i i0 i1) x0 x1
  have fV : ∀ x, x = -1 ∨ (0 ≤ x ∧ x < k) → mB6 (ag (xg G 18) x) ∧ (-aR A x ≤ ag (xg G 18) x ∧ ag (xg G 18) x ≤ aR A x) := by
    intro x hx
    rcases hx with rfl | ⟨x0, x1⟩
    · rw [ag_n]; unfold mB6 aR; rw [if_pos rfl]; omega
    · rw [ag_p x0]; unfold aR; rw [if_neg (by omega)]
      have := bb x x0 x1
      exact ⟨this.2.2, this.1, this.2.1⟩
  obtain ⟨a18, b18, c18⟩ := gA_ag (c := 18) hR k0 k1
  have hV : gVb G k := by
    unfold gVb
    rw [a18, b18, c18]
    exact ⟨(fV _ d1).1, (fV _ d2).1, (fV _ d3).1⟩
  have w18 : gV1 G k = gVa (A.2 k).1 (A.2 k).2.1 (ag (xg G 18) (A.2 k).2.2.1) (ag (xg G 18) (A.2 k).2.2.2.1) (ag (xg G 18) (A.2 k).2.2.2.2.1) := by unfold gV1; rw [e1, e2, a18, b18, c18]
  have ga : ∀ (x : Int), x = -1 ∨ (0 ≤ x ∧ x < k) → ag (xg (gS1 G k) 18) x = ag (xg G 18) x := by
    intro x hx
    rcases hx with rfl | ⟨x0, x1⟩
    · rw [ag_n, ag_n]
    · rw [ag_p x0, ag_p x0, gS1_o k0 x0 (by omega)]
  have hin : ((A.2 k).1 = 1 ∨ (A.2 k).1 = 2) → xg (gS1 G k) 18 k = xg G 18 k := fun z => by unfold gS1; rw [e1, if_pos z]
  refine ⟨hN, hV, fun j j0 j1 => ?_, hin⟩
  by_cases hj : j = k
  · subst hj
    by_cases c : (A.2 j).1 = 1 ∨ (A.2 j).1 = 2
    · refine ⟨?_, fun z => absurd c z⟩
      rw [hin c]; exact hi
    · have hb := va_b hA q1 q2 q3 c (aAr_mono q5 (by omega)) (fV _ d1).2 (fV _ d2).2 (fV _ d3).2
      rw [← q6, ← w18] at hb
      have e : xg (gS1 G j) 18 j = gV1 G j := by unfold gS1; rw [e1, if_neg c, xg_self ⟨by omega, by omega⟩]
      refine ⟨⟨fun z => absurd (Or.inl z) c, fun z => absurd (Or.inr z) c⟩, fun _ => ?_⟩
      rw [ga _ d1, ga _ d2, ga _ d3, e, w18]
  · exact aV_eq hA j0 (by omega) (h j j0 (by omega)) (fun x x0 x1 => gS1_o k0 x0 (by omega))
theorem as_all {A : aG} (hA : aOk A) : ∀ (n : Nat) (k : Int) (G : xG), cRep G A → (∀ j, 0 ≤ j → j < k → aV A (xg G 18) j) → (∀ j, k ≤ j → j < A.1 → aIn (A.2 j).1 (A.2 j).2.1 (xg G 18 j)) → 0 ≤ k → k + n = A.1 → gAsOk n k G ∧ aVs A (xg (gAs n k G) 18) ∧ (∀ (a : Nat) (j : Int), ¬ a = 18 → xg (gAs n k G) a j = xg G a j) ∧ ∀ j, 0 ≤ j → j < A.1 → (j < k ∨ (A.2 j).1 = 1 ∨ (A.2 j).1 = 2) → xg (gAs n k G) 18 j = xg G 18 j
  | 0, k, G, hR, hU, hI, k0, k1 => by
    have e : k = A.1 := by omega
    subst e
    exact ⟨trivial, hU, fun _ _ _ => rfl, fun _ _ _ _ => rfl⟩
  | n + 1, k, G, hR, hU, hI, k0, k1 => by
    obtain ⟨s1, s2, s3, s4⟩ := as_step hR hA k0 (by omega) hU (hI k (Int.le_refl _) (by omega))
    obtain ⟨i1, i2, i3, i4⟩ := as_all hA n (k + 1) (gS1 G k) (cRep_eq hR (gS1_c (by decide)) (fun b j hb => gS1_c (by omega))) s3 (fun j j0 j1 => by rw [gS1_o k0 (by omega) (by omega)]; exact hI j (by omega) j1) (by omega) (by omega)
    refine ⟨⟨s1, s2, i1⟩, i2, fun a j ha => (i3 a j ha).trans (gS1_c ha), fun j j0 j1 hc => ?_⟩
    show xg (gAs n (k + 1) (gS1 G k)) 18 j = _
    by_cases hj : j = k
    · subst hj
      rw [i4 j j0 j1 (Or.inl (by omega))]
      exact s4 (hc.resolve_left (by omega))
    · rw [i4 j j0 j1 (by omega), gS1_o k0 j0 hj]
theorem gLo_v : ∀ (n : Nat) (k : Int) (G : xG), 0 ≤ k → (∀ (a : Nat) (j : Int), ¬ a = 28 → xg (gLo n k G) a j = xg G a j) ∧ ∀ x, 0 ≤ x → xg (gLo n k G) 28 x = if k ≤ x ∧ x < k + n ∧ gAx G x then xg G 18 x else xg G 28 x
  | 0, k, G, k0 => ⟨fun _ _ _ => rfl, fun x x0 => by rw [if_neg (by omega)]; rfl⟩
  | n + 1, k, G, k0 => by
    have f : ∀ (a : Nat) (j : Int), ¬ a = 28 → xg (if gAx G k then xp G 28 k (xg G 18 k) else G) a j = xg G a j := fun a j ha => by
      split
      · exact xg_cell ha
      · rfl
    obtain ⟨i1, i2⟩ := gLo_v n (k + 1) (if gAx G k then xp G 28 k (xg G 18 k) else G) (by omega)
    refine ⟨fun a j ha => (i1 a j ha).trans (f a j ha), fun x x0 => ?_⟩
    show xg (gLo n (k + 1) (if gAx G k then xp G 28 k (xg G 18 k) else G)) 28 x = _
    rw [i2 x x0, f 18 x (by decide)]
    have ea : gAx (if gAx G k then xp G 28 k (xg G 18 k) else G) x ↔ gAx G x := by unfold gAx; rw [f 26 x (by decide), f 10 x (by decide), f 15 x (by decide)]
    by_cases h : k + 1 ≤ x ∧ x < k + 1 + n ∧ gAx G x
    · rw [if_pos ⟨h.1, h.2.1, ea.mpr h.2.2⟩, if_pos ⟨by omega, by omega, h.2.2⟩]
    · rw [if_neg (fun z => h ⟨z.1, z.2.1, ea.mp z.2.2⟩)]
      by_cases hx : x = k
      · subst hx
        by_cases c : gAx G x
        · rw [if_pos c, xg_self (xin_g _ _ _), if_pos ⟨Int.le_refl _, by omega, c⟩]
        · rw [if_neg c, if_neg (fun z => c z.2.2)]
      · rw [if_neg (show ¬ (k ≤ x ∧ x < k + ((n + 1 : Nat) : Int) ∧ gAx G x) from fun z => h ⟨by omega, by omega, z.2.2⟩)]
        by_cases c : gAx G k
        · rw [if_pos c, xg_idx k0 x0 hx]
        · rw [if_neg c]
theorem mLo_v : ∀ (n : Nat) (k : Int) (G : xG), 0 ≤ k → (∀ (a : Nat) (j : Int), ¬ a = 58 → xg (mLo n k G) a j = xg G a j) ∧ ∀ x, 0 ≤ x → xg (mLo n k G) 58 x = if k ≤ x ∧ x < k + n then xg G 49 x else xg G 58 x
  | 0, k, G, k0 => ⟨fun _ _ _ => rfl, fun x x0 => by rw [if_neg (by omega)]; rfl⟩
  | n + 1, k, G, k0 => by
    obtain ⟨i1, i2⟩ := mLo_v n (k + 1) (xp G 58 k (xg G 49 k)) (by omega)
    refine ⟨fun a j ha => (i1 a j ha).trans (xg_cell ha), fun x x0 => ?_⟩
    show xg (mLo n (k + 1) (xp G 58 k (xg G 49 k))) 58 x = _
    rw [i2 x x0, xg_cell (by decide)]
    by_cases h : k + 1 ≤ x ∧ x < k + 1 + n
    · rw [if_pos h, if_pos (by omega)]
    · rw [if_neg h]
      by_cases hx : x = k
      · subst hx; rw [xg_self (xin_g _ _ _), if_pos (by omega)]
      · rw [xg_idx k0 x0 hx, if_neg (by omega)]
/-- the form stays, as own values change -/
theorem Fm_own {G G' : xG} {A : aG} (h : Fm G A) (e : ∀ a : Nat, (a = 10 ∨ a = 15 ∨ (21 ≤ a ∧ a ≤ 27) ∨ (29 ≤ a ∧ a ≤ 31)) → xg G' a = xg G a) (ho : cOwn G') : Fm G' A := by
  have f10 := e 10 (by decide)
  have f15 := e 15 (by decide)
  have f21 := e 21 (by decide)
  have f22 := e 22 (by decide)
  have f26 := e 26 (by decide)
  obtain ⟨h2, h3⟩ := cPl_e f10 f15 f26
  have h4 : cFe G' = cFe G := by funext s q; unfold cFe; rw [f22]
  have h5 : cFa G' = cFa G := by funext s q; unfold cFa gAx; rw [f10, f15, f26]
  have h6 : cTe G' = cTe G := by funext s; unfold cTe; rw [h4, f21]
  have h7 : cTa G' = cTa G := by funext s; unfold cTa; rw [h5]
  have h8 : gBs G' = gBs G := by funext x; unfold gBs; rw [f21, e 23 (by decide), e 24 (by decide)]
  obtain ⟨k1, k2, k3, k4, k5, k6⟩ := h
  refine ⟨by rw [f21]; exact k1, by rw [h8, f26]; exact k2, by rw [f26]; exact k3, ?_, ?_, ho⟩
  · unfold cCols; rw [h2, h3, e 25 (by decide), e 27 (by decide)]; exact k4
  · unfold cRows; rw [h4, h5, h6, h7, f21, e 25 (by decide), e 29 (by decide), e 30 (by decide), e 31 (by decide)]; exact k5
section SP
variable {sc : Nat × (Nat → Int32)} {d : Nat} {G : xG} {K : xK} {A : aG}
theorem two_lift (h : Rel G K A) : Two sc (d + 5) MC_lift [.ref 2] Mm_lift [.ref 33] G K pI := by
  have h' := h
  obtain ⟨h1, ⟨r1, r2, r3, r4, r5⟩, h3, h4⟩ := h'
  have hn := r3.2.1
  have hn0 := r3.1
  have es : xg G 33 34 = xg G 25 11 := h4.2.1
  by_cases hs : xg G 25 11 = 0
  · obtain ⟨X, x1, x2, x3, x4⟩ := rel_wk (sc := sc) h
    have x12 : xg X 33 12 = A.1 := x4.2.1.1.1
    refine ⟨some (xI 0), G, K, G, K, A, ⟨_, xin_0, rfl⟩, fun Q => ?_, fun Q => ?_, h⟩
    · rw [sC_lift (d := d + 3) (by rw [r2.1]; exact hn0) (by rw [r2.1]; exact hn) h4.1, if_neg (fun z => z hs)]
    · rw [sm_lift (x1 d) (by omega) (by omega), es, if_pos hs]
  · obtain ⟨l1, l2⟩ := gLo_v A.1.toNat 0 G (by decide)
    obtain ⟨M, hM⟩ : ∃ M, M = gLo A.1.toNat 0 G := ⟨_, rfl⟩
    rw [← hM] at l1 l2
    have l1f : ∀ (a : Nat), ¬ a = 28 → xg M a = xg G a := fun a ha => funext (fun j => l1 a j ha)
    have mR : mRep M K A := by unfold mRep; rw [l1f 33 (by decide), l1f 40 (by decide), l1f 41 (by decide), l1f 42 (by decide)]; exact r1
    have mC : cAt M A := cAt_w r4 (fun a j ha => l1 a j (by omega))
    have mG : mGi M A := by unfold mGi; rw [l1f 44 (by decide), l1f 18 (by decide)]; exact r5
    obtain ⟨X, x1, x2, x3⟩ := sm_wk (sc := sc) mR r3 mC mG
    have xM : ∀ (a : Nat), ¬ (45 ≤ a ∧ a ≤ 49) → xg X a = xg M a := fun a ha => funext (fun j => x3 a j ha)
    have x12 : xg X 33 12 = A.1 := by rw [xM 33 (by decide), l1f 33 (by decide)]; exact r1.1
    obtain ⟨m1, m2⟩ := mLo_v A.1.toNat 0 X (by decide)
    obtain ⟨W, hW⟩ : ∃ W, W = mLo A.1.toNat 0 X := ⟨_, rfl⟩
    rw [← hW] at m1 m2
    have wG : ∀ (a : Nat), ¬ a = 28 → ¬ a = 58 → ¬ (45 ≤ a ∧ a ≤ 49) → xg W a = xg G a := fun a q1 q2 q3 => funext (fun j => by rw [m1 a j q2, xM a q3, l1 a j q1])
    have w28 : xg W 28 = xg M 28 := funext (fun j => by rw [m1 28 j (by decide), xM 28 (by decide)])
    refine ⟨some (xI 1), M, K, W, K, A, ⟨_, ⟨by decide, by decide⟩, rfl⟩, fun Q => ?_, fun Q => ?_, ?_⟩
    · rw [sC_lift (d := d + 3) (by rw [r2.1]; exact hn0) (by rw [r2.1]; exact hn) h4.1, if_pos hs, r2.1, hM]
    · rw [sm_lift (x1 d) (by omega) (by omega), if_neg (by rw [l1f 33 (by decide), es]; exact hs), x12, hW]
    · have F := h4.2.2 hs
      refine ⟨rLn_s h1 (by rw [wG 3 (by decide) (by decide) (by decide)]) (wG 4 (by decide) (by decide) (by decide)) (wG 34 (by decide) (by decide) (by decide)) (by rw [wG 33 (by decide) (by decide) (by decide)]), rGr_s ⟨r1, r2, r3, r4, r5⟩ (fun a ha => wG a (by omega) (by omega) (by omega)) (by rw [wG 33 (by decide) (by decide) (by decide)]) (fun _ => rfl), rPb_s h3 (fun a ha => wG a (by omega) (by omega) (by omega)) (by rw [wG 33 (by decide) (by decide) (by decide)]) (by rw [wG 33 (by decide) (by decide) (by decide)]) (by rw [wG 33 (by decide) (by decide) (by decide)]), by rw [wG 25 (by decide) (by decide) (by decide)]; exact h4.1, by rw [wG 33 (by decide) (by decide) (by decide), wG 25 (by decide) (by decide) (by decide)]; exact es, fun _ => Fm_own F (fun a ha => wG a (by omega) (by omega) (by omega)) (fun k k0 k1 hx => ?_)⟩
      have hx' : gAx G k := by unfold gAx at hx ⊢; rw [wG 26 (by decide) (by decide) (by decide), wG 10 (by decide) (by decide) (by decide), wG 15 (by decide) (by decide) (by decide)] at hx; exact hx
      have kA : k < A.1 := by
        rcases (show k < A.1 ∨ A.1 ≤ k by omega) with z | z
        · exact z
        · exact absurd (F.2.2.1 k z k1) hx'.1
      rw [w28, l2 k k0, if_pos ⟨k0, by omega, hx'⟩, m2 k k0, if_pos ⟨k0, by omega⟩, (x2 k k0 kA).2.2.2, xM 18 (by decide), l1f 18 (by decide)]
      exact ⟨rfl, (aV_bb r3 r4.2 k0 kA).2.2⟩
theorem two_set {k v : Int} (h : Rel G K A) (hk : xin k) (hv : xin v) : Two sc (d + 6) MC_set [.ref 2, xI k, xI v] Mm_set [.ref 33, xI k, xI v] G K pI := by
  have h' := h
  obtain ⟨h1, ⟨r1, r2, r3, r4, r5⟩, h3, h4⟩ := h'
  have hn := r3.2.1
  have hn0 := r3.1
  have e9 : xg G 9 9 = A.1 := r2.1
  have e12 : xg G 33 12 = A.1 := r1.1
  have es : xg G 33 34 = xg G 25 11 := h4.2.1
  by_cases hc : 0 ≤ k ∧ k < A.1
  · obtain ⟨k0, k1⟩ := hc
    have kd1 := (r2.2 k k0 k1).1
    have kd2 := (r2.2 k k0 k1).2.1
    have kd3 := (r1.2 k k0 k1).1
    have kd4 := (r1.2 k k0 k1).2.1
    -- the values, if they are to change
    have hAs : (xg G 10 k = 1 ∨ xg G 10 k = 2) → ¬ gOut G k v → aIn (A.2 k).1 (A.2 k).2.1 v ∧ gAsOk (A.1 - (k + 1)).toNat (k + 1) (xp G 18 k v) ∧ aVs A (xg (gAs (A.1 - (k + 1)).toNat (k + 1) (xp G 18 k v)) 18) ∧ (∀ (a : Nat) (j : Int), ¬ a = 18 → xg (gAs (A.1 - (k + 1)).toNat (k + 1) (xp G 18 k v)) a j = xg G a j) ∧ xg (gAs (A.1 - (k + 1)).toNat (k + 1) (xp G 18 k v)) 18 k = v ∧ ∀ j, 0 ≤ j → j < A.1 → ¬ j = k → ((A.2 j).1 = 1 ∨ (A.2 j).1 = 2) → xg (gAs (A.1 - (k + 1)).toNat (k + 1) (xp G 18 k v)) 18 j = xg G 18 j := by
      intro hi ho
      have ha : aIn (A.2 k).1 (A.2 k).2.1 v := by
        unfold gOut at ho
        rw [kd1, kd2] at ho
        rw [kd1] at hi
        unfold aIn
        rcases hi with z | z
        · rw [z] at ho ⊢
          simp only [if_true] at ho
          exact ⟨fun _ => by omega, fun y => absurd y (by decide)⟩
        · rw [z] at ho ⊢
          simp only [show ¬ (2 : Int) = 1 by decide, if_false] at ho
          refine ⟨fun y => absurd y (by decide), fun _ => ?_⟩
          by_cases y1 : (A.2 k).2.1 = 112
          · rw [if_pos y1, if_neg (show ¬ (A.2 k).2.1 = 113 by omega)] at ho
            refine ⟨by omega, by omega, fun _ => by omega, fun y => by omega⟩
          · rw [if_neg y1] at ho
            by_cases y2 : (A.2 k).2.1 = 113
            · rw [if_pos y2] at ho
              refine ⟨by omega, by omega, fun y => absurd y y1, fun _ => by omega⟩
            · rw [if_neg y2] at ho
              refine ⟨by omega, by omega, fun y => absurd y y1, fun y => absurd y y2⟩
      have s18 : xg (xp G 18 k v) 18 k = v := xg_self hv
      obtain ⟨a1, a2, a3, a4⟩ := as_all r3 (A.1 - (k + 1)).toNat (k + 1) (xp G 18 k v) (cRep_c r2 (by decide)) (fun j j0 j1 => by
        by_cases hj : j = k
        · subst hj
          refine ⟨by rw [s18]; exact ha, fun z => ?_⟩
          rw [kd1] at hi
          exact absurd hi z
        · exact aV_eq r3 j0 (by omega) (r4.2 j j0 (by omega)) (fun x x0 x1 => xg_idx k0 x0 (by omega))) (fun j j0 j1 => by rw [xg_idx k0 (by omega) (by omega)]; exact (r4.2 j (by omega) j1).1) (by omega) (by omega)
      refine ⟨ha, a1, a2, fun a j hh => (a3 a j hh).trans (xg_cell hh), ?_, fun j j0 j1 hj hi' => ?_⟩
      · rw [a4 k k0 k1 (Or.inl (by omega))]; exact s18
      · rw [a4 j j0 j1 (Or.inr hi'), xg_idx k0 j0 hj]
    have hcl := fun (Q : Option Value → am_H → Prop) => sC_set2 (sc := sc) (d := d + 2) (K := K) (Q := Q) (G := G) hk hv (by omega) (fun _ _ hi ho => by rw [e9]; exact (hAs hi ho).2.1)
    simp only [e9] at hcl
    by_cases hi : xg G 10 k = 1 ∨ xg G 10 k = 2
    · by_cases ho : gOut G k v
      · -- refused by both
        obtain ⟨X, x1, x2, x3, x4, x5⟩ := rel_mk0 (sc := sc) (d := d) h
        have xR := x4.2.1.1
        have e40 : xg X 40 k = (A.2 k).1 := (xR.2 k k0 k1).1
        have e41 : xg X 41 k = (A.2 k).2.1 := (xR.2 k k0 k1).2.1
        refine ⟨some (xI 0), G, K, X, K, A, ⟨_, xin_0, rfl⟩, fun Q => ?_, fun Q => ?_, x4⟩
        · rw [hcl, if_neg (fun z => z ⟨k0, k1⟩), if_pos hi, if_pos ho]
        · rw [sm_set hk hv (fun _ _ => x1) (by omega), e12, if_pos ⟨k0, k1⟩]
          unfold gOut at ho
          rw [kd1, kd2] at ho
          rw [kd1] at hi
          rcases hi with z | z
          · simp only [z, if_true] at ho
            rw [if_pos (show xg X 40 k = 1 by rw [e40]; exact z), if_neg (by omega)]
          · simp only [z, show ¬ (2 : Int) = 1 by decide, if_false] at ho
            rw [if_neg (show ¬ xg X 40 k = 1 by rw [e40, z]; decide), if_pos (show xg X 40 k = 2 by rw [e40]; exact z), if_neg]
            rw [e41]
            rintro ⟨y1, y2, y3, y4⟩
            by_cases c1 : (A.2 k).2.1 = 112
            · rw [if_pos c1, if_neg (show ¬ (A.2 k).2.1 = 113 by omega)] at ho
              have := y3 c1
              omega
            · rw [if_neg c1] at ho
              by_cases c2 : (A.2 k).2.1 = 113
              · rw [if_pos c2] at ho
                have := y4 c2
                omega
              · rw [if_neg c2] at ho
                omega
      · -- the value is given
        obtain ⟨s1, s2, s3, s4, s5, s6⟩ := hAs hi ho
        obtain ⟨M, hM⟩ : ∃ M, M = gAs (A.1 - (k + 1)).toNat (k + 1) (xp G 18 k v) := ⟨_, rfl⟩
        rw [← hM] at s3 s4 s5 s6
        have fM : ∀ (a : Nat), ¬ a = 18 → xg M a = xg G a := fun a ha => funext (fun j => s4 a j ha)
        have mR : mRep M K A := by unfold mRep; rw [fM 33 (by decide), fM 40 (by decide), fM 41 (by decide), fM 42 (by decide)]; exact r1
        have mC : cLv M A (xg G 18) := by unfold cLv; rw [fM 14 (by decide), fM 15 (by decide), fM 16 (by decide), fM 17 (by decide)]; exact r4
        have mG : mGw M A (xg G 18) := by unfold mGw; rw [fM 44 (by decide)]; exact r5
        have mP : mPb M A := by
          have := mPb_g h3
          unfold mPb at this ⊢
          rw [fM 33 (by decide), fM 55 (by decide), fM 56 (by decide), fM 57 (by decide)]
          exact this
        obtain ⟨X, x1, x2, x3, x4⟩ := sm_markv (sc := sc) (d := d) (V := xg G 18) mR r3 mC mG mP
        have xf : ∀ (a : Nat), ¬ (45 ≤ a ∧ a ≤ 50) → xg X a = xg M a := fun a ha => xg_nn (fun j j0 => x3 a j j0 ha)
        have e40 : xg X 40 k = (A.2 k).1 := by rw [xf 40 (by decide), fM 40 (by decide)]; exact kd3
        have e41 : xg X 41 k = (A.2 k).2.1 := by rw [xf 41 (by decide), fM 41 (by decide)]; exact kd4
        have wG : ∀ (a : Nat), ¬ a = 18 → ¬ a = 44 → ¬ (45 ≤ a ∧ a ≤ 50) → xg (xp X 44 k v) a = xg G a := fun a q1 q2 q3 => by rw [xp_f q2, xf a q3, fM a q1]
        have w18 : xg (xp X 44 k v) 18 = xg M 18 := by rw [xp_f (by decide), xf 18 (by decide)]
        refine ⟨some (xI 1), M, K, xp X 44 k v, K, A, ⟨_, ⟨by decide, by decide⟩, rfl⟩, fun Q => ?_, fun Q => ?_, ?_⟩
        · rw [hcl, if_neg (fun z => z ⟨k0, k1⟩), if_pos hi, if_neg ho, hM]
        · rw [sm_set hk hv (fun _ _ => x1) (by rw [fM 33 (by decide)]; omega), fM 33 (by decide), e12, if_pos ⟨k0, k1⟩]
          rw [kd1] at hi
          rcases hi with z | z
          · have := s1.1 z
            rw [if_pos (show xg X 40 k = 1 by rw [e40]; exact z), if_pos this]
          · have := s1.2 z
            rw [if_neg (show ¬ xg X 40 k = 1 by rw [e40, z]; decide), if_pos (show xg X 40 k = 2 by rw [e40]; exact z), if_pos (by rw [e41]; exact this)]
        · refine ⟨rLn_s h1 (by rw [wG 3 (by decide) (by decide) (by decide)]) (wG 4 (by decide) (by decide) (by decide)) (wG 34 (by decide) (by decide) (by decide)) (by rw [wG 33 (by decide) (by decide) (by decide)]), ⟨?_, ?_, r3, ⟨?_, ?_⟩, fun j j0 j1 hij => ?_⟩, rPb_s h3 (fun a ha => wG a (by omega) (by omega) (by omega)) (by rw [wG 33 (by decide) (by decide) (by decide)]) (by rw [wG 33 (by decide) (by decide) (by decide)]) (by rw [wG 33 (by decide) (by decide) (by decide)]), rFm_s h4 (fun a ha => wG a (by omega) (by omega) (by omega)) (by rw [wG 33 (by decide) (by decide) (by decide)])⟩
          · unfold mRep; rw [wG 33 (by decide) (by decide) (by decide), wG 40 (by decide) (by decide) (by decide), wG 41 (by decide) (by decide) (by decide), wG 42 (by decide) (by decide) (by decide)]; exact r1
          · exact cRep_eq r2 (by rw [wG 9 (by decide) (by decide) (by decide)]) (fun b j hb => by rw [wG b (by omega) (by omega) (by omega)])
          · rw [wG 14 (by decide) (by decide) (by decide), wG 15 (by decide) (by decide) (by decide), wG 16 (by decide) (by decide) (by decide), wG 17 (by decide) (by decide) (by decide)]; exact r4.1
          · rw [w18]; exact s3
          · rw [w18]
            by_cases hj : j = k
            · subst hj; rw [xg_self hv, s5]
            · rw [xg_idx k0 j0 hj, xf 44 (by decide), fM 44 (by decide), s6 j j0 j1 hj hij]
              exact r5 j j0 j1 hij
    · have k1' : ¬ (A.2 k).1 = 1 := fun z => hi (Or.inl (by rw [kd1]; exact z))
      have k2' : ¬ (A.2 k).1 = 2 := fun z => hi (Or.inr (by rw [kd1]; exact z))
      by_cases ho : ¬ xg G 25 11 = 0 ∧ gAx G k ∧ -1000000 ≤ v ∧ v ≤ 1000000
      · -- an own value
        have F := h4.2.2 ho.1
        have fM : ∀ (a : Nat), ¬ a = 28 → xg (xp G 28 k v) a = xg G a := fun a ha => xp_f ha
        have mR : mRep (xp G 28 k v) K A := by unfold mRep; rw [fM 33 (by decide), fM 40 (by decide), fM 41 (by decide), fM 42 (by decide)]; exact r1
        have mC : cAt (xp G 28 k v) A := cAt_w r4 (fun a j ha => by rw [fM a (by omega)])
        have mG : mGi (xp G 28 k v) A := by unfold mGi; rw [fM 44 (by decide), fM 18 (by decide)]; exact r5
        have mP : mPb (xp G 28 k v) A := by
          have := mPb_g h3
          unfold mPb at this ⊢
          rw [fM 33 (by decide), fM 55 (by decide), fM 56 (by decide), fM 57 (by decide)]
          exact this
        obtain ⟨X, x1, x2, x3, x4⟩ := sm_mark (sc := sc) (d := d) mR r3 mC mG mP
        have xf : ∀ (a : Nat), ¬ (45 ≤ a ∧ a ≤ 50) → xg X a = xg (xp G 28 k v) a := fun a ha => xg_nn (fun j j0 => x3 a j j0 ha)
        have e40 : xg X 40 k = (A.2 k).1 := by rw [xf 40 (by decide), fM 40 (by decide)]; exact kd3
        have eB : mBs (xp G 28 k v) = gBs G := by rw [← mBs_g h3]; funext x; unfold mBs; rw [fM 33 (by decide), fM 56 (by decide), fM 57 (by decide)]
        rw [eB] at x4
        have u50 := UFx_u r3 x4 F.2.1 36 k k0 k1 (by omega)
        have hx : mAx X k := by
          have z := ho.2.1
          refine ⟨u50.mpr z.1, by rw [e40, ← kd1]; exact z.2.1, ?_⟩
          rw [(x2 k k0 k1).2.1, xf 15 (by decide), fM 15 (by decide)]
          exact z.2.2
        have wG : ∀ (a : Nat), ¬ a = 28 → ¬ a = 58 → ¬ (45 ≤ a ∧ a ≤ 50) → xg (xp X 58 k v) a = xg G a := fun a q1 q2 q3 => by rw [xp_f q2, xf a q3, fM a q1]
        have w28 : xg (xp X 58 k v) 28 = xg (xp G 28 k v) 28 := by rw [xp_f (by decide), xf 28 (by decide)]
        refine ⟨some (xI 1), xp G 28 k v, K, xp X 58 k v, K, A, ⟨_, ⟨by decide, by decide⟩, rfl⟩, fun Q => ?_, fun Q => ?_, ?_⟩
        · rw [hcl, if_neg (fun z => z ⟨k0, k1⟩), if_neg hi, if_pos ho]
        · rw [sm_set hk hv (fun _ _ => x1) (by rw [fM 33 (by decide)]; omega), fM 33 (by decide), e12, if_pos ⟨k0, k1⟩, if_neg (show ¬ xg X 40 k = 1 by rw [e40]; exact k1'), if_neg (show ¬ xg X 40 k = 2 by rw [e40]; exact k2'), if_pos ⟨by rw [xf 33 (by decide), fM 33 (by decide), es]; exact ho.1, hx, ho.2.2⟩]
        · refine ⟨rLn_s h1 (by rw [wG 3 (by decide) (by decide) (by decide)]) (wG 4 (by decide) (by decide) (by decide)) (wG 34 (by decide) (by decide) (by decide)) (by rw [wG 33 (by decide) (by decide) (by decide)]), rGr_s ⟨r1, r2, r3, r4, r5⟩ (fun a ha => wG a (by omega) (by omega) (by omega)) (by rw [wG 33 (by decide) (by decide) (by decide)]) (fun _ => rfl), rPb_s h3 (fun a ha => wG a (by omega) (by omega) (by omega)) (by rw [wG 33 (by decide) (by decide) (by decide)]) (by rw [wG 33 (by decide) (by decide) (by decide)]) (by rw [wG 33 (by decide) (by decide) (by decide)]), by rw [wG 25 (by decide) (by decide) (by decide)]; exact h4.1, by rw [wG 33 (by decide) (by decide) (by decide), wG 25 (by decide) (by decide) (by decide)]; exact es, fun _ => Fm_own F (fun a ha => wG a (by omega) (by omega) (by omega)) (fun x x0 xx1 hx => ?_)⟩
          have hx' : gAx G x := by unfold gAx at hx ⊢; rw [wG 26 (by decide) (by decide) (by decide), wG 10 (by decide) (by decide) (by decide), wG 15 (by decide) (by decide) (by decide)] at hx; exact hx
          rw [w28]
          by_cases hxk : x = k
          · subst hxk
            rw [xg_self hv, xg_self hv]
            exact ⟨rfl, by unfold mB6; omega⟩
          · rw [xg_idx k0 x0 hxk, xg_idx k0 x0 hxk, xf 58 (by decide), fM 58 (by decide)]
            exact F.2.2.2.2.2 x x0 xx1 hx'
      · -- refused by both
        obtain ⟨X, x1, x2, x3, x4, x5⟩ := rel_mk0 (sc := sc) (d := d) h
        have e40 : xg X 40 k = (A.2 k).1 := (x4.2.1.1.2 k k0 k1).1
        have xR := Rs_m x3
        refine ⟨some (xI 0), G, K, X, K, A, ⟨_, xin_0, rfl⟩, fun Q => ?_, fun Q => ?_, x4⟩
        · rw [hcl, if_neg (fun z => z ⟨k0, k1⟩), if_neg hi, if_neg ho]
        · rw [sm_set hk hv (fun _ _ => x1) (by omega), e12, if_pos ⟨k0, k1⟩, if_neg (show ¬ xg X 40 k = 1 by rw [e40]; exact k1'), if_neg (show ¬ xg X 40 k = 2 by rw [e40]; exact k2'), if_neg]
          rintro ⟨y1, y2, y3⟩
          have hs : ¬ xg G 25 11 = 0 := by rw [← es, ← xR.2 34 (by decide)]; exact y1
          have := (mk_va x4 (x5 hs) k0 k1).2.1.mp y2
          unfold gAx at this
          rw [xR.1 26 (by decide), xR.1 10 (by decide), xR.1 15 (by decide)] at this
          exact ho ⟨hs, this, y3⟩
  · obtain ⟨X, x1, x2, x3, x4, x5⟩ := rel_mk0 (sc := sc) (d := d) h
    refine ⟨some (xI 0), G, K, G, K, A, ⟨_, xin_0, rfl⟩, fun Q => ?_, fun Q => ?_, h⟩
    · rw [sC_set2 (d := d + 2) hk hv (by omega) (fun z0 z1 => absurd ⟨z0, by omega⟩ hc), e9, if_pos hc]
    · rw [sm_set hk hv (fun _ _ => x1) (by omega), e12, if_neg hc]
end SP
