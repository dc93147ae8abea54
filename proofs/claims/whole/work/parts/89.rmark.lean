/-! the reference's marking -/
def mBs (G : xG) (x : Int) : Prop := x = xg G 33 28 ∨ ∃ q, 0 ≤ q ∧ q < xg G 33 30 ∧ (xg G 56 q = x ∨ xg G 57 q = x)
/-- the problem is in order, in the reference's cells -/
def mPb (G : xG) (A : aG) : Prop := 0 ≤ xg G 33 30 ∧ xg G 33 30 ≤ 6 ∧ -1 ≤ xg G 33 28 ∧ xg G 33 28 < A.1 ∧ xbo (xg G 33 29) ∧ (∀ q, 0 ≤ q → q < 6 → xbo (xg G 55 q)) ∧ ∀ q, 0 ≤ q → q < xg G 33 30 → 0 ≤ xg G 56 q ∧ xg G 56 q < A.1 ∧ 0 ≤ xg G 57 q ∧ xg G 57 q < A.1
section SP
variable {sc : Nat × (Nat → Int32)} {d : Nat} {Q : Option Value → am_H → Prop} {G : xG} {K : xK} {h : am_H}
theorem lm_mk1 {k : Int} (k0 : 0 ≤ k) (k1 : k < 36) : ∀ (n : Nat) (q : Int) (G : xG), 0 ≤ q → q + n = xg G 33 30 → xg G 33 30 ≤ 6 → xbo (xg G 50 k) → ∃ G' : xG, (∀ Q : Option Value → am_H → Prop, xw sc d Mm_mark cm_mark_35 [some (.ref 33), some (xI k), some (xI q)] [] (xH G K) Q ↔ xw sc d Mm_mark cm_mark_89 [some (.ref 33), some (xI k), some (xI (xg G 33 30))] [] (xH G' K) Q) ∧ (∀ (a : Nat) (j : Int), 0 ≤ j → ¬ (a = 50 ∧ j = k) → xg G' a j = xg G a j) ∧ xbo (xg G' 50 k) ∧ (¬ xg G' 50 k = 0 ↔ (¬ xg G 50 k = 0 ∨ ∃ p, q ≤ p ∧ p < xg G 33 30 ∧ (xg G 56 p = k ∨ xg G 57 p = k))) := by
  intro n
  induction n with
  | zero =>
    intro q G q0 q1 q6 hb
    have hge : xg G 33 30 ≤ q := by omega
    have eq' : q = xg G 33 30 := by omega
    refine ⟨G, fun Q => ?_, fun _ _ _ _ => rfl, hb, ?_⟩
    · rw [rm_mark_35]
      have hx : xin q := by rw [eq']; exact xin_g _ _ _
      simp (contextual := true) (disch := first | assumption | exact xin_g _ _ _ | exact xin_ar _ | exact xin_sc _ _ | exact xin_cmp | exact xin_and | exact xin_or | exact xinl_g _ _ _ | omega | exact xin_mk (by omega) (by omega) | exact xinl_mk (by omega) (by omega) | exact xbo_0 | exact xbo_1 | exact xin_sl | exact xin_fa | exact xbo_ad | exact xin_bo xbo_ad | exact xin_mb | exact xin_A | exact xin_op | ((repeat refine gN_q ?_ (by omega) (by omega)); assumption)) only [rm_mark_36, rm_mark_37, rm_mark_40, rm_mark_43, rm_mark_44, rm_mark_47, rm_mark_48, rm_mark_49, rm_mark_52, rm_mark_53, rm_mark_54, rm_mark_57, rm_mark_58, rm_mark_61, rm_mark_62, rm_mark_63, rm_mark_64, rm_mark_67, rm_mark_68, rm_mark_71, rm_mark_72, rm_mark_73, rm_mark_74, rm_mark_77, rm_mark_78, rm_mark_81, rm_mark_82, rm_mark_83, rm_mark_86, xg_cell, Option.toList_some, Option.toList_none, List.singleton_append, List.append_nil, List.nil_append, List.cons_append, false_and, if_false, if_true, Int.reduceAdd, Int.reduceSub, Int.reduceMul, Int.reduceNeg, Int.reduceLE, Int.reduceLT, Int.reduceEq, false_implies, true_implies, not_true_eq_false, not_false_eq_true, and_true, true_and, xar_0, xar_1, xar_2, xar_3, xar_4, xar_5, xar_6, xar_7, xar_8, xar_9, xar_10, xar_11, xar_12, hge]
      rw [eq']
    · constructor
      · intro z; exact Or.inl z
      · rintro (z | ⟨p, p0, p1, -⟩)
        · exact z
        · omega
  | succ n ih =>
    intro q G q0 q1 q6 hb
    have hlt : ¬ xg G 33 30 ≤ q := by omega
    have hx : xin q := ⟨by omega, by omega⟩
    have kx : xin k := ⟨by omega, by omega⟩
    have hv : xbo (if ¬ xg G 50 k = 0 ∨ xg G 56 q = k ∨ xg G 57 q = k then 1 else 0) := by split; exact Or.inr rfl; exact Or.inl rfl
    have e30 : xg (xp G 50 k (if ¬ xg G 50 k = 0 ∨ xg G 56 q = k ∨ xg G 57 q = k then 1 else 0)) 33 30 = xg G 33 30 := xg_cell (by decide)
    obtain ⟨G', g1, g2, g3, g4⟩ := ih (q + 1) (xp G 50 k (if ¬ xg G 50 k = 0 ∨ xg G 56 q = k ∨ xg G 57 q = k then 1 else 0)) (by omega) (by rw [e30]; omega) (by rw [e30]; exact q6) (by rw [xg_self (xin_bo hv)]; exact hv)
    refine ⟨G', fun Q => ?_, fun a j j0 hj => ?_, g3, ?_⟩
    · rw [rm_mark_35]
      have g1 := g1 Q
      rw [e30] at g1
      by_cases c1 : xg G 50 k = 0
      · by_cases c2 : xg G 56 q = k
        · rw [if_pos (Or.inr (Or.inl c2))] at g1
          simp (contextual := true) (disch := first | assumption | exact xin_g _ _ _ | exact xin_ar _ | exact xin_sc _ _ | exact xin_cmp | exact xin_and | exact xin_or | exact xinl_g _ _ _ | omega | exact xin_mk (by omega) (by omega) | exact xinl_mk (by omega) (by omega) | exact xbo_0 | exact xbo_1 | exact xin_sl | exact xin_fa | exact xbo_ad | exact xin_bo xbo_ad | exact xin_mb | exact xin_A | exact xin_op | ((repeat refine gN_q ?_ (by omega) (by omega)); assumption)) only [rm_mark_36, rm_mark_37, rm_mark_40, rm_mark_43, rm_mark_44, rm_mark_47, rm_mark_48, rm_mark_49, rm_mark_52, rm_mark_53, rm_mark_54, rm_mark_57, rm_mark_58, rm_mark_61, rm_mark_62, rm_mark_63, rm_mark_64, rm_mark_67, rm_mark_68, rm_mark_71, rm_mark_72, rm_mark_73, rm_mark_74, rm_mark_77, rm_mark_78, rm_mark_81, rm_mark_82, rm_mark_83, rm_mark_86, xg_cell, Option.toList_some, Option.toList_none, List.singleton_append, List.append_nil, List.nil_append, List.cons_append, false_and, if_false, if_true, Int.reduceAdd, Int.reduceSub, Int.reduceMul, Int.reduceNeg, Int.reduceLE, Int.reduceLT, Int.reduceEq, false_implies, true_implies, not_true_eq_false, not_false_eq_true, and_true, true_and, xar_0, xar_1, xar_2, xar_3, xar_4, xar_5, xar_6, xar_7, xar_8, xar_9, xar_10, xar_11, xar_12, hlt, c1, c2, g1]
        · by_cases c3 : xg G 57 q = k
          · rw [if_pos (Or.inr (Or.inr c3))] at g1
            simp (contextual := true) (disch := first | assumption | exact xin_g _ _ _ | exact xin_ar _ | exact xin_sc _ _ | exact xin_cmp | exact xin_and | exact xin_or | exact xinl_g _ _ _ | omega | exact xin_mk (by omega) (by omega) | exact xinl_mk (by omega) (by omega) | exact xbo_0 | exact xbo_1 | exact xin_sl | exact xin_fa | exact xbo_ad | exact xin_bo xbo_ad | exact xin_mb | exact xin_A | exact xin_op | ((repeat refine gN_q ?_ (by omega) (by omega)); assumption)) only [rm_mark_36, rm_mark_37, rm_mark_40, rm_mark_43, rm_mark_44, rm_mark_47, rm_mark_48, rm_mark_49, rm_mark_52, rm_mark_53, rm_mark_54, rm_mark_57, rm_mark_58, rm_mark_61, rm_mark_62, rm_mark_63, rm_mark_64, rm_mark_67, rm_mark_68, rm_mark_71, rm_mark_72, rm_mark_73, rm_mark_74, rm_mark_77, rm_mark_78, rm_mark_81, rm_mark_82, rm_mark_83, rm_mark_86, xg_cell, Option.toList_some, Option.toList_none, List.singleton_append, List.append_nil, List.nil_append, List.cons_append, false_and, if_false, if_true, Int.reduceAdd, Int.reduceSub, Int.reduceMul, Int.reduceNeg, Int.reduceLE, Int.reduceLT, Int.reduceEq, false_implies, true_implies, not_true_eq_false, not_false_eq_true, and_true, true_and, xar_0, xar_1, xar_2, xar_3, xar_4, xar_5, xar_6, xar_7, xar_8, xar_9, xar_10, xar_11, xar_12, hlt, c1, c2, c3, g1]
          · rw [if_neg (by simp [c1, c2, c3])] at g1
            simp (contextual := true) (disch := first | assumption | exact xin_g _ _ _ | exact xin_ar _ | exact xin_sc _ _ | exact xin_cmp | exact xin_and | exact xin_or | exact xinl_g _ _ _ | omega | exact xin_mk (by omega) (by omega) | exact xinl_mk (by omega) (by omega) | exact xbo_0 | exact xbo_1 | exact xin_sl | exact xin_fa | exact xbo_ad | exact xin_bo xbo_ad | exact xin_mb | exact xin_A | exact xin_op | ((repeat refine gN_q ?_ (by omega) (by omega)); assumption)) only [rm_mark_36, rm_mark_37, rm_mark_40, rm_mark_43, rm_mark_44, rm_mark_47, rm_mark_48, rm_mark_49, rm_mark_52, rm_mark_53, rm_mark_54, rm_mark_57, rm_mark_58, rm_mark_61, rm_mark_62, rm_mark_63, rm_mark_64, rm_mark_67, rm_mark_68, rm_mark_71, rm_mark_72, rm_mark_73, rm_mark_74, rm_mark_77, rm_mark_78, rm_mark_81, rm_mark_82, rm_mark_83, rm_mark_86, xg_cell, Option.toList_some, Option.toList_none, List.singleton_append, List.append_nil, List.nil_append, List.cons_append, false_and, if_false, if_true, Int.reduceAdd, Int.reduceSub, Int.reduceMul, Int.reduceNeg, Int.reduceLE, Int.reduceLT, Int.reduceEq, false_implies, true_implies, not_true_eq_false, not_false_eq_true, and_true, true_and, xar_0, xar_1, xar_2, xar_3, xar_4, xar_5, xar_6, xar_7, xar_8, xar_9, xar_10, xar_11, xar_12, hlt, c1, c2, c3, g1]
      · rw [if_pos (Or.inl c1)] at g1
        simp (contextual := true) (disch := first | assumption | exact xin_g _ _ _ | exact xin_ar _ | exact xin_sc _ _ | exact xin_cmp | exact xin_and | exact xin_or | exact xinl_g _ _ _ | omega | exact xin_mk (by omega) (by omega) | exact xinl_mk (by omega) (by omega) | exact xbo_0 | exact xbo_1 | exact xin_sl | exact xin_fa | exact xbo_ad | exact xin_bo xbo_ad | exact xin_mb | exact xin_A | exact xin_op | ((repeat refine gN_q ?_ (by omega) (by omega)); assumption)) only [rm_mark_36, rm_mark_37, rm_mark_40, rm_mark_43, rm_mark_44, rm_mark_47, rm_mark_48, rm_mark_49, rm_mark_52, rm_mark_53, rm_mark_54, rm_mark_57, rm_mark_58, rm_mark_61, rm_mark_62, rm_mark_63, rm_mark_64, rm_mark_67, rm_mark_68, rm_mark_71, rm_mark_72, rm_mark_73, rm_mark_74, rm_mark_77, rm_mark_78, rm_mark_81, rm_mark_82, rm_mark_83, rm_mark_86, xg_cell, Option.toList_some, Option.toList_none, List.singleton_append, List.append_nil, List.nil_append, List.cons_append, false_and, if_false, if_true, Int.reduceAdd, Int.reduceSub, Int.reduceMul, Int.reduceNeg, Int.reduceLE, Int.reduceLT, Int.reduceEq, false_implies, true_implies, not_true_eq_false, not_false_eq_true, and_true, true_and, xar_0, xar_1, xar_2, xar_3, xar_4, xar_5, xar_6, xar_7, xar_8, xar_9, xar_10, xar_11, xar_12, hlt, c1, g1]
    · rw [g2 a j j0 hj]
      by_cases ha : a = 50
      · subst ha; exact xg_idx k0 j0 (fun z => hj ⟨rfl, z⟩)
      · exact xg_cell ha
    · rw [g4, e30, xg_self (xin_bo hv)]
      have e56 : ∀ p, xg (xp G 50 k (if ¬ xg G 50 k = 0 ∨ xg G 56 q = k ∨ xg G 57 q = k then 1 else 0)) 56 p = xg G 56 p := fun p => xg_cell (by decide)
      have e57 : ∀ p, xg (xp G 50 k (if ¬ xg G 50 k = 0 ∨ xg G 56 q = k ∨ xg G 57 q = k then 1 else 0)) 57 p = xg G 57 p := fun p => xg_cell (by decide)
      simp only [e56, e57]
      constructor
      · rintro (z | ⟨p, p0, p1, z⟩)
        · by_cases c : ¬ xg G 50 k = 0 ∨ xg G 56 q = k ∨ xg G 57 q = k
          · rcases c with c | c
            · exact Or.inl c
            · exact Or.inr ⟨q, Int.le_refl _, by omega, c⟩
          · rw [if_neg c] at z; exact absurd rfl z
        · exact Or.inr ⟨p, by omega, p1, z⟩
      · rintro (z | ⟨p, p0, p1, z⟩)
        · left; rw [if_pos (Or.inl z)]; decide
        · by_cases hp : p = q
          · subst hp; left; rw [if_pos (Or.inr z)]; decide
          · exact Or.inr ⟨p, by omega, p1, z⟩
theorem lm_mk2 {N : Int} (hN : N ≤ 36) : ∀ (n : Nat) (k : Int) (G : xG), 0 ≤ k → k + n = N → xg G 33 12 = N → 0 ≤ xg G 33 30 → xg G 33 30 ≤ 6 → ∃ G' : xG, (∀ Q : Option Value → am_H → Prop, xw sc d Mm_mark cm_mark_6 [some (.ref 33), some (xI k), none] [] (xH G K) Q ↔ xw sc d Mm_mark cm_mark_95 [some (.ref 33), some (xI N), none] [] (xH G' K) Q) ∧ (∀ (a : Nat) (j : Int), 0 ≤ j → ¬ a = 50 → xg G' a j = xg G a j) ∧ (∀ x, 0 ≤ x → x < k → xg G' 50 x = xg G 50 x) ∧ ∀ x, k ≤ x → x < N → xbo (xg G' 50 x) ∧ (¬ xg G' 50 x = 0 ↔ mBs G x) := by
  intro n
  induction n with
  | zero =>
    intro k G k0 k1 h12 h30 h6
    have e : k = N := by omega
    subst e
    have hge : xg G 33 12 ≤ k := by omega
    refine ⟨G, fun Q => ?_, fun _ _ _ _ => rfl, fun _ _ _ => rfl, fun x x0 x1 => absurd x0 (by omega)⟩
    rw [rm_mark_6]
    simp (contextual := true) (disch := first | assumption | exact xin_g _ _ _ | exact xin_ar _ | exact xin_sc _ _ | exact xin_cmp | exact xin_and | exact xin_or | exact xinl_g _ _ _ | omega | exact xin_mk (by omega) (by omega) | exact xinl_mk (by omega) (by omega) | exact xbo_0 | exact xbo_1 | exact xin_sl | exact xin_fa | exact xbo_ad | exact xin_bo xbo_ad | exact xin_mb | exact xin_A | exact xin_op | ((repeat refine gN_q ?_ (by omega) (by omega)); assumption)) only [rm_mark_7, rm_mark_8, rm_mark_11, rm_mark_14, rm_mark_15, rm_mark_18, rm_mark_19, rm_mark_20, rm_mark_21, rm_mark_24, rm_mark_27, rm_mark_28, rm_mark_31, rm_mark_32, rm_mark_33, rm_mark_34, xg_cell, Option.toList_some, Option.toList_none, List.singleton_append, List.append_nil, List.nil_append, List.cons_append, false_and, if_false, if_true, Int.reduceAdd, Int.reduceSub, Int.reduceMul, Int.reduceNeg, Int.reduceLE, Int.reduceLT, Int.reduceEq, false_implies, true_implies, not_true_eq_false, not_false_eq_true, and_true, true_and, xar_0, xar_1, xar_2, xar_3, xar_4, xar_5, xar_6, xar_7, xar_8, xar_9, xar_10, xar_11, xar_12, hge]
  | succ n ih =>
    intro k G k0 k1 h12 h30 h6
    have hlt : ¬ xg G 33 12 ≤ k := by omega
    have kx : xin k := ⟨by omega, by omega⟩
    have hv : xbo (if k = xg G 33 28 then 1 else 0) := by split; exact Or.inr rfl; exact Or.inl rfl
    have e30 : xg (xp G 50 k (if k = xg G 33 28 then 1 else 0)) 33 30 = xg G 33 30 := xg_cell (by decide)
    have s50 : xg (xp G 50 k (if k = xg G 33 28 then 1 else 0)) 50 k = if k = xg G 33 28 then 1 else 0 := xg_self (xin_bo hv)
    obtain ⟨G1, f1, f2, f3, f4⟩ := lm_mk1 (sc := sc) (d := d) (K := K) k0 (show k < 36 by omega) (xg G 33 30).toNat 0 (xp G 50 k (if k = xg G 33 28 then 1 else 0)) (by decide) (by rw [e30]; omega) (by rw [e30]; exact h6) (by rw [s50]; exact hv)
    have fr1 : ∀ (a : Nat) (j : Int), 0 ≤ j → ¬ (a = 50 ∧ j = k) → xg G1 a j = xg G a j := by
      intro a j j0 hj
      rw [f2 a j j0 hj]
      by_cases ha : a = 50
      · subst ha; exact xg_idx k0 j0 (fun z => hj ⟨rfl, z⟩)
      · exact xg_cell ha
    obtain ⟨G', g1, g2, g3, g4⟩ := ih (k + 1) G1 (by omega) (by omega) (by rw [fr1 33 12 (by decide) (by omega)]; exact h12) (by rw [fr1 33 30 (by decide) (by omega)]; exact h30) (by rw [fr1 33 30 (by decide) (by omega)]; exact h6)
    refine ⟨G', fun Q => ?_, fun a j j0 ha => ?_, fun x x0 x1 => ?_, fun x x0 x1 => ?_⟩
    · rw [rm_mark_6]
      have g1 := g1 Q
      have f1 := fun (Q : Option Value → am_H → Prop) => f1 Q
      simp only [e30] at f1
      by_cases c : k = xg G 33 28
      · simp only [if_pos c] at f1
        simp (contextual := true) (disch := first | assumption | exact xin_g _ _ _ | exact xin_ar _ | exact xin_sc _ _ | exact xin_cmp | exact xin_and | exact xin_or | exact xinl_g _ _ _ | omega | exact xin_mk (by omega) (by omega) | exact xinl_mk (by omega) (by omega) | exact xbo_0 | exact xbo_1 | exact xin_sl | exact xin_fa | exact xbo_ad | exact xin_bo xbo_ad | exact xin_mb | exact xin_A | exact xin_op | ((repeat refine gN_q ?_ (by omega) (by omega)); assumption)) only [rm_mark_7, rm_mark_8, rm_mark_11, rm_mark_14, rm_mark_15, rm_mark_18, rm_mark_19, rm_mark_20, rm_mark_21, rm_mark_24, rm_mark_27, rm_mark_28, rm_mark_31, rm_mark_32, rm_mark_33, rm_mark_34, rm_mark_89, rm_mark_92, xg_cell, Option.toList_some, Option.toList_none, List.singleton_append, List.append_nil, List.nil_append, List.cons_append, false_and, if_false, if_true, Int.reduceAdd, Int.reduceSub, Int.reduceMul, Int.reduceNeg, Int.reduceLE, Int.reduceLT, Int.reduceEq, false_implies, true_implies, not_true_eq_false, not_false_eq_true, and_true, true_and, xar_0, xar_1, xar_2, xar_3, xar_4, xar_5, xar_6, xar_7, xar_8, xar_9, xar_10, xar_11, xar_12, hlt, ← c, f1, g1]
      · simp only [if_neg c] at f1
        simp (contextual := true) (disch := first | assumption | exact xin_g _ _ _ | exact xin_ar _ | exact xin_sc _ _ | exact xin_cmp | exact xin_and | exact xin_or | exact xinl_g _ _ _ | omega | exact xin_mk (by omega) (by omega) | exact xinl_mk (by omega) (by omega) | exact xbo_0 | exact xbo_1 | exact xin_sl | exact xin_fa | exact xbo_ad | exact xin_bo xbo_ad | exact xin_mb | exact xin_A | exact xin_op | ((repeat refine gN_q ?_ (by omega) (by omega)); assumption)) only [rm_mark_7, rm_mark_8, rm_mark_11, rm_mark_14, rm_mark_15, rm_mark_18, rm_mark_19, rm_mark_20, rm_mark_21, rm_mark_24, rm_mark_27, rm_mark_28, rm_mark_31, rm_mark_32, rm_mark_33, rm_mark_34, rm_mark_89, rm_mark_92, xg_cell, Option.toList_some, Option.toList_none, List.singleton_append, List.append_nil, List.nil_append, List.cons_append, false_and, if_false, if_true, Int.reduceAdd, Int.reduceSub, Int.reduceMul, Int.reduceNeg, Int.reduceLE, Int.reduceLT, Int.reduceEq, false_implies, true_implies, not_true_eq_false, not_false_eq_true, and_true, true_and, xar_0, xar_1, xar_2, xar_3, xar_4, xar_5, xar_6, xar_7, xar_8, xar_9, xar_10, xar_11, xar_12, hlt, c, f1, g1]
    · rw [g2 a j j0 ha, fr1 a j j0 (by omega)]
    · rw [g3 x x0 (by omega), fr1 50 x x0 (by omega)]
    · have eb : ∀ y, mBs G1 y ↔ mBs G y := by
        intro y
        unfold mBs
        rw [fr1 33 28 (by decide) (by omega), fr1 33 30 (by decide) (by omega)]
        constructor
        · rintro (z | ⟨q, q0, q1, z⟩)
          · exact Or.inl z
          · rw [fr1 56 q q0 (by omega), fr1 57 q q0 (by omega)] at z; exact Or.inr ⟨q, q0, q1, z⟩
        · rintro (z | ⟨q, q0, q1, z⟩)
          · exact Or.inl z
          · refine Or.inr ⟨q, q0, q1, ?_⟩
            rw [fr1 56 q q0 (by omega), fr1 57 q q0 (by omega)]; exact z
      by_cases hx : x = k
      · subst hx
        rw [g3 x k0 (by omega)]
        refine ⟨f3, ?_⟩
        rw [f4, s50, e30]
        unfold mBs
        have e56 : ∀ p, xg (xp G 50 x (if x = xg G 33 28 then 1 else 0)) 56 p = xg G 56 p := fun p => xg_cell (by decide)
        have e57 : ∀ p, xg (xp G 50 x (if x = xg G 33 28 then 1 else 0)) 57 p = xg G 57 p := fun p => xg_cell (by decide)
        simp only [e56, e57]
        constructor
        · rintro (z | z)
          · left
            by_cases c : x = xg G 33 28
            · exact c
            · rw [if_neg c] at z; exact absurd rfl z
          · exact Or.inr z
        · rintro (z | z)
          · left; rw [if_pos z]; decide
          · exact Or.inr z
      · rw [← eb]
        exact g4 x (by omega) x1
theorem lm_mkn {A : aG} {k : Int} (hR : mRep G K A) (hA : aOk A) (k0 : 0 ≤ k) (k1 : k < A.1) : xw sc (d + 1) Mm_mark cm_mark_102 [some (.ref 33), some (xI k), none] [] (xH G K) Q ↔ xw sc (d + 1) Mm_mark cm_mark_102 [some (.ref 33), some (xI (k + (-1))), none] [] (xH (mkF 50 G k (xar (A.2 k).1) (A.2 k).2.2.1 (A.2 k).2.2.2.1 (A.2 k).2.2.2.2.1) K) Q := by
  have hN := mN_of hR hA k0 k1
  obtain ⟨e1, e2, e3, e4, e5, e6⟩ := hR.2 k k0 k1
  obtain ⟨r1, r2, r3, r4, r5, r6⟩ := aArgs hA k0 k1
  rw [← e3] at r1 r2
  rw [← e4] at r3 r4
  rw [← e5] at r5 r6
  rw [← e1] at r1 r2 r3 r4 r5 r6
  rw [← e1, ← e3, ← e4, ← e5]
  have hM := hN
  unfold mN at hM
  have hk : ¬ k < 0 := by omega
  have hn := hA.2.1
  have hc := mN_k hN
  have har := fun (X : xG) (Q : Option Value → am_H → Prop) => sm_arity (sc := sc) (d := d) (h := xH X K) (Q := Q) (k := xg G 40 k) (by omega) (by omega)
  clear e1 e2 e3 e4 e5 e6
  conv => lhs; rw [rm_mark_102]
  by_cases hu : xg G 50 k = 0
  · have e1 : mkF 50 G k (xar (xg G 40 k)) (xg G 42 (3 * k)) (xg G 42 (3 * k + 1)) (xg G 42 (3 * k + 2)) = G := by unfold mkF; rw [if_pos hu]
    rw [e1]
    simp (contextual := true) (disch := first | assumption | exact xin_g _ _ _ | exact xin_ar _ | exact xin_sc _ _ | exact xin_cmp | exact xin_and | exact xin_or | exact xinl_g _ _ _ | omega | exact xin_mk (by omega) (by omega) | exact xinl_mk (by omega) (by omega) | exact xbo_0 | exact xbo_1 | exact xin_sl | exact xin_fa | exact xbo_ad | exact xin_bo xbo_ad | exact xin_mb | exact xin_A | exact xin_op | ((repeat refine gN_q ?_ (by omega) (by omega)); assumption)) only [rm_mark_103, rm_mark_106, rm_mark_107, rm_mark_108, rm_mark_109, rm_mark_112, rm_mark_113, rm_mark_114, rm_mark_117, rm_mark_118, rm_mark_119, rm_mark_122, rm_mark_123, rm_mark_124, rm_mark_127, rm_mark_130, rm_mark_131, rm_mark_134, rm_mark_135, rm_mark_138, rm_mark_139, rm_mark_140, rm_mark_141, rm_mark_142, rm_mark_143, rm_mark_144, rm_mark_145, rm_mark_146, rm_mark_149, rm_mark_152, rm_mark_155, xg_cell, Option.toList_some, Option.toList_none, List.singleton_append, List.append_nil, List.nil_append, List.cons_append, false_and, if_false, if_true, Int.reduceAdd, Int.reduceSub, Int.reduceMul, Int.reduceNeg, Int.reduceLE, Int.reduceLT, Int.reduceEq, false_implies, true_implies, not_true_eq_false, not_false_eq_true, and_true, true_and, xar_0, xar_1, xar_2, xar_3, xar_4, xar_5, xar_6, xar_7, xar_8, xar_9, xar_10, xar_11, xar_12, hk, hu]
  · have z0 : 0 ≤ xg G 42 (3 * k) → xg G 42 (3 * k) < k → xg (xp G 50 (xg G 42 (3 * k)) 1) 50 k = xg G 50 k := fun q q' => xg_idx q (by omega) (by omega)
    have z1 : 0 ≤ xg G 42 (3 * k) → xg G 42 (3 * k) < k → 0 ≤ xg G 42 (3 * k + 1) → xg G 42 (3 * k + 1) < k → xg (xp (xp G 50 (xg G 42 (3 * k)) 1) 50 (xg G 42 (3 * k + 1)) 1) 50 k = xg G 50 k := fun q q' q2 q2' => by rw [xg_idx q2 (by omega) (by omega)]; exact z0 q q'
    have z2 : 0 ≤ xg G 42 (3 * k) → xg G 42 (3 * k) < k → 0 ≤ xg G 42 (3 * k + 1) → xg G 42 (3 * k + 1) < k → 0 ≤ xg G 42 (3 * k + 2) → xg G 42 (3 * k + 2) < k → xg (xp (xp (xp G 50 (xg G 42 (3 * k)) 1) 50 (xg G 42 (3 * k + 1)) 1) 50 (xg G 42 (3 * k + 2)) 1) 50 k = xg G 50 k := fun q q' q2 q2' q3 q3' => by rw [xg_idx q3 (by omega) (by omega)]; exact z1 q q' q2 q2'
    unfold mkF
    rcases hc with e | e | e | e | e | e | e | e | e | e | e | e <;> rw [e] at r1 r2 r3 r4 r5 r6 har <;> simp only [false_and, if_false, if_true, Int.reduceAdd, Int.reduceSub, Int.reduceMul, Int.reduceNeg, Int.reduceLE, Int.reduceLT, Int.reduceEq, false_implies, true_implies, not_true_eq_false, not_false_eq_true, and_true, true_and, xar_0, xar_1, xar_2, xar_3, xar_4, xar_5, xar_6, xar_7, xar_8, xar_9, xar_10, xar_11, xar_12] at r1 r2 r3 r4 r5 r6 <;> simp (contextual := true) (disch := first | assumption | exact xin_g _ _ _ | exact xin_ar _ | exact xin_sc _ _ | exact xin_cmp | exact xin_and | exact xin_or | exact xinl_g _ _ _ | omega | exact xin_mk (by omega) (by omega) | exact xinl_mk (by omega) (by omega) | exact xbo_0 | exact xbo_1 | exact xin_sl | exact xin_fa | exact xbo_ad | exact xin_bo xbo_ad | exact xin_mb | exact xin_A | exact xin_op | ((repeat refine gN_q ?_ (by omega) (by omega)); assumption)) only [rm_mark_103, rm_mark_106, rm_mark_107, rm_mark_108, rm_mark_109, rm_mark_112, rm_mark_113, rm_mark_114, rm_mark_117, rm_mark_118, rm_mark_119, rm_mark_122, rm_mark_123, rm_mark_124, rm_mark_127, rm_mark_130, rm_mark_131, rm_mark_134, rm_mark_135, rm_mark_138, rm_mark_139, rm_mark_140, rm_mark_141, rm_mark_142, rm_mark_143, rm_mark_144, rm_mark_145, rm_mark_146, rm_mark_149, rm_mark_152, rm_mark_155, ↓har, xg_cell, Option.toList_some, Option.toList_none, List.singleton_append, List.append_nil, List.nil_append, List.cons_append, false_and, if_false, if_true, Int.reduceAdd, Int.reduceSub, Int.reduceMul, Int.reduceNeg, Int.reduceLE, Int.reduceLT, Int.reduceEq, false_implies, true_implies, not_true_eq_false, not_false_eq_true, and_true, true_and, xar_0, xar_1, xar_2, xar_3, xar_4, xar_5, xar_6, xar_7, xar_8, xar_9, xar_10, xar_11, xar_12, hk, hu, e, z0, z1, z2, Int.add_zero]
end SP
