/-! making the form: marks, columns, rows -/
section SP
variable {sc : Nat × (Nat → Int32)} {d : Nat} {Q : Option Value → am_H → Prop} {G : xG} {K : xK} {h : am_H}
theorem lF_m3 : ∀ (n : Nat) (k : Int) (G : xG), (∀ i : Int, 0 ≤ i → i < n → gN G i ∧ gAb G i) → k + 1 = n → (xw sc (d + 1) MF_markUsed cF_markUsed_93 [some (.ref 25), some (xI k), none] [] (xH G K) Q ↔ Q none (xH (gM3 n G) K)) := by
  intro n
  induction n with
  | zero =>
    intro k G hN hk
    have e : k = -1 := by omega
    subst e
    rw [rF_markUsed_93]
    simp (contextual := true) (disch := first | assumption | exact xin_g _ _ _ | exact xin_ar _ | exact xin_sc _ _ | exact xin_cmp | exact xin_and | exact xin_or | exact xinl_g _ _ _ | omega | exact xin_mk (by omega) (by omega) | exact xinl_mk (by omega) (by omega) | exact xbo_0 | exact xbo_1 | exact xin_sl | exact xin_fa | exact xbo_ad | exact xin_bo xbo_ad | exact xin_mb | exact xin_A | exact xin_op | ((repeat refine gN_q ?_ (by omega) (by omega)); assumption)) only [rF_markUsed_94, rF_markUsed_152, xg_cell, Option.toList_some, Option.toList_none, List.singleton_append, List.append_nil, List.nil_append, List.cons_append, false_and, if_false, if_true, Int.reduceAdd, Int.reduceSub, Int.reduceMul, Int.reduceNeg, Int.reduceLE, Int.reduceLT, Int.reduceEq, false_implies, true_implies, not_true_eq_false, not_false_eq_true, and_true, true_and, xar_0, xar_1, xar_2, xar_3, xar_4, xar_5, xar_6, xar_7, xar_8, xar_9, xar_10, xar_11, xar_12, gM3]
  | succ n ih =>
    intro k G hN hk
    obtain ⟨h1, h2⟩ := hN k (by omega) (by omega)
    rw [lF_mk (u2 := none) h1 h2, ih (k + (-1)) (gMk G k) (fun i i0 i1 => ⟨gN_Mk.mpr (hN i i0 (by omega)).1, gAb_Mk.mpr (hN i i0 (by omega)).2⟩) (by omega)]
    have e : k = (n : Int) := by omega
    rw [e]
    exact Iff.rfl
def gMu (G : xG) : xG := gM3 (xg G 9 9).toNat (gM2 (xg G 21 3).toNat 0 (xp (gM1 36 0 G) 26 (xg G 21 4) 1))
theorem gM1_c {a : Nat} (ha : ¬ a = 26) : ∀ (n : Nat) (k : Int) (G : xG) (j : Int), xg (gM1 n k G) a j = xg G a j
  | 0, k, G, j => rfl
  | n + 1, k, G, j => (gM1_c ha n (k + 1) (xp G 26 k 0) j).trans (xg_cell ha)
theorem gM2_c {a : Nat} (ha : ¬ a = 26) : ∀ (n : Nat) (k : Int) (G : xG) (j : Int), xg (gM2 n k G) a j = xg G a j
  | 0, k, G, j => rfl
  | n + 1, k, G, j => (gM2_c ha n (k + 1) _ j).trans (by rw [xg_cell ha, xg_cell ha])
theorem gM3_c {a : Nat} (ha : ¬ a = 26) : ∀ (n : Nat) (G : xG) (j : Int), xg (gM3 n G) a j = xg G a j
  | 0, G, j => rfl
  | n + 1, G, j => (gM3_c ha n _ j).trans (gMk_c ha)
theorem gMu_c {a : Nat} (ha : ¬ a = 26) (j : Int) : xg (gMu G) a j = xg G a j := by
  unfold gMu
  rw [gM3_c ha, gM2_c ha, xg_cell ha, gM1_c ha]
/-- what marking wants -/
def gMuOk (G : xG) : Prop := (∀ i : Int, 0 ≤ i → i < xg G 9 9 → gN G i ∧ gAb G i) ∧ gRq G ∧ 0 ≤ xg G 21 3 ∧ xg G 21 3 ≤ 6 ∧ 0 ≤ xg G 21 4 ∧ xg G 21 4 < 36 ∧ 0 ≤ xg G 9 9 ∧ xg G 9 9 ≤ 36
theorem sF_markUsed (hO : gMuOk G) : xc sc (d + 1) MF_markUsed [.ref 25] (xH G K) Q ↔ Q none (xH (gMu G) K) := by
  obtain ⟨o1, o2, o3, o4, o5, o6, o7, o8⟩ := hO
  rw [eF_markUsed]
  have a1 := lF_m1 (sc := sc) (d := d + 1) (K := K) (Q := Q) 36 0 G (by decide) (by decide)
  have c1 : ∀ a, ¬ a = 26 → ∀ i, xg (xp (gM1 36 0 G) 26 (xg G 21 4) 1) a i = xg G a i := fun a ha i => by rw [xg_cell ha, gM1_c ha]
  have t1 : xg (gM1 36 0 G) 21 4 = xg G 21 4 := gM1_c (by decide) _ _ _ _
  have a2 := lF_m2 (sc := sc) (d := d + 1) (K := K) (Q := Q) o2 o4 (xg G 21 3).toNat 0 (xp (gM1 36 0 G) 26 (xg G 21 4) 1) c1 (by omega) (by decide)
  have c2 : ∀ a, ¬ a = 26 → ∀ i, xg (gM2 (xg G 21 3).toNat 0 (xp (gM1 36 0 G) 26 (xg G 21 4) 1)) a i = xg G a i := fun a ha i => by rw [gM2_c ha]; exact c1 a ha i
  have t2 := c2 9 (by decide) 9
  have a3 := lF_m3 (sc := sc) (d := d) (K := K) (Q := Q) (xg G 9 9).toNat (xg G 9 9 - 1) (gM2 (xg G 21 3).toNat 0 (xp (gM1 36 0 G) 26 (xg G 21 4) 1)) (fun i i0 i1 => by
    have h1 := o1 i i0 (by omega)
    unfold gN gAb at h1 ⊢
    simp only [c2 10 (by decide), c2 12 (by decide)]
    exact h1) (by omega)
  unfold gMu
  generalize gM1 36 0 G = G1 at a1 t1 a2 t2 a3
  simp (contextual := true) (disch := first | assumption | exact xin_g _ _ _ | exact xin_ar _ | exact xin_sc _ _ | exact xin_cmp | exact xin_and | exact xin_or | exact xinl_g _ _ _ | omega | exact xin_mk (by omega) (by omega) | exact xinl_mk (by omega) (by omega) | exact xbo_0 | exact xbo_1 | exact xin_sl | exact xin_fa | exact xbo_ad | exact xin_bo xbo_ad | exact xin_mb | exact xin_A | exact xin_op | ((repeat refine gN_q ?_ (by omega) (by omega)); assumption)) only [rF_markUsed_0, rF_markUsed_1, xg_cell, Option.toList_some, Option.toList_none, List.singleton_append, List.append_nil, List.nil_append, List.cons_append, a1]
  simp (contextual := true) (disch := first | assumption | exact xin_g _ _ _ | exact xin_ar _ | exact xin_sc _ _ | exact xin_cmp | exact xin_and | exact xin_or | exact xinl_g _ _ _ | omega | exact xin_mk (by omega) (by omega) | exact xinl_mk (by omega) (by omega) | exact xbo_0 | exact xbo_1 | exact xin_sl | exact xin_fa | exact xbo_ad | exact xin_bo xbo_ad | exact xin_mb | exact xin_A | exact xin_op | ((repeat refine gN_q ?_ (by omega) (by omega)); assumption)) only [rF_markUsed_21, rF_markUsed_22, rF_markUsed_25, rF_markUsed_26, rF_markUsed_29, rF_markUsed_32, rF_markUsed_33, rF_markUsed_34, rF_markUsed_35, xg_cell, Option.toList_some, Option.toList_none, List.singleton_append, List.append_nil, List.nil_append, List.cons_append, t1, a2]
  generalize gM2 (xg G 21 3).toNat 0 (xp G1 26 (xg G 21 4) 1) = G2 at t2 a3
  simp (contextual := true) (disch := first | assumption | exact xin_g _ _ _ | exact xin_ar _ | exact xin_sc _ _ | exact xin_cmp | exact xin_and | exact xin_or | exact xinl_g _ _ _ | omega | exact xin_mk (by omega) (by omega) | exact xinl_mk (by omega) (by omega) | exact xbo_0 | exact xbo_1 | exact xin_sl | exact xin_fa | exact xbo_ad | exact xin_bo xbo_ad | exact xin_mb | exact xin_A | exact xin_op | ((repeat refine gN_q ?_ (by omega) (by omega)); assumption)) only [rF_markUsed_83, rF_markUsed_84, rF_markUsed_87, rF_markUsed_90, rF_markUsed_91, rF_markUsed_92, xg_cell, Option.toList_some, Option.toList_none, List.singleton_append, List.append_nil, List.nil_append, List.cons_append, t2, a3]
/-! columns -/
abbrev gAx (G : xG) (k : Int) : Prop := ¬ xg G 26 k = 0 ∧ 7 ≤ xg G 10 k ∧ ¬ xg G 15 k = 0
theorem sF_isAuxiliary {k : Int} (k0 : 0 ≤ k) (k1 : k < 36) : xc sc d MF_isAuxiliary [.ref 25, xI k] (xH G K) Q ↔ Q (some (xI (if gAx G k then 1 else 0))) (xH G K) := by
  rw [eF_isAuxiliary]
  simp (contextual := true) (disch := first | assumption | exact xin_g _ _ _ | exact xin_ar _ | exact xin_sc _ _ | exact xin_cmp | exact xin_and | exact xin_or | exact xinl_g _ _ _ | omega | exact xin_mk (by omega) (by omega) | exact xinl_mk (by omega) (by omega) | exact xbo_0 | exact xbo_1 | exact xin_sl | exact xin_fa | exact xbo_ad | exact xin_bo xbo_ad | exact xin_mb | exact xin_A | exact xin_op | ((repeat refine gN_q ?_ (by omega) (by omega)); assumption)) only [rF_isAuxiliary_0, rF_isAuxiliary_1, rF_isAuxiliary_4, rF_isAuxiliary_5, rF_isAuxiliary_6, rF_isAuxiliary_9, rF_isAuxiliary_10, rF_isAuxiliary_13, rF_isAuxiliary_16, rF_isAuxiliary_17, rF_isAuxiliary_18, rF_isAuxiliary_20, rF_isAuxiliary_23, rF_isAuxiliary_24, rF_isAuxiliary_27, rF_isAuxiliary_30, rF_isAuxiliary_31, rF_isAuxiliary_32, rF_isAuxiliary_35, rF_isAuxiliary_36, rF_isAuxiliary_39, rF_isAuxiliary_40, xg_cell, Option.toList_some, Option.toList_none, List.singleton_append, List.append_nil, List.nil_append, List.cons_append]
  grind
def gC1 : Nat → Int → xG → xG
  | 0, _, G => G
  | n + 1, k, G => gC1 n (k + 1) (xp (xp G 27 k (-1)) 28 k 0)
def gCk (G : xG) (k : Int) : xG := xp (xp G 27 k (xg G 25 10)) 25 10 (xg G 25 10 + 1)
def gC2 : Nat → Int → xG → xG
  | 0, _, G => G
  | n + 1, k, G => gC2 n (k + 1) (if ¬ xg G 26 k = 0 ∧ xg G 10 k = 1 then gCk G k else G)
def gC3 : Nat → Int → xG → xG
  | 0, _, G => G
  | n + 1, k, G => gC3 n (k + 1) (if gAx G k then gCk G k else G)
theorem gCk_9 {k : Int} : xg (gCk G k) 9 9 = xg G 9 9 := by
  unfold gCk
  rw [xg_cell (by decide), xg_cell (by decide)]
theorem lF_c1 : ∀ (n : Nat) (k : Int) (G : xG), k + n = 36 → 0 ≤ k → (xw sc d MF_numberColumns cF_numberColumns_7 [some (.ref 25), some (xI k)] [] (xH G K) Q ↔ xw sc d MF_numberColumns cF_numberColumns_33 [some (.ref 25), some (xI 36)] [] (xH (gC1 n k G) K) Q) := by
  intro n
  induction n with
  | zero =>
    intro k G hk k0
    have e : k = 36 := by omega
    subst e
    rw [rF_numberColumns_7]
    simp (contextual := true) (disch := first | assumption | exact xin_g _ _ _ | exact xin_ar _ | exact xin_sc _ _ | exact xin_cmp | exact xin_and | exact xin_or | exact xinl_g _ _ _ | omega | exact xin_mk (by omega) (by omega) | exact xinl_mk (by omega) (by omega) | exact xbo_0 | exact xbo_1 | exact xin_sl | exact xin_fa | exact xbo_ad | exact xin_bo xbo_ad | exact xin_mb | exact xin_A | exact xin_op | ((repeat refine gN_q ?_ (by omega) (by omega)); assumption)) only [rF_numberColumns_8, rF_numberColumns_10, rF_numberColumns_13, rF_numberColumns_14, rF_numberColumns_17, rF_numberColumns_18, rF_numberColumns_19, rF_numberColumns_20, rF_numberColumns_21, rF_numberColumns_24, rF_numberColumns_25, rF_numberColumns_26, rF_numberColumns_27, rF_numberColumns_30, xg_cell, Option.toList_some, Option.toList_none, List.singleton_append, List.append_nil, List.nil_append, List.cons_append, false_and, if_false, if_true, Int.reduceAdd, Int.reduceSub, Int.reduceMul, Int.reduceNeg, Int.reduceLE, Int.reduceLT, Int.reduceEq, false_implies, true_implies, not_true_eq_false, not_false_eq_true, and_true, true_and, xar_0, xar_1, xar_2, xar_3, xar_4, xar_5, xar_6, xar_7, xar_8, xar_9, xar_10, xar_11, xar_12, gC1]
  | succ n ih =>
    intro k G hk k0
    have hlt : ¬ 36 ≤ k := by omega
    have ih' := ih (k + 1) (xp (xp G 27 k (-1)) 28 k 0) (by omega) (by omega)
    rw [rF_numberColumns_7]
    simp (contextual := true) (disch := first | assumption | exact xin_g _ _ _ | exact xin_ar _ | exact xin_sc _ _ | exact xin_cmp | exact xin_and | exact xin_or | exact xinl_g _ _ _ | omega | exact xin_mk (by omega) (by omega) | exact xinl_mk (by omega) (by omega) | exact xbo_0 | exact xbo_1 | exact xin_sl | exact xin_fa | exact xbo_ad | exact xin_bo xbo_ad | exact xin_mb | exact xin_A | exact xin_op | ((repeat refine gN_q ?_ (by omega) (by omega)); assumption)) only [rF_numberColumns_8, rF_numberColumns_10, rF_numberColumns_13, rF_numberColumns_14, rF_numberColumns_17, rF_numberColumns_18, rF_numberColumns_19, rF_numberColumns_20, rF_numberColumns_21, rF_numberColumns_24, rF_numberColumns_25, rF_numberColumns_26, rF_numberColumns_27, rF_numberColumns_30, xg_cell, Option.toList_some, Option.toList_none, List.singleton_append, List.append_nil, List.nil_append, List.cons_append, false_and, if_false, if_true, Int.reduceAdd, Int.reduceSub, Int.reduceMul, Int.reduceNeg, Int.reduceLE, Int.reduceLT, Int.reduceEq, false_implies, true_implies, not_true_eq_false, not_false_eq_true, and_true, true_and, xar_0, xar_1, xar_2, xar_3, xar_4, xar_5, xar_6, xar_7, xar_8, xar_9, xar_10, xar_11, xar_12, gC1, hlt, ih']
theorem lF_c2 : ∀ (n : Nat) (k : Int) (G : xG), k + n = xg G 9 9 → 0 ≤ k → xg G 9 9 ≤ 36 → (xw sc d MF_numberColumns cF_numberColumns_35 [some (.ref 25), some (xI k)] [] (xH G K) Q ↔ xw sc d MF_numberColumns cF_numberColumns_94 [some (.ref 25), some (xI (xg G 9 9))] [] (xH (gC2 n k G) K) Q) := by
  intro n
  induction n with
  | zero =>
    intro k G hk k0 hn
    have e : k = xg G 9 9 := by omega
    subst e
    rw [rF_numberColumns_35]
    simp (contextual := true) (disch := first | assumption | exact xin_g _ _ _ | exact xin_ar _ | exact xin_sc _ _ | exact xin_cmp | exact xin_and | exact xin_or | exact xinl_g _ _ _ | omega | exact xin_mk (by omega) (by omega) | exact xinl_mk (by omega) (by omega) | exact xbo_0 | exact xbo_1 | exact xin_sl | exact xin_fa | exact xbo_ad | exact xin_bo xbo_ad | exact xin_mb | exact xin_A | exact xin_op | ((repeat refine gN_q ?_ (by omega) (by omega)); assumption)) only [rF_numberColumns_36, rF_numberColumns_37, rF_numberColumns_40, rF_numberColumns_43, rF_numberColumns_46, rF_numberColumns_47, rF_numberColumns_50, rF_numberColumns_51, rF_numberColumns_52, rF_numberColumns_55, rF_numberColumns_56, rF_numberColumns_59, rF_numberColumns_62, rF_numberColumns_63, rF_numberColumns_64, rF_numberColumns_65, rF_numberColumns_68, rF_numberColumns_69, rF_numberColumns_72, rF_numberColumns_73, rF_numberColumns_74, rF_numberColumns_77, rF_numberColumns_78, rF_numberColumns_79, rF_numberColumns_80, rF_numberColumns_83, rF_numberColumns_84, rF_numberColumns_85, rF_numberColumns_88, rF_numberColumns_91, xg_cell, Option.toList_some, Option.toList_none, List.singleton_append, List.append_nil, List.nil_append, List.cons_append, false_and, if_false, if_true, Int.reduceAdd, Int.reduceSub, Int.reduceMul, Int.reduceNeg, Int.reduceLE, Int.reduceLT, Int.reduceEq, false_implies, true_implies, not_true_eq_false, not_false_eq_true, and_true, true_and, xar_0, xar_1, xar_2, xar_3, xar_4, xar_5, xar_6, xar_7, xar_8, xar_9, xar_10, xar_11, xar_12, gC2, Int.le_refl]
  | succ n ih =>
    intro k G hk k0 hn
    have hlt : ¬ xg G 9 9 ≤ k := by omega
    rw [rF_numberColumns_35]
    by_cases hc : ¬ xg G 26 k = 0 ∧ xg G 10 k = 1
    · have ih' := ih (k + 1) (gCk G k) (by rw [gCk_9]; omega) (by omega) (by rw [gCk_9]; exact hn)
      rw [gCk_9] at ih'
      have e1 : gC2 (n + 1) k G = gC2 n (k + 1) (gCk G k) := by
        show gC2 n (k + 1) (if ¬ xg G 26 k = 0 ∧ xg G 10 k = 1 then gCk G k else G) = _
        rw [if_pos hc]
      rw [e1]
      obtain ⟨hc1, hc2⟩ := hc
      unfold gCk at ih' ⊢
      simp (contextual := true) (disch := first | assumption | exact xin_g _ _ _ | exact xin_ar _ | exact xin_sc _ _ | exact xin_cmp | exact xin_and | exact xin_or | exact xinl_g _ _ _ | omega | exact xin_mk (by omega) (by omega) | exact xinl_mk (by omega) (by omega) | exact xbo_0 | exact xbo_1 | exact xin_sl | exact xin_fa | exact xbo_ad | exact xin_bo xbo_ad | exact xin_mb | exact xin_A | exact xin_op | ((repeat refine gN_q ?_ (by omega) (by omega)); assumption)) only [rF_numberColumns_36, rF_numberColumns_37, rF_numberColumns_40, rF_numberColumns_43, rF_numberColumns_46, rF_numberColumns_47, rF_numberColumns_50, rF_numberColumns_51, rF_numberColumns_52, rF_numberColumns_55, rF_numberColumns_56, rF_numberColumns_59, rF_numberColumns_62, rF_numberColumns_63, rF_numberColumns_64, rF_numberColumns_65, rF_numberColumns_68, rF_numberColumns_69, rF_numberColumns_72, rF_numberColumns_73, rF_numberColumns_74, rF_numberColumns_77, rF_numberColumns_78, rF_numberColumns_79, rF_numberColumns_80, rF_numberColumns_83, rF_numberColumns_84, rF_numberColumns_85, rF_numberColumns_88, rF_numberColumns_91, xg_cell, Option.toList_some, Option.toList_none, List.singleton_append, List.append_nil, List.nil_append, List.cons_append, false_and, if_false, if_true, Int.reduceAdd, Int.reduceSub, Int.reduceMul, Int.reduceNeg, Int.reduceLE, Int.reduceLT, Int.reduceEq, false_implies, true_implies, not_true_eq_false, not_false_eq_true, and_true, true_and, xar_0, xar_1, xar_2, xar_3, xar_4, xar_5, xar_6, xar_7, xar_8, xar_9, xar_10, xar_11, xar_12, hlt, hc1, hc2, ih']
    · have ih' := ih (k + 1) G (by omega) (by omega) hn
      have e1 : gC2 (n + 1) k G = gC2 n (k + 1) G := by
        show gC2 n (k + 1) (if ¬ xg G 26 k = 0 ∧ xg G 10 k = 1 then gCk G k else G) = _
        rw [if_neg hc]
      rw [e1]
      by_cases hc1 : xg G 26 k = 0
      · simp (contextual := true) (disch := first | assumption | exact xin_g _ _ _ | exact xin_ar _ | exact xin_sc _ _ | exact xin_cmp | exact xin_and | exact xin_or | exact xinl_g _ _ _ | omega | exact xin_mk (by omega) (by omega) | exact xinl_mk (by omega) (by omega) | exact xbo_0 | exact xbo_1 | exact xin_sl | exact xin_fa | exact xbo_ad | exact xin_bo xbo_ad | exact xin_mb | exact xin_A | exact xin_op | ((repeat refine gN_q ?_ (by omega) (by omega)); assumption)) only [rF_numberColumns_36, rF_numberColumns_37, rF_numberColumns_40, rF_numberColumns_43, rF_numberColumns_46, rF_numberColumns_47, rF_numberColumns_50, rF_numberColumns_51, rF_numberColumns_52, rF_numberColumns_55, rF_numberColumns_56, rF_numberColumns_59, rF_numberColumns_62, rF_numberColumns_63, rF_numberColumns_64, rF_numberColumns_65, rF_numberColumns_68, rF_numberColumns_69, rF_numberColumns_72, rF_numberColumns_73, rF_numberColumns_74, rF_numberColumns_77, rF_numberColumns_78, rF_numberColumns_79, rF_numberColumns_80, rF_numberColumns_83, rF_numberColumns_84, rF_numberColumns_85, rF_numberColumns_88, rF_numberColumns_91, xg_cell, Option.toList_some, Option.toList_none, List.singleton_append, List.append_nil, List.nil_append, List.cons_append, false_and, if_false, if_true, Int.reduceAdd, Int.reduceSub, Int.reduceMul, Int.reduceNeg, Int.reduceLE, Int.reduceLT, Int.reduceEq, false_implies, true_implies, not_true_eq_false, not_false_eq_true, and_true, true_and, xar_0, xar_1, xar_2, xar_3, xar_4, xar_5, xar_6, xar_7, xar_8, xar_9, xar_10, xar_11, xar_12, hlt, hc1, ih']
      · have hc2 : ¬ xg G 10 k = 1 := fun q => hc ⟨hc1, q⟩
        simp (contextual := true) (disch := first | assumption | exact xin_g _ _ _ | exact xin_ar _ | exact xin_sc _ _ | exact xin_cmp | exact xin_and | exact xin_or | exact xinl_g _ _ _ | omega | exact xin_mk (by omega) (by omega) | exact xinl_mk (by omega) (by omega) | exact xbo_0 | exact xbo_1 | exact xin_sl | exact xin_fa | exact xbo_ad | exact xin_bo xbo_ad | exact xin_mb | exact xin_A | exact xin_op | ((repeat refine gN_q ?_ (by omega) (by omega)); assumption)) only [rF_numberColumns_36, rF_numberColumns_37, rF_numberColumns_40, rF_numberColumns_43, rF_numberColumns_46, rF_numberColumns_47, rF_numberColumns_50, rF_numberColumns_51, rF_numberColumns_52, rF_numberColumns_55, rF_numberColumns_56, rF_numberColumns_59, rF_numberColumns_62, rF_numberColumns_63, rF_numberColumns_64, rF_numberColumns_65, rF_numberColumns_68, rF_numberColumns_69, rF_numberColumns_72, rF_numberColumns_73, rF_numberColumns_74, rF_numberColumns_77, rF_numberColumns_78, rF_numberColumns_79, rF_numberColumns_80, rF_numberColumns_83, rF_numberColumns_84, rF_numberColumns_85, rF_numberColumns_88, rF_numberColumns_91, xg_cell, Option.toList_some, Option.toList_none, List.singleton_append, List.append_nil, List.nil_append, List.cons_append, false_and, if_false, if_true, Int.reduceAdd, Int.reduceSub, Int.reduceMul, Int.reduceNeg, Int.reduceLE, Int.reduceLT, Int.reduceEq, false_implies, true_implies, not_true_eq_false, not_false_eq_true, and_true, true_and, xar_0, xar_1, xar_2, xar_3, xar_4, xar_5, xar_6, xar_7, xar_8, xar_9, xar_10, xar_11, xar_12, hlt, hc1, hc2, ih']
theorem lF_c3 : ∀ (n : Nat) (k : Int) (G : xG), k + n = xg G 9 9 → 0 ≤ k → xg G 9 9 ≤ 36 → (xw sc (d + 1) MF_numberColumns cF_numberColumns_96 [some (.ref 25), some (xI k)] [] (xH G K) Q ↔ Q none (xH (gC3 n k G) K)) := by
  intro n
  induction n with
  | zero =>
    intro k G hk k0 hn
    have e : k = xg G 9 9 := by omega
    subst e
    rw [rF_numberColumns_96]
    simp (contextual := true) (disch := first | assumption | exact xin_g _ _ _ | exact xin_ar _ | exact xin_sc _ _ | exact xin_cmp | exact xin_and | exact xin_or | exact xinl_g _ _ _ | omega | exact xin_mk (by omega) (by omega) | exact xinl_mk (by omega) (by omega) | exact xbo_0 | exact xbo_1 | exact xin_sl | exact xin_fa | exact xbo_ad | exact xin_bo xbo_ad | exact xin_mb | exact xin_A | exact xin_op | ((repeat refine gN_q ?_ (by omega) (by omega)); assumption)) only [rF_numberColumns_97, rF_numberColumns_98, rF_numberColumns_101, rF_numberColumns_104, rF_numberColumns_107, rF_numberColumns_108, rF_numberColumns_109, rF_numberColumns_112, rF_numberColumns_115, rF_numberColumns_116, rF_numberColumns_119, rF_numberColumns_120, rF_numberColumns_121, rF_numberColumns_124, rF_numberColumns_125, rF_numberColumns_126, rF_numberColumns_127, rF_numberColumns_130, rF_numberColumns_131, rF_numberColumns_132, rF_numberColumns_135, rF_numberColumns_138, rF_numberColumns_141, xg_cell, Option.toList_some, Option.toList_none, List.singleton_append, List.append_nil, List.nil_append, List.cons_append, false_and, if_false, if_true, Int.reduceAdd, Int.reduceSub, Int.reduceMul, Int.reduceNeg, Int.reduceLE, Int.reduceLT, Int.reduceEq, false_implies, true_implies, not_true_eq_false, not_false_eq_true, and_true, true_and, xar_0, xar_1, xar_2, xar_3, xar_4, xar_5, xar_6, xar_7, xar_8, xar_9, xar_10, xar_11, xar_12, gC3, Int.le_refl]
  | succ n ih =>
    intro k G hk k0 hn
    have hlt : ¬ xg G 9 9 ≤ k := by omega
    rw [rF_numberColumns_96]
    have ha := fun (Q : Option Value → am_H → Prop) => sF_isAuxiliary (sc := sc) (d := d) (K := K) (Q := Q) (G := G) (k := k) k0 (by omega)
    by_cases hc : gAx G k
    · have ih' := ih (k + 1) (gCk G k) (by rw [gCk_9]; omega) (by omega) (by rw [gCk_9]; exact hn)
      have e1 : gC3 (n + 1) k G = gC3 n (k + 1) (gCk G k) := by
        show gC3 n (k + 1) (if gAx G k then gCk G k else G) = _
        rw [if_pos hc]
      rw [e1]
      simp only [if_pos hc] at ha
      unfold gCk at ih' ⊢
      simp (contextual := true) (disch := first | assumption | exact xin_g _ _ _ | exact xin_ar _ | exact xin_sc _ _ | exact xin_cmp | exact xin_and | exact xin_or | exact xinl_g _ _ _ | omega | exact xin_mk (by omega) (by omega) | exact xinl_mk (by omega) (by omega) | exact xbo_0 | exact xbo_1 | exact xin_sl | exact xin_fa | exact xbo_ad | exact xin_bo xbo_ad | exact xin_mb | exact xin_A | exact xin_op | ((repeat refine gN_q ?_ (by omega) (by omega)); assumption)) only [rF_numberColumns_97, rF_numberColumns_98, rF_numberColumns_101, rF_numberColumns_104, rF_numberColumns_107, rF_numberColumns_108, rF_numberColumns_109, rF_numberColumns_112, rF_numberColumns_115, rF_numberColumns_116, rF_numberColumns_119, rF_numberColumns_120, rF_numberColumns_121, rF_numberColumns_124, rF_numberColumns_125, rF_numberColumns_126, rF_numberColumns_127, rF_numberColumns_130, rF_numberColumns_131, rF_numberColumns_132, rF_numberColumns_135, rF_numberColumns_138, rF_numberColumns_141, ↓ha, xg_cell, Option.toList_some, Option.toList_none, List.singleton_append, List.append_nil, List.nil_append, List.cons_append, false_and, if_false, if_true, Int.reduceAdd, Int.reduceSub, Int.reduceMul, Int.reduceNeg, Int.reduceLE, Int.reduceLT, Int.reduceEq, false_implies, true_implies, not_true_eq_false, not_false_eq_true, and_true, true_and, xar_0, xar_1, xar_2, xar_3, xar_4, xar_5, xar_6, xar_7, xar_8, xar_9, xar_10, xar_11, xar_12, hlt, ih']
    · have ih' := ih (k + 1) G (by omega) (by omega) hn
      have e1 : gC3 (n + 1) k G = gC3 n (k + 1) G := by
        show gC3 n (k + 1) (if gAx G k then gCk G k else G) = _
        rw [if_neg hc]
      rw [e1]
      simp only [if_neg hc] at ha
      simp (contextual := true) (disch := first | assumption | exact xin_g _ _ _ | exact xin_ar _ | exact xin_sc _ _ | exact xin_cmp | exact xin_and | exact xin_or | exact xinl_g _ _ _ | omega | exact xin_mk (by omega) (by omega) | exact xinl_mk (by omega) (by omega) | exact xbo_0 | exact xbo_1 | exact xin_sl | exact xin_fa | exact xbo_ad | exact xin_bo xbo_ad | exact xin_mb | exact xin_A | exact xin_op | ((repeat refine gN_q ?_ (by omega) (by omega)); assumption)) only [rF_numberColumns_97, rF_numberColumns_98, rF_numberColumns_101, rF_numberColumns_104, rF_numberColumns_107, rF_numberColumns_108, rF_numberColumns_109, rF_numberColumns_112, rF_numberColumns_115, rF_numberColumns_116, rF_numberColumns_119, rF_numberColumns_120, rF_numberColumns_121, rF_numberColumns_124, rF_numberColumns_125, rF_numberColumns_126, rF_numberColumns_127, rF_numberColumns_130, rF_numberColumns_131, rF_numberColumns_132, rF_numberColumns_135, rF_numberColumns_138, rF_numberColumns_141, ↓ha, xg_cell, Option.toList_some, Option.toList_none, List.singleton_append, List.append_nil, List.nil_append, List.cons_append, false_and, if_false, if_true, Int.reduceAdd, Int.reduceSub, Int.reduceMul, Int.reduceNeg, Int.reduceLE, Int.reduceLT, Int.reduceEq, false_implies, true_implies, not_true_eq_false, not_false_eq_true, and_true, true_and, xar_0, xar_1, xar_2, xar_3, xar_4, xar_5, xar_6, xar_7, xar_8, xar_9, xar_10, xar_11, xar_12, hlt, ih']
end SP
