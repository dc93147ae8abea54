/-! fits -/
section SP
variable {sc : Nat × (Nat → Int32)} {d : Nat} {Q : Option Value → am_H → Prop} {G : xG} {K : xK} {h : am_H}
theorem xin_m2 : xin (-2) := ⟨by decide, by decide⟩
theorem xinl_0 : xinl 0 := ⟨by decide, by decide⟩
def gQf (G : xG) (K : xK) (r : Int) : Int := if 0 ≤ gRw G K r (-2) ∧ gRw G K (r + 1) (-2) * gRw G K (r + 1) (-2) + gRw G K (r + 2) (-2) * gRw G K (r + 2) (-2) ≤ gRw G K r (-2) * gRw G K r (-2) then 1 else 0
def gQfOk (G : xG) (K : xK) (r : Int) : Prop := gRwOk G r ∧ gRwOk G (r + 1) ∧ gRwOk G (r + 2) ∧ xinl (gRw G K r (-2)) ∧ xinl (gRw G K r (-2) * gRw G K r (-2)) ∧ xinl (gRw G K (r + 1) (-2) * gRw G K (r + 1) (-2) + gRw G K (r + 2) (-2) * gRw G K (r + 2) (-2))
theorem sF_squareFits {r : Int} (hO : gQfOk G K r) : xc sc (d + 4) MF_squareFits [.ref 25, xI r] (xH G K) Q ↔ Q (some (xI (gQf G K r))) (xH G K) := by
  obtain ⟨o1, o2, o3, o4, o5, o6⟩ := hO
  rw [eF_squareFits]
  have a1 := fun (Q : Option Value → am_H → Prop) => sF_rowNumber (sc := sc) (d := d) (K := K) (Q := Q) o1 xin_m2
  have a2 := fun (Q : Option Value → am_H → Prop) => sF_rowNumber (sc := sc) (d := d) (K := K) (Q := Q) o2 xin_m2
  have a3 := fun (Q : Option Value → am_H → Prop) => sF_rowNumber (sc := sc) (d := d) (K := K) (Q := Q) o3 xin_m2
  have z := xinl_0
  unfold gQf
  generalize gRw G K r (-2) = f at a1 o4 o5
  generalize gRw G K (r + 1) (-2) = g at a2 o6
  generalize gRw G K (r + 2) (-2) = q at a3 o6
  simp (contextual := true) (disch := first | assumption | exact xin_g _ _ _ | exact xin_ar _ | exact xin_sc _ _ | exact xin_cmp | exact xin_and | exact xin_or | exact xinl_g _ _ _ | omega | exact xin_mk (by omega) (by omega) | exact xinl_mk (by omega) (by omega) | exact xbo_0 | exact xbo_1 | exact xin_sl | exact xin_fa | exact xbo_ad | exact xin_bo xbo_ad | exact xin_mb | exact xin_A | exact xin_op | ((repeat refine gN_q ?_ (by omega) (by omega)); assumption)) only [rF_squareFits_0, rF_squareFits_1, rF_squareFits_2, rF_squareFits_4, rF_squareFits_7, rF_squareFits_8, rF_squareFits_9, rF_squareFits_10, rF_squareFits_11, rF_squareFits_12, rF_squareFits_14, rF_squareFits_17, rF_squareFits_19, rF_squareFits_20, rF_squareFits_21, rF_squareFits_22, rF_squareFits_23, rF_squareFits_25, rF_squareFits_28, rF_squareFits_30, rF_squareFits_31, rF_squareFits_32, rF_squareFits_33, rF_squareFits_36, rF_squareFits_37, rF_squareFits_38, rF_squareFits_39, rF_squareFits_41, rF_squareFits_43, rF_squareFits_44, rF_squareFits_46, rF_squareFits_48, rF_squareFits_49, rF_squareFits_50, rF_squareFits_51, rF_squareFits_54, rF_squareFits_55, rF_squareFits_58, rF_squareFits_59, ↓a1, ↓a2, ↓a3, xg_cell, Option.toList_some, Option.toList_none, List.singleton_append, List.append_nil, List.nil_append, List.cons_append, xcmp_lt]
  grind
def gW1 (G : xG) (K : xK) : Nat → Int → Int → Int
  | 0, _, f => f
  | n + 1, r, f => gW1 G K n (r + 1) (if ¬ f = 0 ∧ gRw G K r (-2) = 0 then 1 else 0)
def gW2 (G : xG) (K : xK) : Nat → Int → Int → Int
  | 0, _, f => f
  | n + 1, r, f => gW2 G K n (r + 1) (if ¬ f = 0 ∧ 0 ≤ gRw G K r (-2) then 1 else 0)
def gW3 (G : xG) (K : xK) : Nat → Int → Int → Int
  | 0, _, f => f
  | n + 1, r, f => gW3 G K n (r + 3) (if ¬ f = 0 ∧ ¬ gQf G K r = 0 then 1 else 0)
theorem gW1_b : ∀ (n : Nat) (r f : Int), xbo f → xbo (gW1 G K n r f)
  | 0, r, f, h => h
  | n + 1, r, f, h => gW1_b n (r + 1) _ (by split; exact Or.inr rfl; exact Or.inl rfl)
theorem gW2_b : ∀ (n : Nat) (r f : Int), xbo f → xbo (gW2 G K n r f)
  | 0, r, f, h => h
  | n + 1, r, f, h => gW2_b n (r + 1) _ (by split; exact Or.inr rfl; exact Or.inl rfl)
theorem gW3_b : ∀ (n : Nat) (r f : Int), xbo f → xbo (gW3 G K n r f)
  | 0, r, f, h => h
  | n + 1, r, f, h => gW3_b n (r + 3) _ (by split; exact Or.inr rfl; exact Or.inl rfl)
theorem lF_w1 {b s : Int} (hb : b ≤ 114) (hR : ∀ r, 0 ≤ r → r < b → gRwOk G r ∧ xinl (gRw G K r (-2))) : ∀ (n : Nat) (r f : Int), r + n = b → 0 ≤ r → xbo f → (xw sc (d + 4) MF_allRowsFit cF_allRowsFit_27 [some (.ref 25), some (xI b), some (xI s), some (xI f), some (xI r)] [] (xH G K) Q ↔ xw sc (d + 4) MF_allRowsFit cF_allRowsFit_62 [some (.ref 25), some (xI b), some (xI s), some (xI (gW1 G K n r f)), some (xI b)] [] (xH G K) Q) := by
  intro n
  induction n with
  | zero =>
    intro r f hk r0 hf
    have e : r = b := by omega
    subst e
    rw [rF_allRowsFit_27]
    simp (contextual := true) (disch := first | assumption | exact xin_g _ _ _ | exact xin_ar _ | exact xin_sc _ _ | exact xin_cmp | exact xin_and | exact xin_or | exact xinl_g _ _ _ | omega | exact xin_mk (by omega) (by omega) | exact xinl_mk (by omega) (by omega) | exact xbo_0 | exact xbo_1 | exact xin_sl | exact xin_fa | exact xbo_ad | exact xin_bo xbo_ad | exact xin_mb | exact xin_A | exact xin_op | ((repeat refine gN_q ?_ (by omega) (by omega)); assumption)) only [rF_allRowsFit_29, rF_allRowsFit_30, rF_allRowsFit_33, rF_allRowsFit_34, rF_allRowsFit_37, rF_allRowsFit_38, rF_allRowsFit_40, rF_allRowsFit_42, rF_allRowsFit_45, rF_allRowsFit_46, rF_allRowsFit_47, rF_allRowsFit_50, rF_allRowsFit_51, rF_allRowsFit_54, rF_allRowsFit_55, rF_allRowsFit_56, rF_allRowsFit_59, xg_cell, Option.toList_some, Option.toList_none, List.singleton_append, List.append_nil, List.nil_append, List.cons_append, false_and, if_false, if_true, Int.reduceAdd, Int.reduceSub, Int.reduceMul, Int.reduceNeg, Int.reduceLE, Int.reduceLT, Int.reduceEq, false_implies, true_implies, not_true_eq_false, not_false_eq_true, and_true, true_and, xar_0, xar_1, xar_2, xar_3, xar_4, xar_5, xar_6, xar_7, xar_8, xar_9, xar_10, xar_11, xar_12, gW1, Int.le_refl]
  | succ n ih =>
    intro r f hk r0 hf
    have hlt : ¬ b ≤ r := by omega
    obtain ⟨o1, o2⟩ := hR r r0 (by omega)
    have a1 := fun (Q : Option Value → am_H → Prop) => sF_rowNumber (sc := sc) (d := d) (K := K) (Q := Q) o1 xin_m2
    have z := xinl_0
    have ih0 := ih (r + 1) 0 (by omega) (by omega) (Or.inl rfl)
    have ih1 := ih (r + 1) 1 (by omega) (by omega) (Or.inr rfl)
    have e1 : gW1 G K (n + 1) r f = gW1 G K n (r + 1) (if ¬ f = 0 ∧ gRw G K r (-2) = 0 then 1 else 0) := rfl
    rw [rF_allRowsFit_27, e1]
    generalize gRw G K r (-2) = x at a1 o2
    rcases hf with rfl | rfl
    · rw [if_neg (fun q => q.1 rfl)]
      simp (contextual := true) (disch := first | assumption | exact xin_g _ _ _ | exact xin_ar _ | exact xin_sc _ _ | exact xin_cmp | exact xin_and | exact xin_or | exact xinl_g _ _ _ | omega | exact xin_mk (by omega) (by omega) | exact xinl_mk (by omega) (by omega) | exact xbo_0 | exact xbo_1 | exact xin_sl | exact xin_fa | exact xbo_ad | exact xin_bo xbo_ad | exact xin_mb | exact xin_A | exact xin_op | ((repeat refine gN_q ?_ (by omega) (by omega)); assumption)) only [rF_allRowsFit_29, rF_allRowsFit_30, rF_allRowsFit_33, rF_allRowsFit_34, rF_allRowsFit_37, rF_allRowsFit_38, rF_allRowsFit_40, rF_allRowsFit_42, rF_allRowsFit_45, rF_allRowsFit_46, rF_allRowsFit_47, rF_allRowsFit_50, rF_allRowsFit_51, rF_allRowsFit_54, rF_allRowsFit_55, rF_allRowsFit_56, rF_allRowsFit_59, ↓a1, xg_cell, Option.toList_some, Option.toList_none, List.singleton_append, List.append_nil, List.nil_append, List.cons_append, false_and, if_false, if_true, Int.reduceAdd, Int.reduceSub, Int.reduceMul, Int.reduceNeg, Int.reduceLE, Int.reduceLT, Int.reduceEq, false_implies, true_implies, not_true_eq_false, not_false_eq_true, and_true, true_and, xar_0, xar_1, xar_2, xar_3, xar_4, xar_5, xar_6, xar_7, xar_8, xar_9, xar_10, xar_11, xar_12, hlt, ih0]
    · by_cases hx : x = 0
      · rw [if_pos ⟨by decide, hx⟩]
        subst hx
        simp (contextual := true) (disch := first | assumption | exact xin_g _ _ _ | exact xin_ar _ | exact xin_sc _ _ | exact xin_cmp | exact xin_and | exact xin_or | exact xinl_g _ _ _ | omega | exact xin_mk (by omega) (by omega) | exact xinl_mk (by omega) (by omega) | exact xbo_0 | exact xbo_1 | exact xin_sl | exact xin_fa | exact xbo_ad | exact xin_bo xbo_ad | exact xin_mb | exact xin_A | exact xin_op | ((repeat refine gN_q ?_ (by omega) (by omega)); assumption)) only [rF_allRowsFit_29, rF_allRowsFit_30, rF_allRowsFit_33, rF_allRowsFit_34, rF_allRowsFit_37, rF_allRowsFit_38, rF_allRowsFit_40, rF_allRowsFit_42, rF_allRowsFit_45, rF_allRowsFit_46, rF_allRowsFit_47, rF_allRowsFit_50, rF_allRowsFit_51, rF_allRowsFit_54, rF_allRowsFit_55, rF_allRowsFit_56, rF_allRowsFit_59, ↓a1, xg_cell, Option.toList_some, Option.toList_none, List.singleton_append, List.append_nil, List.nil_append, List.cons_append, false_and, if_false, if_true, Int.reduceAdd, Int.reduceSub, Int.reduceMul, Int.reduceNeg, Int.reduceLE, Int.reduceLT, Int.reduceEq, false_implies, true_implies, not_true_eq_false, not_false_eq_true, and_true, true_and, xar_0, xar_1, xar_2, xar_3, xar_4, xar_5, xar_6, xar_7, xar_8, xar_9, xar_10, xar_11, xar_12, hlt, ih1, xcmp_eq]
      · rw [if_neg (fun q => hx q.2)]
        simp (contextual := true) (disch := first | assumption | exact xin_g _ _ _ | exact xin_ar _ | exact xin_sc _ _ | exact xin_cmp | exact xin_and | exact xin_or | exact xinl_g _ _ _ | omega | exact xin_mk (by omega) (by omega) | exact xinl_mk (by omega) (by omega) | exact xbo_0 | exact xbo_1 | exact xin_sl | exact xin_fa | exact xbo_ad | exact xin_bo xbo_ad | exact xin_mb | exact xin_A | exact xin_op | ((repeat refine gN_q ?_ (by omega) (by omega)); assumption)) only [rF_allRowsFit_29, rF_allRowsFit_30, rF_allRowsFit_33, rF_allRowsFit_34, rF_allRowsFit_37, rF_allRowsFit_38, rF_allRowsFit_40, rF_allRowsFit_42, rF_allRowsFit_45, rF_allRowsFit_46, rF_allRowsFit_47, rF_allRowsFit_50, rF_allRowsFit_51, rF_allRowsFit_54, rF_allRowsFit_55, rF_allRowsFit_56, rF_allRowsFit_59, ↓a1, xg_cell, Option.toList_some, Option.toList_none, List.singleton_append, List.append_nil, List.nil_append, List.cons_append, false_and, if_false, if_true, Int.reduceAdd, Int.reduceSub, Int.reduceMul, Int.reduceNeg, Int.reduceLE, Int.reduceLT, Int.reduceEq, false_implies, true_implies, not_true_eq_false, not_false_eq_true, and_true, true_and, xar_0, xar_1, xar_2, xar_3, xar_4, xar_5, xar_6, xar_7, xar_8, xar_9, xar_10, xar_11, xar_12, hlt, ih0, xcmp_eq, hx]
theorem lF_w2 {s : Int} (hs : s ≤ 114) (hR : ∀ r, 0 ≤ r → r < s → gRwOk G r ∧ xinl (gRw G K r (-2))) : ∀ (n : Nat) (r f : Int) (u1 : Option Value), r + n = s → 0 ≤ r → xbo f → (xw sc (d + 4) MF_allRowsFit cF_allRowsFit_65 [some (.ref 25), u1, some (xI s), some (xI f), some (xI r)] [] (xH G K) Q ↔ xw sc (d + 4) MF_allRowsFit cF_allRowsFit_100 [some (.ref 25), none, some (xI s), some (xI (gW2 G K n r f)), some (xI s)] [] (xH G K) Q) := by
  intro n
  induction n with
  | zero =>
    intro r f u1 hk r0 hf
    have e : r = s := by omega
    subst e
    rw [rF_allRowsFit_65]
    simp (contextual := true) (disch := first | assumption | exact xin_g _ _ _ | exact xin_ar _ | exact xin_sc _ _ | exact xin_cmp | exact xin_and | exact xin_or | exact xinl_g _ _ _ | omega | exact xin_mk (by omega) (by omega) | exact xinl_mk (by omega) (by omega) | exact xbo_0 | exact xbo_1 | exact xin_sl | exact xin_fa | exact xbo_ad | exact xin_bo xbo_ad | exact xin_mb | exact xin_A | exact xin_op | ((repeat refine gN_q ?_ (by omega) (by omega)); assumption)) only [rF_allRowsFit_67, rF_allRowsFit_68, rF_allRowsFit_71, rF_allRowsFit_72, rF_allRowsFit_75, rF_allRowsFit_76, rF_allRowsFit_78, rF_allRowsFit_80, rF_allRowsFit_83, rF_allRowsFit_84, rF_allRowsFit_85, rF_allRowsFit_88, rF_allRowsFit_89, rF_allRowsFit_92, rF_allRowsFit_93, rF_allRowsFit_94, rF_allRowsFit_97, xg_cell, Option.toList_some, Option.toList_none, List.singleton_append, List.append_nil, List.nil_append, List.cons_append, false_and, if_false, if_true, Int.reduceAdd, Int.reduceSub, Int.reduceMul, Int.reduceNeg, Int.reduceLE, Int.reduceLT, Int.reduceEq, false_implies, true_implies, not_true_eq_false, not_false_eq_true, and_true, true_and, xar_0, xar_1, xar_2, xar_3, xar_4, xar_5, xar_6, xar_7, xar_8, xar_9, xar_10, xar_11, xar_12, gW2, Int.le_refl]
  | succ n ih =>
    intro r f u1 hk r0 hf
    have hlt : ¬ s ≤ r := by omega
    obtain ⟨o1, o2⟩ := hR r r0 (by omega)
    have a1 := fun (Q : Option Value → am_H → Prop) => sF_rowNumber (sc := sc) (d := d) (K := K) (Q := Q) o1 xin_m2
    have z := xinl_0
    have ih0 := ih (r + 1) 0 none (by omega) (by omega) (Or.inl rfl)
    have ih1 := ih (r + 1) 1 none (by omega) (by omega) (Or.inr rfl)
    have e1 : gW2 G K (n + 1) r f = gW2 G K n (r + 1) (if ¬ f = 0 ∧ 0 ≤ gRw G K r (-2) then 1 else 0) := rfl
    rw [rF_allRowsFit_65, e1]
    generalize gRw G K r (-2) = x at a1 o2
    rcases hf with rfl | rfl
    · rw [if_neg (fun q => q.1 rfl)]
      simp (contextual := true) (disch := first | assumption | exact xin_g _ _ _ | exact xin_ar _ | exact xin_sc _ _ | exact xin_cmp | exact xin_and | exact xin_or | exact xinl_g _ _ _ | omega | exact xin_mk (by omega) (by omega) | exact xinl_mk (by omega) (by omega) | exact xbo_0 | exact xbo_1 | exact xin_sl | exact xin_fa | exact xbo_ad | exact xin_bo xbo_ad | exact xin_mb | exact xin_A | exact xin_op | ((repeat refine gN_q ?_ (by omega) (by omega)); assumption)) only [rF_allRowsFit_67, rF_allRowsFit_68, rF_allRowsFit_71, rF_allRowsFit_72, rF_allRowsFit_75, rF_allRowsFit_76, rF_allRowsFit_78, rF_allRowsFit_80, rF_allRowsFit_83, rF_allRowsFit_84, rF_allRowsFit_85, rF_allRowsFit_88, rF_allRowsFit_89, rF_allRowsFit_92, rF_allRowsFit_93, rF_allRowsFit_94, rF_allRowsFit_97, ↓a1, xg_cell, Option.toList_some, Option.toList_none, List.singleton_append, List.append_nil, List.nil_append, List.cons_append, false_and, if_false, if_true, Int.reduceAdd, Int.reduceSub, Int.reduceMul, Int.reduceNeg, Int.reduceLE, Int.reduceLT, Int.reduceEq, false_implies, true_implies, not_true_eq_false, not_false_eq_true, and_true, true_and, xar_0, xar_1, xar_2, xar_3, xar_4, xar_5, xar_6, xar_7, xar_8, xar_9, xar_10, xar_11, xar_12, hlt, ih0]
    · by_cases hx : 0 ≤ x
      · rw [if_pos ⟨by decide, hx⟩]
        have hx' : ¬ x < 0 := by omega
        simp (contextual := true) (disch := first | assumption | exact xin_g _ _ _ | exact xin_ar _ | exact xin_sc _ _ | exact xin_cmp | exact xin_and | exact xin_or | exact xinl_g _ _ _ | omega | exact xin_mk (by omega) (by omega) | exact xinl_mk (by omega) (by omega) | exact xbo_0 | exact xbo_1 | exact xin_sl | exact xin_fa | exact xbo_ad | exact xin_bo xbo_ad | exact xin_mb | exact xin_A | exact xin_op | ((repeat refine gN_q ?_ (by omega) (by omega)); assumption)) only [rF_allRowsFit_67, rF_allRowsFit_68, rF_allRowsFit_71, rF_allRowsFit_72, rF_allRowsFit_75, rF_allRowsFit_76, rF_allRowsFit_78, rF_allRowsFit_80, rF_allRowsFit_83, rF_allRowsFit_84, rF_allRowsFit_85, rF_allRowsFit_88, rF_allRowsFit_89, rF_allRowsFit_92, rF_allRowsFit_93, rF_allRowsFit_94, rF_allRowsFit_97, ↓a1, xg_cell, Option.toList_some, Option.toList_none, List.singleton_append, List.append_nil, List.nil_append, List.cons_append, false_and, if_false, if_true, Int.reduceAdd, Int.reduceSub, Int.reduceMul, Int.reduceNeg, Int.reduceLE, Int.reduceLT, Int.reduceEq, false_implies, true_implies, not_true_eq_false, not_false_eq_true, and_true, true_and, xar_0, xar_1, xar_2, xar_3, xar_4, xar_5, xar_6, xar_7, xar_8, xar_9, xar_10, xar_11, xar_12, hlt, ih1, xcmp_lt, hx']
      · rw [if_neg (fun q => hx q.2)]
        have hx' : x < 0 := by omega
        simp (contextual := true) (disch := first | assumption | exact xin_g _ _ _ | exact xin_ar _ | exact xin_sc _ _ | exact xin_cmp | exact xin_and | exact xin_or | exact xinl_g _ _ _ | omega | exact xin_mk (by omega) (by omega) | exact xinl_mk (by omega) (by omega) | exact xbo_0 | exact xbo_1 | exact xin_sl | exact xin_fa | exact xbo_ad | exact xin_bo xbo_ad | exact xin_mb | exact xin_A | exact xin_op | ((repeat refine gN_q ?_ (by omega) (by omega)); assumption)) only [rF_allRowsFit_67, rF_allRowsFit_68, rF_allRowsFit_71, rF_allRowsFit_72, rF_allRowsFit_75, rF_allRowsFit_76, rF_allRowsFit_78, rF_allRowsFit_80, rF_allRowsFit_83, rF_allRowsFit_84, rF_allRowsFit_85, rF_allRowsFit_88, rF_allRowsFit_89, rF_allRowsFit_92, rF_allRowsFit_93, rF_allRowsFit_94, rF_allRowsFit_97, ↓a1, xg_cell, Option.toList_some, Option.toList_none, List.singleton_append, List.append_nil, List.nil_append, List.cons_append, false_and, if_false, if_true, Int.reduceAdd, Int.reduceSub, Int.reduceMul, Int.reduceNeg, Int.reduceLE, Int.reduceLT, Int.reduceEq, false_implies, true_implies, not_true_eq_false, not_false_eq_true, and_true, true_and, xar_0, xar_1, xar_2, xar_3, xar_4, xar_5, xar_6, xar_7, xar_8, xar_9, xar_10, xar_11, xar_12, hlt, ih0, xcmp_lt, hx']
theorem lF_w3 (hb : xg G 25 9 ≤ 114) : ∀ (n : Nat) (r f : Int) (u2 : Option Value), (∀ i : Int, 0 ≤ i → i < n → gQfOk G K (r + 3 * i)) → r + 3 * n = xg G 25 9 → 0 ≤ r → xbo f → (xw sc (d + 5) MF_allRowsFit cF_allRowsFit_103 [some (.ref 25), none, u2, some (xI f), some (xI r)] [] (xH G K) Q ↔ Q (some (xI (gW3 G K n r f))) (xH G K)) := by
  intro n
  induction n with
  | zero =>
    intro r f u2 hO hk r0 hf
    have hge : xg G 25 9 ≤ r := by omega
    rw [rF_allRowsFit_103]
    simp (contextual := true) (disch := first | assumption | exact xin_g _ _ _ | exact xin_ar _ | exact xin_sc _ _ | exact xin_cmp | exact xin_and | exact xin_or | exact xinl_g _ _ _ | omega | exact xin_mk (by omega) (by omega) | exact xinl_mk (by omega) (by omega) | exact xbo_0 | exact xbo_1 | exact xin_sl | exact xin_fa | exact xbo_ad | exact xin_bo xbo_ad | exact xin_mb | exact xin_A | exact xin_op | ((repeat refine gN_q ?_ (by omega) (by omega)); assumption)) only [rF_allRowsFit_105, rF_allRowsFit_106, rF_allRowsFit_109, rF_allRowsFit_112, rF_allRowsFit_113, rF_allRowsFit_116, rF_allRowsFit_117, rF_allRowsFit_119, rF_allRowsFit_122, rF_allRowsFit_125, rF_allRowsFit_126, rF_allRowsFit_129, rF_allRowsFit_130, rF_allRowsFit_131, rF_allRowsFit_134, rF_allRowsFit_137, rF_allRowsFit_138, xg_cell, Option.toList_some, Option.toList_none, List.singleton_append, List.append_nil, List.nil_append, List.cons_append, false_and, if_false, if_true, Int.reduceAdd, Int.reduceSub, Int.reduceMul, Int.reduceNeg, Int.reduceLE, Int.reduceLT, Int.reduceEq, false_implies, true_implies, not_true_eq_false, not_false_eq_true, and_true, true_and, xar_0, xar_1, xar_2, xar_3, xar_4, xar_5, xar_6, xar_7, xar_8, xar_9, xar_10, xar_11, xar_12, gW3, hge]
  | succ n ih =>
    intro r f u2 hO hk r0 hf
    have hlt : ¬ xg G 25 9 ≤ r := by omega
    have o1 : gQfOk G K r := by
      have := hO 0 (by decide) (by omega)
      rwa [show r + 3 * 0 = r by omega] at this
    have hO' : ∀ i : Int, 0 ≤ i → i < n → gQfOk G K (r + 3 + 3 * i) := fun i i0 i1 => by
      have := hO (i + 1) (by omega) (by omega)
      rwa [show r + 3 * (i + 1) = r + 3 + 3 * i by omega] at this
    have a1 := fun (Q : Option Value → am_H → Prop) => sF_squareFits (sc := sc) (d := d) (K := K) (Q := Q) o1
    have ih0 := ih (r + 3) 0 none hO' (by omega) (by omega) (Or.inl rfl)
    have ih1 := ih (r + 3) 1 none hO' (by omega) (by omega) (Or.inr rfl)
    have e1 : gW3 G K (n + 1) r f = gW3 G K n (r + 3) (if ¬ f = 0 ∧ ¬ gQf G K r = 0 then 1 else 0) := rfl
    have hq : xin (gQf G K r) := by
      unfold gQf
      split <;> exact ⟨by decide, by decide⟩
    rw [rF_allRowsFit_103, e1]
    generalize gQf G K r = x at a1 hq
    rcases hf with rfl | rfl
    · rw [if_neg (fun q => q.1 rfl)]
      simp (contextual := true) (disch := first | assumption | exact xin_g _ _ _ | exact xin_ar _ | exact xin_sc _ _ | exact xin_cmp | exact xin_and | exact xin_or | exact xinl_g _ _ _ | omega | exact xin_mk (by omega) (by omega) | exact xinl_mk (by omega) (by omega) | exact xbo_0 | exact xbo_1 | exact xin_sl | exact xin_fa | exact xbo_ad | exact xin_bo xbo_ad | exact xin_mb | exact xin_A | exact xin_op | ((repeat refine gN_q ?_ (by omega) (by omega)); assumption)) only [rF_allRowsFit_105, rF_allRowsFit_106, rF_allRowsFit_109, rF_allRowsFit_112, rF_allRowsFit_113, rF_allRowsFit_116, rF_allRowsFit_117, rF_allRowsFit_119, rF_allRowsFit_122, rF_allRowsFit_125, rF_allRowsFit_126, rF_allRowsFit_129, rF_allRowsFit_130, rF_allRowsFit_131, rF_allRowsFit_134, rF_allRowsFit_137, rF_allRowsFit_138, ↓a1, xg_cell, Option.toList_some, Option.toList_none, List.singleton_append, List.append_nil, List.nil_append, List.cons_append, false_and, if_false, if_true, Int.reduceAdd, Int.reduceSub, Int.reduceMul, Int.reduceNeg, Int.reduceLE, Int.reduceLT, Int.reduceEq, false_implies, true_implies, not_true_eq_false, not_false_eq_true, and_true, true_and, xar_0, xar_1, xar_2, xar_3, xar_4, xar_5, xar_6, xar_7, xar_8, xar_9, xar_10, xar_11, xar_12, hlt, ih0]
    · by_cases hx : x = 0
      · rw [if_neg (fun q => q.2 hx)]
        subst hx
        simp (contextual := true) (disch := first | assumption | exact xin_g _ _ _ | exact xin_ar _ | exact xin_sc _ _ | exact xin_cmp | exact xin_and | exact xin_or | exact xinl_g _ _ _ | omega | exact xin_mk (by omega) (by omega) | exact xinl_mk (by omega) (by omega) | exact xbo_0 | exact xbo_1 | exact xin_sl | exact xin_fa | exact xbo_ad | exact xin_bo xbo_ad | exact xin_mb | exact xin_A | exact xin_op | ((repeat refine gN_q ?_ (by omega) (by omega)); assumption)) only [rF_allRowsFit_105, rF_allRowsFit_106, rF_allRowsFit_109, rF_allRowsFit_112, rF_allRowsFit_113, rF_allRowsFit_116, rF_allRowsFit_117, rF_allRowsFit_119, rF_allRowsFit_122, rF_allRowsFit_125, rF_allRowsFit_126, rF_allRowsFit_129, rF_allRowsFit_130, rF_allRowsFit_131, rF_allRowsFit_134, rF_allRowsFit_137, rF_allRowsFit_138, ↓a1, xg_cell, Option.toList_some, Option.toList_none, List.singleton_append, List.append_nil, List.nil_append, List.cons_append, false_and, if_false, if_true, Int.reduceAdd, Int.reduceSub, Int.reduceMul, Int.reduceNeg, Int.reduceLE, Int.reduceLT, Int.reduceEq, false_implies, true_implies, not_true_eq_false, not_false_eq_true, and_true, true_and, xar_0, xar_1, xar_2, xar_3, xar_4, xar_5, xar_6, xar_7, xar_8, xar_9, xar_10, xar_11, xar_12, hlt, ih0]
      · rw [if_pos ⟨by decide, hx⟩]
        simp (contextual := true) (disch := first | assumption | exact xin_g _ _ _ | exact xin_ar _ | exact xin_sc _ _ | exact xin_cmp | exact xin_and | exact xin_or | exact xinl_g _ _ _ | omega | exact xin_mk (by omega) (by omega) | exact xinl_mk (by omega) (by omega) | exact xbo_0 | exact xbo_1 | exact xin_sl | exact xin_fa | exact xbo_ad | exact xin_bo xbo_ad | exact xin_mb | exact xin_A | exact xin_op | ((repeat refine gN_q ?_ (by omega) (by omega)); assumption)) only [rF_allRowsFit_105, rF_allRowsFit_106, rF_allRowsFit_109, rF_allRowsFit_112, rF_allRowsFit_113, rF_allRowsFit_116, rF_allRowsFit_117, rF_allRowsFit_119, rF_allRowsFit_122, rF_allRowsFit_125, rF_allRowsFit_126, rF_allRowsFit_129, rF_allRowsFit_130, rF_allRowsFit_131, rF_allRowsFit_134, rF_allRowsFit_137, rF_allRowsFit_138, ↓a1, xg_cell, Option.toList_some, Option.toList_none, List.singleton_append, List.append_nil, List.nil_append, List.cons_append, false_and, if_false, if_true, Int.reduceAdd, Int.reduceSub, Int.reduceMul, Int.reduceNeg, Int.reduceLE, Int.reduceLT, Int.reduceEq, false_implies, true_implies, not_true_eq_false, not_false_eq_true, and_true, true_and, xar_0, xar_1, xar_2, xar_3, xar_4, xar_5, xar_6, xar_7, xar_8, xar_9, xar_10, xar_11, xar_12, hlt, ih1, hx]
def gFit (G : xG) (K : xK) : Int := gW3 G K ((xg G 25 9 - (xg G 29 0 + xg G 29 1)).toNat / 3) (xg G 29 0 + xg G 29 1) (gW2 G K (xg G 29 1).toNat (xg G 29 0) (gW1 G K (xg G 29 0).toNat 0 1))
def gFitOk (G : xG) (K : xK) : Prop := 0 ≤ xg G 29 0 ∧ 0 ≤ xg G 29 1 ∧ xg G 29 0 + xg G 29 1 ≤ xg G 25 9 ∧ xg G 25 9 ≤ 114 ∧ (xg G 25 9 - (xg G 29 0 + xg G 29 1)) % 3 = 0 ∧ (∀ r, 0 ≤ r → r < xg G 29 0 + xg G 29 1 → gRwOk G r ∧ xinl (gRw G K r (-2))) ∧ ∀ i : Int, 0 ≤ i → i < ((xg G 25 9 - (xg G 29 0 + xg G 29 1)).toNat / 3 : Nat) → gQfOk G K (xg G 29 0 + xg G 29 1 + 3 * i)
theorem sC_fits (hO : gNs G) (hF : ¬ xg G 25 11 = 0 → gFitOk G (gXK G (-2) K)) : xc sc (d + 6) MC_fits [.ref 2] (xH G K) Q ↔ (if ¬ xg G 25 11 = 0 then Q (some (xI (gFit G (gXK G (-2) K)))) (xH G (gXK G (-2) K)) else Q (some (xI 0)) (xH G K)) := by
  rw [eC_fits]
  by_cases h1 : xg G 25 11 = 0
  · simp (contextual := true) (disch := first | assumption | exact xin_g _ _ _ | exact xin_ar _ | exact xin_sc _ _ | exact xin_cmp | exact xin_and | exact xin_or | exact xinl_g _ _ _ | omega | exact xin_mk (by omega) (by omega) | exact xinl_mk (by omega) (by omega) | exact xbo_0 | exact xbo_1 | exact xin_sl | exact xin_fa | exact xbo_ad | exact xin_bo xbo_ad | exact xin_mb | exact xin_A | exact xin_op | ((repeat refine gN_q ?_ (by omega) (by omega)); assumption)) only [rC_fits_0, rC_fits_1, rC_fits_4, rC_fits_7, rC_fits_10, rC_fits_11, rC_fits_14, rC_fits_17, rC_fits_20, rC_fits_21, rC_fits_24, rC_fits_25, xg_cell, Option.toList_some, Option.toList_none, List.singleton_append, List.append_nil, List.nil_append, List.cons_append, false_and, if_false, if_true, Int.reduceAdd, Int.reduceSub, Int.reduceMul, Int.reduceNeg, Int.reduceLE, Int.reduceLT, Int.reduceEq, false_implies, true_implies, not_true_eq_false, not_false_eq_true, and_true, true_and, xar_0, xar_1, xar_2, xar_3, xar_4, xar_5, xar_6, xar_7, xar_8, xar_9, xar_10, xar_11, xar_12, h1]
  · obtain ⟨f1, f2, f3, f4, f5, f6, f7⟩ := hF h1
    have a1 := fun (Q : Option Value → am_H → Prop) => sF_expand (sc := sc) (d := d + 2) (K := K) (Q := Q) (asp := -2) xin_m2 hO
    generalize gXK G (-2) K = K1 at a1 f6 f7
    have b1 : xbo (gW1 G K1 (xg G 29 0).toNat 0 1) := gW1_b _ _ _ (Or.inr rfl)
    have b2 : xbo (gW2 G K1 (xg G 29 1).toNat (xg G 29 0) (gW1 G K1 (xg G 29 0).toNat 0 1)) := gW2_b _ _ _ b1
    have b3 : xbo (gFit G K1) := gW3_b _ _ _ b2
    have a3 : ∀ Q : Option Value → am_H → Prop, xc sc (d + 5) MF_allRowsFit [.ref 25] (xH G K) Q ↔ Q (some (xI (gFit G K1))) (xH G K1) := by
      intro Q
      rw [eF_allRowsFit]
      have w1 := lF_w1 (sc := sc) (d := d + 1) (K := K1) (Q := Q) (s := xg G 29 0 + xg G 29 1) (b := xg G 29 0) (by omega) (fun r r0 r1 => f6 r r0 (by omega)) (xg G 29 0).toNat 0 1 (by omega) (by decide) (Or.inr rfl)
      have w2 := fun u1 => lF_w2 (sc := sc) (d := d + 1) (K := K1) (Q := Q) (s := xg G 29 0 + xg G 29 1) (by omega) f6 (xg G 29 1).toNat (xg G 29 0) (gW1 G K1 (xg G 29 0).toNat 0 1) u1 (by omega) f1 b1
      have w3 := fun u2 => lF_w3 (sc := sc) (d := d) (K := K1) (Q := Q) f4 ((xg G 25 9 - (xg G 29 0 + xg G 29 1)).toNat / 3) (xg G 29 0 + xg G 29 1) (gW2 G K1 (xg G 29 1).toNat (xg G 29 0) (gW1 G K1 (xg G 29 0).toNat 0 1)) u2 f7 (by omega) (by omega) b2
      unfold gFit
      generalize gW2 G K1 (xg G 29 1).toNat (xg G 29 0) (gW1 G K1 (xg G 29 0).toNat 0 1) = y2 at w2 w3
      generalize gW1 G K1 (xg G 29 0).toNat 0 1 = y1 at w1 w2
      simp (contextual := true) (disch := first | assumption | exact xin_g _ _ _ | exact xin_ar _ | exact xin_sc _ _ | exact xin_cmp | exact xin_and | exact xin_or | exact xinl_g _ _ _ | omega | exact xin_mk (by omega) (by omega) | exact xinl_mk (by omega) (by omega) | exact xbo_0 | exact xbo_1 | exact xin_sl | exact xin_fa | exact xbo_ad | exact xin_bo xbo_ad | exact xin_mb | exact xin_A | exact xin_op | ((repeat refine gN_q ?_ (by omega) (by omega)); assumption)) only [rF_allRowsFit_0, rF_allRowsFit_1, rF_allRowsFit_3, rF_allRowsFit_6, rF_allRowsFit_7, rF_allRowsFit_10, rF_allRowsFit_11, rF_allRowsFit_12, rF_allRowsFit_13, rF_allRowsFit_14, rF_allRowsFit_15, rF_allRowsFit_18, rF_allRowsFit_19, rF_allRowsFit_20, rF_allRowsFit_21, rF_allRowsFit_22, rF_allRowsFit_23, rF_allRowsFit_24, rF_allRowsFit_25, ↓a1, xg_cell, Option.toList_some, Option.toList_none, List.singleton_append, List.append_nil, List.nil_append, List.cons_append, w1]
      simp (contextual := true) (disch := first | assumption | exact xin_g _ _ _ | exact xin_ar _ | exact xin_sc _ _ | exact xin_cmp | exact xin_and | exact xin_or | exact xinl_g _ _ _ | omega | exact xin_mk (by omega) (by omega) | exact xinl_mk (by omega) (by omega) | exact xbo_0 | exact xbo_1 | exact xin_sl | exact xin_fa | exact xbo_ad | exact xin_bo xbo_ad | exact xin_mb | exact xin_A | exact xin_op | ((repeat refine gN_q ?_ (by omega) (by omega)); assumption)) only [rF_allRowsFit_62, rF_allRowsFit_63, xg_cell, Option.toList_some, Option.toList_none, List.singleton_append, List.append_nil, List.nil_append, List.cons_append, w2]
      simp (contextual := true) (disch := first | assumption | exact xin_g _ _ _ | exact xin_ar _ | exact xin_sc _ _ | exact xin_cmp | exact xin_and | exact xin_or | exact xinl_g _ _ _ | omega | exact xin_mk (by omega) (by omega) | exact xinl_mk (by omega) (by omega) | exact xbo_0 | exact xbo_1 | exact xin_sl | exact xin_fa | exact xbo_ad | exact xin_bo xbo_ad | exact xin_mb | exact xin_A | exact xin_op | ((repeat refine gN_q ?_ (by omega) (by omega)); assumption)) only [rF_allRowsFit_100, rF_allRowsFit_101, xg_cell, Option.toList_some, Option.toList_none, List.singleton_append, List.append_nil, List.nil_append, List.cons_append, w3]
    generalize gFit G K1 = y at a3 b3
    rcases b3 with rfl | rfl
    · simp (contextual := true) (disch := first | assumption | exact xin_g _ _ _ | exact xin_ar _ | exact xin_sc _ _ | exact xin_cmp | exact xin_and | exact xin_or | exact xinl_g _ _ _ | omega | exact xin_mk (by omega) (by omega) | exact xinl_mk (by omega) (by omega) | exact xbo_0 | exact xbo_1 | exact xin_sl | exact xin_fa | exact xbo_ad | exact xin_bo xbo_ad | exact xin_mb | exact xin_A | exact xin_op | ((repeat refine gN_q ?_ (by omega) (by omega)); assumption)) only [rC_fits_0, rC_fits_1, rC_fits_4, rC_fits_7, rC_fits_10, rC_fits_11, rC_fits_14, rC_fits_17, rC_fits_20, rC_fits_21, rC_fits_24, rC_fits_25, ↓a3, xg_cell, Option.toList_some, Option.toList_none, List.singleton_append, List.append_nil, List.nil_append, List.cons_append, false_and, if_false, if_true, Int.reduceAdd, Int.reduceSub, Int.reduceMul, Int.reduceNeg, Int.reduceLE, Int.reduceLT, Int.reduceEq, false_implies, true_implies, not_true_eq_false, not_false_eq_true, and_true, true_and, xar_0, xar_1, xar_2, xar_3, xar_4, xar_5, xar_6, xar_7, xar_8, xar_9, xar_10, xar_11, xar_12, h1]
    · simp (contextual := true) (disch := first | assumption | exact xin_g _ _ _ | exact xin_ar _ | exact xin_sc _ _ | exact xin_cmp | exact xin_and | exact xin_or | exact xinl_g _ _ _ | omega | exact xin_mk (by omega) (by omega) | exact xinl_mk (by omega) (by omega) | exact xbo_0 | exact xbo_1 | exact xin_sl | exact xin_fa | exact xbo_ad | exact xin_bo xbo_ad | exact xin_mb | exact xin_A | exact xin_op | ((repeat refine gN_q ?_ (by omega) (by omega)); assumption)) only [rC_fits_0, rC_fits_1, rC_fits_4, rC_fits_7, rC_fits_10, rC_fits_11, rC_fits_14, rC_fits_17, rC_fits_20, rC_fits_21, rC_fits_24, rC_fits_25, ↓a3, xg_cell, Option.toList_some, Option.toList_none, List.singleton_append, List.append_nil, List.nil_append, List.cons_append, false_and, if_false, if_true, Int.reduceAdd, Int.reduceSub, Int.reduceMul, Int.reduceNeg, Int.reduceLE, Int.reduceLT, Int.reduceEq, false_implies, true_implies, not_true_eq_false, not_false_eq_true, and_true, true_and, xar_0, xar_1, xar_2, xar_3, xar_4, xar_5, xar_6, xar_7, xar_8, xar_9, xar_10, xar_11, xar_12, h1]
end SP
