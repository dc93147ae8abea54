/-! the reference's calls: fits, read -/
def mF1 (G : xG) (K : xK) (z : Int) : Nat → Int → Int
  | 0, _ => 1
  | n + 1, r => if (if r < z then mRv G K r = 0 else 0 ≤ mRv G K r) then mF1 G K z n (r + 1) else 0
def mIn (f g q : Int) : Int := if f < 0 ∨ f < g ∨ f < -g ∨ f < q ∨ f < -q then 0 else if g * g + q * q ≤ f * f then 1 else 0
def mF2 (G : xG) (K : xK) : Nat → Int → Int
  | 0, _ => 1
  | n + 1, r => if mIn (mRv G K r) (mRv G K (r + 1)) (mRv G K (r + 2)) = 0 then 0 else mF2 G K n (r + 3)
/-- three rows whose squares fit -/
def mInOk (f g q : Int) : Prop := xinl f ∧ xinl g ∧ xinl q ∧ xinl (-g) ∧ xinl (-q) ∧ xinl (f * f) ∧ xinl (g * g + q * q)
section SP
variable {sc : Nat × (Nat → Int32)} {d : Nat} {Q : Option Value → am_H → Prop} {G X : xG} {K : xK} {h : am_H}
theorem lm_f1 {z p a : Int} (hO : mRvOk G) (hz : xin z) (hp : p ≤ 400) (hv : ∀ r, 0 ≤ r → r < p → xinl (mRv G K r)) : ∀ (n : Nat) (r : Int), r + n = p → 0 ≤ r → (xw sc (d + 2) Mm_fits cm_fits_41 [some (.ref 33), some (xI z), some (xI p), some (xI a), some (xI r), none, none, none, none, none, none] [] (xH G K) Q ↔ (if mF1 G K z n r = 0 then Q (some (xI 0)) (xH G K) else xw sc (d + 2) Mm_fits cm_fits_86 [some (.ref 33), some (xI z), some (xI p), some (xI a), some (xI p), none, none, none, none, none, none] [] (xH G K) Q)) := by
  have zl := xinl_0
  intro n
  induction n with
  | zero =>
    intro r hr r0
    have e : r = p := by omega
    subst e
    have px : xin r := ⟨by omega, by omega⟩
    have hge : r ≤ r := Int.le_refl _
    rw [if_neg (show ¬ mF1 G K z 0 r = 0 by show ¬ (1 : Int) = 0; decide), rm_fits_41]
    simp (contextual := true) (disch := first | assumption | exact xin_g _ _ _ | exact xin_ar _ | exact xin_sc _ _ | exact xin_cmp | exact xin_and | exact xin_or | exact xinl_g _ _ _ | omega | exact xin_mk (by omega) (by omega) | exact xinl_mk (by omega) (by omega) | exact xbo_0 | exact xbo_1 | exact xin_sl | exact xin_fa | exact xbo_ad | exact xin_bo xbo_ad | exact xin_mb | exact xin_A | exact xin_op | ((repeat refine gN_q ?_ (by omega) (by omega)); assumption)) only [rm_fits_43, rm_fits_44, rm_fits_47, rm_fits_48, rm_fits_50, rm_fits_53, rm_fits_55, rm_fits_57, rm_fits_58, rm_fits_61, rm_fits_63, rm_fits_64, rm_fits_65, rm_fits_68, rm_fits_71, rm_fits_73, rm_fits_74, rm_fits_75, rm_fits_78, rm_fits_79, rm_fits_80, rm_fits_83, xg_cell, Option.toList_some, Option.toList_none, List.singleton_append, List.append_nil, List.nil_append, List.cons_append, false_and, if_false, if_true, Int.reduceAdd, Int.reduceSub, Int.reduceMul, Int.reduceNeg, Int.reduceLE, Int.reduceLT, Int.reduceEq, false_implies, true_implies, not_true_eq_false, not_false_eq_true, and_true, true_and, xar_0, xar_1, xar_2, xar_3, xar_4, xar_5, xar_6, xar_7, xar_8, xar_9, xar_10, xar_11, xar_12, hge]
  | succ n ih =>
    intro r hr r0
    have hlt : ¬ p ≤ r := by omega
    have rx : xin r := ⟨by omega, by omega⟩
    have px : xin p := ⟨by omega, by omega⟩
    have hrv := fun (Q : Option Value → am_H → Prop) => sm_rowValue (sc := sc) (d := d) (K := K) (Q := Q) (r := r) hO (by omega) (by omega)
    have hvr := hv r r0 (by omega)
    have ih' := ih (r + 1) (by omega) (by omega)
    have ed : mF1 G K z (n + 1) r = if (if r < z then mRv G K r = 0 else 0 ≤ mRv G K r) then mF1 G K z n (r + 1) else 0 := rfl
    rw [ed]
    generalize mRv G K r = v at *
    by_cases c1 : r < z
    · have c1' : ¬ z ≤ r := by omega
      simp only [if_pos c1]
      by_cases c2 : v = 0
      · rw [if_pos c2, ← ih', rm_fits_41]
        clear ih ih'
        simp (contextual := true) (disch := first | assumption | exact xin_g _ _ _ | exact xin_ar _ | exact xin_sc _ _ | exact xin_cmp | exact xin_and | exact xin_or | exact xinl_g _ _ _ | omega | exact xin_mk (by omega) (by omega) | exact xinl_mk (by omega) (by omega) | exact xbo_0 | exact xbo_1 | exact xin_sl | exact xin_fa | exact xbo_ad | exact xin_bo xbo_ad | exact xin_mb | exact xin_A | exact xin_op | ((repeat refine gN_q ?_ (by omega) (by omega)); assumption)) only [rm_fits_43, rm_fits_44, rm_fits_47, rm_fits_48, rm_fits_50, rm_fits_53, rm_fits_55, rm_fits_57, rm_fits_58, rm_fits_61, rm_fits_63, rm_fits_64, rm_fits_65, rm_fits_68, rm_fits_71, rm_fits_73, rm_fits_74, rm_fits_75, rm_fits_78, rm_fits_79, rm_fits_80, rm_fits_83, ↓hrv, xg_cell, Option.toList_some, Option.toList_none, List.singleton_append, List.append_nil, List.nil_append, List.cons_append, false_and, if_false, if_true, Int.reduceAdd, Int.reduceSub, Int.reduceMul, Int.reduceNeg, Int.reduceLE, Int.reduceLT, Int.reduceEq, false_implies, true_implies, not_true_eq_false, not_false_eq_true, and_true, true_and, xar_0, xar_1, xar_2, xar_3, xar_4, xar_5, xar_6, xar_7, xar_8, xar_9, xar_10, xar_11, xar_12, hlt, c1', xcmp_eq, c2]
      · rw [if_neg c2, if_pos rfl, rm_fits_41]
        clear ih ih'
        simp (contextual := true) (disch := first | assumption | exact xin_g _ _ _ | exact xin_ar _ | exact xin_sc _ _ | exact xin_cmp | exact xin_and | exact xin_or | exact xinl_g _ _ _ | omega | exact xin_mk (by omega) (by omega) | exact xinl_mk (by omega) (by omega) | exact xbo_0 | exact xbo_1 | exact xin_sl | exact xin_fa | exact xbo_ad | exact xin_bo xbo_ad | exact xin_mb | exact xin_A | exact xin_op | ((repeat refine gN_q ?_ (by omega) (by omega)); assumption)) only [rm_fits_43, rm_fits_44, rm_fits_47, rm_fits_48, rm_fits_50, rm_fits_53, rm_fits_55, rm_fits_57, rm_fits_58, rm_fits_61, rm_fits_63, rm_fits_64, rm_fits_65, rm_fits_68, rm_fits_71, rm_fits_73, rm_fits_74, rm_fits_75, rm_fits_78, rm_fits_79, rm_fits_80, rm_fits_83, ↓hrv, xg_cell, Option.toList_some, Option.toList_none, List.singleton_append, List.append_nil, List.nil_append, List.cons_append, false_and, if_false, if_true, Int.reduceAdd, Int.reduceSub, Int.reduceMul, Int.reduceNeg, Int.reduceLE, Int.reduceLT, Int.reduceEq, false_implies, true_implies, not_true_eq_false, not_false_eq_true, and_true, true_and, xar_0, xar_1, xar_2, xar_3, xar_4, xar_5, xar_6, xar_7, xar_8, xar_9, xar_10, xar_11, xar_12, hlt, c1', xcmp_eq, c2]
    · have c1' : z ≤ r := by omega
      simp only [if_neg c1]
      by_cases c2 : 0 ≤ v
      · rw [if_pos c2, ← ih', rm_fits_41]
        clear ih ih'
        simp (contextual := true) (disch := first | assumption | exact xin_g _ _ _ | exact xin_ar _ | exact xin_sc _ _ | exact xin_cmp | exact xin_and | exact xin_or | exact xinl_g _ _ _ | omega | exact xin_mk (by omega) (by omega) | exact xinl_mk (by omega) (by omega) | exact xbo_0 | exact xbo_1 | exact xin_sl | exact xin_fa | exact xbo_ad | exact xin_bo xbo_ad | exact xin_mb | exact xin_A | exact xin_op | ((repeat refine gN_q ?_ (by omega) (by omega)); assumption)) only [rm_fits_43, rm_fits_44, rm_fits_47, rm_fits_48, rm_fits_50, rm_fits_53, rm_fits_55, rm_fits_57, rm_fits_58, rm_fits_61, rm_fits_63, rm_fits_64, rm_fits_65, rm_fits_68, rm_fits_71, rm_fits_73, rm_fits_74, rm_fits_75, rm_fits_78, rm_fits_79, rm_fits_80, rm_fits_83, ↓hrv, xg_cell, Option.toList_some, Option.toList_none, List.singleton_append, List.append_nil, List.nil_append, List.cons_append, false_and, if_false, if_true, Int.reduceAdd, Int.reduceSub, Int.reduceMul, Int.reduceNeg, Int.reduceLE, Int.reduceLT, Int.reduceEq, false_implies, true_implies, not_true_eq_false, not_false_eq_true, and_true, true_and, xar_0, xar_1, xar_2, xar_3, xar_4, xar_5, xar_6, xar_7, xar_8, xar_9, xar_10, xar_11, xar_12, hlt, c1', xcmp_ge, c2]
      · rw [if_neg c2, if_pos rfl, rm_fits_41]
        clear ih ih'
        simp (contextual := true) (disch := first | assumption | exact xin_g _ _ _ | exact xin_ar _ | exact xin_sc _ _ | exact xin_cmp | exact xin_and | exact xin_or | exact xinl_g _ _ _ | omega | exact xin_mk (by omega) (by omega) | exact xinl_mk (by omega) (by omega) | exact xbo_0 | exact xbo_1 | exact xin_sl | exact xin_fa | exact xbo_ad | exact xin_bo xbo_ad | exact xin_mb | exact xin_A | exact xin_op | ((repeat refine gN_q ?_ (by omega) (by omega)); assumption)) only [rm_fits_43, rm_fits_44, rm_fits_47, rm_fits_48, rm_fits_50, rm_fits_53, rm_fits_55, rm_fits_57, rm_fits_58, rm_fits_61, rm_fits_63, rm_fits_64, rm_fits_65, rm_fits_68, rm_fits_71, rm_fits_73, rm_fits_74, rm_fits_75, rm_fits_78, rm_fits_79, rm_fits_80, rm_fits_83, ↓hrv, xg_cell, Option.toList_some, Option.toList_none, List.singleton_append, List.append_nil, List.nil_append, List.cons_append, false_and, if_false, if_true, Int.reduceAdd, Int.reduceSub, Int.reduceMul, Int.reduceNeg, Int.reduceLE, Int.reduceLT, Int.reduceEq, false_implies, true_implies, not_true_eq_false, not_false_eq_true, and_true, true_and, xar_0, xar_1, xar_2, xar_3, xar_4, xar_5, xar_6, xar_7, xar_8, xar_9, xar_10, xar_11, xar_12, hlt, c1', xcmp_ge, c2]
theorem lm_f2 {a : Int} (hO : mRvOk G) (ha : a ≤ 400) : ∀ (n : Nat) (r : Int) (u2 : Option Value), (∀ i : Int, 0 ≤ i → i < n → mInOk (mRv G K (r + 3 * i)) (mRv G K (r + 3 * i + 1)) (mRv G K (r + 3 * i + 2))) → r + 3 * n = a → 0 ≤ r → (xw sc (d + 2) Mm_fits cm_fits_89 [some (.ref 33), none, u2, some (xI a), some (xI r), none, none, none, none, none, none] [] (xH G K) Q ↔ Q (some (xI (mF2 G K n r))) (xH G K)) := by
  intro n
  induction n with
  | zero =>
    intro r u2 hv hr r0
    have e : r = a := by omega
    subst e
    have px : xin r := ⟨by omega, by omega⟩
    have hge : r ≤ r := Int.le_refl _
    rw [rm_fits_89]
    simp (contextual := true) (disch := first | assumption | exact xin_g _ _ _ | exact xin_ar _ | exact xin_sc _ _ | exact xin_cmp | exact xin_and | exact xin_or | exact xinl_g _ _ _ | omega | exact xin_mk (by omega) (by omega) | exact xinl_mk (by omega) (by omega) | exact xbo_0 | exact xbo_1 | exact xin_sl | exact xin_fa | exact xbo_ad | exact xin_bo xbo_ad | exact xin_mb | exact xin_A | exact xin_op | ((repeat refine gN_q ?_ (by omega) (by omega)); assumption)) only [rm_fits_91, rm_fits_92, rm_fits_95, rm_fits_96, rm_fits_98, rm_fits_101, rm_fits_103, rm_fits_104, rm_fits_106, rm_fits_107, rm_fits_108, rm_fits_111, rm_fits_113, rm_fits_114, rm_fits_116, rm_fits_117, rm_fits_118, rm_fits_121, rm_fits_123, rm_fits_125, rm_fits_127, rm_fits_129, rm_fits_132, rm_fits_135, rm_fits_136, rm_fits_137, rm_fits_140, rm_fits_143, rm_fits_144, xg_cell, Option.toList_some, Option.toList_none, List.singleton_append, List.append_nil, List.nil_append, List.cons_append, false_and, if_false, if_true, Int.reduceAdd, Int.reduceSub, Int.reduceMul, Int.reduceNeg, Int.reduceLE, Int.reduceLT, Int.reduceEq, false_implies, true_implies, not_true_eq_false, not_false_eq_true, and_true, true_and, xar_0, xar_1, xar_2, xar_3, xar_4, xar_5, xar_6, xar_7, xar_8, xar_9, xar_10, xar_11, xar_12, hge, mF2]
  | succ n ih =>
    intro r u2 hv hr r0
    have hlt : ¬ a ≤ r := by omega
    have rx : xin r := ⟨by omega, by omega⟩
    have ax : xin a := ⟨by omega, by omega⟩
    have hrv := fun (x : Int) (x0 : -1 ≤ x) (x1 : x < 1000) (Q : Option Value → am_H → Prop) => sm_rowValue (sc := sc) (d := d) (K := K) (Q := Q) (r := x) hO x0 x1
    have h0 := hrv r (by omega) (by omega)
    have h1 := hrv (r + 1) (by omega) (by omega)
    have h2 := hrv (r + 2) (by omega) (by omega)
    have hv0 := hv 0 (by decide) (by omega)
    rw [show r + 3 * 0 = r by omega] at hv0
    have ih' := ih (r + 3) none (fun i i0 i1 => by
      have := hv (i + 1) (by omega) (by omega)
      rw [show r + 3 * (i + 1) = r + 3 + 3 * i by omega] at this
      exact this) (by omega) (by omega)
    have ed : mF2 G K (n + 1) r = if mIn (mRv G K r) (mRv G K (r + 1)) (mRv G K (r + 2)) = 0 then 0 else mF2 G K n (r + 3) := rfl
    rw [ed]
    generalize mRv G K r = f at *
    generalize mRv G K (r + 1) = g at *
    generalize mRv G K (r + 2) = q at *
    obtain ⟨v1, v2, v3, v4, v5, v6, v7⟩ := hv0
    have hin := fun (Q : Option Value → am_H → Prop) => sm_inside (sc := sc) (d := d + 1) (h := xH G K) (Q := Q) v1 v2 v3 v4 v5 v6 v7
    have hin2 : ∀ Q : Option Value → am_H → Prop, xc sc (d + 1) Mm_inside [xJ f, xJ g, xJ q] (xH G K) Q ↔ Q (some (xI (mIn f g q))) (xH G K) := hin
    have hix : xin (mIn f g q) := by
      unfold mIn
      split
      · exact xin_0
      · split
        · exact ⟨by decide, by decide⟩
        · exact xin_0
    generalize mIn f g q = w at *
    by_cases c : w = 0
    · rw [if_pos c, rm_fits_89]
      clear ih ih'
      simp (contextual := true) (disch := first | assumption | exact xin_g _ _ _ | exact xin_ar _ | exact xin_sc _ _ | exact xin_cmp | exact xin_and | exact xin_or | exact xinl_g _ _ _ | omega | exact xin_mk (by omega) (by omega) | exact xinl_mk (by omega) (by omega) | exact xbo_0 | exact xbo_1 | exact xin_sl | exact xin_fa | exact xbo_ad | exact xin_bo xbo_ad | exact xin_mb | exact xin_A | exact xin_op | ((repeat refine gN_q ?_ (by omega) (by omega)); assumption)) only [rm_fits_91, rm_fits_92, rm_fits_95, rm_fits_96, rm_fits_98, rm_fits_101, rm_fits_103, rm_fits_104, rm_fits_106, rm_fits_107, rm_fits_108, rm_fits_111, rm_fits_113, rm_fits_114, rm_fits_116, rm_fits_117, rm_fits_118, rm_fits_121, rm_fits_123, rm_fits_125, rm_fits_127, rm_fits_129, rm_fits_132, rm_fits_135, rm_fits_136, rm_fits_137, rm_fits_140, rm_fits_143, rm_fits_144, ↓h0, ↓h1, ↓h2, ↓hin2, xg_cell, Option.toList_some, Option.toList_none, List.singleton_append, List.append_nil, List.nil_append, List.cons_append, false_and, if_false, if_true, Int.reduceAdd, Int.reduceSub, Int.reduceMul, Int.reduceNeg, Int.reduceLE, Int.reduceLT, Int.reduceEq, false_implies, true_implies, not_true_eq_false, not_false_eq_true, and_true, true_and, xar_0, xar_1, xar_2, xar_3, xar_4, xar_5, xar_6, xar_7, xar_8, xar_9, xar_10, xar_11, xar_12, hlt, c]
    · rw [if_neg c, ← ih', rm_fits_89]
      clear ih ih'
      simp (contextual := true) (disch := first | assumption | exact xin_g _ _ _ | exact xin_ar _ | exact xin_sc _ _ | exact xin_cmp | exact xin_and | exact xin_or | exact xinl_g _ _ _ | omega | exact xin_mk (by omega) (by omega) | exact xinl_mk (by omega) (by omega) | exact xbo_0 | exact xbo_1 | exact xin_sl | exact xin_fa | exact xbo_ad | exact xin_bo xbo_ad | exact xin_mb | exact xin_A | exact xin_op | ((repeat refine gN_q ?_ (by omega) (by omega)); assumption)) only [rm_fits_91, rm_fits_92, rm_fits_95, rm_fits_96, rm_fits_98, rm_fits_101, rm_fits_103, rm_fits_104, rm_fits_106, rm_fits_107, rm_fits_108, rm_fits_111, rm_fits_113, rm_fits_114, rm_fits_116, rm_fits_117, rm_fits_118, rm_fits_121, rm_fits_123, rm_fits_125, rm_fits_127, rm_fits_129, rm_fits_132, rm_fits_135, rm_fits_136, rm_fits_137, rm_fits_140, rm_fits_143, rm_fits_144, ↓h0, ↓h1, ↓h2, ↓hin2, xg_cell, Option.toList_some, Option.toList_none, List.singleton_append, List.append_nil, List.nil_append, List.cons_append, false_and, if_false, if_true, Int.reduceAdd, Int.reduceSub, Int.reduceMul, Int.reduceNeg, Int.reduceLE, Int.reduceLT, Int.reduceEq, false_implies, true_implies, not_true_eq_false, not_false_eq_true, and_true, true_and, xar_0, xar_1, xar_2, xar_3, xar_4, xar_5, xar_6, xar_7, xar_8, xar_9, xar_10, xar_11, xar_12, hlt, c]
def mFt (X : xG) (K : xK) : Int := if mF1 X K (mRc X 0) (mRc X 0 + mRc X 1).toNat 0 = 0 then 0 else mF2 X K ((mRc X 2).toNat / 3) (mRc X 0 + mRc X 1)
/-- what fits wants -/
def mFtOk (X : xG) (K : xK) : Prop := mRvOk X ∧ (∀ k, 0 ≤ k → k < xg X 33 12 → mEnOk X k) ∧ mRc X 2 % 3 = 0 ∧ (∀ r, 0 ≤ r → r < mRc X 0 + mRc X 1 → xinl (mRv X K r)) ∧ ∀ i : Int, 0 ≤ i → i < ((mRc X 2).toNat / 3 : Nat) → mInOk (mRv X K (mRc X 0 + mRc X 1 + 3 * i)) (mRv X K (mRc X 0 + mRc X 1 + 3 * i + 1)) (mRv X K (mRc X 0 + mRc X 1 + 3 * i + 2))
theorem sm_fits (hm : ∀ Q : Option Value → am_H → Prop, xc sc (d + 5) Mm_mark [.ref 33] (xH G K) Q ↔ Q none (xH X K)) (hO : ¬ xg G 33 34 = 0 → mFtOk X (mXK X (-2) K)) : xc sc (d + 6) Mm_fits [.ref 33] (xH G K) Q ↔ (if xg G 33 34 = 0 then Q (some (xI 0)) (xH G K) else Q (some (xI (mFt X (mXK X (-2) K)))) (xH X (mXK X (-2) K))) := by
  rw [em_fits]
  by_cases h2 : xg G 33 34 = 0
  · rw [if_pos h2]
    simp (contextual := true) (disch := first | assumption | exact xin_g _ _ _ | exact xin_ar _ | exact xin_sc _ _ | exact xin_cmp | exact xin_and | exact xin_or | exact xinl_g _ _ _ | omega | exact xin_mk (by omega) (by omega) | exact xinl_mk (by omega) (by omega) | exact xbo_0 | exact xbo_1 | exact xin_sl | exact xin_fa | exact xbo_ad | exact xin_bo xbo_ad | exact xin_mb | exact xin_A | exact xin_op | ((repeat refine gN_q ?_ (by omega) (by omega)); assumption)) only [rm_fits_0, rm_fits_1, rm_fits_4, rm_fits_7, rm_fits_8, xg_cell, Option.toList_some, Option.toList_none, List.singleton_append, List.append_nil, List.nil_append, List.cons_append, false_and, if_false, if_true, Int.reduceAdd, Int.reduceSub, Int.reduceMul, Int.reduceNeg, Int.reduceLE, Int.reduceLT, Int.reduceEq, false_implies, true_implies, not_true_eq_false, not_false_eq_true, and_true, true_and, xar_0, xar_1, xar_2, xar_3, xar_4, xar_5, xar_6, xar_7, xar_8, xar_9, xar_10, xar_11, xar_12, h2]
  · rw [if_neg h2]
    obtain ⟨o1, o2, o3, o4, o5⟩ := hO h2
    have o1' := o1
    obtain ⟨p1, p2, p3, p4, p5, p6, p7, p8⟩ := o1'
    have b0 := mRc_b (cone := 0) p1 p2 p3 p4
    have b1 := mRc_b (cone := 1) p1 p2 p3 p4
    have b2 := mRc_b (cone := 2) p1 p2 p3 p4
    have he := fun (Q : Option Value → am_H → Prop) => sm_expand (sc := sc) (d := d + 2) (K := K) (Q := Q) (G := X) (c := -2) ⟨by decide, by decide⟩ p3 p4 o2
    unfold mFt
    generalize mXK X (-2) K = K' at *
    have hr0 := fun (Q : Option Value → am_H → Prop) => sm_rowCount (sc := sc) (d := d + 4) (K := K') (Q := Q) (G := X) (cone := 0) xin_0 p1 p2 p3 p4
    have hr1 := fun (Q : Option Value → am_H → Prop) => sm_rowCount (sc := sc) (d := d + 4) (K := K') (Q := Q) (G := X) (cone := 1) ⟨by decide, by decide⟩ p1 p2 p3 p4
    have ha := fun (Q : Option Value → am_H → Prop) => sm_allRows (sc := sc) (d := d + 3) (K := K') (Q := Q) (G := X) p1 p2 p3 p4
    generalize mRc X 0 = z0 at *
    generalize mRc X 1 = z1 at *
    generalize mRc X 2 = z2 at *
    have l1 := lm_f1 (sc := sc) (d := d + 4) (K := K') (Q := Q) (z := z0) (p := z0 + z1) (a := z0 + z1 + z2) o1 ⟨by omega, by omega⟩ (by omega) o4 (z0 + z1).toNat 0 (by omega) (by decide)
    have l2 := fun u2 => lm_f2 (sc := sc) (d := d + 4) (K := K') (Q := Q) (a := z0 + z1 + z2) o1 (by omega) (z2.toNat / 3) (z0 + z1) u2 o5 (by omega) (by omega)
    simp (contextual := true) (disch := first | assumption | exact xin_g _ _ _ | exact xin_ar _ | exact xin_sc _ _ | exact xin_cmp | exact xin_and | exact xin_or | exact xinl_g _ _ _ | omega | exact xin_mk (by omega) (by omega) | exact xinl_mk (by omega) (by omega) | exact xbo_0 | exact xbo_1 | exact xin_sl | exact xin_fa | exact xbo_ad | exact xin_bo xbo_ad | exact xin_mb | exact xin_A | exact xin_op | ((repeat refine gN_q ?_ (by omega) (by omega)); assumption)) only [rm_fits_0, rm_fits_1, rm_fits_4, rm_fits_7, rm_fits_8, rm_fits_9, rm_fits_10, rm_fits_13, rm_fits_14, rm_fits_16, rm_fits_19, rm_fits_20, rm_fits_21, rm_fits_24, rm_fits_25, rm_fits_26, rm_fits_27, rm_fits_28, rm_fits_31, rm_fits_32, rm_fits_33, rm_fits_34, rm_fits_37, rm_fits_38, rm_fits_39, ↓hm, ↓he, ↓hr0, ↓hr1, ↓ha, xg_cell, Option.toList_some, Option.toList_none, List.singleton_append, List.append_nil, List.nil_append, List.cons_append, false_and, if_false, if_true, Int.reduceAdd, Int.reduceSub, Int.reduceMul, Int.reduceNeg, Int.reduceLE, Int.reduceLT, Int.reduceEq, false_implies, true_implies, not_true_eq_false, not_false_eq_true, and_true, true_and, xar_0, xar_1, xar_2, xar_3, xar_4, xar_5, xar_6, xar_7, xar_8, xar_9, xar_10, xar_11, xar_12, h2, l1]
    by_cases c : mF1 X K' z0 (z0 + z1).toNat 0 = 0
    · rw [if_pos c, if_pos c]
    · rw [if_neg c, if_neg c]
      simp (contextual := true) (disch := first | assumption | exact xin_g _ _ _ | exact xin_ar _ | exact xin_sc _ _ | exact xin_cmp | exact xin_and | exact xin_or | exact xinl_g _ _ _ | omega | exact xin_mk (by omega) (by omega) | exact xinl_mk (by omega) (by omega) | exact xbo_0 | exact xbo_1 | exact xin_sl | exact xin_fa | exact xbo_ad | exact xin_bo xbo_ad | exact xin_mb | exact xin_A | exact xin_op | ((repeat refine gN_q ?_ (by omega) (by omega)); assumption)) only [rm_fits_86, rm_fits_87, xg_cell, Option.toList_some, Option.toList_none, List.singleton_append, List.append_nil, List.nil_append, List.cons_append, false_and, if_false, if_true, Int.reduceAdd, Int.reduceSub, Int.reduceMul, Int.reduceNeg, Int.reduceLE, Int.reduceLT, Int.reduceEq, false_implies, true_implies, not_true_eq_false, not_false_eq_true, and_true, true_and, xar_0, xar_1, xar_2, xar_3, xar_4, xar_5, xar_6, xar_7, xar_8, xar_9, xar_10, xar_11, xar_12, l2]
theorem sm_read_1 {p : Int} (hp : ∀ Q : Option Value → am_H → Prop, xc sc d Mm_parse [.ref 33] (xH G K) Q ↔ Q (some (xI p)) (xH X K)) (hx : xin p) (h0 : 0 ≤ p) : xc sc (d + 1) Mm_read [.ref 33] (xH G K) Q ↔ Q (some (xI (-1 - p))) (xH X K) := by
  rw [em_read]
  have c : ¬ p < 0 := by omega
  simp (contextual := true) (disch := first | assumption | exact xin_g _ _ _ | exact xin_ar _ | exact xin_sc _ _ | exact xin_cmp | exact xin_and | exact xin_or | exact xinl_g _ _ _ | omega | exact xin_mk (by omega) (by omega) | exact xinl_mk (by omega) (by omega) | exact xbo_0 | exact xbo_1 | exact xin_sl | exact xin_fa | exact xbo_ad | exact xin_bo xbo_ad | exact xin_mb | exact xin_A | exact xin_op | ((repeat refine gN_q ?_ (by omega) (by omega)); assumption)) only [rm_read_0, rm_read_1, rm_read_4, rm_read_5, rm_read_6, rm_read_9, rm_read_10, rm_read_11, rm_read_12, rm_read_13, rm_read_14, rm_read_17, rm_read_18, rm_read_19, rm_read_20, rm_read_23, rm_read_24, rm_read_25, rm_read_28, rm_read_29, rm_read_30, rm_read_33, rm_read_34, rm_read_35, rm_read_36, rm_read_37, rm_read_40, rm_read_41, ↓hp, xg_cell, Option.toList_some, Option.toList_none, List.singleton_append, List.append_nil, List.nil_append, List.cons_append, false_and, if_false, if_true, Int.reduceAdd, Int.reduceSub, Int.reduceMul, Int.reduceNeg, Int.reduceLE, Int.reduceLT, Int.reduceEq, false_implies, true_implies, not_true_eq_false, not_false_eq_true, and_true, true_and, xar_0, xar_1, xar_2, xar_3, xar_4, xar_5, xar_6, xar_7, xar_8, xar_9, xar_10, xar_11, xar_12, c]
theorem sm_read_2 {nd : Int} {Y : xG} {K' : xK} (hp : ∀ Q : Option Value → am_H → Prop, xc sc d Mm_parse [.ref 33] (xH G K) Q ↔ Q (some (xI (-1))) (xH X K)) (hb : ∀ Q : Option Value → am_H → Prop, xc sc d Mm_build [.ref 33, xI (xg X 33 12)] (xH X K) Q ↔ Q (some (xI nd)) (xH Y K')) (hx : xin nd) : xc sc (d + 1) Mm_read [.ref 33] (xH G K) Q ↔ (if nd < 0 then Q (some (xI nd)) (xH (xp Y 33 12 (xg X 33 12)) K') else Q (some (xI nd)) (xH (xp Y 33 1 0) K')) := by
  rw [em_read]
  by_cases c : nd < 0
  · have c' : ¬ 0 ≤ nd := by omega
    rw [if_pos c]
    simp (contextual := true) (disch := first | assumption | exact xin_g _ _ _ | exact xin_ar _ | exact xin_sc _ _ | exact xin_cmp | exact xin_and | exact xin_or | exact xinl_g _ _ _ | omega | exact xin_mk (by omega) (by omega) | exact xinl_mk (by omega) (by omega) | exact xbo_0 | exact xbo_1 | exact xin_sl | exact xin_fa | exact xbo_ad | exact xin_bo xbo_ad | exact xin_mb | exact xin_A | exact xin_op | ((repeat refine gN_q ?_ (by omega) (by omega)); assumption)) only [rm_read_0, rm_read_1, rm_read_4, rm_read_5, rm_read_6, rm_read_9, rm_read_10, rm_read_11, rm_read_12, rm_read_13, rm_read_14, rm_read_17, rm_read_18, rm_read_19, rm_read_20, rm_read_23, rm_read_24, rm_read_25, rm_read_28, rm_read_29, rm_read_30, rm_read_33, rm_read_34, rm_read_35, rm_read_36, rm_read_37, rm_read_40, rm_read_41, ↓hp, ↓hb, xg_cell, Option.toList_some, Option.toList_none, List.singleton_append, List.append_nil, List.nil_append, List.cons_append, false_and, if_false, if_true, Int.reduceAdd, Int.reduceSub, Int.reduceMul, Int.reduceNeg, Int.reduceLE, Int.reduceLT, Int.reduceEq, false_implies, true_implies, not_true_eq_false, not_false_eq_true, and_true, true_and, xar_0, xar_1, xar_2, xar_3, xar_4, xar_5, xar_6, xar_7, xar_8, xar_9, xar_10, xar_11, xar_12, c']
  · have c' : 0 ≤ nd := by omega
    rw [if_neg c]
    simp (contextual := true) (disch := first | assumption | exact xin_g _ _ _ | exact xin_ar _ | exact xin_sc _ _ | exact xin_cmp | exact xin_and | exact xin_or | exact xinl_g _ _ _ | omega | exact xin_mk (by omega) (by omega) | exact xinl_mk (by omega) (by omega) | exact xbo_0 | exact xbo_1 | exact xin_sl | exact xin_fa | exact xbo_ad | exact xin_bo xbo_ad | exact xin_mb | exact xin_A | exact xin_op | ((repeat refine gN_q ?_ (by omega) (by omega)); assumption)) only [rm_read_0, rm_read_1, rm_read_4, rm_read_5, rm_read_6, rm_read_9, rm_read_10, rm_read_11, rm_read_12, rm_read_13, rm_read_14, rm_read_17, rm_read_18, rm_read_19, rm_read_20, rm_read_23, rm_read_24, rm_read_25, rm_read_28, rm_read_29, rm_read_30, rm_read_33, rm_read_34, rm_read_35, rm_read_36, rm_read_37, rm_read_40, rm_read_41, ↓hp, ↓hb, xg_cell, Option.toList_some, Option.toList_none, List.singleton_append, List.append_nil, List.nil_append, List.cons_append, false_and, if_false, if_true, Int.reduceAdd, Int.reduceSub, Int.reduceMul, Int.reduceNeg, Int.reduceLE, Int.reduceLT, Int.reduceEq, false_implies, true_implies, not_true_eq_false, not_false_eq_true, and_true, true_and, xar_0, xar_1, xar_2, xar_3, xar_4, xar_5, xar_6, xar_7, xar_8, xar_9, xar_10, xar_11, xar_12, c']
end SP
