/-! the reference: a node's curve and blame -/
def mAd (kd p c b0 u0 b1 u1 w : Int) : Int := if c = 0 ∨ c = 1 then 1 else if ¬ c = 4 ∧ (c = w → mTr kd p b0 u0 b1 u1 = 1) ∧ (¬ c = w → mTr kd p b0 u0 b1 u1 = -1) then 1 else 0
theorem xbo_mad {kd p c b0 u0 b1 u1 w : Int} : xbo (mAd kd p c b0 u0 b1 u1 w) := by
  unfold mAd
  by_cases h1 : c = 0 ∨ c = 1
  · rw [if_pos h1]; exact Or.inr rfl
  · rw [if_neg h1]
    split
    · exact Or.inr rfl
    · exact Or.inl rfl
theorem xin_mtr {kd p b0 u0 b1 u1 : Int} : xin (mTr kd p b0 u0 b1 u1) := by
  have h : mTr kd p b0 u0 b1 u1 = 1 ∨ mTr kd p b0 u0 b1 u1 = -1 ∨ mTr kd p b0 u0 b1 u1 = 0 := by
    unfold mTr
    grind
  rcases h with h | h | h <;> rw [h] <;> exact ⟨by decide, by decide⟩
def mFn (n A0 A1 A2 : Int) : Int := if 0 < n ∧ A0 = 0 then 1 else if 1 < n ∧ A1 = 0 then 2 else if 2 < n ∧ A2 = 0 then 3 else 0
def mH1 (lo hi c : Int) : Int := if lo ≤ c ∧ c ≤ hi then 1 else 0
def mHv (n lo hi c0 c1 c2 : Int) : Int := if n = 0 then 0 else if n = 1 then 0 + mH1 lo hi c0 else if n = 2 then 0 + mH1 lo hi c0 + mH1 lo hi c1 else 0 + mH1 lo hi c0 + mH1 lo hi c1 + mH1 lo hi c2
theorem xin_mfn {n A0 A1 A2 : Int} : xin (mFn n A0 A1 A2) := by
  unfold mFn
  split
  · exact ⟨by decide, by decide⟩
  · split
    · exact ⟨by decide, by decide⟩
    · split <;> exact ⟨by decide, by decide⟩
theorem xin_mhv {n lo hi c0 c1 c2 : Int} : xin (mHv n lo hi c0 c1 c2) := by
  have h0 : ∀ c, 0 ≤ mH1 lo hi c ∧ mH1 lo hi c ≤ 1 := by
    intro c
    unfold mH1
    split <;> omega
  have a := h0 c0
  have b := h0 c1
  have c := h0 c2
  unfold mHv
  split
  · exact ⟨by decide, by decide⟩
  · split
    · exact ⟨by omega, by omega⟩
    · split
      · exact ⟨by omega, by omega⟩
      · exact ⟨by omega, by omega⟩
section SP
variable {sc : Nat × (Nat → Int32)} {d : Nat} {Q : Option Value → am_H → Prop} {G : xG} {K : xK} {h : am_H}
theorem sm_admits {k p w : Int} (hN : mN G k) (hk : 3 ≤ xg G 40 k) (hp : p = 0 ∨ p = 1 ∨ p = 2) (hw : w = 2 ∨ w = 3) (ha : xg G 40 k = 6 → p < 2) (hp0 : 0 ≤ xg G 42 (3 * k + p)) (hp1 : xg G 42 (3 * k + p) < 36) : xc sc (d + 1) Mm_admits [.ref 33, xI k, xI p, xI w] (xH G K) Q ↔ Q (some (xI (mAd (xg G 40 k) p (xg G 47 (xg G 42 (3 * k + p))) (xg G 46 (xg G 42 (3 * k))) (xg G 45 (xg G 42 (3 * k))) (xg G 46 (xg G 42 (3 * k + 1))) (xg G 45 (xg G 42 (3 * k + 1))) w))) (xH G K) := by
  rw [em_admits]
  have hM := hN
  unfold mN at hM
  have ht := fun (Q : Option Value → am_H → Prop) => sm_trend (sc := sc) (d := d) (K := K) (Q := Q) hN hk hp ha
  have hx := xin_mtr (kd := xg G 40 k) (p := p) (b0 := xg G 46 (xg G 42 (3 * k))) (u0 := xg G 45 (xg G 42 (3 * k))) (b1 := xg G 46 (xg G 42 (3 * k + 1))) (u1 := xg G 45 (xg G 42 (3 * k + 1)))
  unfold mAd
  generalize mTr (xg G 40 k) p (xg G 46 (xg G 42 (3 * k))) (xg G 45 (xg G 42 (3 * k))) (xg G 46 (xg G 42 (3 * k + 1))) (xg G 45 (xg G 42 (3 * k + 1))) = t at ht hx
  simp (contextual := true) (disch := first | assumption | exact xin_g _ _ _ | exact xin_ar _ | exact xin_sc _ _ | exact xin_cmp | exact xin_and | exact xin_or | exact xinl_g _ _ _ | omega | exact xin_mk (by omega) (by omega) | exact xinl_mk (by omega) (by omega) | exact xbo_0 | exact xbo_1 | exact xin_sl | exact xin_fa | exact xbo_ad | exact xin_bo xbo_ad | exact xin_mb | exact xin_A | exact xin_op | ((repeat refine gN_q ?_ (by omega) (by omega)); assumption) | exact xbo_mad | exact xin_bo xbo_mad | exact xin_mfn | exact xin_mhv | ((repeat refine mN_q ?_ (by omega) (by omega)); assumption)) only [rm_admits_0, rm_admits_1, rm_admits_4, rm_admits_5, rm_admits_8, rm_admits_9, rm_admits_10, rm_admits_11, rm_admits_12, rm_admits_13, rm_admits_14, rm_admits_15, rm_admits_17, rm_admits_19, rm_admits_22, rm_admits_24, rm_admits_25, rm_admits_28, rm_admits_29, rm_admits_30, rm_admits_31, rm_admits_32, rm_admits_33, rm_admits_36, rm_admits_38, rm_admits_40, rm_admits_41, rm_admits_44, rm_admits_46, rm_admits_47, rm_admits_50, rm_admits_52, rm_admits_53, rm_admits_56, rm_admits_59, rm_admits_61, rm_admits_62, rm_admits_65, rm_admits_66, rm_admits_69, rm_admits_70, ↓ht, xg_cell, Option.toList_some, Option.toList_none, List.singleton_append, List.append_nil, List.nil_append, List.cons_append]
  grind
set_option maxHeartbeats 4000000 in
theorem sm_firstNot {k w : Int} (hN : mN G k) (hw : w = 2 ∨ w = 3) : xc sc (d + 2) Mm_firstNot [.ref 33, xI k, xI w] (xH G K) Q ↔ Q (some (xI (mFn (xar (xg G 40 k)) (mAd (xg G 40 k) 0 (xg G 47 (xg G 42 (3 * k))) (xg G 46 (xg G 42 (3 * k))) (xg G 45 (xg G 42 (3 * k))) (xg G 46 (xg G 42 (3 * k + 1))) (xg G 45 (xg G 42 (3 * k + 1))) w) (mAd (xg G 40 k) 1 (xg G 47 (xg G 42 (3 * k + 1))) (xg G 46 (xg G 42 (3 * k))) (xg G 45 (xg G 42 (3 * k))) (xg G 46 (xg G 42 (3 * k + 1))) (xg G 45 (xg G 42 (3 * k + 1))) w) (mAd (xg G 40 k) 2 (xg G 47 (xg G 42 (3 * k + 2))) (xg G 46 (xg G 42 (3 * k))) (xg G 45 (xg G 42 (3 * k))) (xg G 46 (xg G 42 (3 * k + 1))) (xg G 45 (xg G 42 (3 * k + 1))) w)))) (xH G K) := by
  rw [em_firstNot]
  have hM := hN
  unfold mN at hM
  have hc := mN_k hN
  have a0 : 3 ≤ xg G 40 k → ∀ Q : Option Value → am_H → Prop, xc sc (d + 1) Mm_admits [.ref 33, xI k, xI 0, xI w] (xH G K) Q ↔ Q (some (xI (mAd (xg G 40 k) 0 (xg G 47 (xg G 42 (3 * k))) (xg G 46 (xg G 42 (3 * k))) (xg G 45 (xg G 42 (3 * k))) (xg G 46 (xg G 42 (3 * k + 1))) (xg G 45 (xg G 42 (3 * k + 1))) w))) (xH G K) := by
    intro hk Q
    have := sm_admits (sc := sc) (d := d) (K := K) (Q := Q) (p := 0) hN hk (Or.inl rfl) hw (by omega) (by rw [Int.add_zero]; omega) (by rw [Int.add_zero]; omega)
    rwa [Int.add_zero] at this
  have a1 : 3 ≤ xg G 40 k → 0 ≤ xg G 42 (3 * k + 1) → ∀ Q : Option Value → am_H → Prop, xc sc (d + 1) Mm_admits [.ref 33, xI k, xI 1, xI w] (xH G K) Q ↔ Q (some (xI (mAd (xg G 40 k) 1 (xg G 47 (xg G 42 (3 * k + 1))) (xg G 46 (xg G 42 (3 * k))) (xg G 45 (xg G 42 (3 * k))) (xg G 46 (xg G 42 (3 * k + 1))) (xg G 45 (xg G 42 (3 * k + 1))) w))) (xH G K) := fun hk hq Q => sm_admits (p := 1) hN hk (Or.inr (Or.inl rfl)) hw (by omega) hq (by omega)
  have a2 : xg G 40 k = 11 → ∀ Q : Option Value → am_H → Prop, xc sc (d + 1) Mm_admits [.ref 33, xI k, xI 2, xI w] (xH G K) Q ↔ Q (some (xI (mAd (xg G 40 k) 2 (xg G 47 (xg G 42 (3 * k + 2))) (xg G 46 (xg G 42 (3 * k))) (xg G 45 (xg G 42 (3 * k))) (xg G 46 (xg G 42 (3 * k + 1))) (xg G 45 (xg G 42 (3 * k + 1))) w))) (xH G K) := fun hk Q => sm_admits (p := 2) hN (by omega) (Or.inr (Or.inr rfl)) hw (by omega) (by omega) (by omega)
  rcases hc with e | e | e | e | e | e | e | e | e | e | e | e <;> simp (contextual := true) (disch := first | assumption | exact xin_g _ _ _ | exact xin_ar _ | exact xin_sc _ _ | exact xin_cmp | exact xin_and | exact xin_or | exact xinl_g _ _ _ | omega | exact xin_mk (by omega) (by omega) | exact xinl_mk (by omega) (by omega) | exact xbo_0 | exact xbo_1 | exact xin_sl | exact xin_fa | exact xbo_ad | exact xin_bo xbo_ad | exact xin_mb | exact xin_A | exact xin_op | ((repeat refine gN_q ?_ (by omega) (by omega)); assumption) | exact xbo_mad | exact xin_bo xbo_mad | exact xin_mfn | exact xin_mhv | ((repeat refine mN_q ?_ (by omega) (by omega)); assumption)) only [e, rm_firstNot_0, rm_firstNot_1, rm_firstNot_2, rm_firstNot_3, rm_firstNot_6, rm_firstNot_7, rm_firstNot_8, rm_firstNot_11, rm_firstNot_12, rm_firstNot_13, rm_firstNot_15, rm_firstNot_17, rm_firstNot_20, rm_firstNot_21, rm_firstNot_22, rm_firstNot_24, rm_firstNot_25, rm_firstNot_28, rm_firstNot_31, rm_firstNot_32, rm_firstNot_35, rm_firstNot_37, rm_firstNot_38, rm_firstNot_39, rm_firstNot_40, rm_firstNot_43, rm_firstNot_46, rm_firstNot_47, ↓sm_arity, ↓a0, ↓a1, ↓a2, xg_cell, Option.toList_some, Option.toList_none, List.singleton_append, List.append_nil, List.nil_append, List.cons_append, false_and, if_false, if_true, Int.reduceAdd, Int.reduceSub, Int.reduceMul, Int.reduceNeg, Int.reduceLE, Int.reduceLT, Int.reduceEq, false_implies, true_implies, not_true_eq_false, not_false_eq_true, and_true, true_and, xar_0, xar_1, xar_2, xar_3, xar_4, xar_5, xar_6, xar_7, xar_8, xar_9, xar_10, xar_11, xar_12, mFn] <;> grind
set_option maxHeartbeats 4000000 in
theorem sm_having {k lo hi : Int} (hN : mN G k) (hl : xin lo) (hh : xin hi) : xc sc (d + 1) Mm_having [.ref 33, xI k, xI lo, xI hi] (xH G K) Q ↔ Q (some (xI (mHv (xar (xg G 40 k)) lo hi (xg G 47 (xg G 42 (3 * k))) (xg G 47 (xg G 42 (3 * k + 1))) (xg G 47 (xg G 42 (3 * k + 2)))))) (xH G K) := by
  rw [em_having]
  have hM := hN
  unfold mN at hM
  have hc := mN_k hN
  rcases hc with e | e | e | e | e | e | e | e | e | e | e | e <;> simp (contextual := true) (disch := first | assumption | exact xin_g _ _ _ | exact xin_ar _ | exact xin_sc _ _ | exact xin_cmp | exact xin_and | exact xin_or | exact xinl_g _ _ _ | omega | exact xin_mk (by omega) (by omega) | exact xinl_mk (by omega) (by omega) | exact xbo_0 | exact xbo_1 | exact xin_sl | exact xin_fa | exact xbo_ad | exact xin_bo xbo_ad | exact xin_mb | exact xin_A | exact xin_op | ((repeat refine gN_q ?_ (by omega) (by omega)); assumption) | exact xbo_mad | exact xin_bo xbo_mad | exact xin_mfn | exact xin_mhv | ((repeat refine mN_q ?_ (by omega) (by omega)); assumption)) only [e, rm_having_0, rm_having_1, rm_having_3, rm_having_4, rm_having_6, rm_having_8, rm_having_9, rm_having_12, rm_having_13, rm_having_14, rm_having_17, rm_having_20, rm_having_21, rm_having_24, rm_having_25, rm_having_28, rm_having_29, rm_having_30, rm_having_31, rm_having_33, rm_having_34, rm_having_35, rm_having_36, rm_having_38, rm_having_40, rm_having_42, rm_having_43, rm_having_46, rm_having_48, rm_having_49, rm_having_52, rm_having_53, rm_having_56, rm_having_57, rm_having_58, rm_having_60, rm_having_63, rm_having_66, rm_having_68, ↓sm_arity, xg_cell, Option.toList_some, Option.toList_none, List.singleton_append, List.append_nil, List.nil_append, List.cons_append, false_and, if_false, if_true, Int.reduceAdd, Int.reduceSub, Int.reduceMul, Int.reduceNeg, Int.reduceLE, Int.reduceLT, Int.reduceEq, false_implies, true_implies, not_true_eq_false, not_false_eq_true, and_true, true_and, xar_0, xar_1, xar_2, xar_3, xar_4, xar_5, xar_6, xar_7, xar_8, xar_9, xar_10, xar_11, xar_12, Int.add_zero] <;> simp only [mHv, mH1, false_and, if_false, if_true, Int.reduceAdd, Int.reduceSub, Int.reduceMul, Int.reduceNeg, Int.reduceLE, Int.reduceLT, Int.reduceEq, false_implies, true_implies, not_true_eq_false, not_false_eq_true, and_true, true_and, xar_0, xar_1, xar_2, xar_3, xar_4, xar_5, xar_6, xar_7, xar_8, xar_9, xar_10, xar_11, xar_12] <;> grind
def mCv (kd c0 c1 c2 A0 A1 A2 B0 B1 B2 : Int) : Int :=
  if xar kd = 0 then (if kd = 1 then 1 else 0)
  else if mHv (xar kd) 0 0 c0 c1 c2 = xar kd then 0
  else if kd = 6 ∧ mHv (xar kd) 0 0 c0 c1 c2 = 0 then 4
  else if kd ≤ 6 ∧ mHv (xar kd) 0 1 c0 c1 c2 = xar kd then 1
  else if ¬ kd = 8 ∧ mFn (xar kd) A0 A1 A2 = 0 then 2
  else if (kd ≤ 6 ∨ kd = 8) ∧ mFn (xar kd) B0 B1 B2 = 0 then 3 else 4
/-- admission of place p -/
def mA (G : xG) (k p w : Int) : Int := mAd (xg G 40 k) p (xg G 47 (xg G 42 (if p = 0 then 3 * k else 3 * k + p))) (xg G 46 (xg G 42 (3 * k))) (xg G 45 (xg G 42 (3 * k))) (xg G 46 (xg G 42 (3 * k + 1))) (xg G 45 (xg G 42 (3 * k + 1))) w
theorem sm_fn {k w : Int} (hN : mN G k) (hw : w = 2 ∨ w = 3) : xc sc (d + 2) Mm_firstNot [.ref 33, xI k, xI w] (xH G K) Q ↔ Q (some (xI (mFn (xar (xg G 40 k)) (mA G k 0 w) (mA G k 1 w) (mA G k 2 w)))) (xH G K) := by
  rw [sm_firstNot hN hw]
  exact Iff.rfl
def mHa (G : xG) (k lo hi : Int) : Int := mHv (xar (xg G 40 k)) lo hi (xg G 47 (xg G 42 (3 * k))) (xg G 47 (xg G 42 (3 * k + 1))) (xg G 47 (xg G 42 (3 * k + 2)))
theorem xin_mha {k lo hi : Int} : xin (mHa G k lo hi) := xin_mhv
theorem sm_ha {k lo hi : Int} (hN : mN G k) (hl : xin lo) (hh : xin hi) : xc sc (d + 1) Mm_having [.ref 33, xI k, xI lo, xI hi] (xH G K) Q ↔ Q (some (xI (mHa G k lo hi))) (xH G K) := sm_having hN hl hh
def mCu (G : xG) (k : Int) : Int :=
  if xar (xg G 40 k) = 0 then (if xg G 40 k = 1 then 1 else 0)
  else if mHa G k 0 0 = xar (xg G 40 k) then 0
  else if xg G 40 k = 6 ∧ mHa G k 0 0 = 0 then 4
  else if xg G 40 k ≤ 6 ∧ mHa G k 0 1 = xar (xg G 40 k) then 1
  else if ¬ xg G 40 k = 8 ∧ mFn (xar (xg G 40 k)) (mA G k 0 2) (mA G k 1 2) (mA G k 2 2) = 0 then 2
  else if (xg G 40 k ≤ 6 ∨ xg G 40 k = 8) ∧ mFn (xar (xg G 40 k)) (mA G k 0 3) (mA G k 1 3) (mA G k 2 3) = 0 then 3 else 4
set_option maxHeartbeats 4000000 in
theorem sm_curveOf {k : Int} (hN : mN G k) : xc sc (d + 3) Mm_curveOf [.ref 33, xI k] (xH G K) Q ↔ Q (some (xI (mCu G k))) (xH G K) := by
  rw [em_curveOf]
  obtain ⟨k0, k1⟩ := mN_b hN
  have hc := mN_k hN
  have h1 := hN.2.2.1
  have h2 := hN.2.2.2.1
  have f2 := fun (Q : Option Value → am_H → Prop) => sm_fn (sc := sc) (d := d) (K := K) (Q := Q) (w := 2) hN (Or.inl rfl)
  have f3 := fun (Q : Option Value → am_H → Prop) => sm_fn (sc := sc) (d := d) (K := K) (Q := Q) (w := 3) hN (Or.inr rfl)
  have g0 := fun (Q : Option Value → am_H → Prop) => sm_ha (sc := sc) (d := d + 1) (K := K) (Q := Q) (lo := 0) (hi := 0) hN xin_0 xin_0
  have g1 := fun (Q : Option Value → am_H → Prop) => sm_ha (sc := sc) (d := d + 1) (K := K) (Q := Q) (lo := 0) (hi := 1) hN xin_0 ⟨by decide, by decide⟩
  have x0 := xin_mha (G := G) (k := k) (lo := 0) (hi := 0)
  have x1 := xin_mha (G := G) (k := k) (lo := 0) (hi := 1)
  have y2 : xin (mFn (xar (xg G 40 k)) (mA G k 0 2) (mA G k 1 2) (mA G k 2 2)) := xin_mfn
  have y3 : xin (mFn (xar (xg G 40 k)) (mA G k 0 3) (mA G k 1 3) (mA G k 2 3)) := xin_mfn
  unfold mCu
  generalize mFn (xar (xg G 40 k)) (mA G k 0 2) (mA G k 1 2) (mA G k 2 2) = F2 at f2 y2
  generalize mFn (xar (xg G 40 k)) (mA G k 0 3) (mA G k 1 3) (mA G k 2 3) = F3 at f3 y3
  generalize mHa G k 0 0 = H0 at g0 x0
  generalize mHa G k 0 1 = H1 at g1 x1
  rcases hc with e | e | e | e | e | e | e | e | e | e | e | e <;> simp (contextual := true) (disch := first | assumption | exact xin_g _ _ _ | exact xin_ar _ | exact xin_sc _ _ | exact xin_cmp | exact xin_and | exact xin_or | exact xinl_g _ _ _ | omega | exact xin_mk (by omega) (by omega) | exact xinl_mk (by omega) (by omega) | exact xbo_0 | exact xbo_1 | exact xin_sl | exact xin_fa | exact xbo_ad | exact xin_bo xbo_ad | exact xin_mb | exact xin_A | exact xin_op | ((repeat refine gN_q ?_ (by omega) (by omega)); assumption) | exact xbo_mad | exact xin_bo xbo_mad | exact xin_mfn | exact xin_mhv | ((repeat refine mN_q ?_ (by omega) (by omega)); assumption)) only [e, rm_curveOf_0, rm_curveOf_1, rm_curveOf_4, rm_curveOf_5, rm_curveOf_6, rm_curveOf_7, rm_curveOf_8, rm_curveOf_11, rm_curveOf_12, rm_curveOf_13, rm_curveOf_16, rm_curveOf_17, rm_curveOf_18, rm_curveOf_21, rm_curveOf_22, rm_curveOf_25, rm_curveOf_26, rm_curveOf_27, rm_curveOf_28, rm_curveOf_29, rm_curveOf_30, rm_curveOf_31, rm_curveOf_34, rm_curveOf_36, rm_curveOf_38, rm_curveOf_39, rm_curveOf_42, rm_curveOf_43, rm_curveOf_44, rm_curveOf_45, rm_curveOf_47, rm_curveOf_50, rm_curveOf_52, rm_curveOf_55, rm_curveOf_56, rm_curveOf_57, rm_curveOf_58, rm_curveOf_60, rm_curveOf_63, rm_curveOf_64, rm_curveOf_65, rm_curveOf_66, rm_curveOf_67, rm_curveOf_70, rm_curveOf_71, rm_curveOf_74, rm_curveOf_75, rm_curveOf_76, rm_curveOf_77, rm_curveOf_79, rm_curveOf_82, rm_curveOf_83, rm_curveOf_84, rm_curveOf_85, rm_curveOf_88, rm_curveOf_91, rm_curveOf_92, rm_curveOf_93, rm_curveOf_94, rm_curveOf_96, rm_curveOf_99, rm_curveOf_100, rm_curveOf_102, rm_curveOf_105, rm_curveOf_106, rm_curveOf_107, rm_curveOf_108, rm_curveOf_111, rm_curveOf_114, rm_curveOf_115, rm_curveOf_118, rm_curveOf_119, ↓sm_arity, ↓f2, ↓f3, ↓g0, ↓g1, xg_cell, Option.toList_some, Option.toList_none, List.singleton_append, List.append_nil, List.nil_append, List.cons_append, false_and, if_false, if_true, Int.reduceAdd, Int.reduceSub, Int.reduceMul, Int.reduceNeg, Int.reduceLE, Int.reduceLT, Int.reduceEq, false_implies, true_implies, not_true_eq_false, not_false_eq_true, and_true, true_and, xar_0, xar_1, xar_2, xar_3, xar_4, xar_5, xar_6, xar_7, xar_8, xar_9, xar_10, xar_11, xar_12] <;> grind
def mBl (G : xG) (k : Int) : Int :=
  if ¬ xg G 47 k = 4 ∨ 0 < mHa G k 4 4 then 0
  else if xg G 40 k = 6 ∧ mHa G k 0 0 = 0 then 4
  else if xg G 40 k ≤ 6 then (if 1 < xg G 47 (xg G 42 (3 * k + 1)) then 2 else 1)
  else mFn (xar (xg G 40 k)) (mA G k 0 (if xg G 40 k = 8 then 3 else 2)) (mA G k 1 (if xg G 40 k = 8 then 3 else 2)) (mA G k 2 (if xg G 40 k = 8 then 3 else 2))
set_option maxHeartbeats 4000000 in
theorem sm_blameOf {k : Int} (hN : mN G k) (hB : xg G 47 k = 4 → mHa G k 4 4 ≤ 0 → xg G 40 k ≤ 6 → 0 ≤ xg G 42 (3 * k + 1)) : xc sc (d + 3) Mm_blameOf [.ref 33, xI k] (xH G K) Q ↔ Q (some (xI (mBl G k))) (xH G K) := by
  rw [em_blameOf]
  obtain ⟨k0, k1⟩ := mN_b hN
  have hc := mN_k hN
  have a1 : xg G 42 (3 * k + 1) < 36 := by unfold mN at hN; omega
  have f2 := fun (Q : Option Value → am_H → Prop) => sm_fn (sc := sc) (d := d) (K := K) (Q := Q) (w := 2) hN (Or.inl rfl)
  have f3 := fun (Q : Option Value → am_H → Prop) => sm_fn (sc := sc) (d := d) (K := K) (Q := Q) (w := 3) hN (Or.inr rfl)
  have g0 := fun (Q : Option Value → am_H → Prop) => sm_ha (sc := sc) (d := d + 1) (K := K) (Q := Q) (lo := 0) (hi := 0) hN xin_0 xin_0
  have g4 := fun (Q : Option Value → am_H → Prop) => sm_ha (sc := sc) (d := d + 1) (K := K) (Q := Q) (lo := 4) (hi := 4) hN ⟨by decide, by decide⟩ ⟨by decide, by decide⟩
  have x0 := xin_mha (G := G) (k := k) (lo := 0) (hi := 0)
  have x4 := xin_mha (G := G) (k := k) (lo := 4) (hi := 4)
  unfold mBl
  generalize mHa G k 0 0 = H0 at g0 x0
  generalize mHa G k 4 4 = H4 at g4 x4 hB
  rcases hc with e | e | e | e | e | e | e | e | e | e | e | e <;> simp (contextual := true) (disch := first | assumption | exact xin_g _ _ _ | exact xin_ar _ | exact xin_sc _ _ | exact xin_cmp | exact xin_and | exact xin_or | exact xinl_g _ _ _ | omega | exact xin_mk (by omega) (by omega) | exact xinl_mk (by omega) (by omega) | exact xbo_0 | exact xbo_1 | exact xin_sl | exact xin_fa | exact xbo_ad | exact xin_bo xbo_ad | exact xin_mb | exact xin_A | exact xin_op | ((repeat refine gN_q ?_ (by omega) (by omega)); assumption) | exact xbo_mad | exact xin_bo xbo_mad | exact xin_mfn | exact xin_mhv | ((repeat refine mN_q ?_ (by omega) (by omega)); assumption)) only [e, rm_blameOf_0, rm_blameOf_1, rm_blameOf_4, rm_blameOf_5, rm_blameOf_6, rm_blameOf_7, rm_blameOf_8, rm_blameOf_11, rm_blameOf_12, rm_blameOf_13, rm_blameOf_14, rm_blameOf_17, rm_blameOf_18, rm_blameOf_19, rm_blameOf_20, rm_blameOf_21, rm_blameOf_24, rm_blameOf_27, rm_blameOf_28, rm_blameOf_29, rm_blameOf_30, rm_blameOf_32, rm_blameOf_35, rm_blameOf_36, rm_blameOf_37, rm_blameOf_38, rm_blameOf_39, rm_blameOf_42, rm_blameOf_45, rm_blameOf_46, rm_blameOf_47, rm_blameOf_48, rm_blameOf_50, rm_blameOf_53, rm_blameOf_54, rm_blameOf_57, rm_blameOf_58, rm_blameOf_61, rm_blameOf_62, rm_blameOf_63, rm_blameOf_64, rm_blameOf_65, rm_blameOf_66, rm_blameOf_67, rm_blameOf_68, rm_blameOf_69, rm_blameOf_72, rm_blameOf_73, rm_blameOf_76, rm_blameOf_77, rm_blameOf_78, rm_blameOf_79, rm_blameOf_80, rm_blameOf_81, rm_blameOf_83, rm_blameOf_86, rm_blameOf_87, rm_blameOf_90, rm_blameOf_91, rm_blameOf_94, ↓f2, ↓f3, ↓g0, ↓g4, xg_cell, Option.toList_some, Option.toList_none, List.singleton_append, List.append_nil, List.nil_append, List.cons_append, false_and, if_false, if_true, Int.reduceAdd, Int.reduceSub, Int.reduceMul, Int.reduceNeg, Int.reduceLE, Int.reduceLT, Int.reduceEq, false_implies, true_implies, not_true_eq_false, not_false_eq_true, and_true, true_and, xar_0, xar_1, xar_2, xar_3, xar_4, xar_5, xar_6, xar_7, xar_8, xar_9, xar_10, xar_11, xar_12] <;> grind
end SP
