/-! the reference's parser on its cells: what is open, what is put out -/
def mTp (G : xG) : pL → Prop
  | [] => True
  | t :: T => xg G 35 (T.length : Int) = t.1 ∧ xg G 36 (T.length : Int) = t.2 ∧ 0 ≤ t.2 ∧ t.2 ≤ (pcm t.1 : Int) ∧ mTp G T
def mOp (G : xG) (O : pL) : Prop := ∀ (i : Nat) (q : Int × Int), O[i]? = some q → xg G 37 (i : Int) = q.1 ∧ xg G 38 (i : Int) = q.2
def mPo (G : xG) (T O : pL) : Prop := xg G 33 5 = (T.length : Int) ∧ xg G 33 8 = (O.length : Int) ∧ mTp G T ∧ mOp G O
/-- nothing but the parser's cells has changed -/
def mFr (G G' : xG) : Prop := ∀ (a : Nat) (j : Int), 0 ≤ j → ¬ (a = 33 ∧ (j = 2 ∨ j = 3 ∨ j = 4 ∨ j = 5 ∨ j = 8)) → ¬ a = 35 → ¬ a = 36 → ¬ a = 37 → ¬ a = 38 → xg G' a j = xg G a j
def mF3 (G G' : xG) : Prop := mFr G G' ∧ xg G' 33 2 = xg G 33 2 ∧ xg G' 33 3 = xg G 33 3 ∧ xg G' 33 4 = xg G 33 4
theorem mFr_rfl {G : xG} : mFr G G := fun _ _ _ _ _ _ _ _ => rfl
theorem mF3_rfl {G : xG} : mF3 G G := ⟨mFr_rfl, rfl, rfl, rfl⟩
theorem mFr_tr {A B C : xG} (h : mFr A B) (g : mFr B C) : mFr A C := fun a j h0 h1 h2 h3 h4 h5 => (g a j h0 h1 h2 h3 h4 h5).trans (h a j h0 h1 h2 h3 h4 h5)
theorem mF3_tr {A B C : xG} (h : mF3 A B) (g : mF3 B C) : mF3 A C := ⟨mFr_tr h.1 g.1, g.2.1.trans h.2.1, g.2.2.1.trans h.2.2.1, g.2.2.2.trans h.2.2.2⟩
theorem mFr_c {A B : xG} {c : Nat} {i x : Int} (h : mFr A B) (hc : c = 35 ∨ c = 36 ∨ c = 37 ∨ c = 38) : mFr A (xp B c i x) := fun a j h0 h1 h2 h3 h4 h5 => by
  rw [xg_cell (by omega)]
  exact h a j h0 h1 h2 h3 h4 h5
theorem mFr_f {A B : xG} {i x : Int} (h : mFr A B) (hi : i = 2 ∨ i = 3 ∨ i = 4 ∨ i = 5 ∨ i = 8) : mFr A (xp B 33 i x) := fun a j h0 h1 h2 h3 h4 h5 => by
  by_cases ha : a = 33
  · subst ha
    rw [xg_idx (by omega) h0 (by omega)]
    exact h 33 j h0 h1 h2 h3 h4 h5
  · rw [xg_cell ha]
    exact h a j h0 h1 h2 h3 h4 h5
theorem mF3_c {A B : xG} {c : Nat} {i x : Int} (h : mF3 A B) (hc : c = 35 ∨ c = 36 ∨ c = 37 ∨ c = 38) : mF3 A (xp B c i x) := by
  refine ⟨mFr_c h.1 hc, ?_, ?_, ?_⟩
  · rw [xg_cell (by omega)]; exact h.2.1
  · rw [xg_cell (by omega)]; exact h.2.2.1
  · rw [xg_cell (by omega)]; exact h.2.2.2
theorem mF3_f {A B : xG} {i x : Int} (h : mF3 A B) (hi : i = 5 ∨ i = 8) : mF3 A (xp B 33 i x) := by
  refine ⟨mFr_f h.1 (by omega), ?_, ?_, ?_⟩
  · rw [xg_idx (by omega) (by omega) (by omega)]; exact h.2.1
  · rw [xg_idx (by omega) (by omega) (by omega)]; exact h.2.2.1
  · rw [xg_idx (by omega) (by omega) (by omega)]; exact h.2.2.2
theorem mTp_c {G : xG} {a : Nat} {i x : Int} (h1 : ¬ 35 = a) (h2 : ¬ 36 = a) : ∀ T : pL, mTp G T → mTp (xp G a i x) T
  | [], _ => trivial
  | t :: T, h => by
    refine ⟨?_, ?_, h.2.2.1, h.2.2.2.1, mTp_c h1 h2 T h.2.2.2.2⟩
    · rw [xg_cell h1]; exact h.1
    · rw [xg_cell h2]; exact h.2.1
/-- a write above what is open -/
theorem mTp_i {G : xG} {a : Nat} {i x : Int} : ∀ T : pL, (T.length : Int) ≤ i → mTp G T → mTp (xp G a i x) T
  | [], _, _ => trivial
  | t :: T, hi, h => by
    simp only [List.length_cons, Int.natCast_add, Int.cast_ofNat_Int] at hi
    refine ⟨?_, ?_, h.2.2.1, h.2.2.2.1, mTp_i T (by omega) h.2.2.2.2⟩
    · by_cases ha : 35 = a
      · subst ha; rw [xg_idx (by omega) (by omega) (by omega)]; exact h.1
      · rw [xg_cell ha]; exact h.1
    · by_cases ha : 36 = a
      · subst ha; rw [xg_idx (by omega) (by omega) (by omega)]; exact h.2.1
      · rw [xg_cell ha]; exact h.2.1
theorem mOp_c {G : xG} {a : Nat} {i x : Int} {O : pL} (h1 : ¬ 37 = a) (h2 : ¬ 38 = a) (h : mOp G O) : mOp (xp G a i x) O := by
  intro n q hq
  rw [xg_cell h1, xg_cell h2]
  exact h n q hq
def mEm (G : xG) (k v : Int) : xG := xp (xp (xp G 37 (xg G 33 8) k) 38 (xg G 33 8) v) 33 8 (xg G 33 8 + 1)
theorem mOp_add {G : xG} {O : pL} {k v : Int} (h : mOp G O) (hk : xin k) (hv : xin v) : mOp (xp (xp G 37 (O.length : Int) k) 38 (O.length : Int) v) (O ++ [(k, v)]) := by
  intro i q hq
  rw [xg_cell (show ¬ 37 = 38 by decide)]
  rcases Nat.lt_trichotomy i O.length with hi | hi | hi
  · rw [List.getElem?_append_left hi] at hq
    obtain ⟨e1, e2⟩ := h i q hq
    rw [xg_idx (by omega) (by omega) (by omega), xg_idx (by omega) (by omega) (by omega), xg_cell (by decide)]
    exact ⟨e1, e2⟩
  · subst hi
    rw [List.getElem?_append_right (Nat.le_refl _)] at hq
    simp only [Nat.sub_self, List.getElem?_cons_zero, Option.some.injEq] at hq
    subst hq
    rw [xg_self hk, xg_self hv]
    exact ⟨rfl, rfl⟩
  · rw [List.getElem?_append_right (Nat.le_of_lt hi)] at hq
    rw [List.getElem?_eq_none (by simp; omega)] at hq
    cases hq
theorem mEm_ok {G : xG} {T O : pL} {k v : Int} (h : mPo G T O) (hk : xin k) (hv : xin v) (hl : O.length < 20) : mPo (mEm G k v) T (O ++ [(k, v)]) ∧ mF3 G (mEm G k v) := by
  obtain ⟨h1, h2, h3, h4⟩ := h
  unfold mEm
  refine ⟨⟨?_, ?_, ?_, ?_⟩, ?_⟩
  · rw [xg_idx (by omega) (by omega) (by omega), xg_cell (by decide), xg_cell (by decide)]; exact h1
  · rw [xg_self ⟨by omega, by omega⟩, h2]; simp
  · exact mTp_c (by decide) (by decide) _ (mTp_c (by decide) (by decide) _ (mTp_c (by decide) (by decide) _ h3))
  · refine mOp_c (by decide) (by decide) ?_
    rw [h2]
    exact mOp_add h4 hk hv
  · exact mF3_f (mF3_c (mF3_c mF3_rfl (by omega)) (by omega)) (by omega)
/-- the top is taken off -/
theorem mPo_pop {G : xG} {t : Int × Int} {T O : pL} (h : mPo G (t :: T) O) (hl : T.length < 20) : mPo (xp G 33 5 (xg G 33 5 - 1)) T O ∧ mF3 G (xp G 33 5 (xg G 33 5 - 1)) := by
  obtain ⟨h1, h2, h3, h4⟩ := h
  simp only [List.length_cons, Int.natCast_add, Int.cast_ofNat_Int] at h1
  refine ⟨⟨?_, ?_, ?_, ?_⟩, mF3_f mF3_rfl (by omega)⟩
  · rw [xg_self ⟨by omega, by omega⟩]; omega
  · rw [xg_idx (by omega) (by omega) (by omega)]; exact h2
  · exact mTp_c (by decide) (by decide) _ h3.2.2.2.2
  · exact mOp_c (by decide) (by decide) h4
theorem mPo_top {G : xG} {t : Int × Int} {T O : pL} (h : mPo G (t :: T) O) : xg G 35 (xg G 33 5 - 1) = t.1 ∧ xg G 36 (xg G 33 5 - 1) = t.2 ∧ 0 ≤ t.2 ∧ t.2 ≤ (pcm t.1 : Int) ∧ 0 < xg G 33 5 ∧ xg G 33 5 = (T.length : Int) + 1 := by
  obtain ⟨h1, h2, h3, h4⟩ := h
  simp only [List.length_cons, Int.natCast_add, Int.cast_ofNat_Int] at h1
  have e : xg G 33 5 - 1 = (T.length : Int) := by omega
  rw [e]
  exact ⟨h3.1, h3.2.1, h3.2.2.1, h3.2.2.2.1, by omega, h1⟩
section SP
variable {sc : Nat × (Nat → Int32)} {d : Nat} {Q : Option Value → am_H → Prop} {G : xG} {K : xK} {h : am_H}
theorem sm_emit {k v : Int} (h0 : 0 ≤ xg G 33 8) (h1 : xg G 33 8 < 20) : xc sc d Mm_emit [.ref 33, xI k, xI v] (xH G K) Q ↔ Q none (xH (mEm G k v) K) := by
  rw [em_emit]
  simp (contextual := true) (disch := first | assumption | exact xin_g _ _ _ | exact xin_ar _ | exact xin_sc _ _ | exact xin_cmp | exact xin_and | exact xin_or | exact xinl_g _ _ _ | omega | exact xin_mk (by omega) (by omega) | exact xinl_mk (by omega) (by omega) | exact xbo_0 | exact xbo_1 | exact xin_sl | exact xin_fa | exact xbo_ad | exact xin_bo xbo_ad | exact xin_mb | exact xin_A | exact xin_op | ((repeat refine gN_q ?_ (by omega) (by omega)); assumption)) only [rm_emit_0, rm_emit_1, rm_emit_4, rm_emit_5, rm_emit_8, rm_emit_9, rm_emit_10, rm_emit_11, rm_emit_14, rm_emit_15, rm_emit_18, rm_emit_19, rm_emit_20, rm_emit_21, rm_emit_22, rm_emit_25, rm_emit_26, rm_emit_27, rm_emit_30, xg_cell, Option.toList_some, Option.toList_none, List.singleton_append, List.append_nil, List.nil_append, List.cons_append, mEm]
theorem lm_neg : ∀ (T O : pL) (G : xG), mPo G T O → T.length + O.length ≤ 20 → ∃ G' : xG, (∀ Q : Option Value → am_H → Prop, xw sc (d + 1) Mm_negations cm_negations_0 [some (.ref 33)] [] (xH G K) Q ↔ Q none (xH G' K)) ∧ mPo G' (rneg T O).1 (rneg T O).2 ∧ mF3 G G'
  | [], O, G, h, hl => by
    have h1 : xg G 33 5 ≤ 0 := by have := h.1; simp at this; omega
    refine ⟨G, fun Q => ?_, h, mF3_rfl⟩
    rw [rm_negations_0]
    simp (contextual := true) (disch := first | assumption | exact xin_g _ _ _ | exact xin_ar _ | exact xin_sc _ _ | exact xin_cmp | exact xin_and | exact xin_or | exact xinl_g _ _ _ | omega | exact xin_mk (by omega) (by omega) | exact xinl_mk (by omega) (by omega) | exact xbo_0 | exact xbo_1 | exact xin_sl | exact xin_fa | exact xbo_ad | exact xin_bo xbo_ad | exact xin_mb | exact xin_A | exact xin_op | ((repeat refine gN_q ?_ (by omega) (by omega)); assumption)) only [rm_negations_1, rm_negations_4, rm_negations_7, rm_negations_8, rm_negations_11, rm_negations_12, rm_negations_15, rm_negations_16, rm_negations_17, rm_negations_18, rm_negations_20, rm_negations_23, rm_negations_24, rm_negations_25, rm_negations_28, rm_negations_29, rm_negations_30, rm_negations_33, rm_negations_34, rm_negations_35, rm_negations_36, rm_negations_39, rm_negations_42, xg_cell, Option.toList_some, Option.toList_none, List.singleton_append, List.append_nil, List.nil_append, List.cons_append, false_and, if_false, if_true, Int.reduceAdd, Int.reduceSub, Int.reduceMul, Int.reduceNeg, Int.reduceLE, Int.reduceLT, Int.reduceEq, false_implies, true_implies, not_true_eq_false, not_false_eq_true, and_true, true_and, xar_0, xar_1, xar_2, xar_3, xar_4, xar_5, xar_6, xar_7, xar_8, xar_9, xar_10, xar_11, xar_12, h1]
  | t :: T, O, G, h, hl => by
    simp only [List.length_cons] at hl
    obtain ⟨t1, t2, t3, t4, t5, t6⟩ := mPo_top h
    have h1 : ¬ xg G 33 5 ≤ 0 := by omega
    have tx : xin t.1 := by rw [← t1]; exact xin_g _ _ _
    by_cases ht : t.1 = 126
    · obtain ⟨p1, p2⟩ := mPo_pop h (by omega)
      obtain ⟨q1, q2⟩ := mEm_ok (k := 5) (v := 0) p1 ⟨by decide, by decide⟩ xin_0 (by omega)
      obtain ⟨G', r1, r2, r3⟩ := lm_neg T (O ++ [(5, 0)]) _ q1 (by simp; omega)
      have e1 : rneg (t :: T) O = rneg T (O ++ [(5, 0)]) := by simp only [rneg]; rw [if_pos ht]
      rw [e1]
      refine ⟨G', fun Q => ?_, r2, mF3_tr p2 (mF3_tr q2 r3)⟩
      have he := fun (Q : Option Value → am_H → Prop) => sm_emit (sc := sc) (d := d) (K := K) (Q := Q) (G := xp G 33 5 (xg G 33 5 - 1)) (k := 5) (v := 0) (by rw [p1.2.1]; omega) (by rw [p1.2.1]; omega)
      rw [rm_negations_0]
      simp (contextual := true) (disch := first | assumption | exact xin_g _ _ _ | exact xin_ar _ | exact xin_sc _ _ | exact xin_cmp | exact xin_and | exact xin_or | exact xinl_g _ _ _ | omega | exact xin_mk (by omega) (by omega) | exact xinl_mk (by omega) (by omega) | exact xbo_0 | exact xbo_1 | exact xin_sl | exact xin_fa | exact xbo_ad | exact xin_bo xbo_ad | exact xin_mb | exact xin_A | exact xin_op | ((repeat refine gN_q ?_ (by omega) (by omega)); assumption)) only [rm_negations_1, rm_negations_4, rm_negations_7, rm_negations_8, rm_negations_11, rm_negations_12, rm_negations_15, rm_negations_16, rm_negations_17, rm_negations_18, rm_negations_20, rm_negations_23, rm_negations_24, rm_negations_25, rm_negations_28, rm_negations_29, rm_negations_30, rm_negations_33, rm_negations_34, rm_negations_35, rm_negations_36, rm_negations_39, rm_negations_42, ↓he, ↓r1, xg_cell, Option.toList_some, Option.toList_none, List.singleton_append, List.append_nil, List.nil_append, List.cons_append, false_and, if_false, if_true, Int.reduceAdd, Int.reduceSub, Int.reduceMul, Int.reduceNeg, Int.reduceLE, Int.reduceLT, Int.reduceEq, false_implies, true_implies, not_true_eq_false, not_false_eq_true, and_true, true_and, xar_0, xar_1, xar_2, xar_3, xar_4, xar_5, xar_6, xar_7, xar_8, xar_9, xar_10, xar_11, xar_12, h1, t1, ht]
    · have e1 : rneg (t :: T) O = (t :: T, O) := by simp only [rneg]; rw [if_neg ht]
      rw [e1]
      refine ⟨G, fun Q => ?_, h, mF3_rfl⟩
      rw [rm_negations_0]
      simp (contextual := true) (disch := first | assumption | exact xin_g _ _ _ | exact xin_ar _ | exact xin_sc _ _ | exact xin_cmp | exact xin_and | exact xin_or | exact xinl_g _ _ _ | omega | exact xin_mk (by omega) (by omega) | exact xinl_mk (by omega) (by omega) | exact xbo_0 | exact xbo_1 | exact xin_sl | exact xin_fa | exact xbo_ad | exact xin_bo xbo_ad | exact xin_mb | exact xin_A | exact xin_op | ((repeat refine gN_q ?_ (by omega) (by omega)); assumption)) only [rm_negations_1, rm_negations_4, rm_negations_7, rm_negations_8, rm_negations_11, rm_negations_12, rm_negations_15, rm_negations_16, rm_negations_17, rm_negations_18, rm_negations_20, rm_negations_23, rm_negations_24, rm_negations_25, rm_negations_28, rm_negations_29, rm_negations_30, rm_negations_33, rm_negations_34, rm_negations_35, rm_negations_36, rm_negations_39, rm_negations_42, xg_cell, Option.toList_some, Option.toList_none, List.singleton_append, List.append_nil, List.nil_append, List.cons_append, false_and, if_false, if_true, Int.reduceAdd, Int.reduceSub, Int.reduceMul, Int.reduceNeg, Int.reduceLE, Int.reduceLT, Int.reduceEq, false_implies, true_implies, not_true_eq_false, not_false_eq_true, and_true, true_and, xar_0, xar_1, xar_2, xar_3, xar_4, xar_5, xar_6, xar_7, xar_8, xar_9, xar_10, xar_11, xar_12, h1, t1, ht]
theorem sm_neg {T O : pL} {G : xG} (h : mPo G T O) (hl : T.length + O.length ≤ 20) : ∃ G' : xG, (∀ Q : Option Value → am_H → Prop, xc sc (d + 1) Mm_negations [.ref 33] (xH G K) Q ↔ Q none (xH G' K)) ∧ mPo G' (rneg T O).1 (rneg T O).2 ∧ mF3 G G' := by
  obtain ⟨G', r1, r2⟩ := lm_neg (sc := sc) (d := d) (K := K) T O G h hl
  exact ⟨G', fun Q => em_negations.trans (r1 Q), r2⟩
theorem sm_operand {T O : pL} {G : xG} {k v : Int} (h : mPo G T O) (hk : xin k) (hv : xin v) (hl : T.length + O.length < 20) : ∃ G' : xG, (∀ Q : Option Value → am_H → Prop, xc sc (d + 2) Mm_operand [.ref 33, xI k, xI v] (xH G K) Q ↔ Q none (xH G' K)) ∧ mPo G' (ropd T O k v).1 (ropd T O k v).2 ∧ mFr G G' ∧ xg G' 33 2 = xg G 33 2 ∧ xg G' 33 3 = xg G 33 3 ∧ xg G' 33 4 = (O.length : Int) := by
  have h' := h
  obtain ⟨h1, h2, h3, h4⟩ := h'
  have p1 : mPo (xp G 33 4 (xg G 33 8)) T O := ⟨by rw [xg_idx (by omega) (by omega) (by omega)]; exact h1, by rw [xg_idx (by omega) (by omega) (by omega)]; exact h2, mTp_c (by decide) (by decide) _ h3, mOp_c (by decide) (by decide) h4⟩
  obtain ⟨q1, q2⟩ := mEm_ok (k := k) (v := v) p1 hk hv (by omega)
  obtain ⟨G', r1, r2, r3⟩ := sm_neg (sc := sc) (d := d) (K := K) q1 (by simp; omega)
  have he := fun (Q : Option Value → am_H → Prop) => sm_emit (sc := sc) (d := d + 1) (K := K) (Q := Q) (G := xp G 33 4 (xg G 33 8)) (k := k) (v := v) (by rw [p1.2.1]; omega) (by rw [p1.2.1]; omega)
  have r4 := mF3_tr q2 r3
  refine ⟨G', fun Q => ?_, r2, mFr_tr (mFr_f mFr_rfl (by omega)) r4.1, ?_, ?_, ?_⟩
  · rw [em_operand]
    simp (contextual := true) (disch := first | assumption | exact xin_g _ _ _ | exact xin_ar _ | exact xin_sc _ _ | exact xin_cmp | exact xin_and | exact xin_or | exact xinl_g _ _ _ | omega | exact xin_mk (by omega) (by omega) | exact xinl_mk (by omega) (by omega) | exact xbo_0 | exact xbo_1 | exact xin_sl | exact xin_fa | exact xbo_ad | exact xin_bo xbo_ad | exact xin_mb | exact xin_A | exact xin_op | ((repeat refine gN_q ?_ (by omega) (by omega)); assumption)) only [rm_operand_0, rm_operand_1, rm_operand_2, rm_operand_5, rm_operand_8, rm_operand_9, rm_operand_10, rm_operand_11, rm_operand_14, rm_operand_15, rm_operand_18, ↓he, ↓r1, xg_cell, Option.toList_some, Option.toList_none, List.singleton_append, List.append_nil, List.nil_append, List.cons_append, false_and, if_false, if_true, Int.reduceAdd, Int.reduceSub, Int.reduceMul, Int.reduceNeg, Int.reduceLE, Int.reduceLT, Int.reduceEq, false_implies, true_implies, not_true_eq_false, not_false_eq_true, and_true, true_and, xar_0, xar_1, xar_2, xar_3, xar_4, xar_5, xar_6, xar_7, xar_8, xar_9, xar_10, xar_11, xar_12]
  · rw [r4.2.1, xg_idx (by omega) (by omega) (by omega)]
  · rw [r4.2.2.1, xg_idx (by omega) (by omega) (by omega)]
  · rw [r4.2.2.2, xg_self (xin_g _ _ _)]; exact h2
theorem lm_unw {b : Int} (all : Bool) (hb : b = if all = true then 1 else 0) : ∀ (T O : pL) (G : xG), mPo G T O → T.length + O.length ≤ 20 → ∃ G' : xG, (∀ Q : Option Value → am_H → Prop, xw sc (d + 1) Mm_unwind cm_unwind_0 [some (.ref 33), some (xI b)] [] (xH G K) Q ↔ Q none (xH G' K)) ∧ mPo G' (runw all T O).1 (runw all T O).2 ∧ mF3 G G'
  | [], O, G, h, hl => by
    have h1 : xg G 33 5 ≤ 0 := by have := h.1; simp at this; omega
    refine ⟨G, fun Q => ?_, h, mF3_rfl⟩
    rw [rm_unwind_0]
    simp (contextual := true) (disch := first | assumption | exact xin_g _ _ _ | exact xin_ar _ | exact xin_sc _ _ | exact xin_cmp | exact xin_and | exact xin_or | exact xinl_g _ _ _ | omega | exact xin_mk (by omega) (by omega) | exact xinl_mk (by omega) (by omega) | exact xbo_0 | exact xbo_1 | exact xin_sl | exact xin_fa | exact xbo_ad | exact xin_bo xbo_ad | exact xin_mb | exact xin_A | exact xin_op | ((repeat refine gN_q ?_ (by omega) (by omega)); assumption)) only [rm_unwind_1, rm_unwind_4, rm_unwind_7, rm_unwind_8, rm_unwind_11, rm_unwind_12, rm_unwind_15, rm_unwind_16, rm_unwind_17, rm_unwind_18, rm_unwind_20, rm_unwind_23, rm_unwind_24, rm_unwind_27, rm_unwind_28, rm_unwind_31, rm_unwind_32, rm_unwind_35, rm_unwind_36, rm_unwind_37, rm_unwind_38, rm_unwind_40, rm_unwind_43, rm_unwind_44, rm_unwind_47, rm_unwind_48, rm_unwind_51, rm_unwind_52, rm_unwind_53, rm_unwind_54, rm_unwind_56, rm_unwind_59, rm_unwind_60, rm_unwind_61, rm_unwind_64, rm_unwind_65, rm_unwind_66, rm_unwind_69, rm_unwind_70, rm_unwind_71, rm_unwind_74, rm_unwind_75, rm_unwind_78, rm_unwind_79, rm_unwind_81, rm_unwind_84, rm_unwind_86, rm_unwind_89, rm_unwind_90, rm_unwind_93, rm_unwind_94, rm_unwind_97, rm_unwind_98, rm_unwind_100, rm_unwind_103, rm_unwind_104, rm_unwind_107, rm_unwind_108, rm_unwind_109, rm_unwind_112, rm_unwind_115, xg_cell, Option.toList_some, Option.toList_none, List.singleton_append, List.append_nil, List.nil_append, List.cons_append, false_and, if_false, if_true, Int.reduceAdd, Int.reduceSub, Int.reduceMul, Int.reduceNeg, Int.reduceLE, Int.reduceLT, Int.reduceEq, false_implies, true_implies, not_true_eq_false, not_false_eq_true, and_true, true_and, xar_0, xar_1, xar_2, xar_3, xar_4, xar_5, xar_6, xar_7, xar_8, xar_9, xar_10, xar_11, xar_12, h1]
  | t :: T, O, G, h, hl => by
    simp only [List.length_cons] at hl
    obtain ⟨t1, t2, t3, t4, t5, t6⟩ := mPo_top h
    have h1 : ¬ xg G 33 5 ≤ 0 := by omega
    have tx : xin t.1 := by rw [← t1]; exact xin_g _ _ _
    have hxb : xin b := by subst hb; split <;> exact ⟨by decide, by decide⟩
    by_cases ht : t.1 = 42 ∨ (all = true ∧ (t.1 = 43 ∨ t.1 = 45))
    · obtain ⟨p1, p2⟩ := mPo_pop h (by omega)
      obtain ⟨q1, q2⟩ := mEm_ok (k := if t.1 = 42 then 6 else if t.1 = 43 then 3 else 4) (v := 0) p1 (by split <;> (try split) <;> exact ⟨by decide, by decide⟩) xin_0 (by omega)
      obtain ⟨G', r1, r2, r3⟩ := lm_unw all hb T (O ++ [(if t.1 = 42 then 6 else if t.1 = 43 then 3 else 4, 0)]) _ q1 (by simp; omega)
      have e1 : runw all (t :: T) O = runw all T (O ++ [(if t.1 = 42 then 6 else if t.1 = 43 then 3 else 4, 0)]) := by simp only [runw]; rw [if_pos ht]
      rw [e1]
      refine ⟨G', fun Q => ?_, r2, mF3_tr p2 (mF3_tr q2 r3)⟩
      have he := fun (k : Int) (Q : Option Value → am_H → Prop) => sm_emit (sc := sc) (d := d) (K := K) (Q := Q) (G := xp G 33 5 (xg G 33 5 - 1)) (k := k) (v := 0) (by rw [p1.2.1]; omega) (by rw [p1.2.1]; omega)
      have e5 : xg (xp G 33 5 (xg G 33 5 - 1)) 33 5 = xg G 33 5 - 1 := xg_self ⟨by omega, by omega⟩
      rw [rm_unwind_0]
      rcases ht with ht | ⟨ha, ht | ht⟩
      · simp only [ht, if_true] at r1
        simp (contextual := true) (disch := first | assumption | exact xin_g _ _ _ | exact xin_ar _ | exact xin_sc _ _ | exact xin_cmp | exact xin_and | exact xin_or | exact xinl_g _ _ _ | omega | exact xin_mk (by omega) (by omega) | exact xinl_mk (by omega) (by omega) | exact xbo_0 | exact xbo_1 | exact xin_sl | exact xin_fa | exact xbo_ad | exact xin_bo xbo_ad | exact xin_mb | exact xin_A | exact xin_op | ((repeat refine gN_q ?_ (by omega) (by omega)); assumption)) only [rm_unwind_1, rm_unwind_4, rm_unwind_7, rm_unwind_8, rm_unwind_11, rm_unwind_12, rm_unwind_15, rm_unwind_16, rm_unwind_17, rm_unwind_18, rm_unwind_20, rm_unwind_23, rm_unwind_24, rm_unwind_27, rm_unwind_28, rm_unwind_31, rm_unwind_32, rm_unwind_35, rm_unwind_36, rm_unwind_37, rm_unwind_38, rm_unwind_40, rm_unwind_43, rm_unwind_44, rm_unwind_47, rm_unwind_48, rm_unwind_51, rm_unwind_52, rm_unwind_53, rm_unwind_54, rm_unwind_56, rm_unwind_59, rm_unwind_60, rm_unwind_61, rm_unwind_64, rm_unwind_65, rm_unwind_66, rm_unwind_69, rm_unwind_70, rm_unwind_71, rm_unwind_74, rm_unwind_75, rm_unwind_78, rm_unwind_79, rm_unwind_81, rm_unwind_84, rm_unwind_86, rm_unwind_89, rm_unwind_90, rm_unwind_93, rm_unwind_94, rm_unwind_97, rm_unwind_98, rm_unwind_100, rm_unwind_103, rm_unwind_104, rm_unwind_107, rm_unwind_108, rm_unwind_109, rm_unwind_112, rm_unwind_115, ↓he, ↓r1, xg_cell, Option.toList_some, Option.toList_none, List.singleton_append, List.append_nil, List.nil_append, List.cons_append, false_and, if_false, if_true, Int.reduceAdd, Int.reduceSub, Int.reduceMul, Int.reduceNeg, Int.reduceLE, Int.reduceLT, Int.reduceEq, false_implies, true_implies, not_true_eq_false, not_false_eq_true, and_true, true_and, xar_0, xar_1, xar_2, xar_3, xar_4, xar_5, xar_6, xar_7, xar_8, xar_9, xar_10, xar_11, xar_12, h1, t1, ht, e5]
      · subst ha
        simp only [if_true] at hb
        subst hb
        simp only [ht, if_true, Int.reduceEq, if_false] at r1
        simp (contextual := true) (disch := first | assumption | exact xin_g _ _ _ | exact xin_ar _ | exact xin_sc _ _ | exact xin_cmp | exact xin_and | exact xin_or | exact xinl_g _ _ _ | omega | exact xin_mk (by omega) (by omega) | exact xinl_mk (by omega) (by omega) | exact xbo_0 | exact xbo_1 | exact xin_sl | exact xin_fa | exact xbo_ad | exact xin_bo xbo_ad | exact xin_mb | exact xin_A | exact xin_op | ((repeat refine gN_q ?_ (by omega) (by omega)); assumption)) only [rm_unwind_1, rm_unwind_4, rm_unwind_7, rm_unwind_8, rm_unwind_11, rm_unwind_12, rm_unwind_15, rm_unwind_16, rm_unwind_17, rm_unwind_18, rm_unwind_20, rm_unwind_23, rm_unwind_24, rm_unwind_27, rm_unwind_28, rm_unwind_31, rm_unwind_32, rm_unwind_35, rm_unwind_36, rm_unwind_37, rm_unwind_38, rm_unwind_40, rm_unwind_43, rm_unwind_44, rm_unwind_47, rm_unwind_48, rm_unwind_51, rm_unwind_52, rm_unwind_53, rm_unwind_54, rm_unwind_56, rm_unwind_59, rm_unwind_60, rm_unwind_61, rm_unwind_64, rm_unwind_65, rm_unwind_66, rm_unwind_69, rm_unwind_70, rm_unwind_71, rm_unwind_74, rm_unwind_75, rm_unwind_78, rm_unwind_79, rm_unwind_81, rm_unwind_84, rm_unwind_86, rm_unwind_89, rm_unwind_90, rm_unwind_93, rm_unwind_94, rm_unwind_97, rm_unwind_98, rm_unwind_100, rm_unwind_103, rm_unwind_104, rm_unwind_107, rm_unwind_108, rm_unwind_109, rm_unwind_112, rm_unwind_115, ↓he, ↓r1, xg_cell, Option.toList_some, Option.toList_none, List.singleton_append, List.append_nil, List.nil_append, List.cons_append, false_and, if_false, if_true, Int.reduceAdd, Int.reduceSub, Int.reduceMul, Int.reduceNeg, Int.reduceLE, Int.reduceLT, Int.reduceEq, false_implies, true_implies, not_true_eq_false, not_false_eq_true, and_true, true_and, xar_0, xar_1, xar_2, xar_3, xar_4, xar_5, xar_6, xar_7, xar_8, xar_9, xar_10, xar_11, xar_12, h1, t1, ht, e5]
      · subst ha
        simp only [if_true] at hb
        subst hb
        simp only [ht, if_true, Int.reduceEq, if_false] at r1
        simp (contextual := true) (disch := first | assumption | exact xin_g _ _ _ | exact xin_ar _ | exact xin_sc _ _ | exact xin_cmp | exact xin_and | exact xin_or | exact xinl_g _ _ _ | omega | exact xin_mk (by omega) (by omega) | exact xinl_mk (by omega) (by omega) | exact xbo_0 | exact xbo_1 | exact xin_sl | exact xin_fa | exact xbo_ad | exact xin_bo xbo_ad | exact xin_mb | exact xin_A | exact xin_op | ((repeat refine gN_q ?_ (by omega) (by omega)); assumption)) only [rm_unwind_1, rm_unwind_4, rm_unwind_7, rm_unwind_8, rm_unwind_11, rm_unwind_12, rm_unwind_15, rm_unwind_16, rm_unwind_17, rm_unwind_18, rm_unwind_20, rm_unwind_23, rm_unwind_24, rm_unwind_27, rm_unwind_28, rm_unwind_31, rm_unwind_32, rm_unwind_35, rm_unwind_36, rm_unwind_37, rm_unwind_38, rm_unwind_40, rm_unwind_43, rm_unwind_44, rm_unwind_47, rm_unwind_48, rm_unwind_51, rm_unwind_52, rm_unwind_53, rm_unwind_54, rm_unwind_56, rm_unwind_59, rm_unwind_60, rm_unwind_61, rm_unwind_64, rm_unwind_65, rm_unwind_66, rm_unwind_69, rm_unwind_70, rm_unwind_71, rm_unwind_74, rm_unwind_75, rm_unwind_78, rm_unwind_79, rm_unwind_81, rm_unwind_84, rm_unwind_86, rm_unwind_89, rm_unwind_90, rm_unwind_93, rm_unwind_94, rm_unwind_97, rm_unwind_98, rm_unwind_100, rm_unwind_103, rm_unwind_104, rm_unwind_107, rm_unwind_108, rm_unwind_109, rm_unwind_112, rm_unwind_115, ↓he, ↓r1, xg_cell, Option.toList_some, Option.toList_none, List.singleton_append, List.append_nil, List.nil_append, List.cons_append, false_and, if_false, if_true, Int.reduceAdd, Int.reduceSub, Int.reduceMul, Int.reduceNeg, Int.reduceLE, Int.reduceLT, Int.reduceEq, false_implies, true_implies, not_true_eq_false, not_false_eq_true, and_true, true_and, xar_0, xar_1, xar_2, xar_3, xar_4, xar_5, xar_6, xar_7, xar_8, xar_9, xar_10, xar_11, xar_12, h1, t1, ht, e5]
    · have e1 : runw all (t :: T) O = (t :: T, O) := by simp only [runw]; rw [if_neg ht]
      rw [e1]
      refine ⟨G, fun Q => ?_, h, mF3_rfl⟩
      rw [rm_unwind_0]
      have n1 : ¬ t.1 = 42 := fun q => ht (Or.inl q)
      cases all with
      | false =>
        simp only [Bool.false_eq_true, if_false] at hb
        subst hb
        simp (contextual := true) (disch := first | assumption | exact xin_g _ _ _ | exact xin_ar _ | exact xin_sc _ _ | exact xin_cmp | exact xin_and | exact xin_or | exact xinl_g _ _ _ | omega | exact xin_mk (by omega) (by omega) | exact xinl_mk (by omega) (by omega) | exact xbo_0 | exact xbo_1 | exact xin_sl | exact xin_fa | exact xbo_ad | exact xin_bo xbo_ad | exact xin_mb | exact xin_A | exact xin_op | ((repeat refine gN_q ?_ (by omega) (by omega)); assumption)) only [rm_unwind_1, rm_unwind_4, rm_unwind_7, rm_unwind_8, rm_unwind_11, rm_unwind_12, rm_unwind_15, rm_unwind_16, rm_unwind_17, rm_unwind_18, rm_unwind_20, rm_unwind_23, rm_unwind_24, rm_unwind_27, rm_unwind_28, rm_unwind_31, rm_unwind_32, rm_unwind_35, rm_unwind_36, rm_unwind_37, rm_unwind_38, rm_unwind_40, rm_unwind_43, rm_unwind_44, rm_unwind_47, rm_unwind_48, rm_unwind_51, rm_unwind_52, rm_unwind_53, rm_unwind_54, rm_unwind_56, rm_unwind_59, rm_unwind_60, rm_unwind_61, rm_unwind_64, rm_unwind_65, rm_unwind_66, rm_unwind_69, rm_unwind_70, rm_unwind_71, rm_unwind_74, rm_unwind_75, rm_unwind_78, rm_unwind_79, rm_unwind_81, rm_unwind_84, rm_unwind_86, rm_unwind_89, rm_unwind_90, rm_unwind_93, rm_unwind_94, rm_unwind_97, rm_unwind_98, rm_unwind_100, rm_unwind_103, rm_unwind_104, rm_unwind_107, rm_unwind_108, rm_unwind_109, rm_unwind_112, rm_unwind_115, xg_cell, Option.toList_some, Option.toList_none, List.singleton_append, List.append_nil, List.nil_append, List.cons_append, false_and, if_false, if_true, Int.reduceAdd, Int.reduceSub, Int.reduceMul, Int.reduceNeg, Int.reduceLE, Int.reduceLT, Int.reduceEq, false_implies, true_implies, not_true_eq_false, not_false_eq_true, and_true, true_and, xar_0, xar_1, xar_2, xar_3, xar_4, xar_5, xar_6, xar_7, xar_8, xar_9, xar_10, xar_11, xar_12, h1, t1, n1]
      | true =>
        have n2 : ¬ t.1 = 43 := fun q => ht (Or.inr ⟨rfl, Or.inl q⟩)
        have n3 : ¬ t.1 = 45 := fun q => ht (Or.inr ⟨rfl, Or.inr q⟩)
        simp only [if_true] at hb
        subst hb
        simp (contextual := true) (disch := first | assumption | exact xin_g _ _ _ | exact xin_ar _ | exact xin_sc _ _ | exact xin_cmp | exact xin_and | exact xin_or | exact xinl_g _ _ _ | omega | exact xin_mk (by omega) (by omega) | exact xinl_mk (by omega) (by omega) | exact xbo_0 | exact xbo_1 | exact xin_sl | exact xin_fa | exact xbo_ad | exact xin_bo xbo_ad | exact xin_mb | exact xin_A | exact xin_op | ((repeat refine gN_q ?_ (by omega) (by omega)); assumption)) only [rm_unwind_1, rm_unwind_4, rm_unwind_7, rm_unwind_8, rm_unwind_11, rm_unwind_12, rm_unwind_15, rm_unwind_16, rm_unwind_17, rm_unwind_18, rm_unwind_20, rm_unwind_23, rm_unwind_24, rm_unwind_27, rm_unwind_28, rm_unwind_31, rm_unwind_32, rm_unwind_35, rm_unwind_36, rm_unwind_37, rm_unwind_38, rm_unwind_40, rm_unwind_43, rm_unwind_44, rm_unwind_47, rm_unwind_48, rm_unwind_51, rm_unwind_52, rm_unwind_53, rm_unwind_54, rm_unwind_56, rm_unwind_59, rm_unwind_60, rm_unwind_61, rm_unwind_64, rm_unwind_65, rm_unwind_66, rm_unwind_69, rm_unwind_70, rm_unwind_71, rm_unwind_74, rm_unwind_75, rm_unwind_78, rm_unwind_79, rm_unwind_81, rm_unwind_84, rm_unwind_86, rm_unwind_89, rm_unwind_90, rm_unwind_93, rm_unwind_94, rm_unwind_97, rm_unwind_98, rm_unwind_100, rm_unwind_103, rm_unwind_104, rm_unwind_107, rm_unwind_108, rm_unwind_109, rm_unwind_112, rm_unwind_115, xg_cell, Option.toList_some, Option.toList_none, List.singleton_append, List.append_nil, List.nil_append, List.cons_append, false_and, if_false, if_true, Int.reduceAdd, Int.reduceSub, Int.reduceMul, Int.reduceNeg, Int.reduceLE, Int.reduceLT, Int.reduceEq, false_implies, true_implies, not_true_eq_false, not_false_eq_true, and_true, true_and, xar_0, xar_1, xar_2, xar_3, xar_4, xar_5, xar_6, xar_7, xar_8, xar_9, xar_10, xar_11, xar_12, h1, t1, n1, n2, n3]
theorem sm_unw {T O : pL} {G : xG} {b : Int} (all : Bool) (hb : b = if all = true then 1 else 0) (h : mPo G T O) (hl : T.length + O.length ≤ 20) : ∃ G' : xG, (∀ Q : Option Value → am_H → Prop, xc sc (d + 1) Mm_unwind [.ref 33, xI b] (xH G K) Q ↔ Q none (xH G' K)) ∧ mPo G' (runw all T O).1 (runw all T O).2 ∧ mF3 G G' := by
  obtain ⟨G', r1, r2⟩ := lm_unw (sc := sc) (d := d) (K := K) all hb T O G h hl
  exact ⟨G', fun Q => em_unwind.trans (r1 Q), r2⟩
def mOn (G : xG) (c : Int) : xG := xp (xp (xp G 35 (xg G 33 5) c) 36 (xg G 33 5) 0) 33 5 (xg G 33 5 + 1)
theorem sm_open {c : Int} (h0 : 0 ≤ xg G 33 5) (h1 : xg G 33 5 < 20) : xc sc d Mm_open [.ref 33, xI c] (xH G K) Q ↔ Q none (xH (mOn G c) K) := by
  rw [em_open]
  simp (contextual := true) (disch := first | assumption | exact xin_g _ _ _ | exact xin_ar _ | exact xin_sc _ _ | exact xin_cmp | exact xin_and | exact xin_or | exact xinl_g _ _ _ | omega | exact xin_mk (by omega) (by omega) | exact xinl_mk (by omega) (by omega) | exact xbo_0 | exact xbo_1 | exact xin_sl | exact xin_fa | exact xbo_ad | exact xin_bo xbo_ad | exact xin_mb | exact xin_A | exact xin_op | ((repeat refine gN_q ?_ (by omega) (by omega)); assumption)) only [rm_open_0, rm_open_1, rm_open_4, rm_open_5, rm_open_8, rm_open_9, rm_open_10, rm_open_11, rm_open_14, rm_open_15, rm_open_18, rm_open_19, rm_open_20, rm_open_21, rm_open_22, rm_open_25, rm_open_26, rm_open_27, rm_open_30, xg_cell, Option.toList_some, Option.toList_none, List.singleton_append, List.append_nil, List.nil_append, List.cons_append, mOn]
theorem mOn_ok {T O : pL} {c : Int} (h : mPo G T O) (hc : xin c) (hl : T.length < 20) : mPo (mOn G c) ((c, 0) :: T) O ∧ mF3 G (mOn G c) := by
  obtain ⟨h1, h2, h3, h4⟩ := h
  unfold mOn
  refine ⟨⟨?_, ?_, ?_, ?_⟩, ?_⟩
  · rw [xg_self ⟨by omega, by omega⟩, h1]; simp
  · rw [xg_idx (by omega) (by omega) (by omega), xg_cell (by decide), xg_cell (by decide)]; exact h2
  · refine mTp_c (by decide) (by decide) _ ⟨?_, ?_, Int.le_refl _, by show (0 : Int) ≤ _; omega, ?_⟩
    · rw [xg_cell (by decide), h1, xg_self hc]
    · rw [h1, xg_self xin_0]
    · exact mTp_i _ (by omega) (mTp_i _ (by omega) h3)
  · exact mOp_c (by decide) (by decide) (mOp_c (by decide) (by decide) (mOp_c (by decide) (by decide) h4))
  · exact mF3_f (mF3_c (mF3_c mF3_rfl (by omega)) (by omega)) (by omega)
end SP
