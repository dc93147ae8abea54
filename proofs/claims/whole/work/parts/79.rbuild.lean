/-! the reference's build -/
def mSk (G : xG) : List Int → Prop
  | [] => True
  | v :: st => xg G 39 (st.length : Int) = v ∧ mSk G st
theorem mSk_at {G : xG} : ∀ (st : List Int) (j : Nat), mSk G st → j < st.length → xg G 39 ((st.length : Int) - 1 - j) = st.getD j (-1)
  | [], j, h, hj => absurd hj (Nat.not_lt_zero _)
  | v :: st, 0, h, hj => by
    simp only [List.length_cons, Int.natCast_add, Int.cast_ofNat_Int, List.getD_cons_zero]
    rw [show (st.length : Int) + 1 - 1 - 0 = (st.length : Int) by omega]
    exact h.1
  | v :: st, j + 1, h, hj => by
    simp only [List.length_cons] at hj
    simp only [List.length_cons, Int.natCast_add, Int.cast_ofNat_Int, List.getD_cons_succ]
    rw [show (st.length : Int) + 1 - 1 - (j + 1) = (st.length : Int) - 1 - j by omega]
    exact mSk_at st j h.2 (by omega)
theorem mSk_drop {G : xG} : ∀ (n : Nat) (st : List Int), mSk G st → mSk G (st.drop n)
  | 0, st, h => h
  | n + 1, [], h => by simpa using h
  | n + 1, v :: st, h => mSk_drop n st h.2
theorem mSk_e {G G' : xG} : ∀ (st : List Int), (∀ j, 0 ≤ j → j < (st.length : Int) → xg G' 39 j = xg G 39 j) → mSk G st → mSk G' st
  | [], _, _ => trivial
  | v :: st, he, h => by
    simp only [List.length_cons, Int.natCast_add, Int.cast_ofNat_Int] at he
    exact ⟨(he _ (by omega) (by omega)).trans h.1, mSk_e st (fun j h0 h1 => he j h0 (by omega)) h.2⟩
/-- an argument off the reference's stack -/
theorem mArg {G : xG} {st : List Int} {k i : Int} (h : mSk G st) (k0 : 0 ≤ k) (k1 : k ≤ 12) (hp : par k ≤ st.length) (hi : 0 ≤ i) (hc : i < xar k) : xg G 39 ((st.length : Int) - xar k + i) = aArg st k i := by
  have e := par_xar k0 k1
  unfold aArg
  rw [if_pos hc]
  have := mSk_at st (xar k - 1 - i).toNat h (by omega)
  rw [show (st.length : Int) - 1 - ((xar k - 1 - i).toNat : Int) = (st.length : Int) - xar k + i by omega] at this
  exact this
theorem mRep_c {G : xG} {K : xK} {A : aG} {a : Nat} {i x : Int} (h : mRep G K A) (ha : ¬ a = 33) (hb : ¬ (40 ≤ a ∧ a ≤ 42)) : mRep (xp G a i x) K A := by
  refine ⟨by rw [xg_cell (by omega)]; exact h.1, fun j h0 h1 => ?_⟩
  rw [xg_cell (by omega), xg_cell (by omega), xg_cell (by omega), xg_cell (by omega), xg_cell (by omega)]
  exact h.2 j h0 h1
theorem mGv_c {G G' : xG} {n m : Int} {a : Nat} {i x : Int} (h : mGv G G' n m) (ha : ¬ a = 44) (hb : ¬ a = 58) : mGv G (xp G' a i x) n m := by
  refine ⟨fun j h0 h1 => ?_, fun j h0 h1 h2 => ?_⟩
  · rw [xg_cell (by omega), xg_cell (by omega)]; exact h.1 j h0 h1
  · rw [xg_cell (by omega), xg_cell (by omega)]; exact h.2 j h0 h1 h2
section SP
variable {sc : Nat × (Nat → Int32)} {d : Nat} {Q : Option Value → am_H → Prop} {G : xG} {K : xK} {h : am_H}
/-- a step: from the loop's head to its test -/
theorem lm_bstep {A : aG} {st : List Int} {bf i : Int} {q : Int × Int} {u9 : Option Value} (hR : mRep G K A) (hA : aOk A) (hs : aSo st A.1) (hk : mSk G st) (hl : st.length ≤ 20) (hq : pGq q) (hp : par q.1 ≤ st.length) (hb0 : 0 ≤ bf) (hb : bf ≤ A.1) (i0 : 0 ≤ i) (hi : i < xg G 33 8) (hi2 : xg G 33 8 ≤ 20) (q6 : xg G 37 i = q.1) (q7 : xg G 38 i = q.2) : ∃ (G' : xG) (K' : xK), (∀ Q : Option Value → am_H → Prop, xw sc (d + 2) Mm_build cm_build_4 [some (.ref 33), some (xI bf), some (xI (st.length : Int)), some (xI i), none, none, none, none, none, u9] [] (xH G K) Q ↔ xw sc (d + 2) Mm_build cm_build_156 [some (.ref 33), some (xI bf), some (xI ((st.drop (par q.1)).length : Int)), some (xI i), none, none, none, none, none, some (xI (aStp A st bf q.1 q.2).1)] [] (xH G' K') Q) ∧ mRep G' K' (aStp A st bf q.1 q.2).2 ∧ mFb G G' ∧ mFk K K' ∧ mGv G G' A.1 (aStp A st bf q.1 q.2).2.1 ∧ ∀ j, xg G' 39 j = xg G 39 j := by
  obtain ⟨q0, q1, q2, q3⟩ := hq
  have e := par_xar q0 q1
  have e3 := par_3 (k := q.1)
  have hdl : ((st.drop (par q.1)).length : Int) = (st.length : Int) - xar q.1 := by rw [List.length_drop, e]; omega
  have hge : ¬ xg G 33 8 ≤ i := by omega
  have hxi : xin i := ⟨by omega, by omega⟩
  have hqx : xin q.1 := ⟨by omega, by omega⟩
  have hqx2 : xin q.2 := ⟨by omega, by omega⟩
  have hbx : xin bf := ⟨by omega, by have := hA.2.1; omega⟩
  have har := fun (Q : Option Value → am_H → Prop) => sm_arity (sc := sc) (d := d + 1) (h := xH G K) (Q := Q) q0 q1
  have m0 := mArg (i := 0) hk q0 q1 hp (by decide)
  have m1 := mArg (i := 1) hk q0 q1 hp (by decide)
  have m2 := mArg (i := 2) hk q0 q1 hp (by decide)
  rw [hdl]
  by_cases k12 : q.1 = 12
  · have e1 : aStp A st bf q.1 q.2 = (if q.2 < bf then q.2 else -100, A) := by unfold aStp; rw [if_pos k12]
    rw [e1]
    refine ⟨G, K, fun Q => ?_, hR, mFb_rfl, mFk_rfl, mGv_rfl, fun _ => rfl⟩
    rw [rm_build_4]
    rw [k12] at q6 har ⊢
    by_cases hv : q.2 < bf
    · rw [if_pos hv]
      have hv' : ¬ bf ≤ q.2 := by omega
      simp (contextual := true) (disch := first | assumption | exact xin_g _ _ _ | exact xin_ar _ | exact xin_sc _ _ | exact xin_cmp | exact xin_and | exact xin_or | exact xinl_g _ _ _ | omega | exact xin_mk (by omega) (by omega) | exact xinl_mk (by omega) (by omega) | exact xbo_0 | exact xbo_1 | exact xin_sl | exact xin_fa | exact xbo_ad | exact xin_bo xbo_ad | exact xin_mb | exact xin_A | exact xin_op | ((repeat refine gN_q ?_ (by omega) (by omega)); assumption)) only [rm_build_5, rm_build_6, rm_build_9, rm_build_12, rm_build_13, rm_build_16, rm_build_17, rm_build_18, rm_build_21, rm_build_23, rm_build_24, rm_build_26, rm_build_27, rm_build_28, rm_build_30, rm_build_33, rm_build_34, rm_build_37, rm_build_38, rm_build_39, rm_build_42, rm_build_43, rm_build_45, rm_build_47, rm_build_48, rm_build_51, rm_build_52, rm_build_55, rm_build_56, rm_build_57, rm_build_58, rm_build_59, rm_build_62, rm_build_63, rm_build_65, rm_build_67, rm_build_68, rm_build_71, rm_build_72, rm_build_75, rm_build_76, rm_build_77, rm_build_78, rm_build_79, rm_build_82, rm_build_83, rm_build_85, rm_build_86, rm_build_89, rm_build_90, rm_build_91, rm_build_93, rm_build_96, rm_build_97, rm_build_100, rm_build_101, rm_build_103, rm_build_105, rm_build_108, rm_build_109, rm_build_112, rm_build_113, rm_build_114, rm_build_115, rm_build_118, rm_build_119, rm_build_122, rm_build_123, rm_build_124, rm_build_127, rm_build_129, rm_build_132, rm_build_133, rm_build_134, rm_build_137, rm_build_138, rm_build_139, rm_build_140, rm_build_143, rm_build_144, rm_build_145, rm_build_147, rm_build_149, rm_build_151, rm_build_154, ↓har, xg_cell, Option.toList_some, Option.toList_none, List.singleton_append, List.append_nil, List.nil_append, List.cons_append, false_and, if_false, if_true, Int.reduceAdd, Int.reduceSub, Int.reduceMul, Int.reduceNeg, Int.reduceLE, Int.reduceLT, Int.reduceEq, false_implies, true_implies, not_true_eq_false, not_false_eq_true, and_true, true_and, xar_0, xar_1, xar_2, xar_3, xar_4, xar_5, xar_6, xar_7, xar_8, xar_9, xar_10, xar_11, xar_12, hge, q6, q7, hv']
    · rw [if_neg hv]
      have hv' : bf ≤ q.2 := by omega
      simp (contextual := true) (disch := first | assumption | exact xin_g _ _ _ | exact xin_ar _ | exact xin_sc _ _ | exact xin_cmp | exact xin_and | exact xin_or | exact xinl_g _ _ _ | omega | exact xin_mk (by omega) (by omega) | exact xinl_mk (by omega) (by omega) | exact xbo_0 | exact xbo_1 | exact xin_sl | exact xin_fa | exact xbo_ad | exact xin_bo xbo_ad | exact xin_mb | exact xin_A | exact xin_op | ((repeat refine gN_q ?_ (by omega) (by omega)); assumption)) only [rm_build_5, rm_build_6, rm_build_9, rm_build_12, rm_build_13, rm_build_16, rm_build_17, rm_build_18, rm_build_21, rm_build_23, rm_build_24, rm_build_26, rm_build_27, rm_build_28, rm_build_30, rm_build_33, rm_build_34, rm_build_37, rm_build_38, rm_build_39, rm_build_42, rm_build_43, rm_build_45, rm_build_47, rm_build_48, rm_build_51, rm_build_52, rm_build_55, rm_build_56, rm_build_57, rm_build_58, rm_build_59, rm_build_62, rm_build_63, rm_build_65, rm_build_67, rm_build_68, rm_build_71, rm_build_72, rm_build_75, rm_build_76, rm_build_77, rm_build_78, rm_build_79, rm_build_82, rm_build_83, rm_build_85, rm_build_86, rm_build_89, rm_build_90, rm_build_91, rm_build_93, rm_build_96, rm_build_97, rm_build_100, rm_build_101, rm_build_103, rm_build_105, rm_build_108, rm_build_109, rm_build_112, rm_build_113, rm_build_114, rm_build_115, rm_build_118, rm_build_119, rm_build_122, rm_build_123, rm_build_124, rm_build_127, rm_build_129, rm_build_132, rm_build_133, rm_build_134, rm_build_137, rm_build_138, rm_build_139, rm_build_140, rm_build_143, rm_build_144, rm_build_145, rm_build_147, rm_build_149, rm_build_151, rm_build_154, ↓har, xg_cell, Option.toList_some, Option.toList_none, List.singleton_append, List.append_nil, List.nil_append, List.cons_append, false_and, if_false, if_true, Int.reduceAdd, Int.reduceSub, Int.reduceMul, Int.reduceNeg, Int.reduceLE, Int.reduceLT, Int.reduceEq, false_implies, true_implies, not_true_eq_false, not_false_eq_true, and_true, true_and, xar_0, xar_1, xar_2, xar_3, xar_4, xar_5, xar_6, xar_7, xar_8, xar_9, xar_10, xar_11, xar_12, hge, q6, q7, hv']
  · have hO := aArg_ok hs q0 q1 hp
    have e1 : aStp A st bf q.1 q.2 = aMk A q.1 q.2 (aArg st q.1 0) (aArg st q.1 1) (aArg st q.1 2) := by unfold aStp; rw [if_neg k12]
    rw [e1]
    obtain ⟨G', K', r1, r2, r3, r4, r5, r6⟩ := sm_make (sc := sc) (d := d) hR hA q0 (show q.1 ≤ 11 by omega) q2 q3 hO
    refine ⟨G', K', fun Q => ?_, r2, r3, r4, r5, r6⟩
    rw [rm_build_4]
    have n0 : ∀ x : Int, x + 0 = x := fun x => by omega
    generalize hL : (st.length : Int) = L at m0 m1 m2 ⊢
    have L0 : 0 ≤ L := by omega
    have L1 : L ≤ 20 := by omega
    have hpL : xar q.1 ≤ L := by omega
    have hxL : xin L := ⟨by omega, by omega⟩
    rcases (show xar q.1 = 0 ∨ xar q.1 = 1 ∨ xar q.1 = 2 ∨ xar q.1 = 3 by omega) with ea | ea | ea | ea
    · have f0 : aArg st q.1 0 = -1 := by unfold aArg; rw [if_neg (by omega)]
      have f1 : aArg st q.1 1 = -1 := by unfold aArg; rw [if_neg (by omega)]
      have f2 : aArg st q.1 2 = -1 := by unfold aArg; rw [if_neg (by omega)]
      rw [f0, f1, f2] at r1
      rw [f0, f1, f2]
      rw [ea] at har ⊢
      simp (contextual := true) (disch := first | assumption | exact xin_g _ _ _ | exact xin_ar _ | exact xin_sc _ _ | exact xin_cmp | exact xin_and | exact xin_or | exact xinl_g _ _ _ | omega | exact xin_mk (by omega) (by omega) | exact xinl_mk (by omega) (by omega) | exact xbo_0 | exact xbo_1 | exact xin_sl | exact xin_fa | exact xbo_ad | exact xin_bo xbo_ad | exact xin_mb | exact xin_A | exact xin_op | ((repeat refine gN_q ?_ (by omega) (by omega)); assumption)) only [rm_build_5, rm_build_6, rm_build_9, rm_build_12, rm_build_13, rm_build_16, rm_build_17, rm_build_18, rm_build_21, rm_build_23, rm_build_24, rm_build_26, rm_build_27, rm_build_28, rm_build_30, rm_build_33, rm_build_34, rm_build_37, rm_build_38, rm_build_39, rm_build_42, rm_build_43, rm_build_45, rm_build_47, rm_build_48, rm_build_51, rm_build_52, rm_build_55, rm_build_56, rm_build_57, rm_build_58, rm_build_59, rm_build_62, rm_build_63, rm_build_65, rm_build_67, rm_build_68, rm_build_71, rm_build_72, rm_build_75, rm_build_76, rm_build_77, rm_build_78, rm_build_79, rm_build_82, rm_build_83, rm_build_85, rm_build_86, rm_build_89, rm_build_90, rm_build_91, rm_build_93, rm_build_96, rm_build_97, rm_build_100, rm_build_101, rm_build_103, rm_build_105, rm_build_108, rm_build_109, rm_build_112, rm_build_113, rm_build_114, rm_build_115, rm_build_118, rm_build_119, rm_build_122, rm_build_123, rm_build_124, rm_build_127, rm_build_129, rm_build_132, rm_build_133, rm_build_134, rm_build_137, rm_build_138, rm_build_139, rm_build_140, rm_build_143, rm_build_144, rm_build_145, rm_build_147, rm_build_149, rm_build_151, rm_build_154, ↓har, ↓r1, xg_cell, Option.toList_some, Option.toList_none, List.singleton_append, List.append_nil, List.nil_append, List.cons_append, false_and, if_false, if_true, Int.reduceAdd, Int.reduceSub, Int.reduceMul, Int.reduceNeg, Int.reduceLE, Int.reduceLT, Int.reduceEq, false_implies, true_implies, not_true_eq_false, not_false_eq_true, and_true, true_and, xar_0, xar_1, xar_2, xar_3, xar_4, xar_5, xar_6, xar_7, xar_8, xar_9, xar_10, xar_11, xar_12, hge, q6, q7, k12]
    · have f1 : aArg st q.1 1 = -1 := by unfold aArg; rw [if_neg (by omega)]
      have f2 : aArg st q.1 2 = -1 := by unfold aArg; rw [if_neg (by omega)]
      have g0 := m0 (by omega)
      rw [n0] at g0
      rw [f1, f2] at r1
      rw [f1, f2]
      rw [ea] at har g0 ⊢
      simp (contextual := true) (disch := first | assumption | exact xin_g _ _ _ | exact xin_ar _ | exact xin_sc _ _ | exact xin_cmp | exact xin_and | exact xin_or | exact xinl_g _ _ _ | omega | exact xin_mk (by omega) (by omega) | exact xinl_mk (by omega) (by omega) | exact xbo_0 | exact xbo_1 | exact xin_sl | exact xin_fa | exact xbo_ad | exact xin_bo xbo_ad | exact xin_mb | exact xin_A | exact xin_op | ((repeat refine gN_q ?_ (by omega) (by omega)); assumption)) only [rm_build_5, rm_build_6, rm_build_9, rm_build_12, rm_build_13, rm_build_16, rm_build_17, rm_build_18, rm_build_21, rm_build_23, rm_build_24, rm_build_26, rm_build_27, rm_build_28, rm_build_30, rm_build_33, rm_build_34, rm_build_37, rm_build_38, rm_build_39, rm_build_42, rm_build_43, rm_build_45, rm_build_47, rm_build_48, rm_build_51, rm_build_52, rm_build_55, rm_build_56, rm_build_57, rm_build_58, rm_build_59, rm_build_62, rm_build_63, rm_build_65, rm_build_67, rm_build_68, rm_build_71, rm_build_72, rm_build_75, rm_build_76, rm_build_77, rm_build_78, rm_build_79, rm_build_82, rm_build_83, rm_build_85, rm_build_86, rm_build_89, rm_build_90, rm_build_91, rm_build_93, rm_build_96, rm_build_97, rm_build_100, rm_build_101, rm_build_103, rm_build_105, rm_build_108, rm_build_109, rm_build_112, rm_build_113, rm_build_114, rm_build_115, rm_build_118, rm_build_119, rm_build_122, rm_build_123, rm_build_124, rm_build_127, rm_build_129, rm_build_132, rm_build_133, rm_build_134, rm_build_137, rm_build_138, rm_build_139, rm_build_140, rm_build_143, rm_build_144, rm_build_145, rm_build_147, rm_build_149, rm_build_151, rm_build_154, ↓har, ↓r1, xg_cell, Option.toList_some, Option.toList_none, List.singleton_append, List.append_nil, List.nil_append, List.cons_append, false_and, if_false, if_true, Int.reduceAdd, Int.reduceSub, Int.reduceMul, Int.reduceNeg, Int.reduceLE, Int.reduceLT, Int.reduceEq, false_implies, true_implies, not_true_eq_false, not_false_eq_true, and_true, true_and, xar_0, xar_1, xar_2, xar_3, xar_4, xar_5, xar_6, xar_7, xar_8, xar_9, xar_10, xar_11, xar_12, hge, q6, q7, k12, g0]
    · have f2 : aArg st q.1 2 = -1 := by unfold aArg; rw [if_neg (by omega)]
      have g0 := m0 (by omega)
      have g1 := m1 (by omega)
      rw [n0] at g0
      rw [f2] at r1
      rw [f2]
      rw [ea] at har g0 g1 ⊢
      simp (contextual := true) (disch := first | assumption | exact xin_g _ _ _ | exact xin_ar _ | exact xin_sc _ _ | exact xin_cmp | exact xin_and | exact xin_or | exact xinl_g _ _ _ | omega | exact xin_mk (by omega) (by omega) | exact xinl_mk (by omega) (by omega) | exact xbo_0 | exact xbo_1 | exact xin_sl | exact xin_fa | exact xbo_ad | exact xin_bo xbo_ad | exact xin_mb | exact xin_A | exact xin_op | ((repeat refine gN_q ?_ (by omega) (by omega)); assumption)) only [rm_build_5, rm_build_6, rm_build_9, rm_build_12, rm_build_13, rm_build_16, rm_build_17, rm_build_18, rm_build_21, rm_build_23, rm_build_24, rm_build_26, rm_build_27, rm_build_28, rm_build_30, rm_build_33, rm_build_34, rm_build_37, rm_build_38, rm_build_39, rm_build_42, rm_build_43, rm_build_45, rm_build_47, rm_build_48, rm_build_51, rm_build_52, rm_build_55, rm_build_56, rm_build_57, rm_build_58, rm_build_59, rm_build_62, rm_build_63, rm_build_65, rm_build_67, rm_build_68, rm_build_71, rm_build_72, rm_build_75, rm_build_76, rm_build_77, rm_build_78, rm_build_79, rm_build_82, rm_build_83, rm_build_85, rm_build_86, rm_build_89, rm_build_90, rm_build_91, rm_build_93, rm_build_96, rm_build_97, rm_build_100, rm_build_101, rm_build_103, rm_build_105, rm_build_108, rm_build_109, rm_build_112, rm_build_113, rm_build_114, rm_build_115, rm_build_118, rm_build_119, rm_build_122, rm_build_123, rm_build_124, rm_build_127, rm_build_129, rm_build_132, rm_build_133, rm_build_134, rm_build_137, rm_build_138, rm_build_139, rm_build_140, rm_build_143, rm_build_144, rm_build_145, rm_build_147, rm_build_149, rm_build_151, rm_build_154, ↓har, ↓r1, xg_cell, Option.toList_some, Option.toList_none, List.singleton_append, List.append_nil, List.nil_append, List.cons_append, false_and, if_false, if_true, Int.reduceAdd, Int.reduceSub, Int.reduceMul, Int.reduceNeg, Int.reduceLE, Int.reduceLT, Int.reduceEq, false_implies, true_implies, not_true_eq_false, not_false_eq_true, and_true, true_and, xar_0, xar_1, xar_2, xar_3, xar_4, xar_5, xar_6, xar_7, xar_8, xar_9, xar_10, xar_11, xar_12, hge, q6, q7, k12, g0, g1]
    · have g0 := m0 (by omega)
      have g1 := m1 (by omega)
      have g2 := m2 (by omega)
      rw [n0] at g0
      rw [ea] at har g0 g1 g2 ⊢
      simp (contextual := true) (disch := first | assumption | exact xin_g _ _ _ | exact xin_ar _ | exact xin_sc _ _ | exact xin_cmp | exact xin_and | exact xin_or | exact xinl_g _ _ _ | omega | exact xin_mk (by omega) (by omega) | exact xinl_mk (by omega) (by omega) | exact xbo_0 | exact xbo_1 | exact xin_sl | exact xin_fa | exact xbo_ad | exact xin_bo xbo_ad | exact xin_mb | exact xin_A | exact xin_op | ((repeat refine gN_q ?_ (by omega) (by omega)); assumption)) only [rm_build_5, rm_build_6, rm_build_9, rm_build_12, rm_build_13, rm_build_16, rm_build_17, rm_build_18, rm_build_21, rm_build_23, rm_build_24, rm_build_26, rm_build_27, rm_build_28, rm_build_30, rm_build_33, rm_build_34, rm_build_37, rm_build_38, rm_build_39, rm_build_42, rm_build_43, rm_build_45, rm_build_47, rm_build_48, rm_build_51, rm_build_52, rm_build_55, rm_build_56, rm_build_57, rm_build_58, rm_build_59, rm_build_62, rm_build_63, rm_build_65, rm_build_67, rm_build_68, rm_build_71, rm_build_72, rm_build_75, rm_build_76, rm_build_77, rm_build_78, rm_build_79, rm_build_82, rm_build_83, rm_build_85, rm_build_86, rm_build_89, rm_build_90, rm_build_91, rm_build_93, rm_build_96, rm_build_97, rm_build_100, rm_build_101, rm_build_103, rm_build_105, rm_build_108, rm_build_109, rm_build_112, rm_build_113, rm_build_114, rm_build_115, rm_build_118, rm_build_119, rm_build_122, rm_build_123, rm_build_124, rm_build_127, rm_build_129, rm_build_132, rm_build_133, rm_build_134, rm_build_137, rm_build_138, rm_build_139, rm_build_140, rm_build_143, rm_build_144, rm_build_145, rm_build_147, rm_build_149, rm_build_151, rm_build_154, ↓har, ↓r1, xg_cell, Option.toList_some, Option.toList_none, List.singleton_append, List.append_nil, List.nil_append, List.cons_append, false_and, if_false, if_true, Int.reduceAdd, Int.reduceSub, Int.reduceMul, Int.reduceNeg, Int.reduceLE, Int.reduceLT, Int.reduceEq, false_implies, true_implies, not_true_eq_false, not_false_eq_true, and_true, true_and, xar_0, xar_1, xar_2, xar_3, xar_4, xar_5, xar_6, xar_7, xar_8, xar_9, xar_10, xar_11, xar_12, hge, q6, q7, k12, g0, g1, g2]
theorem lm_build {bf : Int} (hb0 : 0 ≤ bf) : ∀ (F : pL) (i : Int) (st : List Int) (nd : Int) (G : xG) (K : xK) (A : aG) (u9 : Option Value), mRep G K A → aOk A → aSo st A.1 → mSk G st → st.length + F.length ≤ 20 → pGd F → phg F st.length = some 1 → bf ≤ A.1 → 0 ≤ nd → st.headD nd = nd → 0 ≤ i → i + F.length = xg G 33 8 → xg G 33 8 ≤ 20 → (∀ (j : Nat) (q : Int × Int), F[j]? = some q → xg G 37 (i + j) = q.1 ∧ xg G 38 (i + j) = q.2) → ∃ (G' : xG) (K' : xK), (∀ Q : Option Value → am_H → Prop, xw sc (d + 2) Mm_build cm_build_4 [some (.ref 33), some (xI bf), some (xI (st.length : Int)), some (xI i), none, none, none, none, none, u9] [] (xH G K) Q ↔ Q (some (xI (aBd bf F st nd A).1)) (xH G' K')) ∧ mRep G' K' (aBd bf F st nd A).2 ∧ mFb G G' ∧ mFk K K' ∧ mGv G G' A.1 (aBd bf F st nd A).2.1
  | [], i, st, nd, G, K, A, u9, hR, hA, hs, hk, hl, hg, hph, hb, n0, hnd, i0, hi, hi2, hF => by
    refine ⟨G, K, fun Q => ?_, hR, mFb_rfl, mFk_rfl, mGv_rfl⟩
    simp only [phg, Option.some.injEq] at hph
    simp only [List.length_nil, Int.natCast_zero, Int.add_zero] at hi
    have hge : xg G 33 8 ≤ i := by omega
    have hxi : xin i := ⟨by omega, by omega⟩
    match st, hph, hk, hnd with
    | [v], _, hk, hnd =>
      have hnd : v = nd := hnd
      subst hnd
      have hk0 : xg G 39 0 = v := hk.1
      show xw sc (d + 2) Mm_build cm_build_4 _ _ _ _ ↔ Q (some (xI v)) (xH G K)
      rw [rm_build_4]
      simp (contextual := true) (disch := first | assumption | exact xin_g _ _ _ | exact xin_ar _ | exact xin_sc _ _ | exact xin_cmp | exact xin_and | exact xin_or | exact xinl_g _ _ _ | omega | exact xin_mk (by omega) (by omega) | exact xinl_mk (by omega) (by omega) | exact xbo_0 | exact xbo_1 | exact xin_sl | exact xin_fa | exact xbo_ad | exact xin_bo xbo_ad | exact xin_mb | exact xin_A | exact xin_op | ((repeat refine gN_q ?_ (by omega) (by omega)); assumption)) only [rm_build_5, rm_build_6, rm_build_9, rm_build_181, rm_build_182, rm_build_185, rm_build_186, rm_build_187, xg_cell, Option.toList_some, Option.toList_none, List.singleton_append, List.append_nil, List.nil_append, List.cons_append, false_and, if_false, if_true, Int.reduceAdd, Int.reduceSub, Int.reduceMul, Int.reduceNeg, Int.reduceLE, Int.reduceLT, Int.reduceEq, false_implies, true_implies, not_true_eq_false, not_false_eq_true, and_true, true_and, xar_0, xar_1, xar_2, xar_3, xar_4, xar_5, xar_6, xar_7, xar_8, xar_9, xar_10, xar_11, xar_12, hge, hk0]
  | q :: F, i, st, nd, G, K, A, u9, hR, hA, hs, hk, hl, hg, hph, hb, n0, hnd, i0, hi, hi2, hF => by
    obtain ⟨hq6, hq7⟩ := hF 0 q rfl
    rw [show i + ((0 : Nat) : Int) = i by simp] at hq6 hq7
    simp only [phg] at hph
    have hp : par q.1 ≤ st.length := by
      split at hph
      · assumption
      · cases hph
    rw [if_pos hp] at hph
    simp only [List.length_cons] at hl
    simp only [List.length_cons, Int.natCast_add, Int.cast_ofNat_Int] at hi
    have hgq := hg q (List.mem_cons_self ..)
    obtain ⟨G1, K1, r1, r2, r3, r4, r5, r6⟩ := lm_bstep (sc := sc) (d := d) (bf := bf) (i := i) (u9 := u9) hR hA hs hk (by omega) hgq hp hb0 hb i0 (by omega) hi2 hq6 hq7
    obtain ⟨a1, a2, a3, a4, a5⟩ := aStp_ok (bf := bf) hA hs hgq hp hb
    unfold aBd
    have hvx : xin (aStp A st bf q.1 q.2).1 := ⟨by omega, by omega⟩
    have hdl : (st.drop (par q.1)).length = st.length - par q.1 := List.length_drop
    by_cases hc : (aStp A st bf q.1 q.2).1 < 0
    · rw [if_pos hc]
      refine ⟨G1, K1, fun Q => ?_, r2, r3, r4, r5⟩
      have hc' : ¬ 0 ≤ (aStp A st bf q.1 q.2).1 := by omega
      rw [r1]
      simp (contextual := true) (disch := first | assumption | exact xin_g _ _ _ | exact xin_ar _ | exact xin_sc _ _ | exact xin_cmp | exact xin_and | exact xin_or | exact xinl_g _ _ _ | omega | exact xin_mk (by omega) (by omega) | exact xinl_mk (by omega) (by omega) | exact xbo_0 | exact xbo_1 | exact xin_sl | exact xin_fa | exact xbo_ad | exact xin_bo xbo_ad | exact xin_mb | exact xin_A | exact xin_op | ((repeat refine gN_q ?_ (by omega) (by omega)); assumption)) only [rm_build_156, rm_build_158, rm_build_161, rm_build_163, xg_cell, Option.toList_some, Option.toList_none, List.singleton_append, List.append_nil, List.nil_append, List.cons_append, false_and, if_false, if_true, Int.reduceAdd, Int.reduceSub, Int.reduceMul, Int.reduceNeg, Int.reduceLE, Int.reduceLT, Int.reduceEq, false_implies, true_implies, not_true_eq_false, not_false_eq_true, and_true, true_and, xar_0, xar_1, xar_2, xar_3, xar_4, xar_5, xar_6, xar_7, xar_8, xar_9, xar_10, xar_11, xar_12, hc']
    · rw [if_neg hc]
      have hc' : 0 ≤ (aStp A st bf q.1 q.2).1 := by omega
      have hl2 : ((aStp A st bf q.1 q.2).1 :: st.drop (par q.1)).length = st.length - par q.1 + 1 := by simp
      have hl3 : (((aStp A st bf q.1 q.2).1 :: st.drop (par q.1)).length : Int) = ((st.drop (par q.1)).length : Int) + 1 := by simp
      have k1 : mSk (xp G1 39 ((st.drop (par q.1)).length : Int) (aStp A st bf q.1 q.2).1) ((aStp A st bf q.1 q.2).1 :: st.drop (par q.1)) := by
        refine ⟨xg_self hvx, mSk_e _ (fun j j0 j1 => ?_) (mSk_drop (par q.1) _ hk)⟩
        rw [xg_idx (by omega) (by omega) (by omega)]
        exact r6 j
      have e8 : xg (xp G1 39 ((st.drop (par q.1)).length : Int) (aStp A st bf q.1 q.2).1) 33 8 = xg G 33 8 := by
        rw [xg_cell (by decide)]
        exact r3 33 8 (by decide) (by omega) (by decide) (by decide) (by decide) (by decide) (by decide) (by decide)
      obtain ⟨G2, K2, s1, s2, s3, s4, s5⟩ := lm_build hb0 F (i + 1) ((aStp A st bf q.1 q.2).1 :: st.drop (par q.1)) (aStp A st bf q.1 q.2).1 (xp G1 39 ((st.drop (par q.1)).length : Int) (aStp A st bf q.1 q.2).1) K1 (aStp A st bf q.1 q.2).2 (some (xI (aStp A st bf q.1 q.2).1)) (mRep_c r2 (by decide) (by decide)) a1 (aSo_step hs a2.1 (by omega) (a3 (by omega))) k1 (by rw [hl2]; omega) (fun r hr => hg r (List.mem_cons_of_mem _ hr)) (by rw [hl2]; exact hph) (by have := a2.1; omega) hc' rfl (by omega) (by rw [e8]; omega) (by rw [e8]; exact hi2) (fun j r hr => by
        have := hF (j + 1) r hr
        rw [show i + ((j + 1 : Nat) : Int) = i + 1 + (j : Int) by omega] at this
        rw [xg_cell (by decide), xg_cell (by decide), r3 37 _ (by omega) (by omega) (by decide) (by decide) (by decide) (by decide) (by decide) (by decide), r3 38 _ (by omega) (by omega) (by decide) (by decide) (by decide) (by decide) (by decide) (by decide)]
        exact this)
      refine ⟨G2, K2, fun Q => ?_, s2, mFb_tr r3 (mFb_tr (mFb_c mFb_rfl (by omega)) s3), mFk_tr r4 s4, mGv_tr r5 (mGv_tr (mGv_c mGv_rfl (by decide) (by decide)) s5 (Int.le_refl _)) a2.1⟩
      rw [r1]
      have s1 := s1 Q
      rw [hl3] at s1
      have d0 : 0 ≤ ((st.drop (par q.1)).length : Int) := by omega
      have d1 : ((st.drop (par q.1)).length : Int) < 20 := by omega
      simp (contextual := true) (disch := first | assumption | exact xin_g _ _ _ | exact xin_ar _ | exact xin_sc _ _ | exact xin_cmp | exact xin_and | exact xin_or | exact xinl_g _ _ _ | omega | exact xin_mk (by omega) (by omega) | exact xinl_mk (by omega) (by omega) | exact xbo_0 | exact xbo_1 | exact xin_sl | exact xin_fa | exact xbo_ad | exact xin_bo xbo_ad | exact xin_mb | exact xin_A | exact xin_op | ((repeat refine gN_q ?_ (by omega) (by omega)); assumption)) only [rm_build_156, rm_build_158, rm_build_161, rm_build_163, rm_build_164, rm_build_165, rm_build_168, rm_build_169, rm_build_171, rm_build_172, rm_build_175, rm_build_178, xg_cell, Option.toList_some, Option.toList_none, List.singleton_append, List.append_nil, List.nil_append, List.cons_append, false_and, if_false, if_true, Int.reduceAdd, Int.reduceSub, Int.reduceMul, Int.reduceNeg, Int.reduceLE, Int.reduceLT, Int.reduceEq, false_implies, true_implies, not_true_eq_false, not_false_eq_true, and_true, true_and, xar_0, xar_1, xar_2, xar_3, xar_4, xar_5, xar_6, xar_7, xar_8, xar_9, xar_10, xar_11, xar_12, hc', s1]
theorem sm_build {F : pL} {bf : Int} {A : aG} (hR : mRep G K A) (hA : aOk A) (hl : F.length ≤ 20) (hg : pGd F) (hph : phg F 0 = some 1) (hb0 : 0 ≤ bf) (hb : bf ≤ A.1) (h8 : xg G 33 8 = (F.length : Int)) (hF : mOp G F) : ∃ (G' : xG) (K' : xK), (∀ Q : Option Value → am_H → Prop, xc sc (d + 2) Mm_build [.ref 33, xI bf] (xH G K) Q ↔ Q (some (xI (aBd bf F [] 0 A).1)) (xH G' K')) ∧ mRep G' K' (aBd bf F [] 0 A).2 ∧ mFb G G' ∧ mFk K K' ∧ mGv G G' A.1 (aBd bf F [] 0 A).2.1 := by
  obtain ⟨G', K', r1, r2⟩ := lm_build (sc := sc) (d := d) hb0 F 0 [] 0 G K A none hR hA (fun v hv => by simp at hv) trivial (by simpa using hl) hg hph hb (by decide) rfl (by decide) (by omega) (by omega) (fun j q hq => by
    have := hF j q hq
    rw [show (0 : Int) + (j : Int) = (j : Int) by omega]
    exact this)
  refine ⟨G', K', fun Q => ?_, r2⟩
  rw [em_build]
  have r1 := r1 Q
  simp only [List.length_nil, Int.natCast_zero] at r1
  simp (contextual := true) (disch := first | assumption | exact xin_g _ _ _ | exact xin_ar _ | exact xin_sc _ _ | exact xin_cmp | exact xin_and | exact xin_or | exact xinl_g _ _ _ | omega | exact xin_mk (by omega) (by omega) | exact xinl_mk (by omega) (by omega) | exact xbo_0 | exact xbo_1 | exact xin_sl | exact xin_fa | exact xbo_ad | exact xin_bo xbo_ad | exact xin_mb | exact xin_A | exact xin_op | ((repeat refine gN_q ?_ (by omega) (by omega)); assumption)) only [rm_build_0, rm_build_1, rm_build_2, rm_build_3, xg_cell, Option.toList_some, Option.toList_none, List.singleton_append, List.append_nil, List.nil_append, List.cons_append, false_and, if_false, if_true, Int.reduceAdd, Int.reduceSub, Int.reduceMul, Int.reduceNeg, Int.reduceLE, Int.reduceLT, Int.reduceEq, false_implies, true_implies, not_true_eq_false, not_false_eq_true, and_true, true_and, xar_0, xar_1, xar_2, xar_3, xar_4, xar_5, xar_6, xar_7, xar_8, xar_9, xar_10, xar_11, xar_12, r1]
end SP
