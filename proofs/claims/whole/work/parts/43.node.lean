/-! a node's curvature, blame, sign, value -/
theorem xin_mx {a b : Int} (ha : xin a) (hb : xin b) : xin (gMx a b) := by
  unfold gMx
  split
  · exact hb
  · exact ha
theorem xin_mb {n a b c : Int} {G : xG} : xin (gMb n (xg G 15 a) (xg G 15 b) (xg G 15 c)) := by
  unfold gMb
  have h0 := xin_mx xin_0 (xin_g G 15 a)
  have h1 := xin_mx h0 (xin_g G 15 b)
  have h2 := xin_mx h1 (xin_g G 15 c)
  split
  · exact xin_0
  · split
    · exact h0
    · split
      · exact h1
      · exact h2
def gCv (kd c0 c1 c2 s0 s1 : Int) : Int :=
  if xar kd = 0 then (if kd = 1 then 1 else 0)
  else if gMb (xar kd) c0 c1 c2 = 0 then 0
  else if kd = 6 ∧ ¬ c0 = 0 ∧ ¬ c1 = 0 then 4
  else if gLi kd ∧ gMb (xar kd) c0 c1 c2 = 1 then 1
  else if ¬ kd = 8 ∧ gFa (xar kd) (gAd kd 0 c0 s0 s1 2) (gAd kd 1 c1 s0 s1 2) (gAd kd 2 c2 s0 s1 2) = -1 then 2
  else if (gLi kd ∨ kd = 8) ∧ gFa (xar kd) (gAd kd 0 c0 s0 s1 3) (gAd kd 1 c1 s0 s1 3) (gAd kd 2 c2 s0 s1 3) = -1 then 3 else 4
def gBl (kd c0 c1 c2 s0 s1 : Int) : Int :=
  if kd = 6 ∧ ¬ c0 = 0 ∧ ¬ c1 = 0 then 4
  else if gLi kd then 1 + gLb (xar kd) c0 c1 c2
  else 1 + gFa (xar kd) (gAd kd 0 c0 s0 s1 (if kd = 8 then 3 else 2)) (gAd kd 1 c1 s0 s1 (if kd = 8 then 3 else 2)) (gAd kd 2 c2 s0 s1 (if kd = 8 then 3 else 2))
section SP
variable {sc : Nat × (Nat → Int32)} {d : Nat} {Q : Option Value → am_H → Prop} {G : xG} {K : xK} {h : am_H}
set_option maxHeartbeats 4000000 in
theorem sG_curvatureOf {k : Int} (hN : gN G k) : xc sc (d + 4) MG_curvatureOf [.ref 9, xI k] (xH G K) Q ↔ Q (some (xI (gCv (xg G 10 k) (xg G 15 (xg G 12 (3 * k + 0))) (xg G 15 (xg G 12 (3 * k + 1))) (xg G 15 (xg G 12 (3 * k + 2))) (xg G 14 (xg G 12 (3 * k + 0))) (xg G 14 (xg G 12 (3 * k + 1)))))) (xH G K) := by
  rw [eG_curvatureOf]
  have hM := hN
  unfold gN at hM
  have hc := gN_k hN
  rcases hc with e | e | e | e | e | e | e | e | e | e | e | e <;> simp (contextual := true) (disch := first | assumption | exact xin_g _ _ _ | exact xin_ar _ | exact xin_sc _ _ | exact xin_cmp | exact xin_and | exact xin_or | exact xinl_g _ _ _ | omega | exact xin_mk (by omega) (by omega) | exact xinl_mk (by omega) (by omega) | exact xbo_0 | exact xbo_1 | exact xin_sl | exact xin_fa | exact xbo_ad | exact xin_bo xbo_ad | exact xin_mb | exact xin_A | exact xin_op | ((repeat refine gN_q ?_ (by omega) (by omega)); assumption)) only [rG_curvatureOf_0, rG_curvatureOf_3, rG_curvatureOf_4, rG_curvatureOf_7, rG_curvatureOf_8, rG_curvatureOf_9, rG_curvatureOf_10, rG_curvatureOf_13, rG_curvatureOf_14, rG_curvatureOf_17, rG_curvatureOf_18, rG_curvatureOf_19, rG_curvatureOf_20, rG_curvatureOf_23, rG_curvatureOf_24, rG_curvatureOf_27, rG_curvatureOf_28, rG_curvatureOf_29, rG_curvatureOf_30, rG_curvatureOf_31, rG_curvatureOf_34, rG_curvatureOf_37, rG_curvatureOf_38, rG_curvatureOf_39, rG_curvatureOf_40, rG_curvatureOf_41, rG_curvatureOf_44, rG_curvatureOf_47, rG_curvatureOf_48, rG_curvatureOf_49, rG_curvatureOf_50, rG_curvatureOf_51, rG_curvatureOf_54, rG_curvatureOf_57, rG_curvatureOf_58, rG_curvatureOf_59, rG_curvatureOf_62, rG_curvatureOf_63, rG_curvatureOf_66, rG_curvatureOf_67, rG_curvatureOf_68, rG_curvatureOf_69, rG_curvatureOf_72, rG_curvatureOf_73, rG_curvatureOf_74, rG_curvatureOf_76, rG_curvatureOf_79, rG_curvatureOf_80, rG_curvatureOf_81, rG_curvatureOf_82, rG_curvatureOf_85, rG_curvatureOf_86, rG_curvatureOf_89, rG_curvatureOf_90, rG_curvatureOf_91, rG_curvatureOf_92, rG_curvatureOf_93, rG_curvatureOf_96, rG_curvatureOf_99, rG_curvatureOf_100, rG_curvatureOf_103, rG_curvatureOf_104, rG_curvatureOf_105, rG_curvatureOf_107, rG_curvatureOf_110, rG_curvatureOf_111, rG_curvatureOf_114, rG_curvatureOf_115, rG_curvatureOf_116, rG_curvatureOf_117, rG_curvatureOf_120, rG_curvatureOf_121, rG_curvatureOf_122, rG_curvatureOf_123, rG_curvatureOf_126, rG_curvatureOf_127, rG_curvatureOf_130, rG_curvatureOf_131, rG_curvatureOf_134, rG_curvatureOf_135, ↓sG_mostBent, ↓sG_isProductOfTwo, ↓sG_isLinear, ↓sG_firstAgainst, xg_cell, Option.toList_some, Option.toList_none, List.singleton_append, List.append_nil, List.nil_append, List.cons_append, false_and, if_false, if_true, Int.reduceAdd, Int.reduceSub, Int.reduceMul, Int.reduceNeg, Int.reduceLE, Int.reduceLT, Int.reduceEq, false_implies, true_implies, not_true_eq_false, not_false_eq_true, and_true, true_and, xar_0, xar_1, xar_2, xar_3, xar_4, xar_5, xar_6, xar_7, xar_8, xar_9, xar_10, xar_11, xar_12, e] <;> simp only [gCv, gLi, false_and, if_false, if_true, Int.reduceAdd, Int.reduceSub, Int.reduceMul, Int.reduceNeg, Int.reduceLE, Int.reduceLT, Int.reduceEq, false_implies, true_implies, not_true_eq_false, not_false_eq_true, and_true, true_and, xar_0, xar_1, xar_2, xar_3, xar_4, xar_5, xar_6, xar_7, xar_8, xar_9, xar_10, xar_11, xar_12] <;> grind
set_option maxHeartbeats 4000000 in
theorem sG_blameOf {k : Int} (hN : gN G k) : xc sc (d + 4) MG_blameOf [.ref 9, xI k] (xH G K) Q ↔ Q (some (xI (gBl (xg G 10 k) (xg G 15 (xg G 12 (3 * k + 0))) (xg G 15 (xg G 12 (3 * k + 1))) (xg G 15 (xg G 12 (3 * k + 2))) (xg G 14 (xg G 12 (3 * k + 0))) (xg G 14 (xg G 12 (3 * k + 1)))))) (xH G K) := by
  rw [eG_blameOf]
  have hM := hN
  unfold gN at hM
  have hc := gN_k hN
  rcases hc with e | e | e | e | e | e | e | e | e | e | e | e <;> simp (contextual := true) (disch := first | assumption | exact xin_g _ _ _ | exact xin_ar _ | exact xin_sc _ _ | exact xin_cmp | exact xin_and | exact xin_or | exact xinl_g _ _ _ | omega | exact xin_mk (by omega) (by omega) | exact xinl_mk (by omega) (by omega) | exact xbo_0 | exact xbo_1 | exact xin_sl | exact xin_fa | exact xbo_ad | exact xin_bo xbo_ad | exact xin_mb | exact xin_A | exact xin_op | ((repeat refine gN_q ?_ (by omega) (by omega)); assumption)) only [rG_blameOf_0, rG_blameOf_1, rG_blameOf_2, rG_blameOf_5, rG_blameOf_8, rG_blameOf_9, rG_blameOf_10, rG_blameOf_11, rG_blameOf_12, rG_blameOf_15, rG_blameOf_18, rG_blameOf_19, rG_blameOf_20, rG_blameOf_21, rG_blameOf_24, rG_blameOf_25, rG_blameOf_26, rG_blameOf_27, rG_blameOf_28, rG_blameOf_29, rG_blameOf_30, rG_blameOf_33, rG_blameOf_34, rG_blameOf_35, rG_blameOf_37, rG_blameOf_40, rG_blameOf_41, rG_blameOf_44, rG_blameOf_45, rG_blameOf_48, rG_blameOf_49, ↓sG_lastBent, ↓sG_isProductOfTwo, ↓sG_isLinear, ↓sG_firstAgainst, xg_cell, Option.toList_some, Option.toList_none, List.singleton_append, List.append_nil, List.nil_append, List.cons_append, false_and, if_false, if_true, Int.reduceAdd, Int.reduceSub, Int.reduceMul, Int.reduceNeg, Int.reduceLE, Int.reduceLT, Int.reduceEq, false_implies, true_implies, not_true_eq_false, not_false_eq_true, and_true, true_and, xar_0, xar_1, xar_2, xar_3, xar_4, xar_5, xar_6, xar_7, xar_8, xar_9, xar_10, xar_11, xar_12, e] <;> simp only [gBl, gLi, false_and, if_false, if_true, Int.reduceAdd, Int.reduceSub, Int.reduceMul, Int.reduceNeg, Int.reduceLE, Int.reduceLT, Int.reduceEq, false_implies, true_implies, not_true_eq_false, not_false_eq_true, and_true, true_and, xar_0, xar_1, xar_2, xar_3, xar_4, xar_5, xar_6, xar_7, xar_8, xar_9, xar_10, xar_11, xar_12] <;> grind
def gLs (kd dt : Int) : Int := if kd = 0 then (if 0 < dt then 1 else 0) else xor2 (if 0 < (if kd = 1 then 20 else if dt = 113 then 0 else (9 : Int)) then 1 else 0) (if (if kd = 1 then -20 else if dt = 112 then 0 else (-9 : Int)) < 0 then 2 else 0)
theorem sG_leafSign {k : Int} (hN : gN G k) : xc sc (d + 1) MG_leafSign [.ref 9, xI k] (xH G K) Q ↔ Q (some (xI (gLs (xg G 10 k) (xg G 11 k)))) (xH G K) := by
  rw [eG_leafSign]
  have hM := hN
  unfold gN at hM
  simp (contextual := true) (disch := first | assumption | exact xin_g _ _ _ | exact xin_ar _ | exact xin_sc _ _ | exact xin_cmp | exact xin_and | exact xin_or | exact xinl_g _ _ _ | omega | exact xin_mk (by omega) (by omega) | exact xinl_mk (by omega) (by omega) | exact xbo_0 | exact xbo_1 | exact xin_sl | exact xin_fa | exact xbo_ad | exact xin_bo xbo_ad | exact xin_mb | exact xin_A | exact xin_op | ((repeat refine gN_q ?_ (by omega) (by omega)); assumption)) only [rG_leafSign_0, rG_leafSign_1, rG_leafSign_4, rG_leafSign_5, rG_leafSign_6, rG_leafSign_9, rG_leafSign_10, rG_leafSign_13, rG_leafSign_14, rG_leafSign_15, rG_leafSign_18, rG_leafSign_19, rG_leafSign_22, rG_leafSign_23, rG_leafSign_24, rG_leafSign_25, rG_leafSign_26, rG_leafSign_29, rG_leafSign_32, rG_leafSign_33, rG_leafSign_36, rG_leafSign_37, rG_leafSign_38, rG_leafSign_39, rG_leafSign_42, rG_leafSign_45, rG_leafSign_46, rG_leafSign_49, rG_leafSign_50, rG_leafSign_51, ↓sG_greatest, ↓sG_least, xg_cell, Option.toList_some, Option.toList_none, List.singleton_append, List.append_nil, List.nil_append, List.cons_append]
  simp only [gLs]
  grind
/-- an argument's number in the array c, 0 where there is none -/
def gA (G : xG) (c : Nat) (k i : Int) : Int := if xg G 12 (3 * k + i) = -1 then 0 else xg G c (xg G 12 (3 * k + i))
theorem xin_A {c : Nat} {k i : Int} : xin (gA G c k i) := by
  unfold gA
  split
  · exact xin_0
  · exact xin_g _ _ _
def gSg (kd dt a b c : Int) : Int :=
  if kd = 3 then xor2 a b else if kd = 4 then xor2 a (gOp b) else if kd = 5 then gOp a
  else if kd = 6 then xor2 (if xand a b = 0 then 0 else 1) (if xand a (gOp b) = 0 then 0 else 2)
  else if kd = 7 then xor2 (xand (xor2 a b) 1) (xand (xand a b) 2)
  else if kd = 8 then xor2 (xand (xand a b) 1) (xand (xor2 a b) 2)
  else if kd = 9 ∨ kd = 10 then (if a = 0 then 0 else 1)
  else if kd = 11 then xor2 (xand (xor2 (xor2 a b) c) 1) (xand (xor2 (xor2 (xand a b) (xand a c)) (xand b c)) 2)
  else gLs kd dt
theorem sG_argSign {k p : Int} (hN : gN G k) (hp : p = 0 ∨ p = 1 ∨ p = 2) : xc sc (d + 1) MG_argumentSign [.ref 9, xI k, xI p] (xH G K) Q ↔ Q (some (xI (gA G 14 k p))) (xH G K) := by
  unfold gN at hN
  exact sG_argumentSign (by omega) (by omega) (by rcases hp with rfl | rfl | rfl <;> omega) (by rcases hp with rfl | rfl | rfl <;> omega)
theorem sG_argValue {k p : Int} (hN : gN G k) (hp : p = 0 ∨ p = 1 ∨ p = 2) : xc sc (d + 1) MG_argumentValue [.ref 9, xI k, xI p] (xH G K) Q ↔ Q (some (xI (gA G 18 k p))) (xH G K) := by
  unfold gN at hN
  exact sG_argumentValue (by omega) (by omega) (by rcases hp with rfl | rfl | rfl <;> omega) (by rcases hp with rfl | rfl | rfl <;> omega)
theorem xin_op {s : Int} : xin (gOp s) := xin_or
set_option maxHeartbeats 4000000 in
theorem sG_signOf {k : Int} (hN : gN G k) : xc sc (d + 2) MG_signOf [.ref 9, xI k] (xH G K) Q ↔ Q (some (xI (gSg (xg G 10 k) (xg G 11 k) (gA G 14 k 0) (gA G 14 k 1) (gA G 14 k 2)))) (xH G K) := by
  rw [eG_signOf]
  have hM := hN
  unfold gN at hM
  have hc := gN_k hN
  rcases hc with e | e | e | e | e | e | e | e | e | e | e | e <;> simp (contextual := true) (disch := first | assumption | exact xin_g _ _ _ | exact xin_ar _ | exact xin_sc _ _ | exact xin_cmp | exact xin_and | exact xin_or | exact xinl_g _ _ _ | omega | exact xin_mk (by omega) (by omega) | exact xinl_mk (by omega) (by omega) | exact xbo_0 | exact xbo_1 | exact xin_sl | exact xin_fa | exact xbo_ad | exact xin_bo xbo_ad | exact xin_mb | exact xin_A | exact xin_op | ((repeat refine gN_q ?_ (by omega) (by omega)); assumption)) only [rG_signOf_0, rG_signOf_1, rG_signOf_2, rG_signOf_3, rG_signOf_6, rG_signOf_7, rG_signOf_8, rG_signOf_9, rG_signOf_10, rG_signOf_13, rG_signOf_14, rG_signOf_15, rG_signOf_16, rG_signOf_17, rG_signOf_20, rG_signOf_22, rG_signOf_23, rG_signOf_26, rG_signOf_27, rG_signOf_28_3, rG_signOf_28_4, rG_signOf_28_5, rG_signOf_28_6, rG_signOf_28_7, rG_signOf_28_8, rG_signOf_28_9, rG_signOf_28_10, rG_signOf_28_11, rG_signOf_28_d, rG_signOf_80, rG_signOf_81, rG_signOf_82, rG_signOf_83, rG_signOf_84, rG_signOf_85, rG_signOf_86, rG_signOf_89, rG_signOf_90, rG_signOf_91, rG_signOf_92, rG_signOf_95, rG_signOf_96, rG_signOf_97, rG_signOf_98, rG_signOf_99, rG_signOf_102, rG_signOf_103, rG_signOf_106, rG_signOf_107, rG_signOf_108, rG_signOf_109, rG_signOf_112, rG_signOf_113, rG_signOf_116, rG_signOf_117, rG_signOf_120, rG_signOf_121, rG_signOf_122, rG_signOf_123, rG_signOf_124, rG_signOf_125, rG_signOf_126, rG_signOf_127, rG_signOf_128, rG_signOf_129, rG_signOf_130, rG_signOf_131, rG_signOf_132, rG_signOf_133, rG_signOf_134, rG_signOf_135, rG_signOf_136, rG_signOf_137, rG_signOf_138, rG_signOf_139, rG_signOf_140, rG_signOf_141, rG_signOf_142, rG_signOf_143, rG_signOf_144, rG_signOf_145, rG_signOf_146, rG_signOf_147, rG_signOf_148, rG_signOf_151, rG_signOf_152, rG_signOf_155, rG_signOf_156, rG_signOf_157, rG_signOf_158, rG_signOf_159, rG_signOf_160, rG_signOf_162, rG_signOf_163, rG_signOf_164, rG_signOf_165, rG_signOf_166, rG_signOf_167, rG_signOf_168, rG_signOf_169, rG_signOf_171, rG_signOf_172, rG_signOf_173, rG_signOf_174, rG_signOf_176, rG_signOf_177, rG_signOf_178, rG_signOf_179, rG_signOf_180, rG_signOf_181, rG_signOf_182, rG_signOf_183, rG_signOf_184, rG_signOf_187, ↓sG_argSign, ↓sG_opposite, ↓sG_leafSign, xg_cell, Option.toList_some, Option.toList_none, List.singleton_append, List.append_nil, List.nil_append, List.cons_append, false_and, if_false, if_true, Int.reduceAdd, Int.reduceSub, Int.reduceMul, Int.reduceNeg, Int.reduceLE, Int.reduceLT, Int.reduceEq, false_implies, true_implies, not_true_eq_false, not_false_eq_true, and_true, true_and, xar_0, xar_1, xar_2, xar_3, xar_4, xar_5, xar_6, xar_7, xar_8, xar_9, xar_10, xar_11, xar_12, e] <;> simp only [gSg, false_and, if_false, if_true, Int.reduceAdd, Int.reduceSub, Int.reduceMul, Int.reduceNeg, Int.reduceLE, Int.reduceLT, Int.reduceEq, false_implies, true_implies, not_true_eq_false, not_false_eq_true, and_true, true_and, xar_0, xar_1, xar_2, xar_3, xar_4, xar_5, xar_6, xar_7, xar_8, xar_9, xar_10, xar_11, xar_12] <;> grind
def gVa (kd dt a b c : Int) : Int :=
  if kd = 3 then a + b else if kd = 4 then a - b else if kd = 5 then -a else if kd = 6 then a * b
  else if kd = 7 then (if a < b then b else a) else if kd = 8 then (if b < a then b else a)
  else if kd = 9 then (if 0 ≤ a then a else 0 - a) else if kd = 10 then a * a
  else if kd = 11 then (if a + b < (if a + c < b + c then b + c else a + c) then (if a + c < b + c then b + c else a + c) else a + b)
  else dt
set_option maxHeartbeats 4000000 in
theorem sG_calculate {k : Int} (hN : gN G k) (ha : -1000000 ≤ gA G 18 k 0 ∧ gA G 18 k 0 ≤ 1000000) (hb : -1000000 ≤ gA G 18 k 1 ∧ gA G 18 k 1 ≤ 1000000) (hcc : -1000000 ≤ gA G 18 k 2 ∧ gA G 18 k 2 ≤ 1000000) : xc sc (d + 2) MG_calculate [.ref 9, xI k] (xH G K) Q ↔ Q (some (xI (gVa (xg G 10 k) (xg G 11 k) (gA G 18 k 0) (gA G 18 k 1) (gA G 18 k 2)))) (xH G K) := by
  rw [eG_calculate]
  have hM := hN
  unfold gN at hM
  have hc := gN_k hN
  rcases hc with e | e | e | e | e | e | e | e | e | e | e | e <;> simp (contextual := true) (disch := first | assumption | exact xin_g _ _ _ | exact xin_ar _ | exact xin_sc _ _ | exact xin_cmp | exact xin_and | exact xin_or | exact xinl_g _ _ _ | omega | exact xin_mk (by omega) (by omega) | exact xinl_mk (by omega) (by omega) | exact xbo_0 | exact xbo_1 | exact xin_sl | exact xin_fa | exact xbo_ad | exact xin_bo xbo_ad | exact xin_mb | exact xin_A | exact xin_op | ((repeat refine gN_q ?_ (by omega) (by omega)); assumption)) only [rG_calculate_0, rG_calculate_1, rG_calculate_2, rG_calculate_3, rG_calculate_6, rG_calculate_7, rG_calculate_8, rG_calculate_9, rG_calculate_10, rG_calculate_13, rG_calculate_14, rG_calculate_15, rG_calculate_16, rG_calculate_17, rG_calculate_20, rG_calculate_22, rG_calculate_23, rG_calculate_26, rG_calculate_27, rG_calculate_28_3, rG_calculate_28_4, rG_calculate_28_5, rG_calculate_28_6, rG_calculate_28_7, rG_calculate_28_8, rG_calculate_28_9, rG_calculate_28_10, rG_calculate_28_11, rG_calculate_28_d, rG_calculate_80, rG_calculate_81, rG_calculate_82, rG_calculate_83, rG_calculate_84, rG_calculate_85, rG_calculate_86, rG_calculate_87, rG_calculate_88, rG_calculate_89, rG_calculate_90, rG_calculate_91, rG_calculate_92, rG_calculate_93, rG_calculate_94, rG_calculate_95, rG_calculate_96, rG_calculate_97, rG_calculate_100, rG_calculate_101, rG_calculate_102, rG_calculate_103, rG_calculate_106, rG_calculate_107, rG_calculate_108, rG_calculate_111, rG_calculate_112, rG_calculate_113, rG_calculate_114, rG_calculate_115, rG_calculate_116, rG_calculate_117, rG_calculate_118, rG_calculate_119, rG_calculate_120, rG_calculate_122, rG_calculate_123, rG_calculate_124, rG_calculate_126, rG_calculate_127, rG_calculate_130, rG_calculate_133, rG_calculate_134, rG_calculate_135, rG_calculate_138, rG_calculate_139, rG_calculate_140, ↓sG_argValue, xg_cell, Option.toList_some, Option.toList_none, List.singleton_append, List.append_nil, List.nil_append, List.cons_append, false_and, if_false, if_true, Int.reduceAdd, Int.reduceSub, Int.reduceMul, Int.reduceNeg, Int.reduceLE, Int.reduceLT, Int.reduceEq, false_implies, true_implies, not_true_eq_false, not_false_eq_true, and_true, true_and, xar_0, xar_1, xar_2, xar_3, xar_4, xar_5, xar_6, xar_7, xar_8, xar_9, xar_10, xar_11, xar_12, e] <;> simp only [gVa, false_and, if_false, if_true, Int.reduceAdd, Int.reduceSub, Int.reduceMul, Int.reduceNeg, Int.reduceLE, Int.reduceLT, Int.reduceEq, false_implies, true_implies, not_true_eq_false, not_false_eq_true, and_true, true_and, xar_0, xar_1, xar_2, xar_3, xar_4, xar_5, xar_6, xar_7, xar_8, xar_9, xar_10, xar_11, xar_12] <;> grind
end SP
