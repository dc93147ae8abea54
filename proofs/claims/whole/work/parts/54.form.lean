/-! making the form -/
def gM1 : Nat → Int → xG → xG
  | 0, _, G => G
  | n + 1, k, G => gM1 n (k + 1) (xp G 26 k 0)
def gM2 : Nat → Int → xG → xG
  | 0, _, G => G
  | n + 1, j, G => gM2 n (j + 1) (xp (xp G 26 (xg G 23 j) 1) 26 (xg G 24 j) 1)
def gMk (G : xG) (k : Int) : xG := if xg G 26 k = 0 then G else if xar (xg G 10 k) = 0 then G else if xar (xg G 10 k) = 1 then xp G 26 (xg G 12 (3 * k + 0)) 1 else if xar (xg G 10 k) = 2 then xp (xp G 26 (xg G 12 (3 * k + 0)) 1) 26 (xg G 12 (3 * k + 1)) 1 else xp (xp (xp G 26 (xg G 12 (3 * k + 0)) 1) 26 (xg G 12 (3 * k + 1)) 1) 26 (xg G 12 (3 * k + 2)) 1
def gM3 : Nat → xG → xG
  | 0, G => G
  | n + 1, G => gM3 n (gMk G n)
theorem gMk_c {G : xG} {k j : Int} {a : Nat} (h : ¬ a = 26) : xg (gMk G k) a j = xg G a j := by
  unfold gMk
  split
  · rfl
  · split
    · rfl
    · split
      · rw [xg_cell h]
      · split
        · rw [xg_cell h, xg_cell h]
        · rw [xg_cell h, xg_cell h, xg_cell h]
theorem gN_Mk {G : xG} {k i : Int} : gN (gMk G i) k ↔ gN G k := by
  unfold gN
  simp only [gMk_c (show ¬ 10 = 26 by decide), gMk_c (show ¬ 12 = 26 by decide)]
/-- a node's arguments lie below it -/
def gAb (G : xG) (k : Int) : Prop := xg G 12 (3 * k + 0) < k ∧ xg G 12 (3 * k + 1) < k ∧ xg G 12 (3 * k + 2) < k
theorem gAb_Mk {G : xG} {k i : Int} : gAb (gMk G i) k ↔ gAb G k := by
  unfold gAb
  simp only [gMk_c (show ¬ 12 = 26 by decide)]
section SP
variable {sc : Nat × (Nat → Int32)} {d : Nat} {Q : Option Value → am_H → Prop} {G : xG} {K : xK} {h : am_H}
theorem lF_m1 : ∀ (n : Nat) (k : Int) (G : xG), k + n = 36 → 0 ≤ k → (xw sc d MF_markUsed cF_markUsed_2 [some (.ref 25), some (xI k), none] [] (xH G K) Q ↔ xw sc d MF_markUsed cF_markUsed_21 [some (.ref 25), some (xI 36), none] [] (xH (gM1 n k G) K) Q) := by
  intro n
  induction n with
  | zero =>
    intro k G hk k0
    have e : k = 36 := by omega
    subst e
    rw [rF_markUsed_2]
    simp (contextual := true) (disch := first | assumption | exact xin_g _ _ _ | exact xin_ar _ | exact xin_sc _ _ | exact xin_cmp | exact xin_and | exact xin_or | exact xinl_g _ _ _ | omega | exact xin_mk (by omega) (by omega) | exact xinl_mk (by omega) (by omega) | exact xbo_0 | exact xbo_1 | exact xin_sl | exact xin_fa | exact xbo_ad | exact xin_bo xbo_ad | exact xin_mb | exact xin_A | exact xin_op | ((repeat refine gN_q ?_ (by omega) (by omega)); assumption)) only [rF_markUsed_3, rF_markUsed_5, rF_markUsed_8, rF_markUsed_9, rF_markUsed_12, rF_markUsed_13, rF_markUsed_14, rF_markUsed_15, rF_markUsed_18, xg_cell, Option.toList_some, Option.toList_none, List.singleton_append, List.append_nil, List.nil_append, List.cons_append, false_and, if_false, if_true, Int.reduceAdd, Int.reduceSub, Int.reduceMul, Int.reduceNeg, Int.reduceLE, Int.reduceLT, Int.reduceEq, false_implies, true_implies, not_true_eq_false, not_false_eq_true, and_true, true_and, xar_0, xar_1, xar_2, xar_3, xar_4, xar_5, xar_6, xar_7, xar_8, xar_9, xar_10, xar_11, xar_12, gM1]
  | succ n ih =>
    intro k G hk k0
    have hlt : ¬ 36 ≤ k := by omega
    have ih' := ih (k + 1) (xp G 26 k 0) (by omega) (by omega)
    rw [rF_markUsed_2]
    simp (contextual := true) (disch := first | assumption | exact xin_g _ _ _ | exact xin_ar _ | exact xin_sc _ _ | exact xin_cmp | exact xin_and | exact xin_or | exact xinl_g _ _ _ | omega | exact xin_mk (by omega) (by omega) | exact xinl_mk (by omega) (by omega) | exact xbo_0 | exact xbo_1 | exact xin_sl | exact xin_fa | exact xbo_ad | exact xin_bo xbo_ad | exact xin_mb | exact xin_A | exact xin_op | ((repeat refine gN_q ?_ (by omega) (by omega)); assumption)) only [rF_markUsed_3, rF_markUsed_5, rF_markUsed_8, rF_markUsed_9, rF_markUsed_12, rF_markUsed_13, rF_markUsed_14, rF_markUsed_15, rF_markUsed_18, xg_cell, Option.toList_some, Option.toList_none, List.singleton_append, List.append_nil, List.nil_append, List.cons_append, false_and, if_false, if_true, Int.reduceAdd, Int.reduceSub, Int.reduceMul, Int.reduceNeg, Int.reduceLE, Int.reduceLT, Int.reduceEq, false_implies, true_implies, not_true_eq_false, not_false_eq_true, and_true, true_and, xar_0, xar_1, xar_2, xar_3, xar_4, xar_5, xar_6, xar_7, xar_8, xar_9, xar_10, xar_11, xar_12, gM1, hlt, ih']
theorem lF_m2 (hR : gRq G) (hn : xg G 21 3 ≤ 6) : ∀ (n : Nat) (j : Int) (G1 : xG), (∀ a, ¬ a = 26 → ∀ i, xg G1 a i = xg G a i) → j + n = xg G 21 3 → 0 ≤ j → (xw sc d MF_markUsed cF_markUsed_36 [some (.ref 25), some (xI j), none] [] (xH G1 K) Q ↔ xw sc d MF_markUsed cF_markUsed_83 [some (.ref 25), some (xI (xg G 21 3)), none] [] (xH (gM2 n j G1) K) Q) := by
  intro n
  induction n with
  | zero =>
    intro j G1 hC hk j0
    have e : j = xg G 21 3 := by omega
    subst e
    have e1 := hC 21 (by decide) 3
    rw [rF_markUsed_36]
    simp (contextual := true) (disch := first | assumption | exact xin_g _ _ _ | exact xin_ar _ | exact xin_sc _ _ | exact xin_cmp | exact xin_and | exact xin_or | exact xinl_g _ _ _ | omega | exact xin_mk (by omega) (by omega) | exact xinl_mk (by omega) (by omega) | exact xbo_0 | exact xbo_1 | exact xin_sl | exact xin_fa | exact xbo_ad | exact xin_bo xbo_ad | exact xin_mb | exact xin_A | exact xin_op | ((repeat refine gN_q ?_ (by omega) (by omega)); assumption)) only [rF_markUsed_37, rF_markUsed_38, rF_markUsed_41, rF_markUsed_44, rF_markUsed_47, rF_markUsed_48, rF_markUsed_51, rF_markUsed_52, rF_markUsed_55, rF_markUsed_58, rF_markUsed_59, rF_markUsed_60, rF_markUsed_61, rF_markUsed_62, rF_markUsed_63, rF_markUsed_66, rF_markUsed_67, rF_markUsed_70, rF_markUsed_73, rF_markUsed_74, rF_markUsed_75, rF_markUsed_76, rF_markUsed_77, rF_markUsed_80, xg_cell, Option.toList_some, Option.toList_none, List.singleton_append, List.append_nil, List.nil_append, List.cons_append, false_and, if_false, if_true, Int.reduceAdd, Int.reduceSub, Int.reduceMul, Int.reduceNeg, Int.reduceLE, Int.reduceLT, Int.reduceEq, false_implies, true_implies, not_true_eq_false, not_false_eq_true, and_true, true_and, xar_0, xar_1, xar_2, xar_3, xar_4, xar_5, xar_6, xar_7, xar_8, xar_9, xar_10, xar_11, xar_12, gM2, e1, Int.le_refl]
  | succ n ih =>
    intro j G1 hC hk j0
    have hlt : ¬ xg G 21 3 ≤ j := by omega
    obtain ⟨l0, l1, r0, r1⟩ := hR j j0 (by omega)
    have e1 := hC 21 (by decide) 3
    have e2 := hC 23 (by decide) j
    have e3 := hC 24 (by decide) j
    have ih' := ih (j + 1) (xp (xp G1 26 (xg G1 23 j) 1) 26 (xg G1 24 j) 1) (fun a ha i => by rw [xg_cell ha, xg_cell ha]; exact hC a ha i) (by omega) (by omega)
    rw [e2, e3] at ih'
    rw [rF_markUsed_36]
    simp (contextual := true) (disch := first | assumption | exact xin_g _ _ _ | exact xin_ar _ | exact xin_sc _ _ | exact xin_cmp | exact xin_and | exact xin_or | exact xinl_g _ _ _ | omega | exact xin_mk (by omega) (by omega) | exact xinl_mk (by omega) (by omega) | exact xbo_0 | exact xbo_1 | exact xin_sl | exact xin_fa | exact xbo_ad | exact xin_bo xbo_ad | exact xin_mb | exact xin_A | exact xin_op | ((repeat refine gN_q ?_ (by omega) (by omega)); assumption)) only [rF_markUsed_37, rF_markUsed_38, rF_markUsed_41, rF_markUsed_44, rF_markUsed_47, rF_markUsed_48, rF_markUsed_51, rF_markUsed_52, rF_markUsed_55, rF_markUsed_58, rF_markUsed_59, rF_markUsed_60, rF_markUsed_61, rF_markUsed_62, rF_markUsed_63, rF_markUsed_66, rF_markUsed_67, rF_markUsed_70, rF_markUsed_73, rF_markUsed_74, rF_markUsed_75, rF_markUsed_76, rF_markUsed_77, rF_markUsed_80, xg_cell, Option.toList_some, Option.toList_none, List.singleton_append, List.append_nil, List.nil_append, List.cons_append, false_and, if_false, if_true, Int.reduceAdd, Int.reduceSub, Int.reduceMul, Int.reduceNeg, Int.reduceLE, Int.reduceLT, Int.reduceEq, false_implies, true_implies, not_true_eq_false, not_false_eq_true, and_true, true_and, xar_0, xar_1, xar_2, xar_3, xar_4, xar_5, xar_6, xar_7, xar_8, xar_9, xar_10, xar_11, xar_12, gM2, hlt, e1, e2, e3, ih']
theorem lF_mk {k : Int} {u2 : Option Value} (hN : gN G k) (hA : gAb G k) : xw sc (d + 1) MF_markUsed cF_markUsed_93 [some (.ref 25), some (xI k), none] [] (xH G K) Q ↔ xw sc (d + 1) MF_markUsed cF_markUsed_93 [some (.ref 25), some (xI (k + (-1))), none] [] (xH (gMk G k) K) Q := by
  have hM := hN
  unfold gN at hM
  unfold gAb at hA
  have hk : ¬ k < 0 := by omega
  conv => lhs; rw [rF_markUsed_93]
  by_cases hu : xg G 26 k = 0
  · have e1 : gMk G k = G := by unfold gMk; rw [if_pos hu]
    rw [e1]
    simp (contextual := true) (disch := first | assumption | exact xin_g _ _ _ | exact xin_ar _ | exact xin_sc _ _ | exact xin_cmp | exact xin_and | exact xin_or | exact xinl_g _ _ _ | omega | exact xin_mk (by omega) (by omega) | exact xinl_mk (by omega) (by omega) | exact xbo_0 | exact xbo_1 | exact xin_sl | exact xin_fa | exact xbo_ad | exact xin_bo xbo_ad | exact xin_mb | exact xin_A | exact xin_op | ((repeat refine gN_q ?_ (by omega) (by omega)); assumption)) only [rF_markUsed_94, rF_markUsed_97, rF_markUsed_98, rF_markUsed_99, rF_markUsed_100, rF_markUsed_103, rF_markUsed_104, rF_markUsed_105, rF_markUsed_108, rF_markUsed_109, rF_markUsed_112, rF_markUsed_113, rF_markUsed_116, rF_markUsed_119, rF_markUsed_120, rF_markUsed_121, rF_markUsed_122, rF_markUsed_125, rF_markUsed_126, rF_markUsed_129, rF_markUsed_130, rF_markUsed_133, rF_markUsed_134, rF_markUsed_135, rF_markUsed_138, rF_markUsed_139, rF_markUsed_140, rF_markUsed_143, rF_markUsed_146, rF_markUsed_149, ↓sG_argument, xg_cell, Option.toList_some, Option.toList_none, List.singleton_append, List.append_nil, List.nil_append, List.cons_append, false_and, if_false, if_true, Int.reduceAdd, Int.reduceSub, Int.reduceMul, Int.reduceNeg, Int.reduceLE, Int.reduceLT, Int.reduceEq, false_implies, true_implies, not_true_eq_false, not_false_eq_true, and_true, true_and, xar_0, xar_1, xar_2, xar_3, xar_4, xar_5, xar_6, xar_7, xar_8, xar_9, xar_10, xar_11, xar_12, hk, hu]
  · have hc := gN_k hN
    have z0 : 0 ≤ xg G 12 (3 * k + 0) → xg (xp G 26 (xg G 12 (3 * k + 0)) 1) 26 k = xg G 26 k := fun q => xg_idx q (by omega) (by omega)
    have z1 : 0 ≤ xg G 12 (3 * k + 0) → 0 ≤ xg G 12 (3 * k + 1) → xg (xp (xp G 26 (xg G 12 (3 * k + 0)) 1) 26 (xg G 12 (3 * k + 1)) 1) 26 k = xg G 26 k := fun q q2 => by rw [xg_idx q2 (by omega) (by omega)]; exact z0 q
    have z2 : 0 ≤ xg G 12 (3 * k + 0) → 0 ≤ xg G 12 (3 * k + 1) → 0 ≤ xg G 12 (3 * k + 2) → xg (xp (xp (xp G 26 (xg G 12 (3 * k + 0)) 1) 26 (xg G 12 (3 * k + 1)) 1) 26 (xg G 12 (3 * k + 2)) 1) 26 k = xg G 26 k := fun q q2 q3 => by rw [xg_idx q3 (by omega) (by omega)]; exact z1 q q2
    unfold gMk
    rcases hc with e | e | e | e | e | e | e | e | e | e | e | e <;> simp (contextual := true) (disch := first | assumption | exact xin_g _ _ _ | exact xin_ar _ | exact xin_sc _ _ | exact xin_cmp | exact xin_and | exact xin_or | exact xinl_g _ _ _ | omega | exact xin_mk (by omega) (by omega) | exact xinl_mk (by omega) (by omega) | exact xbo_0 | exact xbo_1 | exact xin_sl | exact xin_fa | exact xbo_ad | exact xin_bo xbo_ad | exact xin_mb | exact xin_A | exact xin_op | ((repeat refine gN_q ?_ (by omega) (by omega)); assumption)) only [rF_markUsed_94, rF_markUsed_97, rF_markUsed_98, rF_markUsed_99, rF_markUsed_100, rF_markUsed_103, rF_markUsed_104, rF_markUsed_105, rF_markUsed_108, rF_markUsed_109, rF_markUsed_112, rF_markUsed_113, rF_markUsed_116, rF_markUsed_119, rF_markUsed_120, rF_markUsed_121, rF_markUsed_122, rF_markUsed_125, rF_markUsed_126, rF_markUsed_129, rF_markUsed_130, rF_markUsed_133, rF_markUsed_134, rF_markUsed_135, rF_markUsed_138, rF_markUsed_139, rF_markUsed_140, rF_markUsed_143, rF_markUsed_146, rF_markUsed_149, ↓sG_argument, xg_cell, Option.toList_some, Option.toList_none, List.singleton_append, List.append_nil, List.nil_append, List.cons_append, false_and, if_false, if_true, Int.reduceAdd, Int.reduceSub, Int.reduceMul, Int.reduceNeg, Int.reduceLE, Int.reduceLT, Int.reduceEq, false_implies, true_implies, not_true_eq_false, not_false_eq_true, and_true, true_and, xar_0, xar_1, xar_2, xar_3, xar_4, xar_5, xar_6, xar_7, xar_8, xar_9, xar_10, xar_11, xar_12, hk, hu, e, z0, z1, z2]
end SP
