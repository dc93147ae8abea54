/-! finding and making nodes -/
abbrev gEq (G : xG) (k kd dt a b c : Int) : Prop := xg G 10 k = kd ∧ xg G 11 k = dt ∧ xg G 12 (3 * k + 0) = a ∧ xg G 12 (3 * k + 1) = b ∧ xg G 12 (3 * k + 2) = c
def gFd (G : xG) (kd dt a b c : Int) : Nat → Int → Int
  | 0, _ => -1
  | n + 1, k => if gEq G k kd dt a b c then k else gFd G kd dt a b c n (k + 1)
theorem xinl_i {x : Int} (h : xin x) : xinl x := ⟨by have := h.1; omega, by have := h.2; omega⟩
section SP
variable {sc : Nat × (Nat → Int32)} {d : Nat} {Q : Option Value → am_H → Prop} {G : xG} {K : xK} {h : am_H}
theorem lG_find {kd dt a b c : Int} (i1 : xin kd) (i2 : xin dt) (i3 : xin a) (i4 : xin b) (i5 : xin c) (hn : xg G 9 9 ≤ 36) : ∀ (n : Nat) (k : Int), 0 ≤ k → k + n = xg G 9 9 → (xw sc (d + 1) MG_find cG_find_3 [some (.ref 9), some (xI kd), some (xI dt), some (xI a), some (xI b), some (xI c), some (xI k)] [] (xH G K) Q ↔ Q (some (xI (gFd G kd dt a b c n k))) (xH G K)) := by
  intro n
  induction n with
  | zero =>
    intro k h0 h1
    rw [rG_find_3]
    simp (contextual := true) (disch := first | assumption | exact xin_g _ _ _ | exact xin_ar _ | exact xin_sc _ _ | exact xin_cmp | exact xin_and | exact xin_or | exact xinl_g _ _ _ | omega | exact xin_mk (by omega) (by omega) | exact xinl_mk (by omega) (by omega) | exact xbo_0 | exact xbo_1 | exact xin_sl | exact xin_fa | exact xbo_ad | exact xin_bo xbo_ad | exact xin_mb | exact xin_A | exact xin_op | ((repeat refine gN_q ?_ (by omega) (by omega)); assumption)) only [rG_find_0, rG_find_1, rG_find_5, rG_find_6, rG_find_9, rG_find_12, rG_find_13, rG_find_16, rG_find_18, rG_find_19, rG_find_20, rG_find_23, rG_find_24, rG_find_27, rG_find_29, rG_find_30, rG_find_31, rG_find_34, rG_find_35, rG_find_37, rG_find_38, rG_find_41, rG_find_42, rG_find_45, rG_find_46, rG_find_48, rG_find_49, rG_find_52, rG_find_54, rG_find_57, rG_find_58, rG_find_60, rG_find_61, rG_find_64, rG_find_66, rG_find_69, rG_find_71, rG_find_72, rG_find_75, rG_find_78, rG_find_79, ↓sG_argument, xg_cell, Option.toList_some, Option.toList_none, List.singleton_append, List.append_nil, List.nil_append, List.cons_append, gFd]
    grind
  | succ n ih =>
    intro k h0 h1
    rw [rG_find_3]
    have ih' := ih (k + 1) (by omega) (by omega)
    simp (contextual := true) (disch := first | assumption | exact xin_g _ _ _ | exact xin_ar _ | exact xin_sc _ _ | exact xin_cmp | exact xin_and | exact xin_or | exact xinl_g _ _ _ | omega | exact xin_mk (by omega) (by omega) | exact xinl_mk (by omega) (by omega) | exact xbo_0 | exact xbo_1 | exact xin_sl | exact xin_fa | exact xbo_ad | exact xin_bo xbo_ad | exact xin_mb | exact xin_A | exact xin_op | ((repeat refine gN_q ?_ (by omega) (by omega)); assumption)) only [rG_find_0, rG_find_1, rG_find_5, rG_find_6, rG_find_9, rG_find_12, rG_find_13, rG_find_16, rG_find_18, rG_find_19, rG_find_20, rG_find_23, rG_find_24, rG_find_27, rG_find_29, rG_find_30, rG_find_31, rG_find_34, rG_find_35, rG_find_37, rG_find_38, rG_find_41, rG_find_42, rG_find_45, rG_find_46, rG_find_48, rG_find_49, rG_find_52, rG_find_54, rG_find_57, rG_find_58, rG_find_60, rG_find_61, rG_find_64, rG_find_66, rG_find_69, rG_find_71, rG_find_72, rG_find_75, rG_find_78, rG_find_79, ↓sG_argument, xg_cell, Option.toList_some, Option.toList_none, List.singleton_append, List.append_nil, List.nil_append, List.cons_append, gFd, ih']
    grind
theorem sG_find {kd dt a b c : Int} (i1 : xin kd) (i2 : xin dt) (i3 : xin a) (i4 : xin b) (i5 : xin c) (h0 : 0 ≤ xg G 9 9) (hn : xg G 9 9 ≤ 36) : xc sc (d + 1) MG_find [.ref 9, xI kd, xI dt, xI a, xI b, xI c] (xH G K) Q ↔ Q (some (xI (gFd G kd dt a b c (xg G 9 9).toNat 0))) (xH G K) := by
  rw [eG_find]
  simp (contextual := true) (disch := first | assumption | exact xin_g _ _ _ | exact xin_ar _ | exact xin_sc _ _ | exact xin_cmp | exact xin_and | exact xin_or | exact xinl_g _ _ _ | omega | exact xin_mk (by omega) (by omega) | exact xinl_mk (by omega) (by omega) | exact xbo_0 | exact xbo_1 | exact xin_sl | exact xin_fa | exact xbo_ad | exact xin_bo xbo_ad | exact xin_mb | exact xin_A | exact xin_op | ((repeat refine gN_q ?_ (by omega) (by omega)); assumption)) only [rG_find_0, rG_find_1]
  exact lG_find i1 i2 i3 i4 i5 hn _ 0 (by omega) (by omega)
theorem gFd_lt {kd dt a b c : Int} : ∀ (n : Nat) (k : Int), 0 ≤ k → gFd G kd dt a b c n k = -1 ∨ (0 ≤ gFd G kd dt a b c n k ∧ gFd G kd dt a b c n k < k + n ∧ gEq G (gFd G kd dt a b c n k) kd dt a b c)
  | 0, k, h => Or.inl rfl
  | n + 1, k, h => by
    unfold gFd
    split
    · rename_i hq
      exact Or.inr ⟨h, by omega, hq⟩
    · rcases gFd_lt n (k + 1) (by omega) with h1 | ⟨h1, h2, h3⟩
      · exact Or.inl h1
      · exact Or.inr ⟨h1, by omega, h3⟩
def gRz (G : xG) (k : Int) : Int := if k = -1 then 0 else xg G 13 k
def gWr (G : xG) (kd dt a b c : Int) : Int :=
  if kd = 0 then (if dt < 1 then 1 else dt) else if kd = 1 then 20 else if kd = 2 then 9
  else if kd = 3 ∨ kd = 4 ∨ kd = 11 then gRz G a + gRz G b + gRz G c else if kd = 6 then gRz G a * gRz G b
  else if kd = 10 then gRz G a * gRz G a else (if gRz G b < gRz G a then gRz G a else gRz G b)
theorem xinl_rz {k : Int} : xinl (gRz G k) := by
  unfold gRz
  split
  · exact ⟨by decide, by decide⟩
  · exact xinl_i (xin_g _ _ _)
theorem sG_rz {k : Int} (h0 : -1 ≤ k) (h1 : k < 36) : xc sc d MG_reachOrZero [.ref 9, xI k] (xH G K) Q ↔ Q (some (xJ (gRz G k))) (xH G K) := sG_reachOrZero h0 h1
set_option maxHeartbeats 4000000 in
theorem sG_wouldReach {kd dt a b c : Int} (hk0 : 0 ≤ kd) (hk1 : kd ≤ 11) (i2 : xin dt) (a0 : -1 ≤ a) (a1 : a < 36) (b0 : -1 ≤ b) (b1 : b < 36) (c0 : -1 ≤ c) (c1 : c < 36) : xc sc (d + 1) MG_wouldReach [.ref 9, xI kd, xI dt, xI a, xI b, xI c] (xH G K) Q ↔ Q (some (xJ (gWr G kd dt a b c))) (xH G K) := by
  rw [eG_wouldReach]
  have hra := xinl_rz (G := G) (k := a)
  have hrb := xinl_rz (G := G) (k := b)
  have hdt : xin (if dt < 1 then 1 else dt) := by
    split
    · exact ⟨by decide, by decide⟩
    · exact i2
  have hc : kd = 0 ∨ kd = 1 ∨ kd = 2 ∨ kd = 3 ∨ kd = 4 ∨ kd = 5 ∨ kd = 6 ∨ kd = 7 ∨ kd = 8 ∨ kd = 9 ∨ kd = 10 ∨ kd = 11 := by omega
  rcases hc with e | e | e | e | e | e | e | e | e | e | e | e <;> simp (contextual := true) (disch := first | assumption | exact xin_g _ _ _ | exact xin_ar _ | exact xin_sc _ _ | exact xin_cmp | exact xin_and | exact xin_or | exact xinl_g _ _ _ | omega | exact xin_mk (by omega) (by omega) | exact xinl_mk (by omega) (by omega) | exact xbo_0 | exact xbo_1 | exact xin_sl | exact xin_fa | exact xbo_ad | exact xin_bo xbo_ad | exact xin_mb | exact xin_A | exact xin_op | ((repeat refine gN_q ?_ (by omega) (by omega)); assumption)) only [e, rG_wouldReach_0, rG_wouldReach_1, rG_wouldReach_2, rG_wouldReach_5, rG_wouldReach_7, rG_wouldReach_8, rG_wouldReach_10, rG_wouldReach_13, rG_wouldReach_15, rG_wouldReach_16_0, rG_wouldReach_16_1, rG_wouldReach_16_2, rG_wouldReach_16_3, rG_wouldReach_16_4, rG_wouldReach_16_5, rG_wouldReach_16_6, rG_wouldReach_16_7, rG_wouldReach_16_8, rG_wouldReach_16_9, rG_wouldReach_16_10, rG_wouldReach_16_11, rG_wouldReach_16_d, rG_wouldReach_80, rG_wouldReach_81, rG_wouldReach_82, rG_wouldReach_85, rG_wouldReach_86, rG_wouldReach_87, rG_wouldReach_90, rG_wouldReach_91, rG_wouldReach_94, rG_wouldReach_95, rG_wouldReach_97, rG_wouldReach_99, rG_wouldReach_100, rG_wouldReach_101, rG_wouldReach_103, rG_wouldReach_106, rG_wouldReach_107, rG_wouldReach_108, rG_wouldReach_110, rG_wouldReach_112, rG_wouldReach_113, rG_wouldReach_114, rG_wouldReach_116, rG_wouldReach_118, rG_wouldReach_119, rG_wouldReach_120, rG_wouldReach_122, rG_wouldReach_124, rG_wouldReach_127, ↓sG_rz, xg_cell, Option.toList_some, Option.toList_none, List.singleton_append, List.append_nil, List.nil_append, List.cons_append, false_and, if_false, if_true, Int.reduceAdd, Int.reduceSub, Int.reduceMul, Int.reduceNeg, Int.reduceLE, Int.reduceLT, Int.reduceEq, false_implies, true_implies, not_true_eq_false, not_false_eq_true, and_true, true_and, xar_0, xar_1, xar_2, xar_3, xar_4, xar_5, xar_6, xar_7, xar_8, xar_9, xar_10, xar_11, xar_12] <;> simp only [gWr, false_and, if_false, if_true, Int.reduceAdd, Int.reduceSub, Int.reduceMul, Int.reduceNeg, Int.reduceLE, Int.reduceLT, Int.reduceEq, false_implies, true_implies, not_true_eq_false, not_false_eq_true, and_true, true_and, xar_0, xar_1, xar_2, xar_3, xar_4, xar_5, xar_6, xar_7, xar_8, xar_9, xar_10, xar_11, xar_12] <;> grind
end SP
