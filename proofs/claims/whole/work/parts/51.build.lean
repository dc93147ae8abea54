/-! running a script on the graph -/
theorem xp_xp {G : xG} {a : Nat} {i x y : Int} : xp (xp G a i x) a i y = xp G a i y := by
  funext b
  simp only [xp]
  split
  · funext j
    simp only [upd]
    split <;> rfl
  · rfl
theorem xp_id {G : xG} {a : Nat} {i : Int} : xp G a i (xg G a i) = G := by
  funext b
  simp only [xp, xg]
  split
  · rename_i h
    subst h
    funext j
    simp only [upd]
    split
    · rename_i h
      rw [h, Int32.ofInt_toInt]
    · rfl
  · rfl
def gPush (G : xG) (v : Int) : xG := if xg G 19 2 < 20 then xp (xp G 20 (xg G 19 2) v) 19 2 (xg G 19 2 + 1) else G
def gOb (G : xG) (kd dt a b c : Int) : Int × xG :=
  if ¬ gFd G kd dt a b c (xg G 9 9).toNat 0 = -1 then (gFd G kd dt a b c (xg G 9 9).toNat 0, G)
  else if 1000000 < gWr G kd dt a b c then (-101, G)
  else if 36 ≤ xg G 9 9 then (-102, G)
  else (xg G 9 9, gNew G kd dt a b c (gWr G kd dt a b c))
/-- what obtain wants -/
def gObOk (G : xG) (kd dt a b c : Int) : Prop := 0 ≤ kd ∧ kd ≤ 11 ∧ xin dt ∧ -1 ≤ a ∧ a < 36 ∧ -1 ≤ b ∧ b < 36 ∧ -1 ≤ c ∧ c < 36 ∧ 0 ≤ xg G 9 9 ∧ xg G 9 9 ≤ 36 ∧ xinl (gWr G kd dt a b c)
def gSt (G : xG) (kd i : Int) : Int := if i < xar kd then xg G 20 (xg G 19 2 - xar kd + i) else -1
def gRs (G : xG) (kd dt bf : Int) : Int × xG := if kd = 12 then (if dt < bf then dt else -100, G) else gOb (xp G 19 2 (xg G 19 2 - xar kd)) kd dt (gSt G kd 0) (gSt G kd 1) (gSt G kd 2)
def gRsOk (G : xG) (kd dt bf : Int) : Prop := 0 ≤ kd ∧ kd ≤ 12 ∧ xin dt ∧ xin bf ∧ xar kd ≤ xg G 19 2 ∧ xg G 19 2 ≤ 20 ∧ (¬ kd = 12 → gObOk (xp G 19 2 (xg G 19 2 - xar kd)) kd dt (gSt G kd 0) (gSt G kd 1) (gSt G kd 2))
section SP
variable {sc : Nat × (Nat → Int32)} {d : Nat} {Q : Option Value → am_H → Prop} {G : xG} {K : xK} {h : am_H}
theorem sG_ob {kd dt a b c : Int} (hO : gObOk G kd dt a b c) : xc sc (d + 2) MG_obtain [.ref 9, xI kd, xI dt, xI a, xI b, xI c] (xH G K) Q ↔ Q (some (xI (gOb G kd dt a b c).1)) (xH (gOb G kd dt a b c).2 K) := by
  obtain ⟨h1, h2, h3, h4, h5, h6, h7, h8, h9, h10, h11, h12⟩ := hO
  rw [sG_obtain h1 h2 h3 h4 h5 h6 h7 h8 h9 h10 h11 h12]
  unfold gOb
  split
  · exact Iff.rfl
  · split
    · exact Iff.rfl
    · split <;> exact Iff.rfl
theorem sB_push {v : Int} (h0 : 0 ≤ xg G 19 2) : xc sc d MB_push [.ref 19, xI v] (xH G K) Q ↔ Q none (xH (gPush G v) K) := by
  rw [eB_push]
  by_cases hc : xg G 19 2 < 20
  · simp (contextual := true) (disch := first | assumption | exact xin_g _ _ _ | exact xin_ar _ | exact xin_sc _ _ | exact xin_cmp | exact xin_and | exact xin_or | exact xinl_g _ _ _ | omega | exact xin_mk (by omega) (by omega) | exact xinl_mk (by omega) (by omega) | exact xbo_0 | exact xbo_1 | exact xin_sl | exact xin_fa | exact xbo_ad | exact xin_bo xbo_ad | exact xin_mb | exact xin_A | exact xin_op | ((repeat refine gN_q ?_ (by omega) (by omega)); assumption)) only [rB_push_0, rB_push_1, rB_push_4, rB_push_6, rB_push_9, rB_push_10, rB_push_13, rB_push_14, rB_push_17, rB_push_18, rB_push_19, rB_push_20, rB_push_21, rB_push_24, rB_push_25, rB_push_26, rB_push_29, xg_cell, Option.toList_some, Option.toList_none, List.singleton_append, List.append_nil, List.nil_append, List.cons_append, gPush, hc, false_and, if_false, if_true, Int.reduceAdd, Int.reduceSub, Int.reduceMul, Int.reduceNeg, Int.reduceLE, Int.reduceLT, Int.reduceEq, false_implies, true_implies, not_true_eq_false, not_false_eq_true, and_true, true_and, xar_0, xar_1, xar_2, xar_3, xar_4, xar_5, xar_6, xar_7, xar_8, xar_9, xar_10, xar_11, xar_12]
    grind
  · simp (contextual := true) (disch := first | assumption | exact xin_g _ _ _ | exact xin_ar _ | exact xin_sc _ _ | exact xin_cmp | exact xin_and | exact xin_or | exact xinl_g _ _ _ | omega | exact xin_mk (by omega) (by omega) | exact xinl_mk (by omega) (by omega) | exact xbo_0 | exact xbo_1 | exact xin_sl | exact xin_fa | exact xbo_ad | exact xin_bo xbo_ad | exact xin_mb | exact xin_A | exact xin_op | ((repeat refine gN_q ?_ (by omega) (by omega)); assumption)) only [rB_push_0, rB_push_1, rB_push_4, rB_push_6, rB_push_9, rB_push_10, rB_push_13, rB_push_14, rB_push_17, rB_push_18, rB_push_19, rB_push_20, rB_push_21, rB_push_24, rB_push_25, rB_push_26, rB_push_29, xg_cell, Option.toList_some, Option.toList_none, List.singleton_append, List.append_nil, List.nil_append, List.cons_append, gPush, hc, false_and, if_false, if_true, Int.reduceAdd, Int.reduceSub, Int.reduceMul, Int.reduceNeg, Int.reduceLE, Int.reduceLT, Int.reduceEq, false_implies, true_implies, not_true_eq_false, not_false_eq_true, and_true, true_and, xar_0, xar_1, xar_2, xar_3, xar_4, xar_5, xar_6, xar_7, xar_8, xar_9, xar_10, xar_11, xar_12]
    grind
theorem sB_pop (h0 : 0 < xg G 19 2) (h1 : xg G 19 2 ≤ 20) : xc sc d MB_pop [.ref 19] (xH G K) Q ↔ Q (some (xI (xg G 20 (xg G 19 2 - 1)))) (xH (xp G 19 2 (xg G 19 2 - 1)) K) := by
  rw [eB_pop]
  have hx : xin (xg G 19 2 - 1) := ⟨by omega, by omega⟩
  have hs : xg (xp G 19 2 (xg G 19 2 - 1)) 19 2 = xg G 19 2 - 1 := xg_self hx
  simp (contextual := true) (disch := first | assumption | exact xin_g _ _ _ | exact xin_ar _ | exact xin_sc _ _ | exact xin_cmp | exact xin_and | exact xin_or | exact xinl_g _ _ _ | omega | exact xin_mk (by omega) (by omega) | exact xinl_mk (by omega) (by omega) | exact xbo_0 | exact xbo_1 | exact xin_sl | exact xin_fa | exact xbo_ad | exact xin_bo xbo_ad | exact xin_mb | exact xin_A | exact xin_op | ((repeat refine gN_q ?_ (by omega) (by omega)); assumption)) only [rB_pop_0, rB_pop_1, rB_pop_4, rB_pop_7, rB_pop_8, rB_pop_9, rB_pop_12, rB_pop_13, rB_pop_14, rB_pop_17, rB_pop_18, rB_pop_21, rB_pop_22, rB_pop_25, rB_pop_26, xg_cell, Option.toList_some, Option.toList_none, List.singleton_append, List.append_nil, List.nil_append, List.cons_append, hs]
  grind
theorem sB_popx {j : Int} (h0 : 0 < j) (h1 : j ≤ 20) : xc sc d MB_pop [.ref 19] (xH (xp G 19 2 j) K) Q ↔ Q (some (xI (xg G 20 (j - 1)))) (xH (xp G 19 2 (j - 1)) K) := by
  have hx : xin j := ⟨by omega, by omega⟩
  rw [sB_pop (by rw [xg_self hx]; exact h0) (by rw [xg_self hx]; exact h1), xg_self hx, xg_cell (by decide), xp_xp]
set_option maxHeartbeats 4000000 in
theorem sB_runStep {kd dt bf : Int} (hR : gRsOk G kd dt bf) : xc sc (d + 3) MB_runStep [.ref 19, xI kd, xI dt, xI bf] (xH G K) Q ↔ Q (some (xI (gRs G kd dt bf).1)) (xH (gRs G kd dt bf).2 K) := by
  obtain ⟨r0, r1, r2, r3, r4, r5, r6⟩ := hR
  rw [eB_runStep]
  by_cases hk : kd = 12
  · subst hk
    simp (contextual := true) (disch := first | assumption | exact xin_g _ _ _ | exact xin_ar _ | exact xin_sc _ _ | exact xin_cmp | exact xin_and | exact xin_or | exact xinl_g _ _ _ | omega | exact xin_mk (by omega) (by omega) | exact xinl_mk (by omega) (by omega) | exact xbo_0 | exact xbo_1 | exact xin_sl | exact xin_fa | exact xbo_ad | exact xin_bo xbo_ad | exact xin_mb | exact xin_A | exact xin_op | ((repeat refine gN_q ?_ (by omega) (by omega)); assumption)) only [rB_runStep_0, rB_runStep_1, rB_runStep_3, rB_runStep_6, rB_runStep_7, rB_runStep_8, rB_runStep_11, rB_runStep_12, rB_runStep_15, rB_runStep_17, rB_runStep_18, rB_runStep_21, rB_runStep_22, rB_runStep_23, rB_runStep_25, rB_runStep_27, rB_runStep_28, rB_runStep_31, rB_runStep_32, rB_runStep_35, rB_runStep_38, rB_runStep_39, rB_runStep_41, rB_runStep_43, rB_runStep_44, rB_runStep_47, rB_runStep_48, rB_runStep_51, rB_runStep_54, rB_runStep_55, rB_runStep_57, rB_runStep_59, rB_runStep_62, rB_runStep_63, rB_runStep_66, rB_runStep_69, rB_runStep_70, rB_runStep_72, rB_runStep_73, rB_runStep_76, rB_runStep_77, rB_runStep_78, rB_runStep_80, rB_runStep_82, rB_runStep_84, rB_runStep_87, xg_cell, Option.toList_some, Option.toList_none, List.singleton_append, List.append_nil, List.nil_append, List.cons_append, false_and, if_false, if_true, Int.reduceAdd, Int.reduceSub, Int.reduceMul, Int.reduceNeg, Int.reduceLE, Int.reduceLT, Int.reduceEq, false_implies, true_implies, not_true_eq_false, not_false_eq_true, and_true, true_and, xar_0, xar_1, xar_2, xar_3, xar_4, xar_5, xar_6, xar_7, xar_8, xar_9, xar_10, xar_11, xar_12, gRs]
    grind
  · have hO := r6 hk
    have hob := fun (Q : Option Value → am_H → Prop) => sG_ob (sc := sc) (d := d) (K := K) (Q := Q) hO
    have e0 : gRs G kd dt bf = gOb (xp G 19 2 (xg G 19 2 - xar kd)) kd dt (gSt G kd 0) (gSt G kd 1) (gSt G kd 2) := by
      unfold gRs
      rw [if_neg hk]
    rw [e0]
    generalize gOb (xp G 19 2 (xg G 19 2 - xar kd)) kd dt (gSt G kd 0) (gSt G kd 1) (gSt G kd 2) = R at hob
    have n1 : xg G 19 2 - 1 - 1 = xg G 19 2 - 2 := by omega
    have n2 : xg G 19 2 - 2 - 1 = xg G 19 2 - 3 := by omega
    have n3 : xg G 19 2 - 2 + 0 = xg G 19 2 - 2 := by omega
    have n4 : xg G 19 2 - 2 + 1 = xg G 19 2 - 1 := by omega
    have n5 : xg G 19 2 - 3 + 0 = xg G 19 2 - 3 := by omega
    have n6 : xg G 19 2 - 3 + 1 = xg G 19 2 - 2 := by omega
    have n7 : xg G 19 2 - 3 + 2 = xg G 19 2 - 1 := by omega
    have n8 : xg G 19 2 - 1 + 0 = xg G 19 2 - 1 := by omega
    have hc : kd = 0 ∨ kd = 1 ∨ kd = 2 ∨ kd = 3 ∨ kd = 4 ∨ kd = 5 ∨ kd = 6 ∨ kd = 7 ∨ kd = 8 ∨ kd = 9 ∨ kd = 10 ∨ kd = 11 := by omega
    rcases hc with e | e | e | e | e | e | e | e | e | e | e | e
    all_goals subst e
    all_goals simp only [false_and, if_false, if_true, Int.reduceAdd, Int.reduceSub, Int.reduceMul, Int.reduceNeg, Int.reduceLE, Int.reduceLT, Int.reduceEq, false_implies, true_implies, not_true_eq_false, not_false_eq_true, and_true, true_and, xar_0, xar_1, xar_2, xar_3, xar_4, xar_5, xar_6, xar_7, xar_8, xar_9, xar_10, xar_11, xar_12, gSt, Int.sub_zero, xp_id, n3, n4, n5, n6, n7, n8] at hob r4
    all_goals simp (contextual := true) (disch := first | assumption | exact xin_g _ _ _ | exact xin_ar _ | exact xin_sc _ _ | exact xin_cmp | exact xin_and | exact xin_or | exact xinl_g _ _ _ | omega | exact xin_mk (by omega) (by omega) | exact xinl_mk (by omega) (by omega) | exact xbo_0 | exact xbo_1 | exact xin_sl | exact xin_fa | exact xbo_ad | exact xin_bo xbo_ad | exact xin_mb | exact xin_A | exact xin_op | ((repeat refine gN_q ?_ (by omega) (by omega)); assumption)) only [rB_runStep_0, rB_runStep_1, rB_runStep_3, rB_runStep_6, rB_runStep_7, rB_runStep_8, rB_runStep_11, rB_runStep_12, rB_runStep_15, rB_runStep_17, rB_runStep_18, rB_runStep_21, rB_runStep_22, rB_runStep_23, rB_runStep_25, rB_runStep_27, rB_runStep_28, rB_runStep_31, rB_runStep_32, rB_runStep_35, rB_runStep_38, rB_runStep_39, rB_runStep_41, rB_runStep_43, rB_runStep_44, rB_runStep_47, rB_runStep_48, rB_runStep_51, rB_runStep_54, rB_runStep_55, rB_runStep_57, rB_runStep_59, rB_runStep_62, rB_runStep_63, rB_runStep_66, rB_runStep_69, rB_runStep_70, rB_runStep_72, rB_runStep_73, rB_runStep_76, rB_runStep_77, rB_runStep_78, rB_runStep_80, rB_runStep_82, rB_runStep_84, rB_runStep_87, ↓sB_popx, ↓sB_pop, ↓hob, xg_cell, Option.toList_some, Option.toList_none, List.singleton_append, List.append_nil, List.nil_append, List.cons_append, false_and, if_false, if_true, Int.reduceAdd, Int.reduceSub, Int.reduceMul, Int.reduceNeg, Int.reduceLE, Int.reduceLT, Int.reduceEq, false_implies, true_implies, not_true_eq_false, not_false_eq_true, and_true, true_and, xar_0, xar_1, xar_2, xar_3, xar_4, xar_5, xar_6, xar_7, xar_8, xar_9, xar_10, xar_11, xar_12, n1, n2]
/-- the loop: steps left, place, node, cells -/
def gBd (bf : Int) : Nat → Int → Int → xG → Int × xG
  | 0, _, nd, G => (nd, G)
  | n + 1, i, nd, G => if nd < 0 then (nd, G) else gBd bf n (i + 1) (gRs G (xg G 6 i) (xg G 7 i) bf).1 (gPush (gRs G (xg G 6 i) (xg G 7 i) bf).2 (gRs G (xg G 6 i) (xg G 7 i) bf).1)
def gBdOk (bf L : Int) : Nat → Int → Int → xG → Prop
  | 0, _, nd, G => xin nd ∧ xg G 5 2 = L
  | n + 1, i, nd, G => xin nd ∧ xg G 5 2 = L ∧ (0 ≤ nd → gRsOk G (xg G 6 i) (xg G 7 i) bf ∧ 0 ≤ xg (gRs G (xg G 6 i) (xg G 7 i) bf).2 19 2 ∧ gBdOk bf L n (i + 1) (gRs G (xg G 6 i) (xg G 7 i) bf).1 (gPush (gRs G (xg G 6 i) (xg G 7 i) bf).2 (gRs G (xg G 6 i) (xg G 7 i) bf).1))
theorem lB_build {bf L : Int} (hL : L ≤ 20) : ∀ (n : Nat) (i nd : Int) (G : xG), gBdOk bf L n i nd G → 0 ≤ i → i + n = L → (xw sc (d + 4) MB_build cB_build_18 [some (.ref 19), some (.ref 5), some (xI bf), some (xI nd), some (xI i)] [] (xH G K) Q ↔ Q (some (xI (gBd bf n i nd G).1)) (xH (gBd bf n i nd G).2 K)) := by
  intro n
  induction n with
  | zero =>
    intro i nd G hO h0 h1
    obtain ⟨o1, o2⟩ := hO
    have hge : L ≤ i := by omega
    rw [rB_build_18]
    simp (contextual := true) (disch := first | assumption | exact xin_g _ _ _ | exact xin_ar _ | exact xin_sc _ _ | exact xin_cmp | exact xin_and | exact xin_or | exact xinl_g _ _ _ | omega | exact xin_mk (by omega) (by omega) | exact xinl_mk (by omega) (by omega) | exact xbo_0 | exact xbo_1 | exact xin_sl | exact xin_fa | exact xbo_ad | exact xin_bo xbo_ad | exact xin_mb | exact xin_A | exact xin_op | ((repeat refine gN_q ?_ (by omega) (by omega)); assumption)) only [rB_build_0, rB_build_1, rB_build_4, rB_build_7, rB_build_8, rB_build_9, rB_build_10, rB_build_11, rB_build_12, rB_build_15, rB_build_16, rB_build_20, rB_build_21, rB_build_24, rB_build_27, rB_build_28, rB_build_31, rB_build_32, rB_build_33, rB_build_36, rB_build_38, rB_build_39, rB_build_40, rB_build_43, rB_build_45, rB_build_46, rB_build_47, rB_build_50, rB_build_51, rB_build_52, rB_build_53, rB_build_56, rB_build_59, rB_build_62, rB_build_63, xg_cell, Option.toList_some, Option.toList_none, List.singleton_append, List.append_nil, List.nil_append, List.cons_append, false_and, if_false, if_true, Int.reduceAdd, Int.reduceSub, Int.reduceMul, Int.reduceNeg, Int.reduceLE, Int.reduceLT, Int.reduceEq, false_implies, true_implies, not_true_eq_false, not_false_eq_true, and_true, true_and, xar_0, xar_1, xar_2, xar_3, xar_4, xar_5, xar_6, xar_7, xar_8, xar_9, xar_10, xar_11, xar_12, gBd, o2, hge]
  | succ n ih =>
    intro i nd G hO h0 h1
    obtain ⟨o1, o2, o3⟩ := hO
    have hlt : ¬ L ≤ i := by omega
    rw [rB_build_18]
    by_cases hn : nd < 0
    · have e1 : gBd bf (n + 1) i nd G = (nd, G) := by
        show (if nd < 0 then _ else _) = _
        rw [if_pos hn]
      rw [e1]
      simp (contextual := true) (disch := first | assumption | exact xin_g _ _ _ | exact xin_ar _ | exact xin_sc _ _ | exact xin_cmp | exact xin_and | exact xin_or | exact xinl_g _ _ _ | omega | exact xin_mk (by omega) (by omega) | exact xinl_mk (by omega) (by omega) | exact xbo_0 | exact xbo_1 | exact xin_sl | exact xin_fa | exact xbo_ad | exact xin_bo xbo_ad | exact xin_mb | exact xin_A | exact xin_op | ((repeat refine gN_q ?_ (by omega) (by omega)); assumption)) only [rB_build_0, rB_build_1, rB_build_4, rB_build_7, rB_build_8, rB_build_9, rB_build_10, rB_build_11, rB_build_12, rB_build_15, rB_build_16, rB_build_20, rB_build_21, rB_build_24, rB_build_27, rB_build_28, rB_build_31, rB_build_32, rB_build_33, rB_build_36, rB_build_38, rB_build_39, rB_build_40, rB_build_43, rB_build_45, rB_build_46, rB_build_47, rB_build_50, rB_build_51, rB_build_52, rB_build_53, rB_build_56, rB_build_59, rB_build_62, rB_build_63, xg_cell, Option.toList_some, Option.toList_none, List.singleton_append, List.append_nil, List.nil_append, List.cons_append, false_and, if_false, if_true, Int.reduceAdd, Int.reduceSub, Int.reduceMul, Int.reduceNeg, Int.reduceLE, Int.reduceLT, Int.reduceEq, false_implies, true_implies, not_true_eq_false, not_false_eq_true, and_true, true_and, xar_0, xar_1, xar_2, xar_3, xar_4, xar_5, xar_6, xar_7, xar_8, xar_9, xar_10, xar_11, xar_12, o2, hlt, hn]
    · obtain ⟨p1, p2, p3⟩ := o3 (by omega)
      have e1 : gBd bf (n + 1) i nd G = gBd bf n (i + 1) (gRs G (xg G 6 i) (xg G 7 i) bf).1 (gPush (gRs G (xg G 6 i) (xg G 7 i) bf).2 (gRs G (xg G 6 i) (xg G 7 i) bf).1) := by
        show (if nd < 0 then _ else _) = _
        rw [if_neg hn]
      rw [e1]
      have ih' := ih (i + 1) _ _ p3 (by omega) (by omega)
      have hr := fun (Q : Option Value → am_H → Prop) => sB_runStep (sc := sc) (d := d) (K := K) (Q := Q) p1
      have hu := fun (Q : Option Value → am_H → Prop) => sB_push (sc := sc) (d := d + 3) (K := K) (Q := Q) (v := (gRs G (xg G 6 i) (xg G 7 i) bf).1) p2
      simp (contextual := true) (disch := first | assumption | exact xin_g _ _ _ | exact xin_ar _ | exact xin_sc _ _ | exact xin_cmp | exact xin_and | exact xin_or | exact xinl_g _ _ _ | omega | exact xin_mk (by omega) (by omega) | exact xinl_mk (by omega) (by omega) | exact xbo_0 | exact xbo_1 | exact xin_sl | exact xin_fa | exact xbo_ad | exact xin_bo xbo_ad | exact xin_mb | exact xin_A | exact xin_op | ((repeat refine gN_q ?_ (by omega) (by omega)); assumption)) only [rB_build_0, rB_build_1, rB_build_4, rB_build_7, rB_build_8, rB_build_9, rB_build_10, rB_build_11, rB_build_12, rB_build_15, rB_build_16, rB_build_20, rB_build_21, rB_build_24, rB_build_27, rB_build_28, rB_build_31, rB_build_32, rB_build_33, rB_build_36, rB_build_38, rB_build_39, rB_build_40, rB_build_43, rB_build_45, rB_build_46, rB_build_47, rB_build_50, rB_build_51, rB_build_52, rB_build_53, rB_build_56, rB_build_59, rB_build_62, rB_build_63, ↓hr, ↓hu, xg_cell, Option.toList_some, Option.toList_none, List.singleton_append, List.append_nil, List.nil_append, List.cons_append, false_and, if_false, if_true, Int.reduceAdd, Int.reduceSub, Int.reduceMul, Int.reduceNeg, Int.reduceLE, Int.reduceLT, Int.reduceEq, false_implies, true_implies, not_true_eq_false, not_false_eq_true, and_true, true_and, xar_0, xar_1, xar_2, xar_3, xar_4, xar_5, xar_6, xar_7, xar_8, xar_9, xar_10, xar_11, xar_12, o2, hlt, hn, ih']
theorem sB_build (h0 : 0 ≤ xg G 5 2) (h1 : xg G 5 2 ≤ 20) (hO : gBdOk (xg G 9 9) (xg G 5 2) (xg G 5 2).toNat 0 0 (xp G 19 2 0)) : xc sc (d + 4) MB_build [.ref 19, .ref 5] (xH G K) Q ↔ Q (some (xI (gBd (xg G 9 9) (xg G 5 2).toNat 0 0 (xp G 19 2 0)).1)) (xH (gBd (xg G 9 9) (xg G 5 2).toNat 0 0 (xp G 19 2 0)).2 K) := by
  rw [eB_build]
  have hl := lB_build (sc := sc) (d := d) (K := K) (Q := Q) h1 (xg G 5 2).toNat 0 0 (xp G 19 2 0) hO (by omega) (by omega)
  simp (contextual := true) (disch := first | assumption | exact xin_g _ _ _ | exact xin_ar _ | exact xin_sc _ _ | exact xin_cmp | exact xin_and | exact xin_or | exact xinl_g _ _ _ | omega | exact xin_mk (by omega) (by omega) | exact xinl_mk (by omega) (by omega) | exact xbo_0 | exact xbo_1 | exact xin_sl | exact xin_fa | exact xbo_ad | exact xin_bo xbo_ad | exact xin_mb | exact xin_A | exact xin_op | ((repeat refine gN_q ?_ (by omega) (by omega)); assumption)) only [rB_build_0, rB_build_1, rB_build_4, rB_build_7, rB_build_8, rB_build_9, rB_build_10, rB_build_11, rB_build_12, rB_build_15, rB_build_16, xg_cell, Option.toList_some, Option.toList_none, List.singleton_append, List.append_nil, List.nil_append, List.cons_append, hl]
end SP
