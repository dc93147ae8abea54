/-! the graph's rules, node by node -/
theorem xin_and {x y : Int} : xin (xand x y) := xin_of _
theorem xin_or {x y : Int} : xin (xor2 x y) := xin_of _
def gSf (s : Int) : Int := if xand s 2 = 0 then 1 else if xand s 1 = 0 then -1 else 0
def gSl (kd p s0 s1 : Int) : Int := if kd = 4 then (if p = 0 then 1 else -1) else if kd = 5 then -1 else if kd = 9 ∨ kd = 10 then gSf s0 else if kd = 6 then gSf (if p = 0 then s1 else s0) else 1
def gAd (kd p c s0 s1 w : Int) : Int := if c = 0 ∨ c = 1 then 1 else if (c = w ∧ 0 < gSl kd p s0 s1) ∨ (c = (if w = 2 then 3 else 2) ∧ gSl kd p s0 s1 < 0) then 1 else 0
def gOp (s : Int) : Int := xor2 (if xand s 1 = 0 then 0 else 2) (if xand s 2 = 0 then 0 else 1)
theorem xin_sf {s : Int} : xin (gSf s) := by
  unfold gSf
  split
  · exact ⟨by decide, by decide⟩
  · split <;> exact ⟨by decide, by decide⟩
theorem xin_sl {kd p s0 s1 : Int} : xin (gSl kd p s0 s1) := by
  unfold gSl
  split
  · split <;> exact ⟨by decide, by decide⟩
  · split
    · exact ⟨by decide, by decide⟩
    · split
      · exact xin_sf
      · split
        · exact xin_sf
        · exact ⟨by decide, by decide⟩
section SP
variable {sc : Nat × (Nat → Int32)} {d : Nat} {Q : Option Value → am_H → Prop} {G : xG} {K : xK} {h : am_H}
theorem sG_slopeFor {s : Int} (hs : xin s) : xc sc d MG_slopeFor [xI s] h Q ↔ Q (some (xI (gSf s))) h := by
  rw [eG_slopeFor]
  simp (contextual := true) (disch := first | assumption | exact xin_g _ _ _ | exact xin_ar _ | exact xin_sc _ _ | exact xin_cmp | exact xin_and | exact xin_or | exact xinl_g _ _ _ | omega | exact xin_mk (by omega) (by omega) | exact xinl_mk (by omega) (by omega) | exact xbo_0 | exact xbo_1 | exact xin_sl | exact xin_fa | exact xbo_ad | exact xin_bo xbo_ad | exact xin_mb | exact xin_A | exact xin_op | ((repeat refine gN_q ?_ (by omega) (by omega)); assumption)) only [rG_slopeFor_0, rG_slopeFor_1, rG_slopeFor_2, rG_slopeFor_3, rG_slopeFor_6, rG_slopeFor_7, rG_slopeFor_8, rG_slopeFor_9, rG_slopeFor_10, rG_slopeFor_11, rG_slopeFor_14, rG_slopeFor_15, rG_slopeFor_18, rG_slopeFor_19, xg_cell, Option.toList_some, Option.toList_none, List.singleton_append, List.append_nil, List.nil_append, List.cons_append, gSf]
  grind
theorem sG_opposite {s : Int} (hs : xin s) : xc sc d MG_opposite [xI s] h Q ↔ Q (some (xI (gOp s))) h := by
  rw [eG_opposite]
  simp (contextual := true) (disch := first | assumption | exact xin_g _ _ _ | exact xin_ar _ | exact xin_sc _ _ | exact xin_cmp | exact xin_and | exact xin_or | exact xinl_g _ _ _ | omega | exact xin_mk (by omega) (by omega) | exact xinl_mk (by omega) (by omega) | exact xbo_0 | exact xbo_1 | exact xin_sl | exact xin_fa | exact xbo_ad | exact xin_bo xbo_ad | exact xin_mb | exact xin_A | exact xin_op | ((repeat refine gN_q ?_ (by omega) (by omega)); assumption)) only [rG_opposite_0, rG_opposite_1, rG_opposite_2, rG_opposite_3, rG_opposite_6, rG_opposite_7, rG_opposite_10, rG_opposite_11, rG_opposite_12, rG_opposite_13, rG_opposite_14, rG_opposite_17, rG_opposite_18, rG_opposite_21, rG_opposite_22, rG_opposite_23, xg_cell, Option.toList_some, Option.toList_none, List.singleton_append, List.append_nil, List.nil_append, List.cons_append, gOp]
  grind
theorem sG_slopeIn {k p : Int} (h0 : 0 ≤ k) (h1 : k < 36) (hp : p = 0 ∨ p = 1 ∨ p = 2) (hk0 : 0 ≤ xg G 10 k) (hk1 : xg G 10 k ≤ 12) (ha : xg G 10 k = 6 → p < 2) (hb0 : 3 ≤ xg G 10 k → 0 ≤ xg G 12 (3 * k + 0)) (hb1 : xg G 12 (3 * k + 0) < 36) (hb2 : xg G 10 k = 6 → 0 ≤ xg G 12 (3 * k + 1)) (hb3 : xg G 12 (3 * k + 1) < 36) : xc sc (d + 1) MG_slopeIn [.ref 9, xI k, xI p] (xH G K) Q ↔ Q (some (xI (gSl (xg G 10 k) p (xg G 14 (xg G 12 (3 * k + 0))) (xg G 14 (xg G 12 (3 * k + 1)))))) (xH G K) := by
  rw [eG_slopeIn]
  have hc : xg G 10 k = 0 ∨ xg G 10 k = 1 ∨ xg G 10 k = 2 ∨ xg G 10 k = 3 ∨ xg G 10 k = 4 ∨ xg G 10 k = 5 ∨ xg G 10 k = 6 ∨ xg G 10 k = 7 ∨ xg G 10 k = 8 ∨ xg G 10 k = 9 ∨ xg G 10 k = 10 ∨ xg G 10 k = 11 ∨ xg G 10 k = 12 := by omega
  rcases hc with e | e | e | e | e | e | e | e | e | e | e | e | e <;> rcases hp with rfl | rfl | rfl <;> simp (contextual := true) (disch := first | assumption | exact xin_g _ _ _ | exact xin_ar _ | exact xin_sc _ _ | exact xin_cmp | exact xin_and | exact xin_or | exact xinl_g _ _ _ | omega | exact xin_mk (by omega) (by omega) | exact xinl_mk (by omega) (by omega) | exact xbo_0 | exact xbo_1 | exact xin_sl | exact xin_fa | exact xbo_ad | exact xin_bo xbo_ad | exact xin_mb | exact xin_A | exact xin_op | ((repeat refine gN_q ?_ (by omega) (by omega)); assumption)) only [e, rG_slopeIn_0, rG_slopeIn_1, rG_slopeIn_4, rG_slopeIn_5, rG_slopeIn_6_4, rG_slopeIn_6_5, rG_slopeIn_6_6, rG_slopeIn_6_7, rG_slopeIn_6_8, rG_slopeIn_6_9, rG_slopeIn_6_10, rG_slopeIn_6_d, rG_slopeIn_48, rG_slopeIn_49, rG_slopeIn_52, rG_slopeIn_53, rG_slopeIn_56, rG_slopeIn_57, rG_slopeIn_58, rG_slopeIn_59, rG_slopeIn_60, rG_slopeIn_61, rG_slopeIn_64, rG_slopeIn_65, rG_slopeIn_66, rG_slopeIn_67, rG_slopeIn_70, rG_slopeIn_71, rG_slopeIn_74, rG_slopeIn_75, rG_slopeIn_76, rG_slopeIn_79, rG_slopeIn_80, rG_slopeIn_81, rG_slopeIn_82, rG_slopeIn_83, rG_slopeIn_84, rG_slopeIn_87, rG_slopeIn_88, rG_slopeIn_91, rG_slopeIn_92, rG_slopeIn_93, ↓sG_argument, ↓sG_slopeFor, xg_cell, Option.toList_some, Option.toList_none, List.singleton_append, List.append_nil, List.nil_append, List.cons_append, gSl, Int.sub_self, Int.sub_zero] <;> grind
end SP
