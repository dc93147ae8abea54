/-! the reference: work -/
def mS (G : xG) (k : Int) : xG := xp (xp G 45 k (mSu (xg G 40 k) (xg G 41 k) (xg G 45 (xg G 42 (3 * k))) (xg G 46 (xg G 42 (3 * k))) (xg G 45 (xg G 42 (3 * k + 1))) (xg G 46 (xg G 42 (3 * k + 1))) (xg G 45 (xg G 42 (3 * k + 2))))) 46 k (mSd (xg G 40 k) (xg G 41 k) (xg G 45 (xg G 42 (3 * k))) (xg G 46 (xg G 42 (3 * k))) (xg G 45 (xg G 42 (3 * k + 1))) (xg G 46 (xg G 42 (3 * k + 1))) (xg G 46 (xg G 42 (3 * k + 2))))
def mV (G : xG) (k : Int) : xG := xp G 49 k (mW (xg G 40 k) (xg G 41 k) (xg G 44 k) (xg G 49 (xg G 42 (3 * k))) (xg G 49 (xg G 42 (3 * k + 1))) (xg G 49 (xg G 42 (3 * k + 2))))
def mC (G : xG) (k : Int) : xG := xp G 47 k (mCu G k)
def mB (G : xG) (k : Int) : xG := xp G 48 k (mBl G k)
def mK1 (G : xG) (k : Int) : xG := mB (mC (mV (mS G k) k) k) k
/-- what a step of work wants -/
def mK1Ok (G : xG) (k : Int) : Prop := mN G k ∧ (xg G 40 k = 5 → xbo (xg G 45 (xg G 42 (3 * k)))) ∧ (xg G 40 k = 5 → xbo (xg G 46 (xg G 42 (3 * k)))) ∧ (0 ≤ xg G 42 (3 * k) → mB6 (xg G 49 (xg G 42 (3 * k)))) ∧ (0 ≤ xg G 42 (3 * k + 1) → mB6 (xg G 49 (xg G 42 (3 * k + 1)))) ∧ (0 ≤ xg G 42 (3 * k + 2) → mB6 (xg G 49 (xg G 42 (3 * k + 2)))) ∧ (xg (mC (mV (mS G k) k) k) 47 k = 4 → mHa (mC (mV (mS G k) k) k) k 4 4 ≤ 0 → xg G 40 k ≤ 6 → 0 ≤ xg G 42 (3 * k + 1))
def mWk : Nat → Int → xG → xG
  | 0, _, G => G
  | n + 1, k, G => mWk n (k + 1) (mK1 G k)
def mWkOk : Nat → Int → xG → Prop
  | 0, _, _ => True
  | n + 1, k, G => mK1Ok G k ∧ mWkOk n (k + 1) (mK1 G k)
theorem mK1_c {G : xG} {k j : Int} {a : Nat} (h5 : ¬ a = 45) (h6 : ¬ a = 46) (h7 : ¬ a = 47) (h8 : ¬ a = 48) (h9 : ¬ a = 49) : xg (mK1 G k) a j = xg G a j := by
  unfold mK1 mB mC mV mS
  rw [xg_cell h8, xg_cell h7, xg_cell h9, xg_cell h6, xg_cell h5]
section SP
variable {sc : Nat × (Nat → Int32)} {d : Nat} {Q : Option Value → am_H → Prop} {G : xG} {K : xK} {h : am_H}
theorem lm_step {k : Int} {u2 u3 u4 : Option Value} (hO : mK1Ok G k) (hlt : k < xg G 33 12) : xw sc (d + 4) Mm_work cm_work_2 [some (.ref 33), some (xI k), u2, u3, u4] [] (xH G K) Q ↔ xw sc (d + 4) Mm_work cm_work_2 [some (.ref 33), some (xI (k + 1)), some (xI (xg G 42 (3 * k))), some (xI (xg G 42 (3 * k + 1))), some (xI (xg G 42 (3 * k + 2)))] [] (xH (mK1 G k) K) Q := by
  obtain ⟨o1, o2, o3, o4, o5, o6, o7⟩ := hO
  obtain ⟨k0, k1⟩ := mN_b o1
  have hge : ¬ xg G 33 12 ≤ k := by omega
  have s1 : ∀ Q : Option Value → am_H → Prop, xc sc (d + 3) Mm_signs [.ref 33, xI k, xI (xg G 42 (3 * k)), xI (xg G 42 (3 * k + 1)), xI (xg G 42 (3 * k + 2))] (xH G K) Q ↔ Q none (xH (mS G k) K) := fun Q => sm_signs o1 o2 o3
  have n1 : mN (mS G k) k := mN_q (mN_q o1 (by decide) (by decide)) (by decide) (by decide)
  have c42 : ∀ j, xg (mS G k) 42 j = xg G 42 j := fun j => by unfold mS; rw [xg_cell (by decide), xg_cell (by decide)]
  have c49 : ∀ j, xg (mS G k) 49 j = xg G 49 j := fun j => by unfold mS; rw [xg_cell (by decide), xg_cell (by decide)]
  have s2 : ∀ Q : Option Value → am_H → Prop, xc sc (d + 3) Mm_worthOf [.ref 33, xI k, xI (xg G 42 (3 * k)), xI (xg G 42 (3 * k + 1)), xI (xg G 42 (3 * k + 2))] (xH (mS G k) K) Q ↔ Q (some (xI (mW (xg (mS G k) 40 k) (xg (mS G k) 41 k) (xg (mS G k) 44 k) (xg (mS G k) 49 (xg (mS G k) 42 (3 * k))) (xg (mS G k) 49 (xg (mS G k) 42 (3 * k + 1))) (xg (mS G k) 49 (xg (mS G k) 42 (3 * k + 2)))))) (xH (mS G k) K) := by
    intro Q
    have := sm_worthOf (sc := sc) (d := d + 2) (K := K) (Q := Q) n1 (by simp only [c42, c49]; exact o4) (by simp only [c42, c49]; exact o5) (by simp only [c42, c49]; exact o6)
    simp only [c42] at this ⊢
    exact this
  have n2 : mN (mV (mS G k) k) k := mN_q n1 (by decide) (by decide)
  have s3 := fun (Q : Option Value → am_H → Prop) => sm_curveOf (sc := sc) (d := d) (K := K) (Q := Q) n2
  have n3 : mN (mC (mV (mS G k) k) k) k := mN_q n2 (by decide) (by decide)
  have c40 : xg (mC (mV (mS G k) k) k) 40 k = xg G 40 k := by unfold mC mV mS; rw [xg_cell (by decide), xg_cell (by decide), xg_cell (by decide), xg_cell (by decide)]
  have c42' : xg (mC (mV (mS G k) k) k) 42 (3 * k + 1) = xg G 42 (3 * k + 1) := by unfold mC mV mS; rw [xg_cell (by decide), xg_cell (by decide), xg_cell (by decide), xg_cell (by decide)]
  have s4 := fun (Q : Option Value → am_H → Prop) => sm_blameOf (sc := sc) (d := d) (K := K) (Q := Q) n3 (by rw [c40, c42']; exact o7)
  unfold mK1 mB
  conv => lhs; rw [rm_work_2]
  generalize mBl (mC (mV (mS G k) k) k) k = b4 at s4
  generalize hG3 : mC (mV (mS G k) k) k = G3 at s4
  generalize hc3 : mCu (mV (mS G k) k) k = b3 at s3
  generalize hG2 : mV (mS G k) k = G2 at s3
  have e3 : xp G2 47 k b3 = G3 := by rw [← hG3, ← hG2, ← hc3]; rfl
  generalize hw : mW (xg (mS G k) 40 k) (xg (mS G k) 41 k) (xg (mS G k) 44 k) (xg (mS G k) 49 (xg (mS G k) 42 (3 * k))) (xg (mS G k) 49 (xg (mS G k) 42 (3 * k + 1))) (xg (mS G k) 49 (xg (mS G k) 42 (3 * k + 2))) = b2 at s2
  have e2 : xp (mS G k) 49 k b2 = G2 := by rw [← hG2, ← hw]; rfl
  generalize mS G k = G1 at s1 s2 e2
  simp (contextual := true) (disch := first | assumption | exact xin_g _ _ _ | exact xin_ar _ | exact xin_sc _ _ | exact xin_cmp | exact xin_and | exact xin_or | exact xinl_g _ _ _ | omega | exact xin_mk (by omega) (by omega) | exact xinl_mk (by omega) (by omega) | exact xbo_0 | exact xbo_1 | exact xin_sl | exact xin_fa | exact xbo_ad | exact xin_bo xbo_ad | exact xin_mb | exact xin_A | exact xin_op | ((repeat refine gN_q ?_ (by omega) (by omega)); assumption)) only [rm_work_3, rm_work_4, rm_work_7, rm_work_10, rm_work_11, rm_work_14, rm_work_15, rm_work_16, rm_work_17, rm_work_18, rm_work_19, rm_work_20, rm_work_23, rm_work_24, rm_work_25, rm_work_26, rm_work_27, rm_work_28, rm_work_29, rm_work_30, rm_work_31, rm_work_34, rm_work_35, rm_work_36, rm_work_37, rm_work_38, rm_work_39, rm_work_40, rm_work_42, rm_work_43, rm_work_44, rm_work_45, rm_work_46, rm_work_48, rm_work_51, rm_work_52, rm_work_55, rm_work_56, rm_work_57, rm_work_58, rm_work_59, rm_work_60, rm_work_62, rm_work_65, rm_work_66, rm_work_67, rm_work_70, rm_work_71, rm_work_72, rm_work_73, rm_work_76, rm_work_77, rm_work_78, rm_work_81, rm_work_82, rm_work_83, rm_work_84, rm_work_87, rm_work_88, rm_work_91, ↓s1, ↓s2, ↓s3, ↓s4, xg_cell, Option.toList_some, Option.toList_none, List.singleton_append, List.append_nil, List.nil_append, List.cons_append, false_and, if_false, if_true, Int.reduceAdd, Int.reduceSub, Int.reduceMul, Int.reduceNeg, Int.reduceLE, Int.reduceLT, Int.reduceEq, false_implies, true_implies, not_true_eq_false, not_false_eq_true, and_true, true_and, xar_0, xar_1, xar_2, xar_3, xar_4, xar_5, xar_6, xar_7, xar_8, xar_9, xar_10, xar_11, xar_12, hge, e2, e3]
theorem lm_work : ∀ (n : Nat) (k : Int) (G : xG) (u2 u3 u4 : Option Value), mWkOk n k G → k + n = xg G 33 12 → 0 ≤ k → (xw sc (d + 4) Mm_work cm_work_2 [some (.ref 33), some (xI k), u2, u3, u4] [] (xH G K) Q ↔ Q none (xH (mWk n k G) K)) := by
  intro n
  induction n with
  | zero =>
    intro k G u2 u3 u4 hO hk k0
    have hge : xg G 33 12 ≤ k := by omega
    have hx : xin k := by have := xin_g G 33 12; unfold xin at this ⊢; omega
    rw [rm_work_2]
    simp (contextual := true) (disch := first | assumption | exact xin_g _ _ _ | exact xin_ar _ | exact xin_sc _ _ | exact xin_cmp | exact xin_and | exact xin_or | exact xinl_g _ _ _ | omega | exact xin_mk (by omega) (by omega) | exact xinl_mk (by omega) (by omega) | exact xbo_0 | exact xbo_1 | exact xin_sl | exact xin_fa | exact xbo_ad | exact xin_bo xbo_ad | exact xin_mb | exact xin_A | exact xin_op | ((repeat refine gN_q ?_ (by omega) (by omega)); assumption)) only [rm_work_3, rm_work_4, rm_work_7, rm_work_94, xg_cell, Option.toList_some, Option.toList_none, List.singleton_append, List.append_nil, List.nil_append, List.cons_append, false_and, if_false, if_true, Int.reduceAdd, Int.reduceSub, Int.reduceMul, Int.reduceNeg, Int.reduceLE, Int.reduceLT, Int.reduceEq, false_implies, true_implies, not_true_eq_false, not_false_eq_true, and_true, true_and, xar_0, xar_1, xar_2, xar_3, xar_4, xar_5, xar_6, xar_7, xar_8, xar_9, xar_10, xar_11, xar_12, mWk, hge]
  | succ n ih =>
    intro k G u2 u3 u4 hO hk k0
    rw [lm_step hO.1 (by omega)]
    exact ih (k + 1) (mK1 G k) _ _ _ hO.2 (by rw [mK1_c (by decide) (by decide) (by decide) (by decide) (by decide)]; omega) (by omega)
theorem sm_work (h0 : 0 ≤ xg G 33 12) (hO : mWkOk (xg G 33 12).toNat 0 G) : xc sc (d + 4) Mm_work [.ref 33] (xH G K) Q ↔ Q none (xH (mWk (xg G 33 12).toNat 0 G) K) := by
  rw [em_work]
  have hl := fun u2 u3 u4 => lm_work (sc := sc) (d := d) (K := K) (Q := Q) (xg G 33 12).toNat 0 G u2 u3 u4 hO (by omega) (by decide)
  simp (contextual := true) (disch := first | assumption | exact xin_g _ _ _ | exact xin_ar _ | exact xin_sc _ _ | exact xin_cmp | exact xin_and | exact xin_or | exact xinl_g _ _ _ | omega | exact xin_mk (by omega) (by omega) | exact xinl_mk (by omega) (by omega) | exact xbo_0 | exact xbo_1 | exact xin_sl | exact xin_fa | exact xbo_ad | exact xin_bo xbo_ad | exact xin_mb | exact xin_A | exact xin_op | ((repeat refine gN_q ?_ (by omega) (by omega)); assumption)) only [rm_work_0, rm_work_1, xg_cell, Option.toList_some, Option.toList_none, List.singleton_append, List.append_nil, List.nil_append, List.cons_append, hl]
end SP
