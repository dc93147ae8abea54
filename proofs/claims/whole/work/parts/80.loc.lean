/-! numbers: signs, curvature, blame, values of a node, in the class and in the reference -/
def ag (f : Int → Int) (x : Int) : Int := if x = -1 then 0 else f x
theorem ag_n {f : Int → Int} : ag f (-1) = 0 := by unfold ag; rw [if_pos rfl]
theorem ag_p {f : Int → Int} {x : Int} (h : 0 ≤ x) : ag f x = f x := by unfold ag; rw [if_neg (by omega)]
/-- a sign as two bits -/
def xsg (s u b : Int) : Prop := xbo u ∧ xbo b ∧ s = u + 2 * b
theorem xsg_0 : xsg 0 0 0 := ⟨Or.inl rfl, Or.inl rfl, rfl⟩
theorem xsg_c {s u b : Int} (h : xsg s u b) : (s = 0 ∧ u = 0 ∧ b = 0) ∨ (s = 1 ∧ u = 1 ∧ b = 0) ∨ (s = 2 ∧ u = 0 ∧ b = 1) ∨ (s = 3 ∧ u = 1 ∧ b = 1) := by
  obtain ⟨h1, h2, h3⟩ := h
  rcases h1 with rfl | rfl <;> rcases h2 with rfl | rfl <;> omega
theorem xsg_b {s u b : Int} (h : xsg s u b) : 0 ≤ s ∧ s ≤ 3 := by
  rcases xsg_c h with h | h | h | h <;> omega
set_option maxHeartbeats 4000000 in
theorem sg_eq {kd dt sa ua ba sb ub bb s3 uc bc : Int} (k0 : 0 ≤ kd) (k1 : kd ≤ 11) (v0 : 0 ≤ dt) (ha : xsg sa ua ba) (hb : xsg sb ub bb) (h3 : xsg s3 uc bc) : xsg (gSg kd dt sa sb s3) (mSu kd dt ua ba ub bb uc) (mSd kd dt ua ba ub bb bc) := by
  have hc : kd = 0 ∨ kd = 1 ∨ kd = 2 ∨ kd = 3 ∨ kd = 4 ∨ kd = 5 ∨ kd = 6 ∨ kd = 7 ∨ kd = 8 ∨ kd = 9 ∨ kd = 10 ∨ kd = 11 := by omega
  have d : ∀ s u b : Int, s = u + 2 * b → xbo u → xbo b → xsg s u b := fun s u b h1 h2 h3 => ⟨h2, h3, h1⟩
  rcases hc with e | e | e | e | e | e | e | e | e | e | e | e <;> subst e
  · show xsg (if 0 < dt then 1 else 0) (if dt = 0 then 0 else 1) 0
    by_cases h : dt = 0
    · rw [if_neg (by omega), if_pos h]; exact xsg_0
    · rw [if_pos (by omega), if_neg h]; exact ⟨Or.inr rfl, Or.inl rfl, rfl⟩
  · refine ⟨Or.inr rfl, Or.inr rfl, ?_⟩
    simp only [gSg, gLs, mSu, mSd, false_and, if_false, if_true, Int.reduceAdd, Int.reduceSub, Int.reduceMul, Int.reduceNeg, Int.reduceLE, Int.reduceLT, Int.reduceEq, false_implies, true_implies, not_true_eq_false, not_false_eq_true, and_true, true_and, xar_0, xar_1, xar_2, xar_3, xar_4, xar_5, xar_6, xar_7, xar_8, xar_9, xar_10, xar_11, xar_12, or_self]
    decide
  · show xsg (xor2 (if 0 < (if dt = 113 then 0 else (9 : Int)) then 1 else 0) (if (if dt = 112 then 0 else (-9 : Int)) < 0 then 2 else 0)) (if dt = 113 then 0 else 1) (if dt = 112 then 0 else 1)
    by_cases h : dt = 113
    · rw [if_pos h, if_pos h, if_neg (show ¬ dt = 112 by omega), if_neg (show ¬ dt = 112 by omega)]
      exact ⟨Or.inl rfl, Or.inr rfl, by decide⟩
    · rw [if_neg h, if_neg h]
      by_cases h' : dt = 112
      · rw [if_pos h', if_pos h']
        exact ⟨Or.inr rfl, Or.inl rfl, by decide⟩
      · rw [if_neg h', if_neg h']
        exact ⟨Or.inr rfl, Or.inr rfl, by decide⟩
  all_goals rcases xsg_c ha with ⟨rfl, rfl, rfl⟩ | ⟨rfl, rfl, rfl⟩ | ⟨rfl, rfl, rfl⟩ | ⟨rfl, rfl, rfl⟩
  all_goals rcases xsg_c hb with ⟨rfl, rfl, rfl⟩ | ⟨rfl, rfl, rfl⟩ | ⟨rfl, rfl, rfl⟩ | ⟨rfl, rfl, rfl⟩
  all_goals first | (refine d _ _ _ ?_ ?_ ?_ <;> first | rfl | exact Or.inl rfl | exact Or.inr rfl) | (rcases xsg_c h3 with ⟨rfl, rfl, rfl⟩ | ⟨rfl, rfl, rfl⟩ | ⟨rfl, rfl, rfl⟩ | ⟨rfl, rfl, rfl⟩ <;> refine d _ _ _ ?_ ?_ ?_ <;> first | rfl | exact Or.inl rfl | exact Or.inr rfl)
theorem sf_eq {s u b : Int} (h : xsg s u b) : gSf s = if b = 0 then 1 else if u = 0 then -1 else 0 := by
  rcases xsg_c h with ⟨rfl, rfl, rfl⟩ | ⟨rfl, rfl, rfl⟩ | ⟨rfl, rfl, rfl⟩ | ⟨rfl, rfl, rfl⟩ <;> rfl
theorem sl_eq {kd p s0 u0 b0 s1 u1 b1 : Int} (k0 : 3 ≤ kd) (k1 : kd ≤ 11) (h0 : xsg s0 u0 b0) (h1 : xsg s1 u1 b1) : gSl kd p s0 s1 = mTr kd p b0 u0 b1 u1 := by
  have hc : kd = 3 ∨ kd = 4 ∨ kd = 5 ∨ kd = 6 ∨ kd = 7 ∨ kd = 8 ∨ kd = 9 ∨ kd = 10 ∨ kd = 11 := by omega
  have f0 := sf_eq h0
  have f1 := sf_eq h1
  unfold gSl mTr
  rcases hc with rfl | rfl | rfl | rfl | rfl | rfl | rfl | rfl | rfl <;> simp only [false_and, if_false, if_true, Int.reduceAdd, Int.reduceSub, Int.reduceMul, Int.reduceNeg, Int.reduceLE, Int.reduceLT, Int.reduceEq, false_implies, true_implies, not_true_eq_false, not_false_eq_true, and_true, true_and, xar_0, xar_1, xar_2, xar_3, xar_4, xar_5, xar_6, xar_7, xar_8, xar_9, xar_10, xar_11, xar_12, or_self, or_true, true_or, or_false, false_or]
  · by_cases hp : p = 0
    · simp only [hp, if_true, f1]
    · simp only [hp, if_false, f0]
  · exact f0
  · exact f0
theorem tr_c {kd p b0 u0 b1 u1 : Int} : mTr kd p b0 u0 b1 u1 = 1 ∨ mTr kd p b0 u0 b1 u1 = -1 ∨ mTr kd p b0 u0 b1 u1 = 0 := by
  unfold mTr
  grind
theorem ad_eq {kd p c s0 u0 b0 s1 u1 b1 w : Int} (k0 : 3 ≤ kd) (k1 : kd ≤ 11) (c0 : 0 ≤ c) (c1 : c ≤ 4) (hw : w = 2 ∨ w = 3) (h0 : xsg s0 u0 b0) (h1 : xsg s1 u1 b1) : gAd kd p c s0 s1 w = mAd kd p c b0 u0 b1 u1 w := by
  unfold gAd mAd
  rw [sl_eq k0 k1 h0 h1]
  have ht := tr_c (kd := kd) (p := p) (b0 := b0) (u0 := u0) (b1 := b1) (u1 := u1)
  generalize mTr kd p b0 u0 b1 u1 = t at ht
  by_cases hc : c = 0 ∨ c = 1
  · rw [if_pos hc, if_pos hc]
  · rw [if_neg hc, if_neg hc]
    have e1 : ((c = w ∧ 0 < t) ∨ (c = (if w = 2 then 3 else 2) ∧ t < 0)) ↔ (¬ c = 4 ∧ (c = w → t = 1) ∧ (¬ c = w → t = -1)) := by
      rcases hw with rfl | rfl <;> simp only [false_and, if_false, if_true, Int.reduceAdd, Int.reduceSub, Int.reduceMul, Int.reduceNeg, Int.reduceLE, Int.reduceLT, Int.reduceEq, false_implies, true_implies, not_true_eq_false, not_false_eq_true, and_true, true_and, xar_0, xar_1, xar_2, xar_3, xar_4, xar_5, xar_6, xar_7, xar_8, xar_9, xar_10, xar_11, xar_12] <;> omega
    simp only [e1]
theorem fa_eq {n A0 A1 A2 : Int} : mFn n A0 A1 A2 = gFa n A0 A1 A2 + 1 := by
  unfold mFn gFa
  by_cases h0 : 0 < n ∧ A0 = 0
  · rw [if_pos h0, if_pos h0]; rfl
  · rw [if_neg h0, if_neg h0]
    by_cases h1 : 1 < n ∧ A1 = 0
    · rw [if_pos h1, if_pos h1]; rfl
    · rw [if_neg h1, if_neg h1]
      by_cases h2 : 2 < n ∧ A2 = 0
      · rw [if_pos h2, if_pos h2]; rfl
      · rw [if_neg h2, if_neg h2]; rfl
/-- the class's curvature, with admissions as numbers -/
def gCw (kd c0 c1 c2 A0 A1 A2 B0 B1 B2 : Int) : Int :=
  if xar kd = 0 then (if kd = 1 then 1 else 0)
  else if gMb (xar kd) c0 c1 c2 = 0 then 0
  else if kd = 6 ∧ ¬ c0 = 0 ∧ ¬ c1 = 0 then 4
  else if gLi kd ∧ gMb (xar kd) c0 c1 c2 = 1 then 1
  else if ¬ kd = 8 ∧ gFa (xar kd) A0 A1 A2 = -1 then 2
  else if (gLi kd ∨ kd = 8) ∧ gFa (xar kd) B0 B1 B2 = -1 then 3 else 4
theorem mb_0 {n c0 c1 c2 : Int} (hn : n = 1 ∨ n = 2 ∨ n = 3) (a0 : 0 ≤ c0) (b0 : 0 ≤ c1) (d0 : 0 ≤ c2) : (gMb n c0 c1 c2 = 0 ↔ mHv n 0 0 c0 c1 c2 = n) ∧ (¬ gMb n c0 c1 c2 = 0 → (gMb n c0 c1 c2 = 1 ↔ mHv n 0 1 c0 c1 c2 = n)) ∧ (n = 2 → (mHv n 0 0 c0 c1 c2 = 0 ↔ (¬ c0 = 0 ∧ ¬ c1 = 0))) := by
  unfold gMb gMx mHv mH1
  rcases hn with rfl | rfl | rfl <;> simp only [false_and, if_false, if_true, Int.reduceAdd, Int.reduceSub, Int.reduceMul, Int.reduceNeg, Int.reduceLE, Int.reduceLT, Int.reduceEq, false_implies, true_implies, not_true_eq_false, not_false_eq_true, and_true, true_and, xar_0, xar_1, xar_2, xar_3, xar_4, xar_5, xar_6, xar_7, xar_8, xar_9, xar_10, xar_11, xar_12] <;> grind
theorem cw_eq {kd c0 c1 c2 A0 A1 A2 B0 B1 B2 : Int} (k0 : 0 ≤ kd) (k1 : kd ≤ 11) (a0 : 0 ≤ c0) (b0 : 0 ≤ c1) (d0 : 0 ≤ c2) : gCw kd c0 c1 c2 A0 A1 A2 B0 B1 B2 = mCv kd c0 c1 c2 A0 A1 A2 B0 B1 B2 := by
  have f1 : ∀ n x y z : Int, mFn n x y z = 0 ↔ gFa n x y z = -1 := fun n x y z => by rw [fa_eq]; omega
  have hc : kd = 0 ∨ kd = 1 ∨ kd = 2 ∨ kd = 3 ∨ kd = 4 ∨ kd = 5 ∨ kd = 6 ∨ kd = 7 ∨ kd = 8 ∨ kd = 9 ∨ kd = 10 ∨ kd = 11 := by omega
  unfold gCw mCv
  simp only [f1]
  clear f1
  by_cases hk : kd ≤ 2
  · have hc : kd = 0 ∨ kd = 1 ∨ kd = 2 := by omega
    rcases hc with rfl | rfl | rfl <;> rfl
  · have hn : xar kd = 1 ∨ xar kd = 2 ∨ xar kd = 3 := by
      have e := par_xar k0 (show kd ≤ 12 by omega)
      have : par kd = 1 ∨ par kd = 2 ∨ par kd = 3 := by
        unfold par
        split
        · omega
        · split
          · omega
          · split <;> omega
      omega
    obtain ⟨p1, p2, p3⟩ := mb_0 (n := xar kd) (c0 := c0) (c1 := c1) (c2 := c2) hn a0 b0 d0
    generalize gMb (xar kd) c0 c1 c2 = m at p1 p2
    generalize mHv (xar kd) 0 0 c0 c1 c2 = h0 at p1 p3
    generalize mHv (xar kd) 0 1 c0 c1 c2 = h1 at p2
    generalize gFa (xar kd) A0 A1 A2 = F0
    generalize gFa (xar kd) B0 B1 B2 = F1
    unfold gLi
    rcases hc with e | e | e | e | e | e | e | e | e | e | e | e <;> subst e <;> simp only [false_and, if_false, if_true, Int.reduceAdd, Int.reduceSub, Int.reduceMul, Int.reduceNeg, Int.reduceLE, Int.reduceLT, Int.reduceEq, false_implies, true_implies, not_true_eq_false, not_false_eq_true, and_true, true_and, xar_0, xar_1, xar_2, xar_3, xar_4, xar_5, xar_6, xar_7, xar_8, xar_9, xar_10, xar_11, xar_12, or_self, or_true, true_or, or_false, false_or] at p1 p2 p3 hk ⊢ <;> grind
theorem cv_gw {kd c0 c1 c2 s0 s1 : Int} : gCv kd c0 c1 c2 s0 s1 = gCw kd c0 c1 c2 (gAd kd 0 c0 s0 s1 2) (gAd kd 1 c1 s0 s1 2) (gAd kd 2 c2 s0 s1 2) (gAd kd 0 c0 s0 s1 3) (gAd kd 1 c1 s0 s1 3) (gAd kd 2 c2 s0 s1 3) := rfl
theorem cv_b {kd c0 c1 c2 s0 s1 : Int} : 0 ≤ gCv kd c0 c1 c2 s0 s1 ∧ gCv kd c0 c1 c2 s0 s1 ≤ 4 := by
  rw [cv_gw]
  unfold gCw
  grind
theorem cv_eq {kd c0 c1 c2 s0 u0 b0 s1 u1 b1 : Int} (k0 : 0 ≤ kd) (k1 : kd ≤ 11) (a0 : 0 ≤ c0) (a1 : c0 ≤ 4) (e0 : 0 ≤ c1) (e1 : c1 ≤ 4) (f0 : 0 ≤ c2) (f1 : c2 ≤ 4) (h0 : xsg s0 u0 b0) (h1 : xsg s1 u1 b1) : gCv kd c0 c1 c2 s0 s1 = mCv kd c0 c1 c2 (mAd kd 0 c0 b0 u0 b1 u1 2) (mAd kd 1 c1 b0 u0 b1 u1 2) (mAd kd 2 c2 b0 u0 b1 u1 2) (mAd kd 0 c0 b0 u0 b1 u1 3) (mAd kd 1 c1 b0 u0 b1 u1 3) (mAd kd 2 c2 b0 u0 b1 u1 3) := by
  by_cases hk : 3 ≤ kd
  · rw [cv_gw, cw_eq k0 k1 a0 e0 f0, ad_eq hk k1 a0 a1 (Or.inl rfl) h0 h1, ad_eq hk k1 e0 e1 (Or.inl rfl) h0 h1, ad_eq hk k1 f0 f1 (Or.inl rfl) h0 h1, ad_eq hk k1 a0 a1 (Or.inr rfl) h0 h1, ad_eq hk k1 e0 e1 (Or.inr rfl) h0 h1, ad_eq hk k1 f0 f1 (Or.inr rfl) h0 h1]
  · have hc : kd = 0 ∨ kd = 1 ∨ kd = 2 := by omega
    rcases hc with rfl | rfl | rfl <;> rfl
