/-! what a kind doesn't have doesn't count -/
abbrev hK (kd : Int) : Prop := kd = 0 ∨ kd = 1 ∨ kd = 2 ∨ kd = 3 ∨ kd = 4 ∨ kd = 5 ∨ kd = 6 ∨ kd = 7 ∨ kd = 8 ∨ kd = 9 ∨ kd = 10 ∨ kd = 11
theorem hK_of {kd : Int} (h0 : 0 ≤ kd) (h1 : kd ≤ 11) : hK kd := by unfold hK; omega
set_option maxHeartbeats 4000000
theorem mAd_ind {kd p c b0 u0 b1 u1 w c' b0' u0' b1' u1' : Int} (hc : hK kd) (hcc : c = c') (h0 : 0 < xar kd → b0 = b0' ∧ u0 = u0') (h1 : 1 < xar kd → b1 = b1' ∧ u1 = u1') (h3 : 0 < xar kd) : mAd kd p c b0 u0 b1 u1 w = mAd kd p c' b0' u0' b1' u1' w := by
  subst hcc
  unfold mAd
  have : mTr kd p b0 u0 b1 u1 = mTr kd p b0' u0' b1' u1' := by
    unfold mTr
    rcases hc with e | e | e | e | e | e | e | e | e | e | e | e <;> subst e <;> simp only [false_and, if_false, if_true, Int.reduceAdd, Int.reduceSub, Int.reduceMul, Int.reduceNeg, Int.reduceLE, Int.reduceLT, Int.reduceEq, false_implies, true_implies, not_true_eq_false, not_false_eq_true, and_true, true_and, xar_0, xar_1, xar_2, xar_3, xar_4, xar_5, xar_6, xar_7, xar_8, xar_9, xar_10, xar_11, xar_12, or_self, or_true, true_or, or_false, false_or] at h0 h1 h3 ⊢ <;> grind
  rw [this]
theorem gAd_ind {kd p c s0 s1 w c' s0' s1' : Int} (hc : hK kd) (hcc : c = c') (h0 : 0 < xar kd → s0 = s0') (h1 : 1 < xar kd → s1 = s1') (h3 : 0 < xar kd) : gAd kd p c s0 s1 w = gAd kd p c' s0' s1' w := by
  subst hcc
  unfold gAd
  have : gSl kd p s0 s1 = gSl kd p s0' s1' := by
    unfold gSl
    rcases hc with e | e | e | e | e | e | e | e | e | e | e | e <;> subst e <;> simp only [false_and, if_false, if_true, Int.reduceAdd, Int.reduceSub, Int.reduceMul, Int.reduceNeg, Int.reduceLE, Int.reduceLT, Int.reduceEq, false_implies, true_implies, not_true_eq_false, not_false_eq_true, and_true, true_and, xar_0, xar_1, xar_2, xar_3, xar_4, xar_5, xar_6, xar_7, xar_8, xar_9, xar_10, xar_11, xar_12, or_self, or_true, true_or, or_false, false_or] at h0 h1 h3 ⊢ <;> grind
  rw [this]
theorem mHv_ind {kd lo hi c0 c1 c2 c0' c1' c2' : Int} (hc : hK kd) (h0 : 0 < xar kd → c0 = c0') (h1 : 1 < xar kd → c1 = c1') (h2 : 2 < xar kd → c2 = c2') : mHv (xar kd) lo hi c0 c1 c2 = mHv (xar kd) lo hi c0' c1' c2' := by
  unfold mHv
  rcases hc with e | e | e | e | e | e | e | e | e | e | e | e <;> subst e <;> simp only [false_and, if_false, if_true, Int.reduceAdd, Int.reduceSub, Int.reduceMul, Int.reduceNeg, Int.reduceLE, Int.reduceLT, Int.reduceEq, false_implies, true_implies, not_true_eq_false, not_false_eq_true, and_true, true_and, xar_0, xar_1, xar_2, xar_3, xar_4, xar_5, xar_6, xar_7, xar_8, xar_9, xar_10, xar_11, xar_12] at h0 h1 h2 ⊢ <;> grind
theorem gMb_ind {kd c0 c1 c2 c0' c1' c2' : Int} (hc : hK kd) (h0 : 0 < xar kd → c0 = c0') (h1 : 1 < xar kd → c1 = c1') (h2 : 2 < xar kd → c2 = c2') : gMb (xar kd) c0 c1 c2 = gMb (xar kd) c0' c1' c2' := by
  unfold gMb
  rcases hc with e | e | e | e | e | e | e | e | e | e | e | e <;> subst e <;> simp only [false_and, if_false, if_true, Int.reduceAdd, Int.reduceSub, Int.reduceMul, Int.reduceNeg, Int.reduceLE, Int.reduceLT, Int.reduceEq, false_implies, true_implies, not_true_eq_false, not_false_eq_true, and_true, true_and, xar_0, xar_1, xar_2, xar_3, xar_4, xar_5, xar_6, xar_7, xar_8, xar_9, xar_10, xar_11, xar_12] at h0 h1 h2 ⊢ <;> grind
theorem gLb_ind {kd c0 c1 c2 c0' c1' c2' : Int} (hc : hK kd) (h0 : 0 < xar kd → c0 = c0') (h1 : 1 < xar kd → c1 = c1') (h2 : 2 < xar kd → c2 = c2') : gLb (xar kd) c0 c1 c2 = gLb (xar kd) c0' c1' c2' := by
  unfold gLb
  rcases hc with e | e | e | e | e | e | e | e | e | e | e | e <;> subst e <;> simp only [false_and, if_false, if_true, Int.reduceAdd, Int.reduceSub, Int.reduceMul, Int.reduceNeg, Int.reduceLE, Int.reduceLT, Int.reduceEq, false_implies, true_implies, not_true_eq_false, not_false_eq_true, and_true, true_and, xar_0, xar_1, xar_2, xar_3, xar_4, xar_5, xar_6, xar_7, xar_8, xar_9, xar_10, xar_11, xar_12] at h0 h1 h2 ⊢ <;> grind
theorem mFn_ind {kd c0 c1 c2 c0' c1' c2' : Int} (hc : hK kd) (h0 : 0 < xar kd → c0 = c0') (h1 : 1 < xar kd → c1 = c1') (h2 : 2 < xar kd → c2 = c2') : mFn (xar kd) c0 c1 c2 = mFn (xar kd) c0' c1' c2' := by
  unfold mFn
  rcases hc with e | e | e | e | e | e | e | e | e | e | e | e <;> subst e <;> simp only [false_and, if_false, if_true, Int.reduceAdd, Int.reduceSub, Int.reduceMul, Int.reduceNeg, Int.reduceLE, Int.reduceLT, Int.reduceEq, false_implies, true_implies, not_true_eq_false, not_false_eq_true, and_true, true_and, xar_0, xar_1, xar_2, xar_3, xar_4, xar_5, xar_6, xar_7, xar_8, xar_9, xar_10, xar_11, xar_12] at h0 h1 h2 ⊢ <;> grind
theorem gFa_ind {kd c0 c1 c2 c0' c1' c2' : Int} (hc : hK kd) (h0 : 0 < xar kd → c0 = c0') (h1 : 1 < xar kd → c1 = c1') (h2 : 2 < xar kd → c2 = c2') : gFa (xar kd) c0 c1 c2 = gFa (xar kd) c0' c1' c2' := by
  have := mFn_ind hc h0 h1 h2
  rw [fa_eq, fa_eq] at this
  omega
theorem gCu_ind {kd cv c0 c1 c2 u0 u1 u2 k c0' c1' c2' u0' u1' u2' : Int} (hc : hK kd) (h0 : 0 < xar kd → c0 = c0' ∧ u0 = u0') (h1 : 1 < xar kd → c1 = c1' ∧ u1 = u1') (h2 : 2 < xar kd → c2 = c2' ∧ u2 = u2') : gCu (xar kd) cv c0 c1 c2 u0 u1 u2 k = gCu (xar kd) cv c0' c1' c2' u0' u1' u2' k := by
  unfold gCu
  rcases hc with e | e | e | e | e | e | e | e | e | e | e | e <;> subst e <;> simp only [false_and, if_false, if_true, Int.reduceAdd, Int.reduceSub, Int.reduceMul, Int.reduceNeg, Int.reduceLE, Int.reduceLT, Int.reduceEq, false_implies, true_implies, not_true_eq_false, not_false_eq_true, and_true, true_and, xar_0, xar_1, xar_2, xar_3, xar_4, xar_5, xar_6, xar_7, xar_8, xar_9, xar_10, xar_11, xar_12] at h0 h1 h2 ⊢ <;> grind
theorem x6 {kd : Int} (h : kd = 6) : 0 < xar kd ∧ 1 < xar kd := by subst h; decide
theorem gCv_ind {kd c0 c1 c2 s0 s1 c0' c1' c2' s0' s1' : Int} (hc : hK kd) (h0 : 0 < xar kd → c0 = c0' ∧ s0 = s0') (h1 : 1 < xar kd → c1 = c1' ∧ s1 = s1') (h2 : 2 < xar kd → c2 = c2') : gCv kd c0 c1 c2 s0 s1 = gCv kd c0' c1' c2' s0' s1' := by
  by_cases hz : 0 < xar kd
  · have f := fun (w : Int) => gFa_ind hc (fun z => gAd_ind (p := 0) (w := w) hc (h0 z).1 (fun z => (h0 z).2) (fun z => (h1 z).2) hz) (fun z => gAd_ind (p := 1) (w := w) hc (h1 z).1 (fun z => (h0 z).2) (fun z => (h1 z).2) hz) (fun z => gAd_ind (p := 2) (w := w) hc (h2 z) (fun z => (h0 z).2) (fun z => (h1 z).2) hz)
    have g := gMb_ind hc (fun z => (h0 z).1) (fun z => (h1 z).1) h2
    unfold gCv
    rw [f 2, f 3, g]
    have e6 : (kd = 6 ∧ ¬ c0 = 0 ∧ ¬ c1 = 0) ↔ (kd = 6 ∧ ¬ c0' = 0 ∧ ¬ c1' = 0) := by
      constructor
      · rintro ⟨p, q, r⟩; obtain ⟨z0, z1⟩ := x6 p; rw [← (h0 z0).1, ← (h1 z1).1]; exact ⟨p, q, r⟩
      · rintro ⟨p, q, r⟩; obtain ⟨z0, z1⟩ := x6 p; rw [(h0 z0).1, (h1 z1).1]; exact ⟨p, q, r⟩
    simp only [e6]
  · have hz' : xar kd = 0 := by
      rcases hc with e | e | e | e | e | e | e | e | e | e | e | e <;> subst e <;> first | rfl | exact absurd (by decide) hz
    unfold gCv
    rw [if_pos hz', if_pos hz']
theorem gBl_ind {kd c0 c1 c2 s0 s1 c0' c1' c2' s0' s1' : Int} (hc : hK kd) (h0 : 0 < xar kd → c0 = c0' ∧ s0 = s0') (h1 : 1 < xar kd → c1 = c1' ∧ s1 = s1') (h2 : 2 < xar kd → c2 = c2') : gBl kd c0 c1 c2 s0 s1 = gBl kd c0' c1' c2' s0' s1' := by
  have e6 : (kd = 6 ∧ ¬ c0 = 0 ∧ ¬ c1 = 0) ↔ (kd = 6 ∧ ¬ c0' = 0 ∧ ¬ c1' = 0) := by
    constructor
    · rintro ⟨p, q, r⟩; obtain ⟨z0, z1⟩ := x6 p; rw [← (h0 z0).1, ← (h1 z1).1]; exact ⟨p, q, r⟩
    · rintro ⟨p, q, r⟩; obtain ⟨z0, z1⟩ := x6 p; rw [(h0 z0).1, (h1 z1).1]; exact ⟨p, q, r⟩
  have g := gLb_ind hc (fun z => (h0 z).1) (fun z => (h1 z).1) h2
  have f : gFa (xar kd) (gAd kd 0 c0 s0 s1 (if kd = 8 then 3 else 2)) (gAd kd 1 c1 s0 s1 (if kd = 8 then 3 else 2)) (gAd kd 2 c2 s0 s1 (if kd = 8 then 3 else 2)) = gFa (xar kd) (gAd kd 0 c0' s0' s1' (if kd = 8 then 3 else 2)) (gAd kd 1 c1' s0' s1' (if kd = 8 then 3 else 2)) (gAd kd 2 c2' s0' s1' (if kd = 8 then 3 else 2)) :=
    gFa_ind hc (fun z => gAd_ind hc (h0 z).1 (fun z => (h0 z).2) (fun z => (h1 z).2) z) (fun z => gAd_ind hc (h1 z).1 (fun z => (h0 z).2) (fun z => (h1 z).2) (by omega)) (fun z => gAd_ind hc (h2 z) (fun z => (h0 z).2) (fun z => (h1 z).2) (by omega))
  unfold gBl
  simp only [e6, g, f]
theorem mCv_ind {kd c0 c1 c2 A0 A1 A2 B0 B1 B2 c0' c1' c2' A0' A1' A2' B0' B1' B2' : Int} (hc : hK kd) (h0 : 0 < xar kd → c0 = c0' ∧ A0 = A0' ∧ B0 = B0') (h1 : 1 < xar kd → c1 = c1' ∧ A1 = A1' ∧ B1 = B1') (h2 : 2 < xar kd → c2 = c2' ∧ A2 = A2' ∧ B2 = B2') : mCv kd c0 c1 c2 A0 A1 A2 B0 B1 B2 = mCv kd c0' c1' c2' A0' A1' A2' B0' B1' B2' := by
  have f := mFn_ind hc (fun z => (h0 z).2.1) (fun z => (h1 z).2.1) (fun z => (h2 z).2.1)
  have g := mFn_ind hc (fun z => (h0 z).2.2) (fun z => (h1 z).2.2) (fun z => (h2 z).2.2)
  have p := fun lo hi => mHv_ind (lo := lo) (hi := hi) hc (fun z => (h0 z).1) (fun z => (h1 z).1) (fun z => (h2 z).1)
  unfold mCv
  rw [f, g, p, p]
theorem mBq_ind {kd cv c0 c1 c2 A0 A1 A2 c0' c1' c2' A0' A1' A2' : Int} (hc : hK kd) (h0 : 0 < xar kd → c0 = c0' ∧ A0 = A0') (h1 : 1 < xar kd → c1 = c1' ∧ A1 = A1') (h2 : 2 < xar kd → c2 = c2' ∧ A2 = A2') (h4 : cv = 4 → ¬ 0 < mHv (xar kd) 4 4 c0 c1 c2 → kd ≤ 6 → 1 < xar kd) : mBq kd cv c0 c1 c2 A0 A1 A2 = mBq kd cv c0' c1' c2' A0' A1' A2' := by
  have f := mFn_ind hc (fun z => (h0 z).2) (fun z => (h1 z).2) (fun z => (h2 z).2)
  have p := fun lo hi => mHv_ind (lo := lo) (hi := hi) hc (fun z => (h0 z).1) (fun z => (h1 z).1) (fun z => (h2 z).1)
  rw [p] at h4
  unfold mBq
  rw [f, p, p]
  by_cases hq : ¬ cv = 4 ∨ 0 < mHv (xar kd) 4 4 c0' c1' c2'
  · rw [if_pos hq, if_pos hq]
  · rw [if_neg hq, if_neg hq]
    by_cases hk : kd ≤ 6
    · have := (h1 (h4 (by omega) (by omega) hk)).1
      rw [this]
    · rw [if_neg hk, if_neg hk]
theorem mSu_ind {kd nm ua ba ub bb uc ua' ba' ub' bb' uc' : Int} (hc : hK kd) (h0 : 0 < xar kd → ua = ua' ∧ ba = ba') (h1 : 1 < xar kd → ub = ub' ∧ bb = bb') (h2 : 2 < xar kd → uc = uc') : mSu kd nm ua ba ub bb uc = mSu kd nm ua' ba' ub' bb' uc' := by
  unfold mSu
  rcases hc with e | e | e | e | e | e | e | e | e | e | e | e <;> subst e <;> simp only [false_and, if_false, if_true, Int.reduceAdd, Int.reduceSub, Int.reduceMul, Int.reduceNeg, Int.reduceLE, Int.reduceLT, Int.reduceEq, false_implies, true_implies, not_true_eq_false, not_false_eq_true, and_true, true_and, xar_0, xar_1, xar_2, xar_3, xar_4, xar_5, xar_6, xar_7, xar_8, xar_9, xar_10, xar_11, xar_12, or_self, or_true, true_or, or_false, false_or] at h0 h1 h2 ⊢ <;> grind
theorem mSd_ind {kd nm ua ba ub bb uc ua' ba' ub' bb' uc' : Int} (hc : hK kd) (h0 : 0 < xar kd → ua = ua' ∧ ba = ba') (h1 : 1 < xar kd → ub = ub' ∧ bb = bb') (h2 : 2 < xar kd → uc = uc') : mSd kd nm ua ba ub bb uc = mSd kd nm ua' ba' ub' bb' uc' := by
  unfold mSd
  rcases hc with e | e | e | e | e | e | e | e | e | e | e | e <;> subst e <;> simp only [false_and, if_false, if_true, Int.reduceAdd, Int.reduceSub, Int.reduceMul, Int.reduceNeg, Int.reduceLE, Int.reduceLT, Int.reduceEq, false_implies, true_implies, not_true_eq_false, not_false_eq_true, and_true, true_and, xar_0, xar_1, xar_2, xar_3, xar_4, xar_5, xar_6, xar_7, xar_8, xar_9, xar_10, xar_11, xar_12, or_self, or_true, true_or, or_false, false_or] at h0 h1 h2 ⊢ <;> grind
theorem mW_ind {kd nm gv a b c a' b' c' : Int} (hc : hK kd) (h0 : 0 < xar kd → a = a') (h1 : 1 < xar kd → b = b') (h2 : 2 < xar kd → c = c') : mW kd nm gv a b c = mW kd nm gv a' b' c' := by
  unfold mW
  rcases hc with e | e | e | e | e | e | e | e | e | e | e | e <;> subst e <;> simp only [false_and, if_false, if_true, Int.reduceAdd, Int.reduceSub, Int.reduceMul, Int.reduceNeg, Int.reduceLE, Int.reduceLT, Int.reduceEq, false_implies, true_implies, not_true_eq_false, not_false_eq_true, and_true, true_and, xar_0, xar_1, xar_2, xar_3, xar_4, xar_5, xar_6, xar_7, xar_8, xar_9, xar_10, xar_11, xar_12, or_self, or_true, true_or, or_false, false_or] at h0 h1 h2 ⊢ <;> grind
