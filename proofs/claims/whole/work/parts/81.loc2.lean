/-! blame and values of a node -/
/-- the reference's blame, as numbers -/
def mBq (kd cv c0 c1 c2 A0 A1 A2 : Int) : Int :=
  if ¬ cv = 4 ∨ 0 < mHv (xar kd) 4 4 c0 c1 c2 then 0
  else if kd = 6 ∧ mHv (xar kd) 0 0 c0 c1 c2 = 0 then 4
  else if kd ≤ 6 then (if 1 < c1 then 2 else 1)
  else mFn (xar kd) A0 A1 A2
theorem hv_4 {n c0 c1 c2 : Int} (hn : n = 1 ∨ n = 2 ∨ n = 3) : 0 < mHv n 4 4 c0 c1 c2 ↔ (c0 = 4 ∨ (1 < n ∧ c1 = 4) ∨ (2 < n ∧ c2 = 4)) := by
  unfold mHv mH1
  rcases hn with rfl | rfl | rfl <;> simp only [false_and, if_false, if_true, Int.reduceAdd, Int.reduceSub, Int.reduceMul, Int.reduceNeg, Int.reduceLE, Int.reduceLT, Int.reduceEq, false_implies, true_implies, not_true_eq_false, not_false_eq_true, and_true, true_and, xar_0, xar_1, xar_2, xar_3, xar_4, xar_5, xar_6, xar_7, xar_8, xar_9, xar_10, xar_11, xar_12] <;> grind
theorem xar_g3 {kd : Int} (h0 : 3 ≤ kd) (h1 : kd ≤ 11) : xar kd = 1 ∨ xar kd = 2 ∨ xar kd = 3 := by
  have e := par_xar (show 0 ≤ kd by omega) (show kd ≤ 12 by omega)
  have : par kd = 1 ∨ par kd = 2 ∨ par kd = 3 := by
    unfold par
    split
    · omega
    · split
      · omega
      · split <;> omega
  omega
/-- a NEGATION is not UNKNOWN over something known -/
theorem neg_4 {c0 c1 c2 s0 s1 : Int} (a0 : 0 ≤ c0) (a1 : c0 ≤ 4) (h : gCv 5 c0 c1 c2 s0 s1 = 4) : c0 = 4 := by
  have hc : c0 = 0 ∨ c0 = 1 ∨ c0 = 2 ∨ c0 = 3 ∨ c0 = 4 := by omega
  rcases hc with rfl | rfl | rfl | rfl | rfl
  · simp [gCv, gMb, gMx, gFa, gAd, gSl, xar_5] at h
  · simp [gCv, gMb, gMx, gFa, gAd, gSl, xar_5] at h
    split at h <;> omega
  · simp [gCv, gMb, gMx, gFa, gAd, gSl, xar_5] at h
  · simp [gCv, gMb, gMx, gFa, gAd, gSl, xar_5] at h
  · rfl
theorem bl_eq {kd c0 c1 c2 s0 u0 b0 s1 u1 b1 U0 U1 U2 k : Int} (k0 : 0 ≤ kd) (k1 : kd ≤ 11) (a0 : 0 ≤ c0) (a1 : c0 ≤ 4) (e0 : 0 ≤ c1) (e1 : c1 ≤ 4) (f0 : 0 ≤ c2) (f1 : c2 ≤ 4) (h0 : xsg s0 u0 b0) (h1 : xsg s1 u1 b1) (hk : 0 ≤ k) (w0 : 0 < xar kd → U0 < k) (w1 : 1 < xar kd → U1 < k) (w2 : 2 < xar kd → U2 < k) :
    (if gCu (xar kd) (gCv kd c0 c1 c2 s0 s1) c0 c1 c2 U0 U1 U2 k = k then gBl kd c0 c1 c2 s0 s1 else 0) = mBq kd (gCv kd c0 c1 c2 s0 s1) c0 c1 c2 (mAd kd 0 c0 b0 u0 b1 u1 (if kd = 8 then 3 else 2)) (mAd kd 1 c1 b0 u0 b1 u1 (if kd = 8 then 3 else 2)) (mAd kd 2 c2 b0 u0 b1 u1 (if kd = 8 then 3 else 2)) := by
  by_cases hv : gCv kd c0 c1 c2 s0 s1 = 4
  · by_cases h3 : 3 ≤ kd
    · have hn := xar_g3 h3 k1
      have h4 := hv_4 (c0 := c0) (c1 := c1) (c2 := c2) hn
      unfold gCu mBq
      rw [hv]
      by_cases hu : c0 = 4 ∨ (1 < xar kd ∧ c1 = 4) ∨ (2 < xar kd ∧ c2 = 4)
      · rw [if_pos (Or.inr (h4.mpr hu)), if_neg]
        rw [if_neg (fun q => q rfl)]
        intro hq
        split at hq
        · have := w0 (by omega); omega
        · split at hq
          · have := w1 (by omega); omega
          · split at hq
            · have := w2 (by omega); omega
            · omega
      · rw [if_neg (show ¬ (¬ (4 : Int) = 4 ∨ 0 < mHv (xar kd) 4 4 c0 c1 c2) by rw [h4]; omega)]
        rw [if_neg (show ¬ ¬ (4 : Int) = 4 by omega), if_neg (show ¬ (0 < xar kd ∧ c0 = 4) by omega), if_neg (show ¬ (1 < xar kd ∧ c1 = 4) by omega), if_neg (show ¬ (2 < xar kd ∧ c2 = 4) by omega), if_pos rfl]
        obtain ⟨p1, p2, p3⟩ := mb_0 (n := xar kd) (c0 := c0) (c1 := c1) (c2 := c2) hn a0 e0 f0
        unfold gBl
        by_cases h6 : kd = 6 ∧ ¬ c0 = 0 ∧ ¬ c1 = 0
        · rw [if_pos h6, if_pos ⟨h6.1, (p3 (by rw [h6.1]; rfl)).mpr h6.2⟩]
        · rw [if_neg h6, if_neg (show ¬ (kd = 6 ∧ mHv (xar kd) 0 0 c0 c1 c2 = 0) from fun q => h6 ⟨q.1, (p3 (by rw [q.1]; rfl)).mp q.2⟩)]
          by_cases hl : gLi kd
          · rw [if_pos hl, if_pos (show kd ≤ 6 by unfold gLi at hl; omega)]
            have h5 : ¬ kd = 5 := by
              intro h5
              subst h5
              exact hu (Or.inl (neg_4 a0 a1 hv))
            have ha : xar kd = 2 := by
              unfold gLi at hl
              rcases hl with rfl | rfl | rfl | rfl
              · rfl
              · rfl
              · exact absurd rfl h5
              · rfl
            have hb : 1 < c0 ∨ 1 < c1 := by
              rcases (show (1 < c0 ∨ 1 < c1) ∨ (c0 ≤ 1 ∧ c1 ≤ 1) by omega) with q | ⟨q1, q2⟩
              · exact q
              · exfalso
                unfold gCv at hv
                rw [if_neg (by omega), if_neg (show ¬ (kd = 6 ∧ ¬ c0 = 0 ∧ ¬ c1 = 0) from h6)] at hv
                have hm : gMb (xar kd) c0 c1 c2 = 0 ∨ gMb (xar kd) c0 c1 c2 = 1 := by
                  rw [ha]
                  unfold gMb gMx
                  simp only [false_and, if_false, if_true, Int.reduceAdd, Int.reduceSub, Int.reduceMul, Int.reduceNeg, Int.reduceLE, Int.reduceLT, Int.reduceEq, false_implies, true_implies, not_true_eq_false, not_false_eq_true, and_true, true_and, xar_0, xar_1, xar_2, xar_3, xar_4, xar_5, xar_6, xar_7, xar_8, xar_9, xar_10, xar_11, xar_12]
                  grind
                rcases hm with hm | hm
                · rw [if_pos hm] at hv; exact absurd hv (by decide)
                · rw [if_neg (by omega), if_pos ⟨hl, hm⟩] at hv; exact absurd hv (by decide)
            unfold gLb
            rw [ha]
            by_cases hq : 1 < c1
            · rw [if_neg (by omega), if_pos ⟨by decide, hq⟩, if_pos hq]; rfl
            · rw [if_neg (by omega), if_neg (by omega), if_pos ⟨by decide, by omega⟩, if_neg hq]; rfl
          · rw [if_neg hl, if_neg (show ¬ kd ≤ 6 by unfold gLi at hl; omega), fa_eq]
            have hw : (if kd = 8 then (3 : Int) else 2) = 2 ∨ (if kd = 8 then (3 : Int) else 2) = 3 := by split <;> simp
            rw [ad_eq h3 k1 a0 a1 hw h0 h1, ad_eq h3 k1 e0 e1 hw h0 h1, ad_eq h3 k1 f0 f1 hw h0 h1]
            omega
    · exfalso
      have hc : kd = 0 ∨ kd = 1 ∨ kd = 2 := by omega
      rcases hc with rfl | rfl | rfl <;> simp [gCv, xar_0, xar_1, xar_2] at hv
  · unfold gCu mBq
    rw [if_pos (Or.inl hv), if_pos hv, if_neg (by omega)]
theorem va_eq {kd dt gv a b c : Int} (k0 : 0 ≤ kd) (k1 : kd ≤ 11) (hn : ¬ (kd = 1 ∨ kd = 2)) : mW kd dt gv a b c = gVa kd dt a b c := by
  have hc : kd = 0 ∨ kd = 1 ∨ kd = 2 ∨ kd = 3 ∨ kd = 4 ∨ kd = 5 ∨ kd = 6 ∨ kd = 7 ∨ kd = 8 ∨ kd = 9 ∨ kd = 10 ∨ kd = 11 := by omega
  unfold mW gVa
  rcases hc with e | e | e | e | e | e | e | e | e | e | e | e <;> subst e <;> simp only [false_and, if_false, if_true, Int.reduceAdd, Int.reduceSub, Int.reduceMul, Int.reduceNeg, Int.reduceLE, Int.reduceLT, Int.reduceEq, false_implies, true_implies, not_true_eq_false, not_false_eq_true, and_true, true_and, xar_0, xar_1, xar_2, xar_3, xar_4, xar_5, xar_6, xar_7, xar_8, xar_9, xar_10, xar_11, xar_12, or_self, or_true, true_or, or_false, false_or] at hn ⊢ <;> grind
theorem mul_ab {x y r s : Int} (h1 : -r ≤ x) (h2 : x ≤ r) (h3 : -s ≤ y) (h4 : y ≤ s) : -(r * s) ≤ x * y ∧ x * y ≤ r * s := by
  have a := Int.mul_nonneg (show 0 ≤ r - x by omega) (show 0 ≤ s + y by omega)
  have b := Int.mul_nonneg (show 0 ≤ r + x by omega) (show 0 ≤ s - y by omega)
  have c := Int.mul_nonneg (show 0 ≤ r - x by omega) (show 0 ≤ s - y by omega)
  have d := Int.mul_nonneg (show 0 ≤ r + x by omega) (show 0 ≤ s + y by omega)
  simp only [Int.sub_mul, Int.add_mul, Int.mul_add, Int.mul_sub] at a b c d
  omega
/-- no value lies beyond its reach -/
theorem va_b {A : aG} {kd dt a b c va vb v3 : Int} (h : aOk A) (k0 : 0 ≤ kd) (k1 : kd ≤ 11) (v0 : 0 ≤ dt) (hn : ¬ (kd = 1 ∨ kd = 2)) (ha : aAr A.1 kd a b c) (ra : -aR A a ≤ va ∧ va ≤ aR A a) (rb : -aR A b ≤ vb ∧ vb ≤ aR A b) (rc : -aR A c ≤ v3 ∧ v3 ≤ aR A c) : -aWr A kd dt a b c ≤ gVa kd dt va vb v3 ∧ gVa kd dt va vb v3 ≤ aWr A kd dt a b c := by
  obtain ⟨d1, d2, d3⟩ := aAr_d ha
  have a1 := aR_b h d1
  have b1 := aR_b h d2
  have c1 := aR_b h d3
  have m1 := mul_ab ra.1 ra.2 rb.1 rb.2
  have m2 := mul_ab ra.1 ra.2 ra.1 ra.2
  have hc : kd = 0 ∨ kd = 1 ∨ kd = 2 ∨ kd = 3 ∨ kd = 4 ∨ kd = 5 ∨ kd = 6 ∨ kd = 7 ∨ kd = 8 ∨ kd = 9 ∨ kd = 10 ∨ kd = 11 := by omega
  have z := ag_n (f := fun x => (A.2 x).2.2.2.2.2)
  have ez : ∀ x, aR A x = ag (fun x => (A.2 x).2.2.2.2.2) x := fun x => rfl
  have hb1 : xar kd ≤ 1 → aR A b = 0 := fun q => by rw [ha.2.2.2.1 q]; exact z
  have hc1 : xar kd ≤ 2 → aR A c = 0 := fun q => by rw [ha.2.2.2.2.2 q]; exact z
  unfold aWr gVa
  generalize aR A a * aR A b = M1 at m1
  generalize aR A a * aR A a = M2 at m2
  generalize va * vb = M3 at m1
  generalize va * va = M4 at m2
  rcases hc with e | e | e | e | e | e | e | e | e | e | e | e <;> subst e <;> simp only [false_and, if_false, if_true, Int.reduceAdd, Int.reduceSub, Int.reduceMul, Int.reduceNeg, Int.reduceLE, Int.reduceLT, Int.reduceEq, false_implies, true_implies, not_true_eq_false, not_false_eq_true, and_true, true_and, xar_0, xar_1, xar_2, xar_3, xar_4, xar_5, xar_6, xar_7, xar_8, xar_9, xar_10, xar_11, xar_12, or_self, or_true, true_or, or_false, false_or] at hn hb1 hc1 ⊢ <;> (repeat' split) <;> omega
