/-! the walk: facts of UNKNOWN nodes -/
theorem ad_4 {kd p s0 s1 w : Int} (hw : w = 2 ∨ w = 3) : gAd kd p 4 s0 s1 w = 0 := by
  unfold gAd
  rw [if_neg (by decide), if_neg]
  rcases hw with rfl | rfl <;> simp
theorem cv_4 {kd c0 c1 c2 s0 s1 : Int} (k0 : 3 ≤ kd) (k1 : kd ≤ 11) (a0 : 0 ≤ c0) (b0 : 0 ≤ c1) (d0 : 0 ≤ c2) (h : c0 = 4 ∨ (1 < xar kd ∧ c1 = 4) ∨ (2 < xar kd ∧ c2 = 4)) : gCv kd c0 c1 c2 s0 s1 = 4 := by
  have hn := xar_g3 k0 k1
  have hf : ∀ w : Int, (w = 2 ∨ w = 3) → ¬ gFa (xar kd) (gAd kd 0 c0 s0 s1 w) (gAd kd 1 c1 s0 s1 w) (gAd kd 2 c2 s0 s1 w) = -1 := by
    intro w hw
    unfold gFa
    rcases h with h | ⟨h1, h⟩ | ⟨h1, h⟩
    · subst h
      rw [ad_4 hw, if_pos ⟨by omega, rfl⟩]; decide
    · subst h
      rw [ad_4 hw]
      split
      · decide
      · rw [if_pos ⟨h1, rfl⟩]; decide
    · subst h
      rw [ad_4 hw]
      split
      · decide
      · split
        · decide
        · rw [if_pos ⟨h1, rfl⟩]; decide
  have hm : 4 ≤ gMb (xar kd) c0 c1 c2 := by
    unfold gMb gMx
    rcases hn with e | e | e <;> rw [e] at h ⊢ <;> simp only [false_and, if_false, if_true, Int.reduceAdd, Int.reduceSub, Int.reduceMul, Int.reduceNeg, Int.reduceLE, Int.reduceLT, Int.reduceEq, false_implies, true_implies, not_true_eq_false, not_false_eq_true, and_true, true_and, xar_0, xar_1, xar_2, xar_3, xar_4, xar_5, xar_6, xar_7, xar_8, xar_9, xar_10, xar_11, xar_12] <;> grind
  unfold gCv
  rw [if_neg (by omega), if_neg (by omega)]
  split
  · rfl
  · rw [if_neg (by omega), if_neg (fun q => hf 2 (Or.inl rfl) q.2), if_neg (fun q => hf 3 (Or.inr rfl) q.2)]
theorem fn_nn {n A0 A1 A2 : Int} : 0 ≤ mFn n A0 A1 A2 := by
  unfold mFn
  split
  · decide
  · split
    · decide
    · split <;> decide
theorem bl_pos {kd c0 c1 c2 s0 s1 k : Int} (k0 : 0 ≤ kd) (k1 : kd ≤ 11) (a0 : 0 ≤ c0) (a1 : c0 ≤ 4) (e0 : 0 ≤ c1) (e1 : c1 ≤ 4) (f0 : 0 ≤ c2) (f1 : c2 ≤ 4) (z0 : 0 ≤ s0 ∧ s0 ≤ 3) (z1 : 0 ≤ s1 ∧ s1 ≤ 3) (hk : 0 ≤ k) (h4 : gCv kd c0 c1 c2 s0 s1 = 4) (hu : ¬ ((0 < xar kd ∧ c0 = 4) ∨ (1 < xar kd ∧ c1 = 4) ∨ (2 < xar kd ∧ c2 = 4))) : 1 ≤ gBl kd c0 c1 c2 s0 s1 := by
  obtain ⟨u0, b0, h0⟩ := xsg_of z0.1 z0.2
  obtain ⟨u1, b1, h1⟩ := xsg_of z1.1 z1.2
  have h := bl_eq (U0 := -1) (U1 := -1) (U2 := -1) (k := k) k0 k1 a0 a1 e0 e1 f0 f1 h0 h1 hk (fun _ => by omega) (fun _ => by omega) (fun _ => by omega)
  have hg : gCu (xar kd) (gCv kd c0 c1 c2 s0 s1) c0 c1 c2 (-1) (-1) (-1) k = k := by
    unfold gCu
    rw [h4, if_neg (by omega), if_neg (by omega), if_neg (by omega), if_neg (by omega)]
  rw [if_pos hg] at h
  rw [h]
  have h3 : 3 ≤ kd := by
    rcases (show kd = 0 ∨ kd = 1 ∨ kd = 2 ∨ 3 ≤ kd by omega) with rfl | rfl | rfl | q
    · simp [gCv, xar_0] at h4
    · simp [gCv, xar_1] at h4
    · simp [gCv, xar_2] at h4
    · exact q
  have hn := xar_g3 h3 k1
  unfold mBq
  rw [if_neg (by rw [hv_4 hn]; omega)]
  split
  · decide
  · rename_i h6
    split
    · split <;> decide
    · rename_i hk6
      have hc := cv_eq k0 k1 a0 a1 e0 e1 f0 f1 h0 h1
      rw [h4] at hc
      have nn := fn_nn (n := xar kd) (A0 := mAd kd 0 c0 b0 u0 b1 u1 (if kd = 8 then 3 else 2)) (A1 := mAd kd 1 c1 b0 u0 b1 u1 (if kd = 8 then 3 else 2)) (A2 := mAd kd 2 c2 b0 u0 b1 u1 (if kd = 8 then 3 else 2))
      have hz : ¬ mFn (xar kd) (mAd kd 0 c0 b0 u0 b1 u1 (if kd = 8 then 3 else 2)) (mAd kd 1 c1 b0 u0 b1 u1 (if kd = 8 then 3 else 2)) (mAd kd 2 c2 b0 u0 b1 u1 (if kd = 8 then 3 else 2)) = 0 := by
        intro hz
        unfold mCv at hc
        rw [if_neg (by omega)] at hc
        by_cases q1 : mHv (xar kd) 0 0 c0 c1 c2 = xar kd
        · rw [if_pos q1] at hc; omega
        · rw [if_neg q1, if_neg (by omega), if_neg (by omega)] at hc
          by_cases h8 : kd = 8
          · simp only [h8, if_true] at hz
            rw [if_neg (by omega), if_pos ⟨Or.inr h8, by rw [h8]; exact hz⟩] at hc
            omega
          · simp only [h8, if_false] at hz
            rw [if_pos ⟨h8, hz⟩] at hc
            omega
      omega
/-- the argument at a place -/
def aAg (A : aG) (n p : Int) : Int := if p = 0 then (A.2 n).2.2.1 else if p = 1 then (A.2 n).2.2.2.1 else (A.2 n).2.2.2.2.1
theorem aAg_r {A : aG} {n p : Int} (hA : aOk A) (n0 : 0 ≤ n) (n1 : n < A.1) (p0 : 0 ≤ p) (p1 : p < xar (A.2 n).1) : 0 ≤ aAg A n p ∧ aAg A n p < n := by
  obtain ⟨r1, r2, r3, r4, r5, r6⟩ := aArgs hA n0 n1
  have q := hA.2.2 n n0 n1
  have e := par_xar q.1 (show (A.2 n).1 ≤ 12 by have := q.2.1; omega)
  have e3 := par_3 (k := (A.2 n).1)
  unfold aAg
  rcases (show p = 0 ∨ p = 1 ∨ p = 2 by omega) with rfl | rfl | rfl
  · rw [if_pos rfl]; exact r1 (by omega)
  · rw [if_neg (by decide), if_pos rfl]; exact r3 (by omega)
  · rw [if_neg (by decide), if_neg (by decide)]; exact r5 (by omega)
section UN
variable {A : aG} {S C B U : Int → Int}
theorem un_b (hA : aOk A) (hL : aLs A S C B U) {n x : Int} (n1 : n < A.1) (hx : x = -1 ∨ (0 ≤ x ∧ x < n)) : (0 ≤ ag C x ∧ ag C x ≤ 4) ∧ (0 ≤ ag S x ∧ ag S x ≤ 3) := by
  rcases hx with rfl | ⟨x0, x1⟩
  · rw [ag_n, ag_n]; omega
  · rw [ag_p x0, ag_p x0]
    have := aL_bb hA hL x0 (show x < A.1 by omega)
    exact ⟨this.2.1, this.1⟩
/-- nothing UNKNOWN lies below something known -/
theorem kn_arg (hA : aOk A) (hL : aLs A S C B U) {n p : Int} (n0 : 0 ≤ n) (n1 : n < A.1) (hc : ¬ C n = 4) (p0 : 0 ≤ p) (p1 : p < xar (A.2 n).1) : ¬ C (aAg A n p) = 4 := by
  intro h4
  apply hc
  obtain ⟨l1, l2, l3, l4⟩ := hL n n0 n1
  have q := hA.2.2 n n0 n1
  have q5 := aArgs hA n0 n1
  obtain ⟨d1, d2, d3⟩ := aAr_d q5
  have hr := aAg_r hA n0 n1 p0 p1
  have hk : 3 ≤ (A.2 n).1 := by
    rcases (show (A.2 n).1 = 0 ∨ (A.2 n).1 = 1 ∨ (A.2 n).1 = 2 ∨ 3 ≤ (A.2 n).1 by have := q.1; omega) with z | z | z | z
    · rw [z, xar_0] at p1; omega
    · rw [z, xar_1] at p1; omega
    · rw [z, xar_2] at p1; omega
    · exact z
  have hn := xar_g3 hk q.2.1
  rw [l2]
  refine cv_4 hk q.2.1 (un_b hA hL n1 d1).1.1 (un_b hA hL n1 d2).1.1 (un_b hA hL n1 d3).1.1 ?_
  rw [← ag_p (f := C) hr.1] at h4
  unfold aAg at h4
  rcases (show p = 0 ∨ p = 1 ∨ p = 2 by omega) with rfl | rfl | rfl
  · rw [if_pos rfl] at h4; exact Or.inl h4
  · rw [if_neg (by decide), if_pos rfl] at h4; exact Or.inr (Or.inl ⟨by omega, h4⟩)
  · rw [if_neg (by decide), if_neg (by decide)] at h4; exact Or.inr (Or.inr ⟨by omega, h4⟩)
theorem kn_b (hA : aOk A) (hL : aLs A S C B U) {n : Int} (n0 : 0 ≤ n) (n1 : n < A.1) (hc : ¬ C n = 4) : B n = 0 := by
  obtain ⟨l1, l2, l3, l4⟩ := hL n n0 n1
  have := (aL_bb hA hL n0 n1).2.2.2.2 hc
  rw [l4, if_neg (by omega)]
/-- an UNKNOWN node over known ones is its own culprit -/
theorem un_top (hA : aOk A) (hL : aLs A S C B U) {n : Int} (n0 : 0 ≤ n) (n1 : n < A.1) (hc : C n = 4) (hk : ∀ p, 0 ≤ p → p < xar (A.2 n).1 → ¬ C (aAg A n p) = 4) : U n = n ∧ 1 ≤ B n := by
  obtain ⟨l1, l2, l3, l4⟩ := hL n n0 n1
  have q := hA.2.2 n n0 n1
  have q5 := aArgs hA n0 n1
  obtain ⟨d1, d2, d3⟩ := aAr_d q5
  obtain ⟨r1, r2, r3, r4, r5, r6⟩ := q5
  have h0 : ¬ (0 < xar (A.2 n).1 ∧ ag C (A.2 n).2.2.1 = 4) := fun z => by
    rw [ag_p (r1 z.1).1] at z
    exact hk 0 (by decide) z.1 z.2
  have h1 : ¬ (1 < xar (A.2 n).1 ∧ ag C (A.2 n).2.2.2.1 = 4) := fun z => by
    rw [ag_p (r3 z.1).1] at z
    exact hk 1 (by decide) z.1 z.2
  have h2 : ¬ (2 < xar (A.2 n).1 ∧ ag C (A.2 n).2.2.2.2.1 = 4) := fun z => by
    rw [ag_p (r5 z.1).1] at z
    exact hk 2 (by decide) z.1 z.2
  have hU : U n = n := by
    rw [l3]
    unfold gCu
    rw [if_neg (fun z => z hc), if_neg h0, if_neg h1, if_neg h2]
  refine ⟨hU, ?_⟩
  rw [l4, if_pos hU]
  have b1 := un_b hA hL n1 d1
  have b2 := un_b hA hL n1 d2
  have b3 := un_b hA hL n1 d3
  exact bl_pos q.1 q.2.1 b1.1.1 b1.1.2 b2.1.1 b2.1.2 b3.1.1 b3.1.2 b1.2 b2.2 n0 (by rw [← l2]; exact hc) (by omega)
/-- the culprit lies below the first UNKNOWN argument -/
theorem un_first (hA : aOk A) (hL : aLs A S C B U) {n p : Int} (n0 : 0 ≤ n) (n1 : n < A.1) (hc : C n = 4) (p0 : 0 ≤ p) (p1 : p < xar (A.2 n).1) (hk : ∀ i, 0 ≤ i → i < p → ¬ C (aAg A n i) = 4) (h4 : C (aAg A n p) = 4) : U n = U (aAg A n p) := by
  obtain ⟨l1, l2, l3, l4⟩ := hL n n0 n1
  have q := hA.2.2 n n0 n1
  have e := par_xar q.1 (show (A.2 n).1 ≤ 12 by have := q.2.1; omega)
  have e3 := par_3 (k := (A.2 n).1)
  obtain ⟨r1, r2, r3, r4, r5, r6⟩ := aArgs hA n0 n1
  rw [l3]
  unfold gCu
  rw [if_neg (fun z => z hc)]
  rcases (show p = 0 ∨ p = 1 ∨ p = 2 by omega) with rfl | rfl | rfl
  · have h4 : C (A.2 n).2.2.1 = 4 := h4
    have r := r1 p1
    rw [if_pos ⟨p1, by rw [ag_p r.1]; exact h4⟩, ag_p r.1]
    rfl
  · have h4 : C (A.2 n).2.2.2.1 = 4 := h4
    have r0 := r1 (by omega)
    have r := r3 p1
    have k0 : ¬ C (A.2 n).2.2.1 = 4 := hk 0 (by decide) (by decide)
    rw [if_neg (fun z => by rw [ag_p r0.1] at z; exact k0 z.2), if_pos ⟨p1, by rw [ag_p r.1]; exact h4⟩, ag_p r.1]
    rfl
  · have h4 : C (A.2 n).2.2.2.2.1 = 4 := h4
    have r0 := r1 (by omega)
    have r1' := r3 (by omega)
    have r := r5 p1
    have k0 : ¬ C (A.2 n).2.2.1 = 4 := hk 0 (by decide) (by decide)
    have k1 : ¬ C (A.2 n).2.2.2.1 = 4 := hk 1 (by decide) (by decide)
    rw [if_neg (fun z => by rw [ag_p r0.1] at z; exact k0 z.2), if_neg (fun z => by rw [ag_p r1'.1] at z; exact k1 z.2), if_pos ⟨p1, by rw [ag_p r.1]; exact h4⟩, ag_p r.1]
    rfl
end UN
