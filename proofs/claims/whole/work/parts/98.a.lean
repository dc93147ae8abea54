/-! calls of both: attributes, reach, value, culprit -/
theorem gBl_b {kd c0 c1 c2 s0 s1 : Int} : 0 ≤ gBl kd c0 c1 c2 s0 s1 ∧ gBl kd c0 c1 c2 s0 s1 ≤ 4 := by
  have hf : ∀ n A0 A1 A2 : Int, -1 ≤ gFa n A0 A1 A2 ∧ gFa n A0 A1 A2 ≤ 2 := by
    intro n A0 A1 A2
    unfold gFa
    (repeat' split) <;> omega
  have hl : ∀ n A0 A1 A2 : Int, -1 ≤ gLb n A0 A1 A2 ∧ gLb n A0 A1 A2 ≤ 2 := by
    intro n A0 A1 A2
    unfold gLb
    (repeat' split) <;> omega
  have h1 := hf (xar kd) (gAd kd 0 c0 s0 s1 (if kd = 8 then 3 else 2)) (gAd kd 1 c1 s0 s1 (if kd = 8 then 3 else 2)) (gAd kd 2 c2 s0 s1 (if kd = 8 then 3 else 2))
  have h2 := hl (xar kd) c0 c1 c2
  unfold gBl
  generalize gFa (xar kd) (gAd kd 0 c0 s0 s1 (if kd = 8 then 3 else 2)) (gAd kd 1 c1 s0 s1 (if kd = 8 then 3 else 2)) (gAd kd 2 c2 s0 s1 (if kd = 8 then 3 else 2)) = F at h1
  (repeat' split) <;> omega
theorem aB_b {A : aG} {S C B U : Int → Int} (h : aLs A S C B U) {j : Int} (h0 : 0 ≤ j) (h1 : j < A.1) : 0 ≤ B j ∧ B j ≤ 4 := by
  obtain ⟨l1, l2, l3, l4⟩ := h j h0 h1
  rw [l4]
  split
  · exact gBl_b
  · decide
section SP
variable {sc : Nat × (Nat → Int32)} {d : Nat} {G : xG} {K : xK} {A : aG}
theorem rel_wk (h : Rel G K A) : ∃ X : xG, (∀ (d : Nat) (Q : Option Value → am_H → Prop), xc sc (d + 4) Mm_work [.ref 33] (xH G K) Q ↔ Q none (xH X K)) ∧ mDn X A ∧ mFw G X ∧ Rel X K A := by
  obtain ⟨r1, r2, r3, r4, r5⟩ := h.2.1
  obtain ⟨X, x1, x2, x3⟩ := sm_wk (sc := sc) r1 r3 r4 r5
  exact ⟨X, x1, x2, x3, Rel_s h (Rs_w x3) (fun _ => rfl)⟩
theorem two_attributes {k : Int} (h : Rel G K A) (hk : xin k) : Two sc (d + 5) MC_attributes [.ref 2, xI k] Mm_attributes [.ref 33, xI k] G K pI := by
  obtain ⟨X, x1, x2, x3, x4⟩ := rel_wk (sc := sc) h
  obtain ⟨r1, r2, r3, r4, r5⟩ := h.2.1
  have hn := r3.2.1
  have e9 : xg G 9 9 = A.1 := r2.1
  have e12 : xg X 33 12 = A.1 := x4.2.1.1.1
  by_cases hc : 0 ≤ k ∧ k < A.1
  · obtain ⟨k0, k1⟩ := hc
    have b1 := aL_bb r3 r4.1 k0 k1
    have b2 := aB_b r4.1 k0 k1
    obtain ⟨j1, j2, j3, j4⟩ := x2 k k0 k1
    have w14 : xg X 14 k = xg G 14 k := x3 14 k (by decide)
    have w15 : xg X 15 k = xg G 15 k := x3 15 k (by decide)
    have w16 : xg X 16 k = xg G 16 k := x3 16 k (by decide)
    refine ⟨some (xI (xg G 14 k + 4 * xg G 15 k + 32 * xg G 16 k)), G, K, X, K, A, ⟨_, ⟨by omega, by omega⟩, rfl⟩, fun Q => ?_, fun Q => ?_, x4⟩
    · rw [sC_attributes hk (by omega), e9, if_pos ⟨k0, k1⟩]
    · rw [sm_attributes hk (x1 d) (by omega), e12, if_pos ⟨k0, k1⟩, j2, j3, w15, w16]
      have e : (if xg X 45 k = 0 then (0 : Int) else 1) + (if xg X 46 k = 0 then 0 else 2) = xg G 14 k := by
        rw [w14] at j1
        rcases xsg_c j1 with ⟨p1, p2, p3⟩ | ⟨p1, p2, p3⟩ | ⟨p1, p2, p3⟩ | ⟨p1, p2, p3⟩ <;> rw [p1, p2, p3] <;> decide
      rw [e]
  · refine ⟨some (xI (-1)), G, K, X, K, A, ⟨_, ⟨by decide, by decide⟩, rfl⟩, fun Q => ?_, fun Q => ?_, x4⟩
    · rw [sC_attributes hk (by omega), e9, if_neg hc]
    · rw [sm_attributes hk (x1 d) (by omega), e12, if_neg hc]
theorem two_reach {k : Int} (h : Rel G K A) (hk : xin k) : Two sc (d + 1) MC_reach [.ref 2, xI k] Mm_reach [.ref 33, xI k] G K pI := by
  obtain ⟨r1, r2, r3, r4, r5⟩ := h.2.1
  have hn := r3.2.1
  have e9 : xg G 9 9 = A.1 := r2.1
  have e12 : xg G 33 12 = A.1 := r1.1
  refine ⟨some (xI (if 0 ≤ k ∧ k < A.1 then xg G 13 k else 0)), G, K, G, K, A, ⟨_, ?_, rfl⟩, fun Q => ?_, fun Q => ?_, h⟩
  · split
    · exact xin_g _ _ _
    · exact xin_0
  · rw [sC_reach hk (by omega), e9]
  · rw [sm_reach hk (by omega), e12]
    by_cases hc : 0 ≤ k ∧ k < A.1
    · rw [if_pos hc, if_pos hc, (r1.2 k hc.1 hc.2).2.2.2.2.2, (r2.2 k hc.1 hc.2).2.2.2.2.2]
    · rw [if_neg hc, if_neg hc]
theorem two_value {k : Int} (h : Rel G K A) (hk : xin k) : Two sc (d + 5) MC_value [.ref 2, xI k] Mm_value [.ref 33, xI k] G K pI := by
  obtain ⟨X, x1, x2, x3, x4⟩ := rel_wk (sc := sc) h
  obtain ⟨r1, r2, r3, r4, r5⟩ := h.2.1
  have hn := r3.2.1
  have e9 : xg G 9 9 = A.1 := r2.1
  have e12 : xg X 33 12 = A.1 := x4.2.1.1.1
  refine ⟨some (xI (if 0 ≤ k ∧ k < A.1 then xg G 18 k else 0)), G, K, X, K, A, ⟨_, ?_, rfl⟩, fun Q => ?_, fun Q => ?_, x4⟩
  · split
    · exact xin_g _ _ _
    · exact xin_0
  · rw [sC_value hk (by omega), e9]
  · rw [sm_value hk (x1 d) (by omega), e12]
    by_cases hc : 0 ≤ k ∧ k < A.1
    · rw [if_pos hc, if_pos hc, (x2 k hc.1 hc.2).2.2.2, x3 18 k (by decide)]
    · rw [if_neg hc, if_neg hc]
theorem two_culprit {k : Int} (h : Rel G K A) (hk : xin k) : Two sc (d + 5) MC_culprit [.ref 2, xI k] Mm_culprit [.ref 33, xI k] G K pI := by
  obtain ⟨X, x1, x2, x3, x4⟩ := rel_wk (sc := sc) h
  obtain ⟨r1, r2, r3, r4, r5⟩ := h.2.1
  obtain ⟨s1, s2, s3, s4, s5⟩ := x4.2.1
  have hn := r3.2.1
  have e9 : xg G 9 9 = A.1 := r2.1
  have e12 : xg G 33 12 = A.1 := r1.1
  have hx : xin (if 0 ≤ k ∧ k < A.1 then xg G 17 k else -2) := by
    split
    · exact xin_g _ _ _
    · exact ⟨by decide, by decide⟩
  by_cases hc : 0 ≤ k ∧ k < A.1
  · obtain ⟨k0, k1⟩ := hc
    by_cases h4 : xg X 47 k = 4
    · obtain ⟨Y, y1, y2⟩ := sm_walk (sc := sc) (d := d + 3) s1 s3 s4 x2 k0 k1 h4
      have e17 : xg X 17 k = xg G 17 k := x3 17 k (by decide)
      rw [e17] at y1
      refine ⟨some (xI (xg G 17 k)), G, K, Y, K, A, ⟨_, xin_g _ _ _, rfl⟩, fun Q => ?_, fun Q => ?_, Rel_s x4 (Rs_x y2) (fun _ => rfl)⟩
      · rw [sC_culprit hk (by omega), e9, if_pos ⟨k0, k1⟩]
      · rw [sm_culprit (c := xg G 17 k) (X := X) (Y := Y) hk (x1 d) (fun _ _ _ => y1) (by omega), e12, if_pos ⟨k0, k1⟩, if_pos h4]
    · have h15 : ¬ xg G 15 k = 4 := by rw [← x3 15 k (by decide), ← (x2 k k0 k1).2.1]; exact h4
      have e17 := (aL_bb r3 r4.1 k0 k1).2.2.2.2 h15
      refine ⟨some (xI (-1)), G, K, X, K, A, ⟨_, ⟨by decide, by decide⟩, rfl⟩, fun Q => ?_, fun Q => ?_, x4⟩
      · rw [sC_culprit hk (by omega), e9, if_pos ⟨k0, k1⟩, e17]
      · rw [sm_culprit (c := 0) (X := X) (Y := X) hk (x1 d) (fun _ _ z => absurd z h4) (by omega), e12, if_pos ⟨k0, k1⟩, if_neg h4]
  · refine ⟨some (xI (-2)), G, K, G, K, A, ⟨_, ⟨by decide, by decide⟩, rfl⟩, fun Q => ?_, fun Q => ?_, h⟩
    · rw [sC_culprit hk (by omega), e9, if_neg hc]
    · rw [sm_culprit (c := 0) (X := X) (Y := X) hk (x1 d) (fun z0 z1 _ => absurd ⟨z0, by omega⟩ hc) (by omega), e12, if_neg hc]
/-! the problem -/
theorem two_objective {k l : Int} (h : Rel G K A) (hk : xin k) (hl : xbo l) : Two sc (d + 1) MC_objective [.ref 2, xI k, xI l] Mm_objective [.ref 33, xI k, xI l] G K pI := by
  obtain ⟨h1, h2, h3, h4⟩ := h
  obtain ⟨r1, r2, r3, r4, r5⟩ := h2
  obtain ⟨⟨g1, g2, g3, g4, g5, g6, g7⟩, p2, p3, p4, p5⟩ := h3
  have hn := r3.2.1
  have e9 : xg G 9 9 = A.1 := r2.1
  have e12 : xg G 33 12 = A.1 := r1.1
  by_cases hc : 0 ≤ k ∧ k < A.1
  · have c1 : xg (xp (xp (xp G 21 4 k) 21 5 l) 25 11 0) 33 12 = A.1 := by rw [xg_cell (by decide), xg_cell (by decide), xg_cell (by decide)]; exact e12
    refine ⟨some (xI 1), xp (xp (xp G 21 4 k) 21 5 l) 25 11 0, K, xp (xp (xp (xp (xp (xp G 21 4 k) 21 5 l) 25 11 0) 33 28 k) 33 29 l) 33 34 0, K, A, ⟨_, ⟨by decide, by decide⟩, rfl⟩, fun Q => ?_, fun Q => ?_, ?_⟩
    · rw [sC_objective hk hl, e9, if_pos hc]
    · rw [sm_objective hk hl, c1, if_pos hc]
    · have e : ∀ a : Nat, ¬ a = 21 → ¬ a = 25 → ¬ a = 33 → xg (xp (xp (xp (xp (xp (xp G 21 4 k) 21 5 l) 25 11 0) 33 28 k) 33 29 l) 33 34 0) a = xg G a := fun a a1 a2 a3 => by rw [xp_f a3, xp_f a3, xp_f a3, xp_f a2, xp_f a1, xp_f a1]
      have e33 : ∀ j, 0 ≤ j → ¬ j = 28 → ¬ j = 29 → ¬ j = 34 → xg (xp (xp (xp (xp (xp (xp G 21 4 k) 21 5 l) 25 11 0) 33 28 k) 33 29 l) 33 34 0) 33 j = xg G 33 j := fun j j0 j1 j2 j3 => by rw [xg_idx (by decide) j0 j3, xg_idx (by decide) j0 j2, xg_idx (by decide) j0 j1, xg_cell (by decide), xg_cell (by decide), xg_cell (by decide)]
      have z1 : xg (xp (xp (xp (xp (xp (xp G 21 4 k) 21 5 l) 25 11 0) 33 28 k) 33 29 l) 33 34 0) 21 3 = xg G 21 3 := by rw [xg_cell (by decide), xg_cell (by decide), xg_cell (by decide), xg_cell (by decide), xg_idx (by decide) (by decide) (by decide), xg_idx (by decide) (by decide) (by decide)]
      have z2 : xg (xp (xp (xp (xp (xp (xp G 21 4 k) 21 5 l) 25 11 0) 33 28 k) 33 29 l) 33 34 0) 21 4 = k := by rw [xg_cell (by decide), xg_cell (by decide), xg_cell (by decide), xg_cell (by decide), xg_idx (by decide) (by decide) (by decide), xg_self hk]
      have z3 : xg (xp (xp (xp (xp (xp (xp G 21 4 k) 21 5 l) 25 11 0) 33 28 k) 33 29 l) 33 34 0) 21 5 = l := by rw [xg_cell (by decide), xg_cell (by decide), xg_cell (by decide), xg_cell (by decide), xg_self (xin_bo hl)]
      have z4 : xg (xp (xp (xp (xp (xp (xp G 21 4 k) 21 5 l) 25 11 0) 33 28 k) 33 29 l) 33 34 0) 33 28 = k := by rw [xg_idx (by decide) (by decide) (by decide), xg_idx (by decide) (by decide) (by decide), xg_self hk]
      have z5 : xg (xp (xp (xp (xp (xp (xp G 21 4 k) 21 5 l) 25 11 0) 33 28 k) 33 29 l) 33 34 0) 33 29 = l := by rw [xg_idx (by decide) (by decide) (by decide), xg_self (xin_bo hl)]
      have z6 : xg (xp (xp (xp (xp (xp (xp G 21 4 k) 21 5 l) 25 11 0) 33 28 k) 33 29 l) 33 34 0) 33 34 = 0 := xg_self xin_0
      have z7 : xg (xp (xp (xp (xp (xp (xp G 21 4 k) 21 5 l) 25 11 0) 33 28 k) 33 29 l) 33 34 0) 25 11 = 0 := by rw [xg_cell (by decide), xg_cell (by decide), xg_cell (by decide), xg_self xin_0]
      have y := e33 30 (by decide) (by decide) (by decide) (by decide)
      refine ⟨rLn_s h1 (by rw [e 3 (by decide) (by decide) (by decide)]) (e 4 (by decide) (by decide) (by decide)) (e 34 (by decide) (by decide) (by decide)) (e33 1 (by decide) (by decide) (by decide) (by decide)), rGr_s ⟨r1, r2, r3, r4, r5⟩ (fun a ha => e a (by omega) (by omega) (by omega)) (e33 12 (by decide) (by decide) (by decide) (by decide)) (fun _ => rfl), ⟨⟨?_, ?_, ?_, ?_, ?_, ?_, ?_⟩, ?_, ?_, ?_, ?_⟩, ?_, ?_, ?_⟩
      · rw [z1]; exact g1
      · rw [z1]; exact g2
      · rw [z2]; omega
      · rw [z2]; exact hc.2
      · rw [z3]; exact hl
      · rw [e 22 (by decide) (by decide) (by decide)]; exact g6
      · rw [z1, e 23 (by decide) (by decide) (by decide), e 24 (by decide) (by decide) (by decide)]; exact g7
      · rw [y, z1]; exact p2
      · rw [z4, z2]
      · rw [z5, z3]
      · rw [e 22 (by decide) (by decide) (by decide), e 23 (by decide) (by decide) (by decide), e 24 (by decide) (by decide) (by decide), e 55 (by decide) (by decide) (by decide), e 56 (by decide) (by decide) (by decide), e 57 (by decide) (by decide) (by decide)]; exact p5
      · rw [z7]; exact Or.inl rfl
      · rw [z6, z7]
      · rw [z7]; exact fun z => absurd rfl z
  · refine ⟨some (xI 0), G, K, G, K, A, ⟨_, xin_0, rfl⟩, fun Q => ?_, fun Q => ?_, h1, ⟨r1, r2, r3, r4, r5⟩, ⟨⟨g1, g2, g3, g4, g5, g6, g7⟩, p2, p3, p4, p5⟩, h4⟩
    · rw [sC_objective hk hl, e9, if_neg hc]
    · rw [sm_objective hk hl, e12, if_neg hc]
end SP
