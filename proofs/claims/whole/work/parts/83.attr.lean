/-! the attributes of nodes, by their own rules; work gives the same -/
def aL (A : aG) (S C B U : Int → Int) (j : Int) : Prop :=
  S j = gSg (A.2 j).1 (A.2 j).2.1 (ag S (A.2 j).2.2.1) (ag S (A.2 j).2.2.2.1) (ag S (A.2 j).2.2.2.2.1) ∧
  C j = gCv (A.2 j).1 (ag C (A.2 j).2.2.1) (ag C (A.2 j).2.2.2.1) (ag C (A.2 j).2.2.2.2.1) (ag S (A.2 j).2.2.1) (ag S (A.2 j).2.2.2.1) ∧
  U j = gCu (xar (A.2 j).1) (C j) (ag C (A.2 j).2.2.1) (ag C (A.2 j).2.2.2.1) (ag C (A.2 j).2.2.2.2.1) (ag U (A.2 j).2.2.1) (ag U (A.2 j).2.2.2.1) (ag U (A.2 j).2.2.2.2.1) j ∧
  B j = (if U j = j then gBl (A.2 j).1 (ag C (A.2 j).2.2.1) (ag C (A.2 j).2.2.2.1) (ag C (A.2 j).2.2.2.2.1) (ag S (A.2 j).2.2.1) (ag S (A.2 j).2.2.2.1) else 0)
/-- a value given to an input lies in its range -/
def aIn (kd dt v : Int) : Prop := (kd = 1 → -20 ≤ v ∧ v ≤ 20) ∧ (kd = 2 → -9 ≤ v ∧ v ≤ 9 ∧ (dt = 112 → 0 ≤ v) ∧ (dt = 113 → v ≤ 0))
def aV (A : aG) (V : Int → Int) (j : Int) : Prop := aIn (A.2 j).1 (A.2 j).2.1 (V j) ∧ (¬ ((A.2 j).1 = 1 ∨ (A.2 j).1 = 2) → V j = gVa (A.2 j).1 (A.2 j).2.1 (ag V (A.2 j).2.2.1) (ag V (A.2 j).2.2.2.1) (ag V (A.2 j).2.2.2.2.1))
def aLs (A : aG) (S C B U : Int → Int) : Prop := ∀ j, 0 ≤ j → j < A.1 → aL A S C B U j
def aVs (A : aG) (V : Int → Int) : Prop := ∀ j, 0 ≤ j → j < A.1 → aV A V j
theorem xsg_of {s : Int} (h0 : 0 ≤ s) (h1 : s ≤ 3) : ∃ u b, xsg s u b := by
  rcases (show s = 0 ∨ s = 1 ∨ s = 2 ∨ s = 3 by omega) with rfl | rfl | rfl | rfl
  · exact ⟨0, 0, Or.inl rfl, Or.inl rfl, rfl⟩
  · exact ⟨1, 0, Or.inr rfl, Or.inl rfl, rfl⟩
  · exact ⟨0, 1, Or.inl rfl, Or.inr rfl, rfl⟩
  · exact ⟨1, 1, Or.inr rfl, Or.inr rfl, rfl⟩
/-- arguments of a node lie below it -/
theorem aArgs {A : aG} {j : Int} (hA : aOk A) (h0 : 0 ≤ j) (h1 : j < A.1) : aAr j (A.2 j).1 (A.2 j).2.2.1 (A.2 j).2.2.2.1 (A.2 j).2.2.2.2.1 := (hA.2.2 j h0 h1).2.2.2.2.1
theorem aL_b {A : aG} {S C B U : Int → Int} (hA : aOk A) (h : aLs A S C B U) : ∀ (n : Nat) (j : Int), 0 ≤ j → j < n → j < A.1 → (0 ≤ S j ∧ S j ≤ 3) ∧ (0 ≤ C j ∧ C j ≤ 4) ∧ (-1 ≤ U j ∧ U j ≤ j) ∧ (C j = 4 → 0 ≤ U j) ∧ (¬ C j = 4 → U j = -1)
  | 0, j, h0, h1, h2 => absurd h1 (by omega)
  | n + 1, j, h0, h1, h2 => by
    obtain ⟨l1, l2, l3, l4⟩ := h j h0 h2
    obtain ⟨q1, q2, q3, q4, q5, q6, q7, q8⟩ := hA.2.2 j h0 h2
    obtain ⟨d1, d2, d3⟩ := aAr_d q5
    have ih : ∀ x, x = -1 ∨ (0 ≤ x ∧ x < j) → (0 ≤ ag S x ∧ ag S x ≤ 3) := by
      intro x hx
      rcases hx with rfl | ⟨x0, x1⟩
      · rw [ag_n]; omega
      · rw [ag_p x0]; exact (aL_b hA h n x x0 (by omega) (by omega)).1
    obtain ⟨u1, b1, z1⟩ := xsg_of (ih _ d1).1 (ih _ d1).2
    obtain ⟨u2, b2, z2⟩ := xsg_of (ih _ d2).1 (ih _ d2).2
    obtain ⟨u3, b3, z3⟩ := xsg_of (ih _ d3).1 (ih _ d3).2
    have hs := xsg_b (sg_eq q1 q2 q3 z1 z2 z3)
    rw [← l1] at hs
    have hc : 0 ≤ C j ∧ C j ≤ 4 := by rw [l2]; exact cv_b
    have ihu : ∀ x, (0 ≤ x ∧ x < j) → (-1 ≤ ag U x ∧ ag U x ≤ x) ∧ (ag C x = 4 → 0 ≤ ag U x) := by
      intro x hx
      rw [ag_p hx.1, ag_p hx.1]
      have := aL_b hA h n x hx.1 (by omega) (by omega)
      exact ⟨this.2.2.1, this.2.2.2.1⟩
    refine ⟨hs, hc, ?_⟩
    rw [l3]
    unfold gCu
    obtain ⟨r1, r2, r3, r4, r5, r6⟩ := q5
    by_cases c0 : ¬ C j = 4
    · rw [if_pos c0]; exact ⟨by omega, fun z => absurd z c0, fun _ => rfl⟩
    · rw [if_neg c0]
      by_cases c1 : 0 < xar (A.2 j).1 ∧ ag C (A.2 j).2.2.1 = 4
      · rw [if_pos c1]
        have i1 := ihu _ (r1 c1.1)
        have i2 := r1 c1.1
        exact ⟨by omega, fun _ => i1.2 c1.2, fun z => absurd z c0⟩
      · rw [if_neg c1]
        by_cases c2 : 1 < xar (A.2 j).1 ∧ ag C (A.2 j).2.2.2.1 = 4
        · rw [if_pos c2]
          have i1 := ihu _ (r3 c2.1)
          have i2 := r3 c2.1
          exact ⟨by omega, fun _ => i1.2 c2.2, fun z => absurd z c0⟩
        · rw [if_neg c2]
          by_cases c3 : 2 < xar (A.2 j).1 ∧ ag C (A.2 j).2.2.2.2.1 = 4
          · rw [if_pos c3]
            have i1 := ihu _ (r5 c3.1)
            have i2 := r5 c3.1
            exact ⟨by omega, fun _ => i1.2 c3.2, fun z => absurd z c0⟩
          · rw [if_neg c3]
            exact ⟨by omega, fun _ => h0, fun z => absurd z c0⟩
theorem aL_bb {A : aG} {S C B U : Int → Int} (hA : aOk A) (h : aLs A S C B U) {j : Int} (h0 : 0 ≤ j) (h1 : j < A.1) : (0 ≤ S j ∧ S j ≤ 3) ∧ (0 ≤ C j ∧ C j ≤ 4) ∧ (-1 ≤ U j ∧ U j ≤ j) ∧ (C j = 4 → 0 ≤ U j) ∧ (¬ C j = 4 → U j = -1) := aL_b hA h (j.toNat + 1) j h0 (by omega) h1
/-- values lie within reach -/
theorem aV_b {A : aG} {V : Int → Int} (hA : aOk A) (h : aVs A V) : ∀ (n : Nat) (j : Int), 0 ≤ j → j < n → j < A.1 → -(A.2 j).2.2.2.2.2 ≤ V j ∧ V j ≤ (A.2 j).2.2.2.2.2
  | 0, j, h0, h1, h2 => absurd h1 (by omega)
  | n + 1, j, h0, h1, h2 => by
    obtain ⟨l1, l2⟩ := h j h0 h2
    obtain ⟨q1, q2, q3, q4, q5, q6, q7, q8⟩ := hA.2.2 j h0 h2
    by_cases hk : (A.2 j).1 = 1 ∨ (A.2 j).1 = 2
    · rw [q6]
      rcases hk with hk | hk
      · have := l1.1 hk
        rw [hk]
        show -20 ≤ V j ∧ V j ≤ 20
        omega
      · have := l1.2 hk
        rw [hk]
        show -9 ≤ V j ∧ V j ≤ 9
        omega
    · obtain ⟨d1, d2, d3⟩ := aAr_d q5
      have ih : ∀ x, x = -1 ∨ (0 ≤ x ∧ x < j) → -aR A x ≤ ag V x ∧ ag V x ≤ aR A x := by
        intro x hx
        rcases hx with rfl | ⟨x0, x1⟩
        · rw [ag_n]; unfold aR; rw [if_pos rfl]; omega
        · rw [ag_p x0]; unfold aR; rw [if_neg (by omega)]; exact aV_b hA h n x x0 (by omega) (by omega)
      rw [l2 hk, q6]
      exact va_b hA q1 q2 q3 hk (aAr_mono q5 (by omega)) (ih _ d1) (ih _ d2) (ih _ d3)
theorem aV_bb {A : aG} {V : Int → Int} (hA : aOk A) (h : aVs A V) {j : Int} (h0 : 0 ≤ j) (h1 : j < A.1) : -(A.2 j).2.2.2.2.2 ≤ V j ∧ V j ≤ (A.2 j).2.2.2.2.2 ∧ mB6 (V j) := by
  have := aV_b hA h (j.toNat + 1) j h0 (by omega) h1
  have q8 := (hA.2.2 j h0 h1).2.2.2.2.2.2.2
  exact ⟨this.1, this.2, by unfold mB6; omega⟩
/-- the class's cells of attributes -/
def cAt (G : xG) (A : aG) : Prop := aLs A (xg G 14) (xg G 15) (xg G 16) (xg G 17) ∧ aVs A (xg G 18)
/-- given is the class's value of an input -/
def mGi (G : xG) (A : aG) : Prop := ∀ j, 0 ≤ j → j < A.1 → ((A.2 j).1 = 1 ∨ (A.2 j).1 = 2) → xg G 44 j = xg G 18 j
/-- at j the reference's work is the class's -/
def mRJ (G : xG) (j : Int) : Prop := xsg (xg G 14 j) (xg G 45 j) (xg G 46 j) ∧ xg G 47 j = xg G 15 j ∧ xg G 48 j = xg G 16 j ∧ xg G 49 j = xg G 18 j
theorem mN_of {G : xG} {K : xK} {A : aG} {k : Int} (hR : mRep G K A) (hA : aOk A) (k0 : 0 ≤ k) (k1 : k < A.1) : mN G k := by
  obtain ⟨e1, e2, e3, e4, e5, e6⟩ := hR.2 k k0 k1
  obtain ⟨q1, q2, q3, q4, q5, q6, q7, q8⟩ := hA.2.2 k k0 k1
  have hn := hA.2.1
  obtain ⟨d1, d2, d3⟩ := aAr_d q5
  obtain ⟨r1, r2, r3, r4, r5, r6⟩ := q5
  unfold mN
  rw [e1, e3, e4, e5]
  refine ⟨k0, by omega, q1, q2, by omega, by omega, by omega, by omega, by omega, by omega, fun z => ?_, fun z => ?_, fun z => ?_⟩
  · have := xar_g3 z q2
    exact (r1 (by omega)).1
  · have : 1 < xar (A.2 k).1 := by
      rcases (show (A.2 k).1 = 3 ∨ (A.2 k).1 = 4 ∨ (A.2 k).1 = 6 ∨ (A.2 k).1 = 7 ∨ (A.2 k).1 = 8 ∨ (A.2 k).1 = 11 by omega) with z | z | z | z | z | z <;> rw [z] <;> decide
    exact (r3 this).1
  · have : 2 < xar (A.2 k).1 := by rw [z]; decide
    exact (r5 this).1
