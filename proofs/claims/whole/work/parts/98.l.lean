/-! rows of the form -/
def rvS (Z : xG) (e : Int → Int) (k p : Int) : Int := if xg Z 12 (3 * k + p) = -1 then 0 else e (xg Z 12 (3 * k + p))
def rvQ (Z : xG) (e : Int → Int) (q : Int) : Int := if xg Z 22 q = 0 then - (e (xg Z 23 q) - e (xg Z 24 q)) else e (xg Z 23 q) - e (xg Z 24 q)
def rvX (Z : xG) (e : Int → Int) (one k p : Int) : Int :=
  if xg Z 10 k = 7 then e k - rvS Z e k p
  else if xg Z 10 k = 8 then rvS Z e k p - e k
  else if xg Z 10 k = 9 then (if p = 0 then e k - rvS Z e k 0 else e k + rvS Z e k 0)
  else if xg Z 10 k = 11 then e k - rvS Z e k (if p = 2 then 1 else 0) - rvS Z e k (if p = 0 then 1 else 2)
  else gSr (e k) (rvS Z e k 0) p one
def RV (Z : xG) (e : Int → Int) (one r : Int) : Int :=
  if r = -1 then (if xg Z 21 5 = 0 then - e (xg Z 21 4) else e (xg Z 21 4))
  else if xg Z 21 3 ≤ r then rvX Z e one (xg Z 30 r) (xg Z 31 r)
  else rvQ Z e (xg Z 30 r)
theorem gRw_RV {Z : xG} {K : xK} {r asp : Int} : gRw Z K r asp = RV Z (xgl K 32) (if 0 ≤ asp then 0 else 1) r := rfl
theorem RV_add {Z : xG} {e e' : Int → Int} {r : Int} : RV Z (fun k => e k + e' k) 1 r - RV Z e 1 r = RV Z e' 0 r := by
  have hs : ∀ k p, rvS Z (fun k => e k + e' k) k p = rvS Z e k p + rvS Z e' k p := by
    intro k p
    unfold rvS
    split <;> rfl
  unfold RV rvX rvQ gSr
  simp only [hs]
  (repeat' split) <;> omega
theorem tot_1 : ∀ (n : Nat) (q : Int), tot (fun _ => 1) n q = n
  | 0, q => rfl
  | n + 1, q => by
    show 1 + tot (fun _ => 1) n (q + 1) = _
    rw [tot_1 n (q + 1)]; omega
section RVS
variable {Z : xG} {K : xK} {A : aG}
theorem te_N (h : Rel Z K A) : cTe Z 1 + cTe Z 0 = xg Z 21 3 ∧ 0 ≤ cTe Z 1 ∧ 0 ≤ cTe Z 0 ∧ 0 ≤ cTa Z 0 ∧ 0 ≤ cTa Z 1 ∧ cTa Z 0 + cTa Z 1 ≤ 108 := by
  obtain ⟨-, -, ⟨⟨g1, g2, g3, g4, g5, g6, g7⟩, -⟩, -⟩ := h
  obtain ⟨b1, b2, b3, b4, b5, b6⟩ := rows_b (G := Z) (N := (xg Z 21 3).toNat) (by omega)
  refine ⟨?_, b3, b4, b5, b6, b2⟩
  unfold cTe
  rw [tot_add, tot_e (g := fun _ => 1) _ _ (fun x x0 x1 => ?_), tot_1]
  · omega
  · have := g6 x x0 (by omega)
    unfold cFe
    rcases this with z | z <;> rw [z] <;> decide
/-- what a row stems from -/
theorem row_d (h : Rel Z K A) (F : Fm Z A) {r : Int} (r0 : 0 ≤ r) (r1 : r < xg Z 25 9) : (r < xg Z 21 3 → 0 ≤ xg Z 30 r ∧ xg Z 30 r < xg Z 21 3) ∧ (xg Z 21 3 ≤ r → gAx Z (xg Z 30 r) ∧ 0 ≤ xg Z 30 r ∧ xg Z 30 r < A.1 ∧ 0 ≤ xg Z 31 r ∧ xg Z 31 r < 3 ∧ ((xg Z 10 (xg Z 30 r) = 7 ∨ xg Z 10 (xg Z 30 r) = 8 ∨ xg Z 10 (xg Z 30 r) = 9) → xg Z 31 r < 2) ∧ (r < cTe Z 1 + cTe Z 0 + cTa Z 0 ↔ ¬ xg Z 10 (xg Z 30 r) = 10)) := by
  obtain ⟨tN, t1, t0, a0, a1, ab⟩ := te_N h
  have g1 := h.2.2.1.1.1
  obtain ⟨f1, f2, f3, f4, ⟨c1, c2, c3, c4, c5, c6, c7, c8⟩, f6⟩ := F
  rw [c4] at r1
  constructor
  · intro hr
    by_cases s : r < cTe Z 1
    · have p := pick_r (f := cFe Z 1) (xg Z 21 3).toNat 0 r r0 s
      rw [(c5 r r0 s).1]
      omega
    · have p := pick_r (f := cFe Z 0) (xg Z 21 3).toNat 0 (r - cTe Z 1) (by omega) (show r - cTe Z 1 < cTe Z 0 by omega)
      have := (c6 (r - cTe Z 1) (by omega) (by omega)).1
      rw [show cTe Z 1 + (r - cTe Z 1) = r by omega] at this
      rw [this]
      omega
  · intro hr
    have key : ∀ s i, (s = 0 ∨ s = 1) → 0 ≤ i → i < cTa Z s → gAx Z (pick (cFa Z s) 36 0 i).1 ∧ 0 ≤ (pick (cFa Z s) 36 0 i).1 ∧ (pick (cFa Z s) 36 0 i).1 < A.1 ∧ 0 ≤ (pick (cFa Z s) 36 0 i).2 ∧ (pick (cFa Z s) 36 0 i).2 < 3 ∧ ((xg Z 10 (pick (cFa Z s) 36 0 i).1 = 7 ∨ xg Z 10 (pick (cFa Z s) 36 0 i).1 = 8 ∨ xg Z 10 (pick (cFa Z s) 36 0 i).1 = 9) → (pick (cFa Z s) 36 0 i).2 < 2) ∧ (s = 0 ↔ ¬ xg Z 10 (pick (cFa Z s) 36 0 i).1 = 10) := by
      intro s i hs i0 i1
      have p := pick_r (f := cFa Z s) 36 0 i i0 i1
      generalize pick (cFa Z s) 36 0 i = P at p
      obtain ⟨p1, p2, p3, p4⟩ := p
      have p5 := p4
      unfold cFa at p5
      by_cases c : gAx Z P.1 ∧ ((xg Z 10 P.1 = 10 ∧ s = 1) ∨ (¬ xg Z 10 P.1 = 10 ∧ s = 0))
      · rw [if_pos c] at p5
        have kA : P.1 < A.1 := by
          rcases (show P.1 < A.1 ∨ A.1 ≤ P.1 by omega) with z | z
          · exact z
          · exact absurd (f3 P.1 z (by omega)) c.1.1
        have b3 : P.2 < 3 := by split at p5 <;> omega
        refine ⟨c.1, p1, kA, p3, b3, fun z => ?_, ?_⟩
        · rw [if_neg (show ¬ (¬ s = 0 ∨ xg Z 10 P.1 = 11) by omega)] at p5
          exact p5
        · omega
      · rw [if_neg c] at p5
        omega
    by_cases s : r < cTe Z 1 + cTe Z 0 + cTa Z 0
    · have e := c7 (r - (cTe Z 1 + cTe Z 0)) (by omega) (by omega)
      rw [show cTe Z 1 + cTe Z 0 + (r - (cTe Z 1 + cTe Z 0)) = r by omega] at e
      obtain ⟨y1, y2, y3, y4, y5, y6, y7⟩ := key 0 (r - (cTe Z 1 + cTe Z 0)) (Or.inl rfl) (by omega) (by omega)
      rw [e.1, e.2]
      exact ⟨y1, y2, y3, y4, y5, y6, ⟨fun _ => y7.mp rfl, fun _ => s⟩⟩
    · have e := c8 (r - (cTe Z 1 + cTe Z 0 + cTa Z 0)) (by omega) (by omega)
      rw [show cTe Z 1 + cTe Z 0 + cTa Z 0 + (r - (cTe Z 1 + cTe Z 0 + cTa Z 0)) = r by omega] at e
      obtain ⟨y1, y2, y3, y4, y5, y6, y7⟩ := key 1 (r - (cTe Z 1 + cTe Z 0 + cTa Z 0)) (Or.inr rfl) (by omega) (by omega)
      rw [e.1, e.2]
      exact ⟨y1, y2, y3, y4, y5, y6, ⟨fun z => absurd z s, fun z => absurd (y7.mpr z) (by decide)⟩⟩
theorem us_t (F : Fm Z A) (h : Rel Z K A) : 0 ≤ xg Z 21 4 ∧ xg Z 21 4 < A.1 ∧ ¬ xg Z 26 (xg Z 21 4) = 0 :=
  ⟨F.1, h.2.2.1.1.2.2.2.1, (F.2.1 _ F.1 h.2.2.1.1.2.2.2.1).mpr (Or.inl (Or.inl rfl))⟩
theorem us_q (F : Fm Z A) (h : Rel Z K A) {q : Int} (q0 : 0 ≤ q) (q1 : q < xg Z 21 3) : (0 ≤ xg Z 23 q ∧ xg Z 23 q < A.1 ∧ ¬ xg Z 26 (xg Z 23 q) = 0) ∧ (0 ≤ xg Z 24 q ∧ xg Z 24 q < A.1 ∧ ¬ xg Z 26 (xg Z 24 q) = 0) := by
  have g := h.2.2.1.1.2.2.2.2.2.2 q q0 q1
  exact ⟨⟨g.1, g.2.1, (F.2.1 _ g.1 g.2.1).mpr (Or.inl (Or.inr ⟨q, q0, q1, Or.inl rfl⟩))⟩, ⟨g.2.2.1, g.2.2.2, (F.2.1 _ g.2.2.1 g.2.2.2).mpr (Or.inl (Or.inr ⟨q, q0, q1, Or.inr rfl⟩))⟩⟩
/-- an argument's place, of a used node -/
theorem us_s (h : Rel Z K A) (F : Fm Z A) {k p : Int} (k0 : 0 ≤ k) (k1 : k < A.1) (hu : ¬ xg Z 26 k = 0) (hp : p = 0 ∨ p = 1 ∨ p = 2) : (xg Z 12 (3 * k + p) = -1 ∧ xar (A.2 k).1 ≤ p) ∨ (0 ≤ xg Z 12 (3 * k + p) ∧ xg Z 12 (3 * k + p) < k ∧ ¬ xg Z 26 (xg Z 12 (3 * k + p)) = 0 ∧ p < xar (A.2 k).1 ∧ xg Z 12 (3 * k + p) = aAg A k p) := by
  have h' := h
  obtain ⟨-, ⟨r1, r2, r3, r4, r5⟩, -, -⟩ := h'
  obtain ⟨e1, e2, e3, e4, e5, e6⟩ := r2.2 k k0 k1
  obtain ⟨q1, q2, q3, q4, q5, q6⟩ := aArgs r3 k0 k1
  have ea : xg Z 12 (3 * k + p) = aAg A k p := by
    unfold aAg
    rcases hp with rfl | rfl | rfl
    · rw [Int.add_zero, if_pos rfl]; exact e3
    · rw [if_neg (by decide), if_pos rfl]; exact e4
    · rw [if_neg (by decide), if_neg (by decide)]; exact e5
  by_cases c : p < xar (A.2 k).1
  · have u := us_arg h F k0 k1 hu (show 0 ≤ p by omega) c
    rw [ea]
    exact Or.inr ⟨u.1, u.2.1, u.2.2, c, rfl⟩
  · left
    refine ⟨?_, by omega⟩
    rw [ea]
    unfold aAg
    rcases hp with rfl | rfl | rfl
    · rw [if_pos rfl]; exact q2 (by omega)
    · rw [if_neg (by decide), if_pos rfl]; exact q4 (by omega)
    · rw [if_neg (by decide), if_neg (by decide)]; exact q6 (by omega)
theorem RV_e (h : Rel Z K A) (F : Fm Z A) {e e' : Int → Int} {one r : Int} (he : ∀ x, 0 ≤ x → x < A.1 → ¬ xg Z 26 x = 0 → e x = e' x) (r0 : -1 ≤ r) (r1 : r < xg Z 25 9) : RV Z e one r = RV Z e' one r := by
  unfold RV
  by_cases c : r = -1
  · have u := us_t F h
    rw [if_pos c, if_pos c, he _ u.1 u.2.1 u.2.2]
  · rw [if_neg c, if_neg c]
    obtain ⟨d1, d2⟩ := row_d h F (show 0 ≤ r by omega) r1
    by_cases c2 : xg Z 21 3 ≤ r
    · rw [if_pos c2, if_pos c2]
      obtain ⟨y1, y2, y3, y4, y5, y6, y7⟩ := d2 c2
      have es : ∀ p, (p = 0 ∨ p = 1 ∨ p = 2) → rvS Z e (xg Z 30 r) p = rvS Z e' (xg Z 30 r) p := by
        intro p hp
        unfold rvS
        rcases us_s h F y2 y3 y1.1 hp with ⟨z, -⟩ | ⟨z1, z2, z3, z4, z5⟩
        · rw [if_pos z, if_pos z]
        · rw [if_neg (by omega), if_neg (by omega), he _ z1 (by omega) z3]
      unfold rvX
      rw [he _ y2 y3 y1.1, es 0 (by decide), es (xg Z 31 r) (by omega), es (if xg Z 31 r = 2 then 1 else 0) (by split <;> decide), es (if xg Z 31 r = 0 then 1 else 2) (by split <;> decide)]
    · rw [if_neg c2, if_neg c2]
      have u := us_q F h (d1 (by omega)).1 (d1 (by omega)).2
      unfold rvQ
      rw [he _ u.1.1 u.1.2.1 u.1.2.2, he _ u.2.1 u.2.2.1 u.2.2.2]
theorem mRo_X (h : Rel Z K A) (m : Mk Z A) (F : Fm Z A) {K1 : xK} {k p : Int} (k0 : 0 ≤ k) (k1 : k < A.1) (hx : gAx Z k) (p0 : 0 ≤ p) (p1 : p < 3) (p2 : (xg Z 10 k = 7 ∨ xg Z 10 k = 8 ∨ xg Z 10 k = 9) → p < 2) : mRo Z K1 k p = rvX Z (xgl K1 54) 1 k p := by
  have h' := h
  obtain ⟨-, ⟨r1, r2, r3, r4, r5⟩, -, -⟩ := h'
  obtain ⟨e1, e2, e3, e4, e5, e6⟩ := r1.2 k k0 k1
  obtain ⟨g1, g2, g3, g4, g5, g6⟩ := r2.2 k k0 k1
  have f3 : xg Z 42 (3 * k) = xg Z 12 (3 * k + 0) := by rw [Int.add_zero, e3, g3]
  have f4 : xg Z 42 (3 * k + 1) = xg Z 12 (3 * k + 1) := by rw [e4, g4]
  have f5 : xg Z 42 (3 * k + 2) = xg Z 12 (3 * k + 2) := by rw [e5, g5]
  have f1 : xg Z 40 k = xg Z 10 k := by rw [e1, g1]
  have s0 := us_s h F k0 k1 hx.1 (p := 0) (by decide)
  have s1 := us_s h F k0 k1 hx.1 (p := 1) (by decide)
  have s2 := us_s h F k0 k1 hx.1 (p := 2) (by decide)
  have q2 := (r3.2.2 k k0 k1).2.1
  have hk := hx.2.1
  have kd : xg Z 10 k = 7 ∨ xg Z 10 k = 8 ∨ xg Z 10 k = 9 ∨ xg Z 10 k = 10 ∨ xg Z 10 k = 11 := by omega
  rw [← g1] at s0 s1 s2
  rcases (show p = 0 ∨ p = 1 ∨ p = 2 by omega) with rfl | rfl | rfl
  · unfold mRo rvX rvS gSr
    simp only [f1, f3, f4, f5, false_and, if_false, if_true, Int.reduceAdd, Int.reduceSub, Int.reduceMul, Int.reduceNeg, Int.reduceLE, Int.reduceLT, Int.reduceEq, false_implies, true_implies, not_true_eq_false, not_false_eq_true, and_true, true_and, xar_0, xar_1, xar_2, xar_3, xar_4, xar_5, xar_6, xar_7, xar_8, xar_9, xar_10, xar_11, xar_12]
    generalize xg Z 12 (3 * k + 0) = a at *
    generalize xg Z 12 (3 * k + 1) = b at *
    generalize xg Z 12 (3 * k + 2) = c at *
    rcases kd with z | z | z | z | z <;> rw [z] at s0 s1 s2 <;> simp only [false_and, if_false, if_true, Int.reduceAdd, Int.reduceSub, Int.reduceMul, Int.reduceNeg, Int.reduceLE, Int.reduceLT, Int.reduceEq, false_implies, true_implies, not_true_eq_false, not_false_eq_true, and_true, true_and, xar_0, xar_1, xar_2, xar_3, xar_4, xar_5, xar_6, xar_7, xar_8, xar_9, xar_10, xar_11, xar_12, and_false, false_or, or_false] at s0 s1 s2 <;> simp only [z, false_and, if_false, if_true, Int.reduceAdd, Int.reduceSub, Int.reduceMul, Int.reduceNeg, Int.reduceLE, Int.reduceLT, Int.reduceEq, false_implies, true_implies, not_true_eq_false, not_false_eq_true, and_true, true_and, xar_0, xar_1, xar_2, xar_3, xar_4, xar_5, xar_6, xar_7, xar_8, xar_9, xar_10, xar_11, xar_12] <;> (repeat' split) <;> omega
  · unfold mRo rvX rvS gSr
    simp only [f1, f3, f4, f5, false_and, if_false, if_true, Int.reduceAdd, Int.reduceSub, Int.reduceMul, Int.reduceNeg, Int.reduceLE, Int.reduceLT, Int.reduceEq, false_implies, true_implies, not_true_eq_false, not_false_eq_true, and_true, true_and, xar_0, xar_1, xar_2, xar_3, xar_4, xar_5, xar_6, xar_7, xar_8, xar_9, xar_10, xar_11, xar_12]
    generalize xg Z 12 (3 * k + 0) = a at *
    generalize xg Z 12 (3 * k + 1) = b at *
    generalize xg Z 12 (3 * k + 2) = c at *
    rcases kd with z | z | z | z | z <;> rw [z] at s0 s1 s2 <;> simp only [false_and, if_false, if_true, Int.reduceAdd, Int.reduceSub, Int.reduceMul, Int.reduceNeg, Int.reduceLE, Int.reduceLT, Int.reduceEq, false_implies, true_implies, not_true_eq_false, not_false_eq_true, and_true, true_and, xar_0, xar_1, xar_2, xar_3, xar_4, xar_5, xar_6, xar_7, xar_8, xar_9, xar_10, xar_11, xar_12, and_false, false_or, or_false] at s0 s1 s2 <;> simp only [z, false_and, if_false, if_true, Int.reduceAdd, Int.reduceSub, Int.reduceMul, Int.reduceNeg, Int.reduceLE, Int.reduceLT, Int.reduceEq, false_implies, true_implies, not_true_eq_false, not_false_eq_true, and_true, true_and, xar_0, xar_1, xar_2, xar_3, xar_4, xar_5, xar_6, xar_7, xar_8, xar_9, xar_10, xar_11, xar_12] <;> (repeat' split) <;> omega
  · unfold mRo rvX rvS gSr
    simp only [f1, f3, f4, f5, false_and, if_false, if_true, Int.reduceAdd, Int.reduceSub, Int.reduceMul, Int.reduceNeg, Int.reduceLE, Int.reduceLT, Int.reduceEq, false_implies, true_implies, not_true_eq_false, not_false_eq_true, and_true, true_and, xar_0, xar_1, xar_2, xar_3, xar_4, xar_5, xar_6, xar_7, xar_8, xar_9, xar_10, xar_11, xar_12]
    generalize xg Z 12 (3 * k + 0) = a at *
    generalize xg Z 12 (3 * k + 1) = b at *
    generalize xg Z 12 (3 * k + 2) = c at *
    rcases kd with z | z | z | z | z <;> rw [z] at s0 s1 s2 p2 <;> simp only [false_and, if_false, if_true, Int.reduceAdd, Int.reduceSub, Int.reduceMul, Int.reduceNeg, Int.reduceLE, Int.reduceLT, Int.reduceEq, false_implies, true_implies, not_true_eq_false, not_false_eq_true, and_true, true_and, xar_0, xar_1, xar_2, xar_3, xar_4, xar_5, xar_6, xar_7, xar_8, xar_9, xar_10, xar_11, xar_12, and_false, false_or, or_false] at s0 s1 s2 <;> simp only [z, false_and, if_false, if_true, Int.reduceAdd, Int.reduceSub, Int.reduceMul, Int.reduceNeg, Int.reduceLE, Int.reduceLT, Int.reduceEq, false_implies, true_implies, not_true_eq_false, not_false_eq_true, and_true, true_and, xar_0, xar_1, xar_2, xar_3, xar_4, xar_5, xar_6, xar_7, xar_8, xar_9, xar_10, xar_11, xar_12] <;> (repeat' split) <;> omega
theorem mRv_RV (h : Rel Z K A) (m : Mk Z A) (F : Fm Z A) {K1 : xK} {r : Int} (r0 : -1 ≤ r) (r1 : r < xg Z 25 9) : mRv Z K1 r = RV Z (xgl K1 54) 1 r := by
  obtain ⟨tN, t1, t0, a0, a1, ab⟩ := te_N h
  obtain ⟨te1, te2, te3⟩ := mk_te h
  obtain ⟨ta1, ta2, ta3⟩ := mk_ta h m F
  obtain ⟨n, n1, n2, n3, n4, n5⟩ := mk_n h
  have p5 := h.2.2.1.2.2.2.2
  have p2 := h.2.2.1.2.1
  have p3 := h.2.2.1.2.2.1
  have p4 := h.2.2.1.2.2.2.1
  have g2 := h.2.2.1.1.2.1
  unfold mRv
  rw [p3, p4]
  by_cases c : r = -1
  · unfold RV
    rw [if_pos c, if_pos c]
  · rw [if_neg c]
    have r0' : 0 ≤ r := by omega
    obtain ⟨d1, d2⟩ := row_d h F r0' r1
    have hq : ∀ q, 0 ≤ q → q < xg Z 21 3 → mRqv Z K1 q = rvQ Z (xgl K1 54) q := by
      intro q q0 q1
      obtain ⟨y1, y2, y3⟩ := p5 q q0 (by omega)
      unfold mRqv rvQ
      rw [y1, y2, y3]
      split <;> omega
    have hz : ∀ s x, (n : Int) ≤ x → x < 36 → cFa Z s x = 0 := fun s x x0 x1 => by
      unfold cFa; rw [if_neg (fun y => (mk_z F (show A.1 ≤ x by omega) x1).2 y.1)]
    have F' := F
    obtain ⟨f1, f2, f3, f4, ⟨c1, c2, c3, c4, c5, c6, c7, c8⟩, f6⟩ := F'
    rw [c4] at r1
    have pq : ∀ s i, (s = 0 ∨ s = 1) → 0 ≤ i → pick (mFr0 Z s) (xg Z 21 3).toNat 0 i = pick (cFe Z (1 - s)) (xg Z 21 3).toNat 0 i := by
      intro s i hs i0
      refine pick_e _ _ _ (fun x x0 x1 => ?_)
      have := mk_fr h x0 (show x < 6 by omega)
      rcases hs with rfl | rfl
      · exact this.1
      · exact this.2.1
    unfold RV
    rw [if_neg c]
    have st0 : mRvc Z K1 3 0 r = if r < cTe Z 1 then mRqv Z K1 (pick (mFr0 Z 0) (xg Z 21 3).toNat 0 r).1 else mRvc Z K1 2 1 (r - cTe Z 1) := by
      show (if r < mTq Z 0 then mRqv Z K1 (pick (mFr0 Z 0) (xg Z 33 30).toNat 0 r).1 else if r - mTq Z 0 < mTa Z 0 then _ else mRvc Z K1 2 (0 + 1) (r - mTq Z 0 - mTa Z 0)) = _
      rw [te1, ta1, p2]
      by_cases s : r < cTe Z 1
      · rw [if_pos s, if_pos s]
      · rw [if_neg s, if_neg s, if_neg (by omega), show r - cTe Z 1 - 0 = r - cTe Z 1 by omega]; rfl
    have st1 : ∀ i, 0 ≤ i → mRvc Z K1 2 1 i = if i < cTe Z 0 then mRqv Z K1 (pick (mFr0 Z 1) (xg Z 21 3).toNat 0 i).1 else if i - cTe Z 0 < cTa Z 0 then mRo Z K1 (pick (mFa Z 1) n 0 (i - cTe Z 0)).1 (pick (mFa Z 1) n 0 (i - cTe Z 0)).2 else mRvc Z K1 1 2 (i - cTe Z 0 - cTa Z 0) := by
      intro i i0
      show (if i < mTq Z 1 then mRqv Z K1 (pick (mFr0 Z 1) (xg Z 33 30).toNat 0 i).1 else if i - mTq Z 1 < mTa Z 1 then mRo Z K1 (pick (mFa Z 1) (xg Z 33 12).toNat 0 (i - mTq Z 1)).1 (pick (mFa Z 1) (xg Z 33 12).toNat 0 (i - mTq Z 1)).2 else mRvc Z K1 1 (1 + 1) (i - mTq Z 1 - mTa Z 1)) = _
      rw [te2, ta2, p2, n3]
      rfl
    have st2 : ∀ i, 0 ≤ i → mRvc Z K1 1 2 i = if i < cTa Z 1 then mRo Z K1 (pick (mFa Z 2) n 0 i).1 (pick (mFa Z 2) n 0 i).2 else 0 := by
      intro i i0
      show (if i < mTq Z 2 then _ else if i - mTq Z 2 < mTa Z 2 then mRo Z K1 (pick (mFa Z 2) (xg Z 33 12).toNat 0 (i - mTq Z 2)).1 (pick (mFa Z 2) (xg Z 33 12).toNat 0 (i - mTq Z 2)).2 else 0) = _
      rw [te3, ta3, n3, if_neg (by omega), show i - 0 = i by omega]
    rw [st0]
    by_cases s1 : r < cTe Z 1
    · rw [if_pos s1, if_neg (show ¬ xg Z 21 3 ≤ r by omega), pq 0 r (Or.inl rfl) r0', show (1 : Int) - 0 = 1 by decide, ← (c5 r r0' s1).1]
      exact hq _ (d1 (by omega)).1 (d1 (by omega)).2
    · rw [if_neg s1, st1 _ (by omega)]
      by_cases s2 : r - cTe Z 1 < cTe Z 0
      · have e := (c6 (r - cTe Z 1) (by omega) s2).1
        rw [show cTe Z 1 + (r - cTe Z 1) = r by omega] at e
        rw [if_pos s2, if_neg (show ¬ xg Z 21 3 ≤ r by omega), pq 1 _ (Or.inr rfl) (by omega), show (1 : Int) - 1 = 0 by decide, ← e]
        exact hq _ (d1 (by omega)).1 (d1 (by omega)).2
      · obtain ⟨y1, y2, y3, y4, y5, y6, y7⟩ := d2 (by omega)
        rw [if_neg s2, if_pos (show xg Z 21 3 ≤ r by omega)]
        by_cases s3 : r - cTe Z 1 - cTe Z 0 < cTa Z 0
        · have e := c7 (r - (cTe Z 1 + cTe Z 0)) (by omega) (by omega)
          rw [show cTe Z 1 + cTe Z 0 + (r - (cTe Z 1 + cTe Z 0)) = r by omega] at e
          rw [if_pos s3, pick_x (g := cFa Z 0) n2 (fun x x0 x1 => (mk_fa h m x0 (by omega)).2.1) (hz 0) (by omega) s3, show r - cTe Z 1 - cTe Z 0 = r - (cTe Z 1 + cTe Z 0) by omega, ← e.1, ← e.2]
          exact mRo_X h m F y2 y3 y1 y4 y5 y6
        · have e := c8 (r - (cTe Z 1 + cTe Z 0 + cTa Z 0)) (by omega) (by omega)
          rw [show cTe Z 1 + cTe Z 0 + cTa Z 0 + (r - (cTe Z 1 + cTe Z 0 + cTa Z 0)) = r by omega] at e
          rw [if_neg s3, st2 _ (by omega), if_pos (show r - cTe Z 1 - cTe Z 0 - cTa Z 0 < cTa Z 1 by omega), pick_x (g := cFa Z 1) n2 (fun x x0 x1 => (mk_fa h m x0 (by omega)).2.2) (hz 1) (by omega) (show r - cTe Z 1 - cTe Z 0 - cTa Z 0 < tot (cFa Z 1) 36 0 from by show _ < cTa Z 1; omega), show r - cTe Z 1 - cTe Z 0 - cTa Z 0 = r - (cTe Z 1 + cTe Z 0 + cTa Z 0) by omega, ← e.1, ← e.2]
          exact mRo_X h m F y2 y3 y1 y4 y5 y6
end RVS
