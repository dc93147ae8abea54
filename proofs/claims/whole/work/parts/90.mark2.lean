/-! marking as a whole, in the reference and in the class -/
theorem mRep_u {G G' : xG} {K : xK} {A : aG} (hR : mRep G K A) (h : ∀ (a : Nat) (j : Int), 0 ≤ j → ¬ a = 50 → xg G' a j = xg G a j) : mRep G' K A := by
  refine ⟨by rw [h 33 12 (by decide) (by decide)]; exact hR.1, fun j j0 j1 => ?_⟩
  rw [h 40 j j0 (by decide), h 41 j j0 (by decide), h 42 _ (by omega) (by decide), h 42 _ (by omega) (by decide), h 42 _ (by omega) (by decide)]
  exact hR.2 j j0 j1
section SP
variable {sc : Nat × (Nat → Int32)} {d : Nat} {Q : Option Value → am_H → Prop} {G : xG} {K : xK} {h : am_H}
theorem lm_mk3 {A : aG} (hA : aOk A) : ∀ (n : Nat) (k : Int) (G : xG), mRep G K A → k + 1 = n → (n : Int) ≤ A.1 → (xw sc (d + 1) Mm_mark cm_mark_102 [some (.ref 33), some (xI k), none] [] (xH G K) Q ↔ Q none (xH (mkL 50 A n G) K)) := by
  intro n
  induction n with
  | zero =>
    intro k G hR hk hn
    have e : k = -1 := by omega
    subst e
    rw [rm_mark_102]
    simp (contextual := true) (disch := first | assumption | exact xin_g _ _ _ | exact xin_ar _ | exact xin_sc _ _ | exact xin_cmp | exact xin_and | exact xin_or | exact xinl_g _ _ _ | omega | exact xin_mk (by omega) (by omega) | exact xinl_mk (by omega) (by omega) | exact xbo_0 | exact xbo_1 | exact xin_sl | exact xin_fa | exact xbo_ad | exact xin_bo xbo_ad | exact xin_mb | exact xin_A | exact xin_op | ((repeat refine gN_q ?_ (by omega) (by omega)); assumption)) only [rm_mark_103, rm_mark_158, xg_cell, Option.toList_some, Option.toList_none, List.singleton_append, List.append_nil, List.nil_append, List.cons_append, false_and, if_false, if_true, Int.reduceAdd, Int.reduceSub, Int.reduceMul, Int.reduceNeg, Int.reduceLE, Int.reduceLT, Int.reduceEq, false_implies, true_implies, not_true_eq_false, not_false_eq_true, and_true, true_and, xar_0, xar_1, xar_2, xar_3, xar_4, xar_5, xar_6, xar_7, xar_8, xar_9, xar_10, xar_11, xar_12, mkL]
  | succ n ih =>
    intro k G hR hk hn
    have e : k = (n : Int) := by omega
    rw [lm_mkn hR hA (by omega) (by omega), ih (k + (-1)) _ (mRep_u hR (fun a j _ ha => mkF_c ha)) (by omega) (by omega), e]
    exact Iff.rfl
/-- nothing but work's cells and the marks has changed -/
def mFm (G G' : xG) : Prop := ∀ (a : Nat) (j : Int), 0 ≤ j → ¬ (45 ≤ a ∧ a ≤ 50) → xg G' a j = xg G a j
theorem sm_markv {A : aG} {V : Int → Int} (hR : mRep G K A) (hA : aOk A) (hC : cLv G A V) (hG : mGw G A V) (hP : mPb G A) : ∃ X : xG, (∀ Q : Option Value → am_H → Prop, xc sc (d + 5) Mm_mark [.ref 33] (xH G K) Q ↔ Q none (xH X K)) ∧ mDv V X A ∧ mFm G X ∧ UFx A (mBs G) (xg X 50) := by
  obtain ⟨X, w1, w2, w3⟩ := sm_wv (sc := sc) hR hA hC hG
  have hn := hA.2.1
  have hn0 := hA.1
  have e12 : xg X 33 12 = A.1 := by rw [w3 33 12 (by decide)]; exact hR.1
  have e30 : xg X 33 30 = xg G 33 30 := w3 33 30 (by decide)
  have eb : ∀ y, mBs X y ↔ mBs G y := by
    intro y
    unfold mBs
    rw [w3 33 28 (by decide), w3 33 30 (by decide)]
    simp only [w3 56 _ (show ¬ (45 ≤ 56 ∧ 56 ≤ 49) by decide), w3 57 _ (show ¬ (45 ≤ 57 ∧ 57 ≤ 49) by decide)]
  obtain ⟨Y, y1, y2, y3, y4⟩ := lm_mk2 (sc := sc) (d := d + 5) (K := K) hn A.1.toNat 0 X (by decide) (by omega) e12 (by rw [e30]; exact hP.1) (by rw [e30]; exact hP.2.1)
  have hRX : mRep X K A := mRep_w hR (fun a j h5 h6 h7 h8 h9 => w3 a j (by omega))
  have hRY := mRep_u hRX y2
  have e12Y : xg Y 33 12 = A.1 := hRY.1
  refine ⟨mkL 50 A A.1.toNat Y, fun Q => ?_, fun j j0 j1 => ?_, fun a j j0 ha => ?_, ?_⟩
  · rw [em_mark]
    have l3 := lm_mk3 (sc := sc) (d := d + 4) (Q := Q) hA A.1.toNat (A.1 - 1) Y hRY (by omega) (by omega)
    have w1 := fun (Q : Option Value → am_H → Prop) => w1 d Q
    simp (contextual := true) (disch := first | assumption | exact xin_g _ _ _ | exact xin_ar _ | exact xin_sc _ _ | exact xin_cmp | exact xin_and | exact xin_or | exact xinl_g _ _ _ | omega | exact xin_mk (by omega) (by omega) | exact xinl_mk (by omega) (by omega) | exact xbo_0 | exact xbo_1 | exact xin_sl | exact xin_fa | exact xbo_ad | exact xin_bo xbo_ad | exact xin_mb | exact xin_A | exact xin_op | ((repeat refine gN_q ?_ (by omega) (by omega)); assumption)) only [rm_mark_0, rm_mark_1, rm_mark_4, rm_mark_5, ↓w1, xg_cell, Option.toList_some, Option.toList_none, List.singleton_append, List.append_nil, List.nil_append, List.cons_append, false_and, if_false, if_true, Int.reduceAdd, Int.reduceSub, Int.reduceMul, Int.reduceNeg, Int.reduceLE, Int.reduceLT, Int.reduceEq, false_implies, true_implies, not_true_eq_false, not_false_eq_true, and_true, true_and, xar_0, xar_1, xar_2, xar_3, xar_4, xar_5, xar_6, xar_7, xar_8, xar_9, xar_10, xar_11, xar_12, y1]
    simp (contextual := true) (disch := first | assumption | exact xin_g _ _ _ | exact xin_ar _ | exact xin_sc _ _ | exact xin_cmp | exact xin_and | exact xin_or | exact xinl_g _ _ _ | omega | exact xin_mk (by omega) (by omega) | exact xinl_mk (by omega) (by omega) | exact xbo_0 | exact xbo_1 | exact xin_sl | exact xin_fa | exact xbo_ad | exact xin_bo xbo_ad | exact xin_mb | exact xin_A | exact xin_op | ((repeat refine gN_q ?_ (by omega) (by omega)); assumption)) only [rm_mark_95, rm_mark_96, rm_mark_99, rm_mark_100, rm_mark_101, xg_cell, Option.toList_some, Option.toList_none, List.singleton_append, List.append_nil, List.nil_append, List.cons_append, false_and, if_false, if_true, Int.reduceAdd, Int.reduceSub, Int.reduceMul, Int.reduceNeg, Int.reduceLE, Int.reduceLT, Int.reduceEq, false_implies, true_implies, not_true_eq_false, not_false_eq_true, and_true, true_and, xar_0, xar_1, xar_2, xar_3, xar_4, xar_5, xar_6, xar_7, xar_8, xar_9, xar_10, xar_11, xar_12, e12Y, l3]
  · have := w2 j j0 j1
    unfold mRV at this ⊢
    rw [mkL_c (by decide), mkL_c (by decide), mkL_c (by decide), mkL_c (by decide), mkL_c (by decide), mkL_c (by decide), mkL_c (by decide), mkL_c (by decide), y2 14 j j0 (by decide), y2 45 j j0 (by decide), y2 46 j j0 (by decide), y2 47 j j0 (by decide), y2 15 j j0 (by decide), y2 48 j j0 (by decide), y2 16 j j0 (by decide), y2 49 j j0 (by decide)]
    exact this
  · rw [mkL_c (by omega), y2 a j j0 (by omega), w3 a j (by omega)]
  · refine mkL_ch hA A.1.toNat Y (by omega) (fun x x0 x1 => ?_)
    rw [(y4 x x0 x1).2, eb]
    constructor
    · intro z; exact Or.inl z
    · rintro (z | ⟨m, m0, m1, -⟩)
      · exact z
      · omega
theorem sm_mark {A : aG} (hR : mRep G K A) (hA : aOk A) (hC : cAt G A) (hG : mGi G A) (hP : mPb G A) : ∃ X : xG, (∀ Q : Option Value → am_H → Prop, xc sc (d + 5) Mm_mark [.ref 33] (xH G K) Q ↔ Q none (xH X K)) ∧ mDn X A ∧ mFm G X ∧ UFx A (mBs G) (xg X 50) := by
  obtain ⟨X, x1, x2, x3, x4⟩ := sm_markv (sc := sc) (d := d) (V := xg G 18) hR hA hC hG hP
  refine ⟨X, x1, fun j j0 j1 => ?_, x3, x4⟩
  obtain ⟨h1, h2, h3, h4⟩ := x2 j j0 j1
  exact ⟨h1, h2, h3, by rw [x3 18 j j0 (by decide)]; exact h4⟩
/-! the class -/
def gBs (G : xG) (x : Int) : Prop := x = xg G 21 4 ∨ ∃ q, 0 ≤ q ∧ q < xg G 21 3 ∧ (xg G 23 q = x ∨ xg G 24 q = x)
theorem gM1_0 : ∀ (n : Nat) (k : Int) (G : xG) (x : Int), 0 ≤ k → 0 ≤ x → (xg (gM1 n k G) 26 x = if k ≤ x ∧ x < k + n then 0 else xg G 26 x)
  | 0, k, G, x, k0, x0 => by
    rw [if_neg (by omega)]; rfl
  | n + 1, k, G, x, k0, x0 => by
    show xg (gM1 n (k + 1) (xp G 26 k 0)) 26 x = _
    rw [gM1_0 n (k + 1) _ x (by omega) x0]
    by_cases h : k + 1 ≤ x ∧ x < k + 1 + n
    · rw [if_pos h, if_pos (by omega)]
    · rw [if_neg h]
      by_cases hx : x = k
      · subst hx; rw [xg_self xin_0, if_pos (by omega)]
      · rw [xg_idx k0 x0 hx, if_neg (by omega)]
theorem gM2_n : ∀ (n : Nat) (q : Int) (G : xG) (x : Int), 0 ≤ x → (∀ p, q ≤ p → p < q + n → 0 ≤ xg G 23 p ∧ 0 ≤ xg G 24 p) → (¬ xg (gM2 n q G) 26 x = 0 ↔ (¬ xg G 26 x = 0 ∨ ∃ p, q ≤ p ∧ p < q + n ∧ (xg G 23 p = x ∨ xg G 24 p = x)))
  | 0, q, G, x, x0, h => by
    show ¬ xg G 26 x = 0 ↔ _
    constructor
    · intro z; exact Or.inl z
    · rintro (z | ⟨p, p0, p1, -⟩)
      · exact z
      · omega
  | n + 1, q, G, x, x0, h => by
    have e : ∀ (a : Nat), ¬ a = 26 → ∀ j, xg (xp (xp G 26 (xg G 23 q) 1) 26 (xg G 24 q) 1) a j = xg G a j := fun a ha j => by rw [xg_cell ha, xg_cell ha]
    obtain ⟨h1, h2⟩ := h q (Int.le_refl _) (by omega)
    show ¬ xg (gM2 n (q + 1) (xp (xp G 26 (xg G 23 q) 1) 26 (xg G 24 q) 1)) 26 x = 0 ↔ _
    rw [gM2_n n (q + 1) _ x x0 (fun p p0 p1 => by rw [e 23 (by decide), e 24 (by decide)]; exact h p (by omega) (by omega)), xp_1n h2 x0, xp_1n h1 x0]
    simp only [e 23 (by decide), e 24 (by decide)]
    constructor
    · rintro (((z | z) | z) | ⟨p, p0, p1, z⟩)
      · exact Or.inl z
      · exact Or.inr ⟨q, Int.le_refl _, by omega, Or.inl z.symm⟩
      · exact Or.inr ⟨q, Int.le_refl _, by omega, Or.inr z.symm⟩
      · exact Or.inr ⟨p, by omega, by omega, z⟩
    · rintro (z | ⟨p, p0, p1, z⟩)
      · exact Or.inl (Or.inl (Or.inl z))
      · by_cases hp : p = q
        · subst hp
          rcases z with z | z
          · exact Or.inl (Or.inl (Or.inr z.symm))
          · exact Or.inl (Or.inr z.symm)
        · exact Or.inr ⟨p, by omega, by omega, z⟩
theorem gM3_L {A : aG} : ∀ (n : Nat) (G : xG), cRep G A → (n : Int) ≤ A.1 → gM3 n G = mkL 26 A n G
  | 0, G, _, _ => rfl
  | n + 1, G, hR, hn => by
    obtain ⟨e1, e2, e3, e4, e5, e6⟩ := hR.2 n (by omega) (by omega)
    have e : gMk G n = mkF 26 G n (xar (A.2 n).1) (A.2 n).2.2.1 (A.2 n).2.2.2.1 (A.2 n).2.2.2.2.1 := by
      rw [← e1, ← e3, ← e4, ← e5]
      unfold gMk mkF
      rw [Int.add_zero]
    show gM3 n (gMk G n) = mkL 26 A n (mkF 26 G n _ _ _ _)
    rw [← e]
    exact gM3_L n _ (cRep_eq hR (gMk_c (by decide)) (fun b j hb => gMk_c (by omega))) (by omega)
/-- the problem is in order, in the class's cells -/
def gPb (G : xG) (A : aG) : Prop := 0 ≤ xg G 21 3 ∧ xg G 21 3 ≤ 6 ∧ -1 ≤ xg G 21 4 ∧ xg G 21 4 < A.1 ∧ xbo (xg G 21 5) ∧ (∀ q, 0 ≤ q → q < 6 → xbo (xg G 22 q)) ∧ ∀ q, 0 ≤ q → q < xg G 21 3 → 0 ≤ xg G 23 q ∧ xg G 23 q < A.1 ∧ 0 ≤ xg G 24 q ∧ xg G 24 q < A.1
theorem gN_of {A : aG} {k : Int} (hR : cRep G A) (hA : aOk A) (k0 : 0 ≤ k) (k1 : k < A.1) : gN G k ∧ gAb G k := by
  obtain ⟨e1, e2, e3, e4, e5, e6⟩ := hR.2 k k0 k1
  obtain ⟨q1, q2, q3, q4, q5, q6, q7, q8⟩ := hA.2.2 k k0 k1
  have hn := hA.2.1
  obtain ⟨d1, d2, d3⟩ := aAr_d q5
  obtain ⟨r1, r2, r3, r4, r5, r6⟩ := q5
  unfold gN gAb
  rw [Int.add_zero, e1, e3, e4, e5]
  refine ⟨⟨k0, by omega, q1, q2, by omega, by omega, by omega, by omega, by omega, by omega, fun z => ?_, fun z => ?_, fun z => ?_⟩, by omega, by omega, by omega⟩
  · have := xar_g3 z q2
    exact (r1 (by omega)).1
  · have : 1 < xar (A.2 k).1 := by
      rcases (show (A.2 k).1 = 3 ∨ (A.2 k).1 = 4 ∨ (A.2 k).1 = 6 ∨ (A.2 k).1 = 7 ∨ (A.2 k).1 = 8 ∨ (A.2 k).1 = 11 by omega) with z | z | z | z | z | z <;> rw [z] <;> decide
    exact (r3 this).1
  · have : 2 < xar (A.2 k).1 := by rw [z]; decide
    exact (r5 this).1
theorem gMuOk_of {A : aG} (hR : cRep G A) (hA : aOk A) (hP : gPb G A) (ht : 0 ≤ xg G 21 4) : gMuOk G := by
  have hn := hA.2.1
  obtain ⟨p1, p2, p3, p4, p5, p6, p7⟩ := hP
  refine ⟨fun i i0 i1 => gN_of hR hA i0 (by rw [← hR.1]; exact i1), fun q q0 q1 => ?_, p1, p2, ht, by omega, by rw [hR.1]; exact hA.1, by rw [hR.1]; exact hn⟩
  have := p7 q q0 q1
  omega
theorem gMu_ch {A : aG} (hR : cRep G A) (hA : aOk A) (hP : gPb G A) (ht : 0 ≤ xg G 21 4) : UFx A (gBs G) (xg (gMu G) 26) ∧ ∀ x, A.1 ≤ x → x < 36 → xg (gMu G) 26 x = 0 := by
  obtain ⟨p1, p2, p3, p4, p5, p6, p7⟩ := hP
  have hn0 := hA.1
  have hn := hA.2.1
  have c1 : ∀ a, ¬ a = 26 → ∀ i, xg (gM2 (xg G 21 3).toNat 0 (xp (gM1 36 0 G) 26 (xg G 21 4) 1)) a i = xg G a i := fun a ha i => by rw [gM2_c ha, xg_cell ha, gM1_c ha]
  have hR2 : cRep (gM2 (xg G 21 3).toNat 0 (xp (gM1 36 0 G) 26 (xg G 21 4) 1)) A := cRep_eq hR (c1 9 (by decide) 9) (fun b j hb => c1 b (by omega) j)
  have e : gMu G = mkL 26 A A.1.toNat (gM2 (xg G 21 3).toNat 0 (xp (gM1 36 0 G) 26 (xg G 21 4) 1)) := by
    unfold gMu
    rw [hR.1]
    exact gM3_L A.1.toNat _ hR2 (by omega)
  have e23 : ∀ a, ¬ a = 26 → ∀ i, xg (xp (gM1 36 0 G) 26 (xg G 21 4) 1) a i = xg G a i := fun a ha i => by rw [xg_cell ha, gM1_c ha]
  have hbase : ∀ x, 0 ≤ x → x < 36 → (¬ xg (gM2 (xg G 21 3).toNat 0 (xp (gM1 36 0 G) 26 (xg G 21 4) 1)) 26 x = 0 ↔ gBs G x) := by
    intro x x0 x1
    rw [gM2_n _ 0 _ x x0 (fun p p0 p1 => by rw [e23 23 (by decide), e23 24 (by decide)]; have := p7 p p0 (by omega); omega), xp_1n ht x0, gM1_0 36 0 G x (by decide) x0, if_pos (by omega)]
    simp only [e23 23 (by decide), e23 24 (by decide)]
    unfold gBs
    have e3 : (0 : Int) + ((xg G 21 3).toNat : Int) = xg G 21 3 := by omega
    rw [e3]
    constructor
    · rintro ((z | z) | z)
      · exact absurd trivial z
      · exact Or.inl z
      · exact Or.inr z
    · rintro (z | z)
      · exact Or.inl (Or.inr z)
      · exact Or.inr z
  rw [e]
  constructor
  · refine mkL_ch hA A.1.toNat _ (by omega) (fun x x0 x1 => ?_)
    rw [hbase x x0 (by omega)]
    constructor
    · intro z; exact Or.inl z
    · rintro (z | ⟨m, m0, m1, -⟩)
      · exact z
      · omega
  · intro x x0 x1
    have hb : ∀ y, gBs G y → y < A.1 := by
      rintro y (z | ⟨q, q0, q1, z⟩)
      · rw [z]; exact p4
      · have := p7 q q0 q1
        rcases z with z | z <;> omega
    have hz : ∀ (n : Nat) (X : xG), (n : Int) ≤ A.1 → xg X 26 x = 0 → xg (mkL 26 A n X) 26 x = 0 := by
      intro n
      induction n with
      | zero => intro X _ hX; exact hX
      | succ n ih =>
        intro X hn' hX
        refine ih _ (by omega) ?_
        have := mkF_ch (c := 26) (G := X) hA (show (0 : Int) ≤ (n : Int) by omega) (by omega) (x := x) (by omega)
        by_cases hq : xg (mkF 26 X n (xar (A.2 n).1) (A.2 n).2.2.1 (A.2 n).2.2.2.1 (A.2 n).2.2.2.2.1) 26 x = 0
        · exact hq
        · rcases this.mp hq with z | ⟨-, z⟩
          · exact absurd hX z
          · have := isA_lt hA (show (0 : Int) ≤ (n : Int) by omega) (by omega) z
            omega
    refine hz A.1.toNat _ (by omega) ?_
    by_cases hq : xg (gM2 (xg G 21 3).toNat 0 (xp (gM1 36 0 G) 26 (xg G 21 4) 1)) 26 x = 0
    · exact hq
    · have := hb x ((hbase x (by omega) x1).mp hq)
      omega
end SP
