/-! calls of both: compile -/
def trC (G : xG) (w : Int) : Int := if w < 0 then -1 else if xg G 15 w = 4 then xg G 17 w else w
theorem gGn_ne {G : xG} : ∀ (n : Nat) (j g : Int), ¬ g = -1 → gGn G n j g = g
  | 0, j, g, _ => rfl
  | n + 1, j, g, h => by
    show (if ¬ g = -1 then g else _) = g
    rw [if_pos h]
theorem gu_eq {G X : xG} {A : aG} {k w : Int} (hA : aOk A) (hC : cAt G A) (h47 : ∀ k, 0 ≤ k → k < A.1 → xg X 47 k = xg G 15 k) (k0 : 0 ≤ k) (k1 : k < A.1) : gGu G k w = if mGd X k w then -1 else trC G k := by
  unfold gGu mGd trC
  rw [h47 k k0 k1, if_neg (show ¬ k < 0 by omega)]
theorem tr_ne {G : xG} {A : aG} {k : Int} (hA : aOk A) (hC : cAt G A) (k0 : 0 ≤ k) (k1 : k < A.1) : ¬ trC G k = -1 := by
  unfold trC
  rw [if_neg (show ¬ k < 0 by omega)]
  split
  · rename_i h
    have := (aL_bb hA hC.1 k0 k1).2.2.2.1 h
    omega
  · omega
theorem gn_eq {G X : xG} {A : aG} (hA : aOk A) (hC : cAt G A) (h47 : ∀ k, 0 ≤ k → k < A.1 → xg X 47 k = xg G 15 k) : ∀ (n : Nat) (j : Int), (∀ q, j ≤ q → q < j + n → (xg X 55 q = xg G 22 q ∧ xg X 56 q = xg G 23 q ∧ xg X 57 q = xg G 24 q) ∧ 0 ≤ xg G 23 q ∧ xg G 23 q < A.1 ∧ 0 ≤ xg G 24 q ∧ xg G 24 q < A.1) → gGn G n j (-1) = trC G (mWl X n j) ∧ (mWl X n j = -1 ∨ (0 ≤ mWl X n j ∧ mWl X n j < A.1))
  | 0, j, _ => ⟨rfl, Or.inl rfl⟩
  | n + 1, j, h => by
    obtain ⟨⟨e1, e2, e3⟩, l0, l1, r0, r1⟩ := h j (Int.le_refl _) (by omega)
    have ih := gn_eq hA hC h47 n (j + 1) (fun q q0 q1 => h q (by omega) (by omega))
    have ed : gGn G (n + 1) j (-1) = gGn G n (j + 1) (gGn1 G j) := by
      show (if ¬ (-1 : Int) = -1 then _ else _) = _
      rw [if_neg (fun z => z rfl)]
    have em : mWl X (n + 1) j = if ¬ mGd X (xg X 56 j) (if xg X 55 j = 0 then 2 else 1) then xg X 56 j else if ¬ mGd X (xg X 57 j) (if xg X 55 j = 0 then 3 else 1) then xg X 57 j else mWl X n (j + 1) := rfl
    rw [ed, em, e1, e2, e3]
    unfold gGn1
    rw [gu_eq hA hC h47 l0 l1, gu_eq hA hC h47 r0 r1]
    by_cases c1 : mGd X (xg G 23 j) (if xg G 22 j = 0 then 2 else 1)
    · have n1 : ¬ ¬ mGd X (xg G 23 j) (if xg G 22 j = 0 then 2 else 1) := fun z => z c1
      rw [if_pos c1, if_pos rfl, if_neg n1]
      by_cases c2 : mGd X (xg G 24 j) (if xg G 22 j = 0 then 3 else 1)
      · have n2 : ¬ ¬ mGd X (xg G 24 j) (if xg G 22 j = 0 then 3 else 1) := fun z => z c2
        rw [if_pos c2, if_neg n2]
        exact ih
      · rw [if_neg c2, if_pos c2]
        exact ⟨gGn_ne n _ _ (tr_ne hA hC r0 r1), Or.inr ⟨r0, r1⟩⟩
    · rw [if_neg c1, if_pos c1, if_neg (tr_ne hA hC l0 l1)]
      exact ⟨gGn_ne n _ _ (tr_ne hA hC l0 l1), Or.inr ⟨l0, l1⟩⟩
section SP
variable {sc : Nat × (Nat → Int32)} {d : Nat} {Q : Option Value → am_H → Prop} {G : xG} {K : xK} {A : aG}
theorem sm_compile_n (hg : xg G 33 28 < 0) : xc sc d Mm_compile [.ref 33] (xH G K) Q ↔ Q (some (xI (-1))) (xH G K) := by
  rw [em_compile]
  have c1' : ¬ 0 ≤ xg G 33 28 := by omega
  simp (contextual := true) (disch := first | assumption | exact xin_g _ _ _ | exact xin_ar _ | exact xin_sc _ _ | exact xin_cmp | exact xin_and | exact xin_or | exact xinl_g _ _ _ | omega | exact xin_mk (by omega) (by omega) | exact xinl_mk (by omega) (by omega) | exact xbo_0 | exact xbo_1 | exact xin_sl | exact xin_fa | exact xbo_ad | exact xin_bo xbo_ad | exact xin_mb | exact xin_A | exact xin_op | ((repeat refine gN_q ?_ (by omega) (by omega)); assumption)) only [rm_compile_0, rm_compile_1, rm_compile_4, rm_compile_7, rm_compile_8, xg_cell, Option.toList_some, Option.toList_none, List.singleton_append, List.append_nil, List.nil_append, List.cons_append, false_and, if_false, if_true, Int.reduceAdd, Int.reduceSub, Int.reduceMul, Int.reduceNeg, Int.reduceLE, Int.reduceLT, Int.reduceEq, false_implies, true_implies, not_true_eq_false, not_false_eq_true, and_true, true_and, xar_0, xar_1, xar_2, xar_3, xar_4, xar_5, xar_6, xar_7, xar_8, xar_9, xar_10, xar_11, xar_12, c1']
/-- the class's guilty node is the reference's wrong part -/
theorem guilty {X : xG} (h : Rel G K A) (ht : 0 ≤ xg G 21 4) (h47 : ∀ k, 0 ≤ k → k < A.1 → xg X 47 k = xg G 15 k) (e33 : ∀ j, (j = 28 ∨ j = 29 ∨ j = 30) → xg X 33 j = xg G 33 j) (e5 : ∀ a : Nat, (55 ≤ a ∧ a ≤ 57) → xg X a = xg G a) : gGn G (xg G 21 3).toNat 0 (gGu G (xg G 21 4) (if xg G 21 5 = 0 then 3 else 2)) = trC G (mWp X) ∧ (mWp X = -1 ∨ (0 ≤ mWp X ∧ mWp X < A.1)) := by
  obtain ⟨h1, ⟨r1, r2, r3, r4, r5⟩, ⟨⟨g1, g2, g3, g4, g5, g6, g7⟩, p2, p3, p4, p5⟩, h4⟩ := h
  have hg := gn_eq r3 r4 h47 (xg G 21 3).toNat 0 (fun q q0 q1 => by
    have := p5 q q0 (by omega)
    rw [e5 55 (by decide), e5 56 (by decide), e5 57 (by decide)]
    exact ⟨this, g7 q q0 (by omega)⟩)
  unfold mWp
  rw [e33 28 (by decide), e33 29 (by decide), e33 30 (by decide), p2, p3, p4, gu_eq r3 r4 h47 ht g4]
  by_cases c : mGd X (xg G 21 4) (if xg G 21 5 = 0 then 3 else 2)
  · rw [if_pos c, if_neg (fun z => z c)]
    exact hg
  · rw [if_neg c, if_pos c]
    exact ⟨gGn_ne _ _ _ (tr_ne r3 r4 ht g4), Or.inr ⟨ht, g4⟩⟩
theorem two_compile (h : Rel G K A) : Two sc (d + 6) MC_compile [.ref 2] Mm_compile [.ref 33] G K pI := by
  have h' := h
  obtain ⟨h1, ⟨r1, r2, r3, r4, r5⟩, ⟨⟨g1, g2, g3, g4, g5, g6, g7⟩, p2, p3, p4, p5⟩, h4⟩ := h'
  have hn := r3.2.1
  have hn0 := r3.1
  by_cases ht : xg G 21 4 = -1
  · refine ⟨some (xI (-1)), G, K, G, K, A, ⟨_, ⟨by decide, by decide⟩, rfl⟩, fun Q => ?_, fun Q => sm_compile_n (by rw [p3]; omega), h⟩
    rw [sC_compile (d := d + 5) (g := 0) (X := G) xin_0 (fun z => absurd ht z) (fun z => absurd ht z), if_pos ht]
  · have ht0 : 0 ≤ xg G 21 4 := by omega
    have hrq : gRq G := fun q q0 q1 => by have := g7 q q0 q1; omega
    have hgu := fun (Q : Option Value → am_H → Prop) => sP_guiltyNode (sc := sc) (d := d + 4) (K := K) (Q := Q) (G := G) hrq g1 g2 ht0 (by omega)
    have hmake := fun (Q : Option Value → am_H → Prop) => sF_make (sc := sc) (d := d + 2) (K := K) (Q := Q) (G := G) (gMuOk_of r2 r3 ⟨g1, g2, g3, g4, g5, g6, g7⟩ ht0)
    obtain ⟨X, x1, x2, x3, x4⟩ := rel_wk (sc := sc) h
    obtain ⟨w1, w2⟩ := guilty (X := X) h ht0 (fun k k0 k1 => by rw [(x2 k k0 k1).2.1, x3 15 k (by decide)]) (fun j _ => x3 33 j (by decide)) (fun a ha => funext (fun j => x3 a j (by omega)))
    by_cases hw : mWp X = -1
    · -- every part is as wanted
      have gm1 : gGn G (xg G 21 3).toNat 0 (gGu G (xg G 21 4) (if xg G 21 5 = 0 then 3 else 2)) = -1 := by rw [w1, hw]; rfl
      obtain ⟨k1, k2, k3, k4, k5, k6, k7⟩ := make_ok r2 r3 ⟨g1, g2, g3, g4, g5, g6, g7⟩ ht0
      generalize gMake G = M at *
      have mR : mRep M K A := by unfold mRep; rw [k7 33 (by decide), k7 40 (by decide), k7 41 (by decide), k7 42 (by decide)]; exact r1
      have mC : cAt M A := cAt_w r4 (fun a j ha => by rw [k7 a (by omega)])
      have mG : mGi M A := by unfold mGi; rw [k7 44 (by decide), k7 18 (by decide)]; exact r5
      obtain ⟨Y, y1, y2, y3⟩ := sm_wk (sc := sc) mR r3 mC mG
      have yM : ∀ (a : Nat), ¬ (45 ≤ a ∧ a ≤ 49) → xg Y a = xg M a := fun a ha => funext (fun j => y3 a j ha)
      obtain ⟨v1, v2⟩ := guilty (X := Y) h ht0 (fun k k0 k1 => by rw [(y2 k k0 k1).2.1, yM 15 (by decide), k7 15 (by decide)]) (fun j _ => by rw [yM 33 (by decide), k7 33 (by decide)]) (fun a ha => by rw [yM a (by omega), k7 a (by omega)])
      have hwY : mWp Y = -1 := by
        rcases v2 with z | ⟨z0, z1⟩
        · exact z
        · exfalso
          have := tr_ne r3 r4 z0 z1
          rw [← v1, gm1] at this
          exact this rfl
      -- the state before the mark
      have W : Rel (mOc 36 0 (xp Y 33 34 1)) K A := by
        have e : ∀ (a : Nat), ¬ a = 33 → ¬ a = 58 → ¬ (45 ≤ a ∧ a ≤ 49) → xg (mOc 36 0 (xp Y 33 34 1)) a = xg M a := fun a q1 q2 q3 => funext (fun j => by rw [mOc_c q2, xg_cell q1, yM a q3])
        have e33 : ∀ j, 0 ≤ j → ¬ j = 34 → xg (mOc 36 0 (xp Y 33 34 1)) 33 j = xg G 33 j := fun j j0 hj => by rw [mOc_c (by decide), xg_idx (by decide) j0 hj, yM 33 (by decide), k7 33 (by decide)]
        have eG : ∀ (a : Nat), ¬ a = 33 → ¬ a = 58 → ¬ (45 ≤ a ∧ a ≤ 49) → ¬ (25 ≤ a ∧ a ≤ 31) → xg (mOc 36 0 (xp Y 33 34 1)) a = xg G a := fun a q1 q2 q3 q4 => by rw [e a q1 q2 q3, k7 a q4]
        have e34 : xg (mOc 36 0 (xp Y 33 34 1)) 33 34 = 1 := by rw [mOc_c (by decide), xg_self ⟨by decide, by decide⟩]
        have e58 : ∀ k, 0 ≤ k → k < 36 → xg (mOc 36 0 (xp Y 33 34 1)) 58 k = 0 := fun k k0 k1 => by rw [mOc_0 36 0 _ k (by decide) k0, if_pos (by omega)]
        have e25 : xg (mOc 36 0 (xp Y 33 34 1)) 25 = xg M 25 := e 25 (by decide) (by decide) (by decide)
        have FM : Fm (mOc 36 0 (xp Y 33 34 1)) A := by
          generalize mOc 36 0 (xp Y 33 34 1) = W at *
          have f10 := e 10 (by decide) (by decide) (by decide)
          have f15 := e 15 (by decide) (by decide) (by decide)
          have f26 := e 26 (by decide) (by decide) (by decide)
          have f21 := e 21 (by decide) (by decide) (by decide)
          have f22 := e 22 (by decide) (by decide) (by decide)
          obtain ⟨q1, q2⟩ := cPl_e (G := M) (G' := W) f10 f15 f26
          have t3 : cFe W = cFe M := by funext s q; unfold cFe; rw [f22]
          have t5 : cFa W = cFa M := by funext s q; unfold cFa gAx; rw [f10, f15, f26]
          have t4 : cTe W = cTe M := by funext s; unfold cTe; rw [t3, f21]
          have t6 : cTa W = cTa M := by funext s; unfold cTa; rw [t5]
          have t8 : gBs W = gBs M := by funext x; unfold gBs; rw [f21, e 23 (by decide) (by decide) (by decide), e 24 (by decide) (by decide) (by decide)]
          refine ⟨by rw [eG 21 (by decide) (by decide) (by decide) (by decide)]; exact ht0, by rw [t8, f26]; exact k1, fun x x0 x1 => by rw [f26]; exact k2 x x0 x1, ?_, ?_, fun k k0 k1 _ => ?_⟩
          · unfold cCols
            rw [q1, q2, e25, e 27 (by decide) (by decide) (by decide)]
            exact k3
          · unfold cRows
            rw [t3, t4, t5, t6, f21, e25, e 29 (by decide) (by decide) (by decide), e 30 (by decide) (by decide) (by decide), e 31 (by decide) (by decide) (by decide)]
            exact k4
          · rw [e58 k k0 k1, e 28 (by decide) (by decide) (by decide), k5 k k0 k1]
            exact ⟨rfl, by unfold mB6; omega⟩
        refine ⟨rLn_s h1 (by rw [eG 3 (by decide) (by decide) (by decide) (by decide)]) (eG 4 (by decide) (by decide) (by decide) (by decide)) (eG 34 (by decide) (by decide) (by decide) (by decide)) (e33 1 (by decide) (by decide)), rGr_s ⟨r1, r2, r3, r4, r5⟩ (fun a ha => eG a (by omega) (by omega) (by omega) (by omega)) (e33 12 (by decide) (by decide)) (fun _ => rfl), rPb_s ⟨⟨g1, g2, g3, g4, g5, g6, g7⟩, p2, p3, p4, p5⟩ (fun a ha => eG a (by omega) (by omega) (by omega) (by omega)) (e33 28 (by decide) (by decide)) (e33 29 (by decide) (by decide)) (e33 30 (by decide) (by decide)), by rw [e25, k6]; exact Or.inr rfl, by rw [e34, e25, k6], fun _ => FM⟩
      obtain ⟨Z, z1, z2, z3, z4, z5⟩ := rel_mk0 (sc := sc) (d := d) W
      have w25 : xg (mOc 36 0 (xp Y 33 34 1)) 25 = xg M 25 := funext (fun j => by rw [mOc_c (by decide), xg_cell (by decide), yM 25 (by decide)])
      have z25 : xg Z 25 = xg M 25 := by rw [(Rs_m z3).1 25 (by decide), w25]
      have zM := z5 (by rw [w25, k6]; decide)
      have zF := z4.2.2.2.2.2 (by rw [z25, k6]; decide)
      obtain ⟨n', m1, m2, m3, m4, m5⟩ := mk_n z4
      refine ⟨some (xI (xg M 25 10)), M, K, Z, K, A, ⟨_, xin_g _ _ _, rfl⟩, fun Q => ?_, fun Q => ?_, z4⟩
      · rw [sC_compile (d := d + 5) (g := -1) (X := M) ⟨by decide, by decide⟩ (fun _ Q => by rw [hgu, gm1]) (fun _ _ => hmake), if_neg ht, if_neg (fun z => z rfl)]
      · have y33 : ∀ j, xg Y 33 j = xg G 33 j := fun j => by rw [yM 33 (by decide), k7 33 (by decide)]
        rw [sm_compile (d := d) (c := 0) (X := Y) (Y := Y) (Z := Z) (y1 (d + 1)) (fun _ => ⟨fun q q0 q1 => by
            rw [y33, p2] at q1
            rw [yM 56 (by decide), yM 57 (by decide), k7 56 (by decide), k7 57 (by decide), (p5 q q0 (by omega)).2.1, (p5 q q0 (by omega)).2.2]
            have := g7 q q0 q1
            omega, by rw [y33, p2]; exact g1, by rw [y33, p2]; exact g2, by rw [y33, p3]; exact ht0, by rw [y33, p3]; omega⟩) (fun z => absurd z (by rw [hwY]; decide)) (by rw [hwY]; exact ⟨by decide, by decide⟩) (fun _ _ => z1) (by omega) (by omega)]
        rw [if_neg (by rw [k7 33 (by decide), p3]; omega), if_neg (by rw [hwY]; decide), mk_co z4 zM zF, z25]
    · -- some part is not
      obtain ⟨u0, u1⟩ : 0 ≤ mWp X ∧ mWp X < A.1 := by
        rcases w2 with z | z
        · exact absurd z hw
        · exact z
      have tn := tr_ne r3 r4 u0 u1
      have hx33 : ∀ j, xg X 33 j = xg G 33 j := fun j => x3 33 j (by decide)
      have hcl : ∀ Q : Option Value → am_H → Prop, xc sc (d + 6) MC_compile [.ref 2] (xH G K) Q ↔ Q (some (xI (-2 - trC G (mWp X)))) (xH G K) := by
        intro Q
        have tx : xin (trC G (mWp X)) := by
          unfold trC
          rw [if_neg (by omega)]
          split
          · exact xin_g _ _ _
          · exact ⟨by omega, by omega⟩
        rw [sC_compile (d := d + 5) (g := trC G (mWp X)) (X := G) tx (fun _ Q => by rw [hgu, w1]) (fun _ z => absurd z tn), if_neg ht, if_pos tn]
      have hR : 0 ≤ xg G 33 28 → mRq X ∧ 0 ≤ xg X 33 30 ∧ xg X 33 30 ≤ 6 ∧ 0 ≤ xg X 33 28 ∧ xg X 33 28 < 36 := fun _ => ⟨fun q q0 q1 => by
        rw [hx33, p2] at q1
        rw [x3 56 q (by decide), x3 57 q (by decide), (p5 q q0 (by omega)).2.1, (p5 q q0 (by omega)).2.2]
        have := g7 q q0 q1
        omega, by rw [hx33, p2]; exact g1, by rw [hx33, p2]; exact g2, by rw [hx33, p3]; exact ht0, by rw [hx33, p3]; omega⟩
      have e15 : xg X 47 (mWp X) = xg G 15 (mWp X) := by rw [(x2 _ u0 u1).2.1, x3 15 _ (by decide)]
      obtain ⟨s1, s2, s3, s4, s5⟩ := x4.2.1
      have n12 : xg X 33 12 = A.1 := s1.1
      have bU := (aL_bb r3 r4.1 u0 u1)
      by_cases c4 : xg X 47 (mWp X) = 4
      · obtain ⟨Y, y1, y2⟩ := sm_walk (sc := sc) (d := d + 4) s1 s3 s4 x2 u0 u1 c4
        have e17 : xg X 17 (mWp X) = xg G 17 (mWp X) := x3 17 _ (by decide)
        rw [e17] at y1
        have et : trC G (mWp X) = xg G 17 (mWp X) := by unfold trC; rw [if_neg (by omega), if_pos (by rw [← e15]; exact c4)]
        refine ⟨some (xI (-2 - xg G 17 (mWp X))), G, K, Y, K, A, ⟨_, ⟨by omega, by omega⟩, rfl⟩, fun Q => by rw [hcl, et], fun Q => ?_, Rel_s x4 (Rs_x y2) (fun _ => rfl)⟩
        rw [sm_compile (d := d) (c := xg G 17 (mWp X)) (X := X) (Y := Y) (Z := X) (x1 (d + 1)) hR (fun _ => ⟨by omega, fun _ => ⟨xin_g _ _ _, y1⟩⟩) ⟨by omega, by omega⟩ (fun _ z => absurd z (by omega)) (by omega) (by omega), if_neg (by rw [p3]; omega), if_pos u0, if_pos c4]
      · have et : trC G (mWp X) = mWp X := by unfold trC; rw [if_neg (by omega), if_neg (by rw [← e15]; exact c4)]
        refine ⟨some (xI (-2 - mWp X)), G, K, X, K, A, ⟨_, ⟨by omega, by omega⟩, rfl⟩, fun Q => by rw [hcl, et], fun Q => ?_, x4⟩
        rw [sm_compile (d := d) (c := 0) (X := X) (Y := X) (Z := X) (x1 (d + 1)) hR (fun _ => ⟨by omega, fun z => absurd z c4⟩) ⟨by omega, by omega⟩ (fun _ z => absurd z (by omega)) (by omega) (by omega), if_neg (by rw [p3]; omega), if_pos u0, if_neg c4]
end SP
