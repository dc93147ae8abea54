/-! calls of both: require, withdraw, feasible -/
theorem gRm_c {a : Nat} (h2 : ¬ a = 22) (h3 : ¬ a = 23) (h4 : ¬ a = 24) : ∀ (n : Nat) (i : Int) (G : xG) (j : Int), xg (gRm n i G) a j = xg G a j
  | 0, i, G, j => rfl
  | n + 1, i, G, j => (gRm_c h2 h3 h4 n (i + 1) _ j).trans (by unfold gRm1; rw [xg_cell h4, xg_cell h3, xg_cell h2])
theorem mRm_c {a : Nat} (h2 : ¬ a = 55) (h3 : ¬ a = 56) (h4 : ¬ a = 57) : ∀ (n : Nat) (i : Int) (G : xG) (j : Int), xg (mRm n i G) a j = xg G a j
  | 0, i, G, j => rfl
  | n + 1, i, G, j => (mRm_c h2 h3 h4 n (i + 1) _ j).trans (by unfold mRm1; rw [xg_cell h4, xg_cell h3, xg_cell h2])
theorem gRm1_v {G : xG} {c : Nat} {i q : Int} (hc : c = 22 ∨ c = 23 ∨ c = 24) (i0 : 0 ≤ i) (q0 : 0 ≤ q) : xg (gRm1 G i) c q = if q = i then xg G c (i + 1) else xg G c q := by
  unfold gRm1
  rcases hc with rfl | rfl | rfl
  · rw [xg_cell (by decide), xg_cell (by decide)]
    by_cases h : q = i
    · subst h; rw [if_pos rfl, xg_self (xin_g _ _ _)]
    · rw [if_neg h, xg_idx i0 q0 h]
  · rw [xg_cell (by decide)]
    by_cases h : q = i
    · subst h; rw [if_pos rfl, xg_self (xin_g _ _ _)]
    · rw [if_neg h, xg_idx i0 q0 h, xg_cell (by decide)]
  · by_cases h : q = i
    · subst h; rw [if_pos rfl, xg_self (xin_g _ _ _)]
    · rw [if_neg h, xg_idx i0 q0 h, xg_cell (by decide), xg_cell (by decide)]
theorem mRm1_v {G : xG} {c : Nat} {i q : Int} (hc : c = 55 ∨ c = 56 ∨ c = 57) (i0 : 0 ≤ i) (q0 : 0 ≤ q) : xg (mRm1 G i) c q = if q = i then xg G c (i + 1) else xg G c q := by
  unfold mRm1
  rcases hc with rfl | rfl | rfl
  · rw [xg_cell (by decide), xg_cell (by decide)]
    by_cases h : q = i
    · subst h; rw [if_pos rfl, xg_self (xin_g _ _ _)]
    · rw [if_neg h, xg_idx i0 q0 h]
  · rw [xg_cell (by decide)]
    by_cases h : q = i
    · subst h; rw [if_pos rfl, xg_self (xin_g _ _ _)]
    · rw [if_neg h, xg_idx i0 q0 h, xg_cell (by decide)]
  · by_cases h : q = i
    · subst h; rw [if_pos rfl, xg_self (xin_g _ _ _)]
    · rw [if_neg h, xg_idx i0 q0 h, xg_cell (by decide), xg_cell (by decide)]
theorem gRm_v {c : Nat} (hc : c = 22 ∨ c = 23 ∨ c = 24) : ∀ (n : Nat) (i : Int) (G : xG) (q : Int), 0 ≤ i → 0 ≤ q → xg (gRm n i G) c q = if i ≤ q ∧ q < i + n then xg G c (q + 1) else xg G c q
  | 0, i, G, q, i0, q0 => by rw [if_neg (by omega)]; rfl
  | n + 1, i, G, q, i0, q0 => by
    show xg (gRm n (i + 1) (gRm1 G i)) c q = _
    rw [gRm_v hc n (i + 1) _ q (by omega) q0]
    by_cases h : i + 1 ≤ q ∧ q < i + 1 + n
    · rw [if_pos h, if_pos (by omega), gRm1_v hc i0 (by omega), if_neg (by omega)]
    · rw [if_neg h, gRm1_v hc i0 q0]
      by_cases h2 : q = i
      · rw [if_pos h2, if_pos (by omega), h2]
      · rw [if_neg h2, if_neg (by omega)]
theorem mRm_v {c : Nat} (hc : c = 55 ∨ c = 56 ∨ c = 57) : ∀ (n : Nat) (i : Int) (G : xG) (q : Int), 0 ≤ i → 0 ≤ q → xg (mRm n i G) c q = if i ≤ q ∧ q < i + n then xg G c (q + 1) else xg G c q
  | 0, i, G, q, i0, q0 => by rw [if_neg (by omega)]; rfl
  | n + 1, i, G, q, i0, q0 => by
    show xg (mRm n (i + 1) (mRm1 G i)) c q = _
    rw [mRm_v hc n (i + 1) _ q (by omega) q0]
    by_cases h : i + 1 ≤ q ∧ q < i + 1 + n
    · rw [if_pos h, if_pos (by omega), mRm1_v hc i0 (by omega), if_neg (by omega)]
    · rw [if_neg h, mRm1_v hc i0 q0]
      by_cases h2 : q = i
      · rw [if_pos h2, if_pos (by omega), h2]
      · rw [if_neg h2, if_neg (by omega)]
theorem mFe_0 {G : xG} : ∀ (n : Nat) (j : Int), mFe G n j 0 = 0
  | 0, j => rfl
  | n + 1, j => by
    show mFe G n (j + 1) (if ¬ (0 : Int) = 0 ∧ _ then 1 else 0) = 0
    rw [if_neg (fun z => z.1 rfl)]
    exact mFe_0 n (j + 1)
theorem fe_eq {G X : xG} : ∀ (n : Nat) (j : Int), (∀ q, j ≤ q → q < j + n → xg X 55 q = xg G 22 q ∧ xg X 49 (xg X 56 q) = xg G 18 (xg G 23 q) ∧ xg X 49 (xg X 57 q) = xg G 18 (xg G 24 q)) → mFe X n j 1 = gAH G n j
  | 0, j, _ => rfl
  | n + 1, j, h => by
    obtain ⟨h1, h2, h3⟩ := h j (Int.le_refl _) (by omega)
    have ih := fe_eq (G := G) (X := X) n (j + 1) (fun q q0 q1 => h q (by omega) (by omega))
    show mFe X n (j + 1) (if ¬ (1 : Int) = 0 ∧ (if xg X 55 j = 0 then xg X 49 (xg X 56 j) ≤ xg X 49 (xg X 57 j) else xg X 49 (xg X 56 j) = xg X 49 (xg X 57 j)) then 1 else 0) = (if xg G 22 j = 0 then (if xg G 18 (xg G 23 j) ≤ xg G 18 (xg G 24 j) then gAH G n (j + 1) else 0) else (if xg G 18 (xg G 23 j) = xg G 18 (xg G 24 j) then gAH G n (j + 1) else 0))
    rw [h1, h2, h3]
    by_cases c : xg G 22 j = 0
    · simp only [if_pos c]
      by_cases c2 : xg G 18 (xg G 23 j) ≤ xg G 18 (xg G 24 j)
      · rw [if_pos c2, if_pos ⟨by decide, c2⟩]; exact ih
      · rw [if_neg c2, if_neg (fun z => c2 z.2)]; exact mFe_0 n _
    · simp only [if_neg c]
      by_cases c2 : xg G 18 (xg G 23 j) = xg G 18 (xg G 24 j)
      · rw [if_pos c2, if_pos ⟨by decide, c2⟩]; exact ih
      · rw [if_neg c2, if_neg (fun z => c2 z.2)]; exact mFe_0 n _
section SP
variable {sc : Nat × (Nat → Int32)} {d : Nat} {G : xG} {K : xK} {A : aG}
theorem two_feasible (h : Rel G K A) : Two sc (d + 5) MC_feasible [.ref 2] Mm_feasible [.ref 33] G K pI := by
  obtain ⟨X, x1, x2, x3, x4⟩ := rel_wk (sc := sc) h
  obtain ⟨h1, h2, h3, h4⟩ := h
  obtain ⟨r1, r2, r3, r4, r5⟩ := h2
  obtain ⟨⟨g1, g2, g3, g4, g5, g6, g7⟩, p2, p3, p4, p5⟩ := h3
  have hn := r3.2.1
  have e30 : xg X 33 30 = xg G 21 3 := by rw [x3 33 30 (by decide)]; exact p2
  have w56 : ∀ q, xg X 56 q = xg G 56 q := fun q => x3 56 q (by decide)
  have w57 : ∀ q, xg X 57 q = xg G 57 q := fun q => x3 57 q (by decide)
  refine ⟨some (xI (gAH G (xg G 21 3).toNat 0)), G, K, X, K, A, ⟨_, xin_bo (xbo_AH _ _), rfl⟩, fun Q => ?_, fun Q => ?_, x4⟩
  · exact sC_feasible (fun q q0 q1 => by have := g7 q q0 q1; omega) g1 g2
  · rw [sm_feasible (x1 d) (fun q q0 q1 => by
      rw [e30] at q1
      rw [w56, w57, (p5 q q0 (by omega)).2.1, (p5 q q0 (by omega)).2.2]
      have := g7 q q0 q1; omega) (by rw [e30]; exact g1) (by rw [e30]; exact g2), e30, fe_eq (G := G) (X := X) (xg G 21 3).toNat 0 (fun q q0 q1 => by
      have v := g7 q q0 (by omega)
      obtain ⟨t1, t2, t3⟩ := p5 q q0 (by omega)
      rw [w56, w57, t2, t3]
      refine ⟨(x3 55 q (by decide)).trans t1, ?_, ?_⟩
      · rw [(x2 _ v.1 v.2.1).2.2.2, x3 18 _ (by decide)]
      · rw [(x2 _ v.2.2.1 v.2.2.2).2.2.2, x3 18 _ (by decide)])]
theorem two_require {s a b : Int} (h : Rel G K A) (hs : xbo s) (ha : xin a) (hb : xin b) : Two sc (d + 1) MC_require [.ref 2, xI s, xI a, xI b] Mm_require [.ref 33, xI s, xI a, xI b] G K pI := by
  have hrel := h
  obtain ⟨h1, h2, h3, h4⟩ := h
  obtain ⟨r1, r2, r3, r4, r5⟩ := h2
  obtain ⟨⟨g1, g2, g3, g4, g5, g6, g7⟩, p2, p3, p4, p5⟩ := h3
  have hn := r3.2.1
  have e9 : xg G 9 9 = A.1 := r2.1
  have e12 : xg G 33 12 = A.1 := r1.1
  by_cases hc : (0 ≤ a ∧ a < A.1) ∧ (0 ≤ b ∧ b < A.1) ∧ ¬ 6 ≤ xg G 21 3
  · obtain ⟨⟨a0, a1⟩, ⟨b0, b1⟩, c6⟩ := hc
    generalize hN : xg G 21 3 = N at *
    have xN : xin (N + 1) := ⟨by omega, by omega⟩
    have f1 : ∀ (c : Nat) (j : Int), 33 ≤ c → xg (xp (xp (xp (xp (xp G 22 N s) 23 N a) 24 N b) 21 3 (N + 1)) 25 11 0) c j = xg G c j := fun c j hc => by rw [xg_cell (by omega), xg_cell (by omega), xg_cell (by omega), xg_cell (by omega), xg_cell (by omega)]
    refine ⟨some (xI 1), xp (xp (xp (xp (xp G 22 N s) 23 N a) 24 N b) 21 3 (N + 1)) 25 11 0, K, xp (xp (xp (xp (xp (xp (xp (xp (xp (xp G 22 N s) 23 N a) 24 N b) 21 3 (N + 1)) 25 11 0) 55 N s) 56 N a) 57 N b) 33 30 (N + 1)) 33 34 0, K, A, ⟨_, ⟨by decide, by decide⟩, rfl⟩, fun Q => ?_, fun Q => ?_, ?_⟩
    · rw [sC_require hs ha hb (by rw [hN]; exact g1), e9, hN, if_pos ⟨⟨a0, a1⟩, ⟨b0, b1⟩, c6⟩]
    · have t1 := f1 33 12 (by decide)
      have t2 := f1 33 30 (by decide)
      rw [p2] at t2
      rw [e12] at t1
      rw [sm_require hs ha hb (by rw [t2]; exact g1) (by rw [t2]; omega), t1, t2, if_pos ⟨⟨a0, a1⟩, ⟨b0, b1⟩, by omega⟩]
    · generalize hG1 : xp (xp (xp (xp (xp G 22 N s) 23 N a) 24 N b) 21 3 (N + 1)) 25 11 0 = G1 at f1
      have q : ∀ (c : Nat) (j : Int), ¬ c = 21 → ¬ c = 22 → ¬ c = 23 → ¬ c = 24 → ¬ c = 25 → xg G1 c j = xg G c j := fun c j q1 q2 q3 q4 q5 => by rw [← hG1, xg_cell q5, xg_cell q1, xg_cell q4, xg_cell q3, xg_cell q2]
      have u3 : xg G1 21 3 = N + 1 := by rw [← hG1, xg_cell (by decide), xg_self xN]
      have u4 : ∀ j, 0 ≤ j → ¬ j = 3 → xg G1 21 j = xg G 21 j := fun j j0 hj => by rw [← hG1, xg_cell (by decide), xg_idx (by decide) j0 hj, xg_cell (by decide), xg_cell (by decide), xg_cell (by decide)]
      have u22 : ∀ j, 0 ≤ j → xg G1 22 j = if j = N then s else xg G 22 j := fun j j0 => by
        rw [← hG1, xg_cell (by decide), xg_cell (by decide), xg_cell (by decide), xg_cell (by decide)]
        by_cases z : j = N
        · subst z; rw [if_pos rfl, xg_self (xin_bo hs)]
        · rw [if_neg z, xg_idx g1 j0 z]
      have u23 : ∀ j, 0 ≤ j → xg G1 23 j = if j = N then a else xg G 23 j := fun j j0 => by
        rw [← hG1, xg_cell (by decide), xg_cell (by decide), xg_cell (by decide)]
        by_cases z : j = N
        · subst z; rw [if_pos rfl, xg_self ha]
        · rw [if_neg z, xg_idx g1 j0 z, xg_cell (by decide)]
      have u24 : ∀ j, 0 ≤ j → xg G1 24 j = if j = N then b else xg G 24 j := fun j j0 => by
        rw [← hG1, xg_cell (by decide), xg_cell (by decide)]
        by_cases z : j = N
        · subst z; rw [if_pos rfl, xg_self hb]
        · rw [if_neg z, xg_idx g1 j0 z, xg_cell (by decide), xg_cell (by decide)]
      have u25 : xg G1 25 11 = 0 := by rw [← hG1, xg_self xin_0]
      have v : ∀ (c : Nat) (j : Int), ¬ c = 55 → ¬ c = 56 → ¬ c = 57 → ¬ c = 33 → xg (xp (xp (xp (xp (xp G1 55 N s) 56 N a) 57 N b) 33 30 (N + 1)) 33 34 0) c j = xg G1 c j := fun c j q1 q2 q3 q4 => by rw [xg_cell q4, xg_cell q4, xg_cell q3, xg_cell q2, xg_cell q1]
      have v33 : ∀ j, 0 ≤ j → ¬ j = 30 → ¬ j = 34 → xg (xp (xp (xp (xp (xp G1 55 N s) 56 N a) 57 N b) 33 30 (N + 1)) 33 34 0) 33 j = xg G 33 j := fun j j0 j1 j2 => by rw [xg_idx (by decide) j0 j2, xg_idx (by decide) j0 j1, xg_cell (by decide), xg_cell (by decide), xg_cell (by decide), q 33 j (by decide) (by decide) (by decide) (by decide) (by decide)]
      have w30 : xg (xp (xp (xp (xp (xp G1 55 N s) 56 N a) 57 N b) 33 30 (N + 1)) 33 34 0) 33 30 = N + 1 := by rw [xg_idx (by decide) (by decide) (by decide), xg_self xN]
      have w34 : xg (xp (xp (xp (xp (xp G1 55 N s) 56 N a) 57 N b) 33 30 (N + 1)) 33 34 0) 33 34 = 0 := xg_self xin_0
      have w55 : ∀ j, 0 ≤ j → xg (xp (xp (xp (xp (xp G1 55 N s) 56 N a) 57 N b) 33 30 (N + 1)) 33 34 0) 55 j = if j = N then s else xg G 55 j := fun j j0 => by
        rw [xg_cell (by decide), xg_cell (by decide), xg_cell (by decide), xg_cell (by decide)]
        by_cases z : j = N
        · subst z; rw [if_pos rfl, xg_self (xin_bo hs)]
        · rw [if_neg z, xg_idx g1 j0 z, q 55 j (by decide) (by decide) (by decide) (by decide) (by decide)]
      have w56 : ∀ j, 0 ≤ j → xg (xp (xp (xp (xp (xp G1 55 N s) 56 N a) 57 N b) 33 30 (N + 1)) 33 34 0) 56 j = if j = N then a else xg G 56 j := fun j j0 => by
        rw [xg_cell (by decide), xg_cell (by decide), xg_cell (by decide)]
        by_cases z : j = N
        · subst z; rw [if_pos rfl, xg_self ha]
        · rw [if_neg z, xg_idx g1 j0 z, xg_cell (by decide), q 56 j (by decide) (by decide) (by decide) (by decide) (by decide)]
      have w57 : ∀ j, 0 ≤ j → xg (xp (xp (xp (xp (xp G1 55 N s) 56 N a) 57 N b) 33 30 (N + 1)) 33 34 0) 57 j = if j = N then b else xg G 57 j := fun j j0 => by
        rw [xg_cell (by decide), xg_cell (by decide)]
        by_cases z : j = N
        · subst z; rw [if_pos rfl, xg_self hb]
        · rw [if_neg z, xg_idx g1 j0 z, xg_cell (by decide), xg_cell (by decide), q 57 j (by decide) (by decide) (by decide) (by decide) (by decide)]
      generalize xp (xp (xp (xp (xp G1 55 N s) 56 N a) 57 N b) 33 30 (N + 1)) 33 34 0 = G2 at *
      have e : ∀ c : Nat, ¬ (21 ≤ c ∧ c ≤ 25) → ¬ c = 33 → ¬ (55 ≤ c ∧ c ≤ 57) → xg G2 c = xg G c := fun c q1 q2 q3 => funext (fun j => by rw [v c j (by omega) (by omega) (by omega) q2, q c j (by omega) (by omega) (by omega) (by omega) (by omega)])
      have t21 : ∀ j, xg G2 21 j = xg G1 21 j := fun j => v 21 j (by decide) (by decide) (by decide) (by decide)
      have t22 : ∀ j, xg G2 22 j = xg G1 22 j := fun j => v 22 j (by decide) (by decide) (by decide) (by decide)
      have t23 : ∀ j, xg G2 23 j = xg G1 23 j := fun j => v 23 j (by decide) (by decide) (by decide) (by decide)
      have t24 : ∀ j, xg G2 24 j = xg G1 24 j := fun j => v 24 j (by decide) (by decide) (by decide) (by decide)
      have t25 : xg G2 25 11 = 0 := by rw [v 25 11 (by decide) (by decide) (by decide) (by decide)]; exact u25
      refine ⟨rLn_s h1 (by rw [e 3 (by decide) (by decide) (by decide)]) (e 4 (by decide) (by decide) (by decide)) (e 34 (by decide) (by decide) (by decide)) (v33 1 (by decide) (by decide) (by decide)), rGr_s ⟨r1, r2, r3, r4, r5⟩ (fun c hc => e c (by omega) (by omega) (by omega)) (v33 12 (by decide) (by decide) (by decide)) (fun _ => rfl), ⟨⟨?_, ?_, ?_, ?_, ?_, ?_, ?_⟩, ?_, ?_, ?_, ?_⟩, ?_, ?_, ?_⟩
      · rw [t21, u3]; omega
      · rw [t21, u3]; omega
      · rw [t21, u4 4 (by decide) (by decide)]; exact g3
      · rw [t21, u4 4 (by decide) (by decide)]; exact g4
      · rw [t21, u4 5 (by decide) (by decide)]; exact g5
      · intro j j0 j1
        rw [t22, u22 j j0]
        split
        · exact hs
        · exact g6 j j0 j1
      · intro j j0 j1
        rw [t21, u3] at j1
        rw [t23, t24, u23 j j0, u24 j j0]
        by_cases z : j = N
        · rw [if_pos z, if_pos z]; exact ⟨a0, a1, b0, b1⟩
        · rw [if_neg z, if_neg z]; exact g7 j j0 (by omega)
      · rw [w30, t21, u3]
      · rw [v33 28 (by decide) (by decide) (by decide), t21, u4 4 (by decide) (by decide)]; exact p3
      · rw [v33 29 (by decide) (by decide) (by decide), t21, u4 5 (by decide) (by decide)]; exact p4
      · intro j j0 j1
        rw [w55 j j0, w56 j j0, w57 j j0, t22, t23, t24, u22 j j0, u23 j j0, u24 j j0]
        by_cases z : j = N
        · rw [if_pos z, if_pos z, if_pos z, if_pos z, if_pos z, if_pos z]; exact ⟨rfl, rfl, rfl⟩
        · rw [if_neg z, if_neg z, if_neg z, if_neg z, if_neg z, if_neg z]; exact p5 j j0 j1
      · rw [t25]; exact Or.inl rfl
      · rw [w34, t25]
      · rw [t25]; exact fun z => absurd rfl z
  · refine ⟨some (xI 0), G, K, G, K, A, ⟨_, xin_0, rfl⟩, fun Q => ?_, fun Q => ?_, hrel⟩
    · rw [sC_require hs ha hb g1, e9, if_neg hc]
    · rw [sm_require hs ha hb (by rw [p2]; exact g1) (by rw [p2]; exact g2), e12, p2, if_neg (fun z => hc ⟨z.1, z.2.1, by omega⟩)]
theorem two_withdraw {j : Int} (h : Rel G K A) (hj : xin j) : Two sc (d + 1) MC_withdraw [.ref 2, xI j] Mm_withdraw [.ref 33, xI j] G K pI := by
  have hrel := h
  obtain ⟨h1, h2, h3, h4⟩ := h
  obtain ⟨⟨g1, g2, g3, g4, g5, g6, g7⟩, p2, p3, p4, p5⟩ := h3
  generalize hN : xg G 21 3 = N at *
  by_cases hc : 0 ≤ j ∧ j < N
  · obtain ⟨j0, j1⟩ := hc
    have xN : xin (N - 1) := ⟨by omega, by omega⟩
    obtain ⟨G1, hG1⟩ : ∃ G1, G1 = xp (gRm (N - 1 - j).toNat j (xp G 21 3 (N - 1))) 25 11 0 := ⟨_, rfl⟩
    have q : ∀ (c : Nat) (i : Int), ¬ (21 ≤ c ∧ c ≤ 25) → xg G1 c i = xg G c i := fun c i hc => by rw [hG1, xg_cell (by omega), gRm_c (by omega) (by omega) (by omega), xg_cell (by omega)]
    have u3 : xg G1 21 3 = N - 1 := by rw [hG1, xg_cell (by decide), gRm_c (by decide) (by decide) (by decide), xg_self xN]
    have u4 : ∀ i, 0 ≤ i → ¬ i = 3 → xg G1 21 i = xg G 21 i := fun i i0 hi => by rw [hG1, xg_cell (by decide), gRm_c (by decide) (by decide) (by decide), xg_idx (by decide) i0 hi]
    have u2 : ∀ (c : Nat), (c = 22 ∨ c = 23 ∨ c = 24) → ∀ i, 0 ≤ i → xg G1 c i = if j ≤ i ∧ i < N - 1 then xg G c (i + 1) else xg G c i := fun c hc i i0 => by
      rw [hG1, xg_cell (by omega), gRm_v hc _ _ _ _ j0 i0, xg_cell (by omega), xg_cell (by omega)]
      have ee : j + ((N - 1 - j).toNat : Int) = N - 1 := by omega
      rw [ee]
    have u25 : xg G1 25 11 = 0 := by rw [hG1, xg_self xin_0]
    have k30 : xg G1 33 30 = N := by rw [q 33 30 (by decide)]; exact p2
    obtain ⟨G2, hG2⟩ : ∃ G2, G2 = xp (mRm (N - 1 - j).toNat j (xp G1 33 30 (N - 1))) 33 34 0 := ⟨_, rfl⟩
    have v : ∀ (c : Nat) (i : Int), ¬ c = 33 → ¬ (55 ≤ c ∧ c ≤ 57) → xg G2 c i = xg G1 c i := fun c i q1 q2 => by rw [hG2, xg_cell q1, mRm_c (by omega) (by omega) (by omega), xg_cell q1]
    have v33 : ∀ i, 0 ≤ i → ¬ i = 30 → ¬ i = 34 → xg G2 33 i = xg G 33 i := fun i i0 i1 i2 => by rw [hG2, xg_idx (by decide) i0 i2, mRm_c (by decide) (by decide) (by decide), xg_idx (by decide) i0 i1, q 33 i (by decide)]
    have w30 : xg G2 33 30 = N - 1 := by rw [hG2, xg_idx (by decide) (by decide) (by decide), mRm_c (by decide) (by decide) (by decide), xg_self xN]
    have w34 : xg G2 33 34 = 0 := by rw [hG2, xg_self xin_0]
    have w5 : ∀ (c : Nat), (c = 55 ∨ c = 56 ∨ c = 57) → ∀ i, 0 ≤ i → xg G2 c i = if j ≤ i ∧ i < N - 1 then xg G c (i + 1) else xg G c i := fun c hc i i0 => by
      rw [hG2, xg_cell (by omega), mRm_v hc _ _ _ _ j0 i0, xg_cell (by omega), xg_cell (by omega), q c _ (by omega), q c _ (by omega)]
      have ee : j + ((N - 1 - j).toNat : Int) = N - 1 := by omega
      rw [ee]
    refine ⟨some (xI 1), G1, K, G2, K, A, ⟨_, ⟨by decide, by decide⟩, rfl⟩, fun Q => ?_, fun Q => ?_, ?_⟩
    · rw [sC_withdraw hj g6 (by rw [hN]; exact g1) (by rw [hN]; exact g2), hN, if_pos ⟨j0, j1⟩, hG1]
    · rw [sm_withdraw hj (fun i i0 i1 => by rw [q 55 i (by decide), (p5 i i0 i1).1]; exact g6 i i0 i1) (by rw [k30]; exact g1) (by rw [k30]; exact g2), k30, if_pos ⟨j0, j1⟩, hG2]
    · have e : ∀ c : Nat, ¬ (21 ≤ c ∧ c ≤ 25) → ¬ c = 33 → ¬ (55 ≤ c ∧ c ≤ 57) → xg G2 c = xg G c := fun c q1 q2 q3 => funext (fun i => by rw [v c i q2 q3, q c i q1])
      have t21 : ∀ i, xg G2 21 i = xg G1 21 i := fun i => v 21 i (by decide) (by decide)
      have t22 : ∀ i, xg G2 22 i = xg G1 22 i := fun i => v 22 i (by decide) (by decide)
      have t23 : ∀ i, xg G2 23 i = xg G1 23 i := fun i => v 23 i (by decide) (by decide)
      have t24 : ∀ i, xg G2 24 i = xg G1 24 i := fun i => v 24 i (by decide) (by decide)
      have t25 : xg G2 25 11 = 0 := by rw [v 25 11 (by decide) (by decide)]; exact u25
      refine ⟨rLn_s h1 (by rw [e 3 (by decide) (by decide) (by decide)]) (e 4 (by decide) (by decide) (by decide)) (e 34 (by decide) (by decide) (by decide)) (v33 1 (by decide) (by decide) (by decide)), rGr_s h2 (fun c hc => e c (by omega) (by omega) (by omega)) (v33 12 (by decide) (by decide) (by decide)) (fun _ => rfl), ⟨⟨?_, ?_, ?_, ?_, ?_, ?_, ?_⟩, ?_, ?_, ?_, ?_⟩, ?_, ?_, ?_⟩
      · rw [t21, u3]; omega
      · rw [t21, u3]; omega
      · rw [t21, u4 4 (by decide) (by decide)]; exact g3
      · rw [t21, u4 4 (by decide) (by decide)]; exact g4
      · rw [t21, u4 5 (by decide) (by decide)]; exact g5
      · intro i i0 i1
        rw [t22, u2 22 (by decide) i i0]
        split
        · exact g6 (i + 1) (by omega) (by omega)
        · exact g6 i i0 i1
      · intro i i0 i1
        rw [t21, u3] at i1
        rw [t23, t24, u2 23 (by decide) i i0, u2 24 (by decide) i i0]
        by_cases z : j ≤ i ∧ i < N - 1
        · rw [if_pos z, if_pos z]; exact g7 (i + 1) (by omega) (by omega)
        · rw [if_neg z, if_neg z]; exact g7 i i0 (by omega)
      · rw [w30, t21, u3]
      · rw [v33 28 (by decide) (by decide) (by decide), t21, u4 4 (by decide) (by decide)]; exact p3
      · rw [v33 29 (by decide) (by decide) (by decide), t21, u4 5 (by decide) (by decide)]; exact p4
      · intro i i0 i1
        rw [w5 55 (by decide) i i0, w5 56 (by decide) i i0, w5 57 (by decide) i i0, t22, t23, t24, u2 22 (by decide) i i0, u2 23 (by decide) i i0, u2 24 (by decide) i i0]
        by_cases z : j ≤ i ∧ i < N - 1
        · rw [if_pos z, if_pos z, if_pos z, if_pos z, if_pos z, if_pos z]; exact p5 (i + 1) (by omega) (by omega)
        · rw [if_neg z, if_neg z, if_neg z, if_neg z, if_neg z, if_neg z]; exact p5 i i0 i1
      · rw [t25]; exact Or.inl rfl
      · rw [w34, t25]
      · rw [t25]; exact fun z => absurd rfl z
  · refine ⟨some (xI 0), G, K, G, K, A, ⟨_, xin_0, rfl⟩, fun Q => ?_, fun Q => ?_, hrel⟩
    · rw [sC_withdraw hj g6 (by rw [hN]; exact g1) (by rw [hN]; exact g2), hN, if_neg hc]
    · rw [sm_withdraw hj (fun i i0 i1 => by rw [(p5 i i0 i1).1]; exact g6 i i0 i1) (by rw [p2]; exact g1) (by rw [p2]; exact g2), p2, if_neg hc]
end SP
