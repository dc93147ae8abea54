/-! describing new nodes -/
theorem gA_ag {G : xG} {A : aG} {c : Nat} {k : Int} (hR : cRep G A) (k0 : 0 ≤ k) (k1 : k < A.1) : gA G c k 0 = ag (xg G c) (A.2 k).2.2.1 ∧ gA G c k 1 = ag (xg G c) (A.2 k).2.2.2.1 ∧ gA G c k 2 = ag (xg G c) (A.2 k).2.2.2.2.1 := by
  obtain ⟨e1, e2, e3, e4, e5, e6⟩ := hR.2 k k0 k1
  unfold gA ag
  rw [Int.add_zero, e3, e4, e5]
  exact ⟨rfl, rfl, rfl⟩
/-- attributes and values of the nodes below k are in order -/
def cUp (G : xG) (A : aG) (k : Int) : Prop := ∀ j, 0 ≤ j → j < k → aL A (xg G 14) (xg G 15) (xg G 16) (xg G 17) j ∧ aV A (xg G 18) j
theorem aL_eq {A : aG} {S C B U S' C' B' U' : Int → Int} {j : Int} (hA : aOk A) (j0 : 0 ≤ j) (j1 : j < A.1) (h : aL A S C B U j) (e : ∀ x, 0 ≤ x → x ≤ j → S' x = S x ∧ C' x = C x ∧ B' x = B x ∧ U' x = U x) : aL A S' C' B' U' j := by
  obtain ⟨d1, d2, d3⟩ := aAr_d (aArgs hA j0 j1)
  have g : ∀ x, x = -1 ∨ (0 ≤ x ∧ x < j) → ag S' x = ag S x ∧ ag C' x = ag C x ∧ ag U' x = ag U x := by
    intro x hx
    rcases hx with rfl | ⟨x0, x1⟩
    · simp only [ag_n, and_self]
    · simp only [ag_p x0]
      have := e x x0 (by omega)
      exact ⟨this.1, this.2.1, this.2.2.2⟩
  obtain ⟨e1, e2, e3, e4⟩ := e j j0 (Int.le_refl _)
  unfold aL
  rw [e1, e2, e3, e4, (g _ d1).1, (g _ d2).1, (g _ d3).1, (g _ d1).2.1, (g _ d2).2.1, (g _ d3).2.1, (g _ d1).2.2, (g _ d2).2.2, (g _ d3).2.2]
  exact h
theorem aV_eq {A : aG} {V V' : Int → Int} {j : Int} (hA : aOk A) (j0 : 0 ≤ j) (j1 : j < A.1) (h : aV A V j) (e : ∀ x, 0 ≤ x → x ≤ j → V' x = V x) : aV A V' j := by
  obtain ⟨d1, d2, d3⟩ := aAr_d (aArgs hA j0 j1)
  have g : ∀ x, x = -1 ∨ (0 ≤ x ∧ x < j) → ag V' x = ag V x := by
    intro x hx
    rcases hx with rfl | ⟨x0, x1⟩
    · simp only [ag_n]
    · simp only [ag_p x0]
      exact e x x0 (by omega)
  unfold aV
  rw [e j j0 (Int.le_refl _), g _ d1, g _ d2, g _ d3]
  exact h
/-- the graph cut off at k -/
def aCut (A : aG) (k : Int) : aG := (k, A.2)
theorem aCut_pre {A : aG} {k : Int} (h : k ≤ A.1) : aPre (aCut A k) A := ⟨h, fun _ _ _ => rfl⟩
theorem aCut_ok {A : aG} {k : Int} (hA : aOk A) (k0 : 0 ≤ k) (k1 : k ≤ A.1) : aOk (aCut A k) := by
  refine ⟨k0, by show k ≤ 36; have := hA.2.1; omega, fun j j0 j1 => ?_⟩
  have j1 : j < k := j1
  exact hA.2.2 j j0 (by omega)
theorem cUp_b {G : xG} {A : aG} {k : Int} (hA : aOk A) (k0 : 0 ≤ k) (k1 : k ≤ A.1) (h : cUp G A k) {j : Int} (j0 : 0 ≤ j) (j1 : j < k) : ((0 ≤ xg G 14 j ∧ xg G 14 j ≤ 3) ∧ (0 ≤ xg G 15 j ∧ xg G 15 j ≤ 4) ∧ (-1 ≤ xg G 17 j ∧ xg G 17 j ≤ j)) ∧ (-(A.2 j).2.2.2.2.2 ≤ xg G 18 j ∧ xg G 18 j ≤ (A.2 j).2.2.2.2.2 ∧ mB6 (xg G 18 j)) := by
  have hA' := aCut_ok hA k0 k1
  have b := aL_bb (A := aCut A k) hA' (fun i i0 i1 => (h i i0 i1).1) j0 j1
  exact ⟨⟨b.1, b.2.1, b.2.2.1⟩, aV_bb (A := aCut A k) hA' (fun i i0 i1 => (h i i0 i1).2) j0 j1⟩
theorem gDs_o {G : xG} {k j : Int} {a : Nat} (hk : 0 ≤ k) (hj : 0 ≤ j) (hne : ¬ j = k) : xg (gDs G k) a j = xg G a j := by
  have st : ∀ (X : xG) (b : Nat) (x : Int), xg (xp X b k x) a j = xg X a j := by
    intro X b x
    by_cases h : a = b
    · subst h; exact xg_idx hk hj hne
    · exact xg_cell h
  unfold gDs gD5 gD4 gD3 gD2 gD1
  rw [st, st, st, st, st]
theorem gDs_c {G : xG} {k j : Int} {a : Nat} (h : ¬ (14 ≤ a ∧ a ≤ 18)) : xg (gDs G k) a j = xg G a j := by
  unfold gDs gD5 gD4 gD3 gD2 gD1
  rw [xg_cell (by omega), xg_cell (by omega), xg_cell (by omega), xg_cell (by omega), xg_cell (by omega)]
theorem ds_step {G : xG} {A : aG} {k : Int} (hR : cRep G A) (hA : aOk A) (k0 : 0 ≤ k) (k1 : k < A.1) (h : cUp G A k) : gN G k ∧ gVb G k ∧ cUp (gDs G k) A (k + 1) ∧ (((A.2 k).1 = 1 ∨ (A.2 k).1 = 2) → xg (gDs G k) 18 k = 0) := by
  have hN := (gN_of hR hA k0 k1).1
  obtain ⟨e1, e2, e3, e4, e5, e6⟩ := hR.2 k k0 k1
  obtain ⟨q1, q2, q3, q4, q5, q6, q7, q8⟩ := hA.2.2 k k0 k1
  obtain ⟨d1, d2, d3⟩ := aAr_d q5
  have q5' := q5
  obtain ⟨r1, r2, r3, r4, r5, r6⟩ := q5'
  have hK := hK_of q1 q2
  have bb := fun (x : Int) (x0 : 0 ≤ x) (x1 : x < k) => cUp_b hA k0 (by omega) h x0 x1
  have fV : ∀ x, x = -1 ∨ (0 ≤ x ∧ x < k) → mB6 (ag (xg G 18) x) ∧ (-aR A x ≤ ag (xg G 18) x ∧ ag (xg G 18) x ≤ aR A x) := by
    intro x hx
    rcases hx with rfl | ⟨x0, x1⟩
    · rw [ag_n]; unfold mB6 aR; rw [if_pos rfl]; omega
    · rw [ag_p x0]; unfold aR; rw [if_neg (by omega)]
      have := (bb x x0 x1).2
      exact ⟨this.2.2, this.1, this.2.1⟩
  have fS : ∀ x, x = -1 ∨ (0 ≤ x ∧ x < k) → 0 ≤ ag (xg G 14) x ∧ ag (xg G 14) x ≤ 3 := by
    intro x hx
    rcases hx with rfl | ⟨x0, x1⟩
    · rw [ag_n]; omega
    · rw [ag_p x0]; exact (bb x x0 x1).1.1
  obtain ⟨a18, b18, c18⟩ := gA_ag (c := 18) hR k0 k1
  obtain ⟨a14, b14, c14⟩ := gA_ag (c := 14) hR k0 k1
  have hV : gVb G k := by
    unfold gVb
    rw [a18, b18, c18]
    exact ⟨(fV _ d1).1, (fV _ d2).1, (fV _ d3).1⟩
  -- the five writes
  have w18 : gV1 G k = gVa (A.2 k).1 (A.2 k).2.1 (ag (xg G 18) (A.2 k).2.2.1) (ag (xg G 18) (A.2 k).2.2.2.1) (ag (xg G 18) (A.2 k).2.2.2.2.1) := by unfold gV1; rw [e1, e2, a18, b18, c18]
  have g1 : ∀ (c : Nat) (j : Int), ¬ c = 18 → xg (gD1 G k) c j = xg G c j := fun c j hc => by unfold gD1; rw [xg_cell hc]
  have hxV : xin (if xg G 10 k = 1 ∨ xg G 10 k = 2 then 0 else gV1 G k) := by
    rw [e1]
    split
    · exact xin_0
    · rename_i hn
      rw [w18]
      have := va_b hA q1 q2 q3 hn (aAr_mono q5 (by omega)) (fV _ d1).2 (fV _ d2).2 (fV _ d3).2
      rw [← q6] at this
      exact ⟨by omega, by omega⟩
  have v18 : xg (gD1 G k) 18 k = (if (A.2 k).1 = 1 ∨ (A.2 k).1 = 2 then 0 else gVa (A.2 k).1 (A.2 k).2.1 (ag (xg G 18) (A.2 k).2.2.1) (ag (xg G 18) (A.2 k).2.2.2.1) (ag (xg G 18) (A.2 k).2.2.2.2.1)) := by
    have : xg (gD1 G k) 18 k = if xg G 10 k = 1 ∨ xg G 10 k = 2 then 0 else gV1 G k := by unfold gD1; exact xg_self hxV
    rw [this, e1, w18]
  obtain ⟨u1, b1, z1⟩ := xsg_of (fS _ d1).1 (fS _ d1).2
  obtain ⟨u2, b2, z2⟩ := xsg_of (fS _ d2).1 (fS _ d2).2
  obtain ⟨u3, b3, z3⟩ := xsg_of (fS _ d3).1 (fS _ d3).2
  have bS := xsg_b (sg_eq q1 q2 q3 z1 z2 z3)
  have t14 : gSg (xg (gD1 G k) 10 k) (xg (gD1 G k) 11 k) (gA (gD1 G k) 14 k 0) (gA (gD1 G k) 14 k 1) (gA (gD1 G k) 14 k 2) = gSg (A.2 k).1 (A.2 k).2.1 (ag (xg G 14) (A.2 k).2.2.1) (ag (xg G 14) (A.2 k).2.2.2.1) (ag (xg G 14) (A.2 k).2.2.2.2.1) := by
    have hR1 : cRep (gD1 G k) A := cRep_eq hR (g1 9 9 (by decide)) (fun b j hb => g1 b j (by omega))
    obtain ⟨x1, x2, x3⟩ := gA_ag (c := 14) hR1 k0 k1
    have f14 : xg (gD1 G k) 14 = xg G 14 := funext (fun j => g1 14 j (by decide))
    rw [x1, x2, x3, f14, g1 10 k (by decide), g1 11 k (by decide), e1, e2]
  have g2 : ∀ (c : Nat) (j : Int), ¬ c = 18 → ¬ c = 14 → xg (gD2 (gD1 G k) k) c j = xg G c j := fun c j hc hc2 => by unfold gD2; rw [xg_cell hc2, g1 c j hc]
  have v14 : xg (gD2 (gD1 G k) k) 14 k = gSg (A.2 k).1 (A.2 k).2.1 (ag (xg G 14) (A.2 k).2.2.1) (ag (xg G 14) (A.2 k).2.2.2.1) (ag (xg G 14) (A.2 k).2.2.2.2.1) := by
    unfold gD2
    rw [t14]
    exact xg_self ⟨by omega, by omega⟩
  have o2 : ∀ (c : Nat) (j : Int), 0 ≤ j → j < k → xg (gD2 (gD1 G k) k) c j = xg G c j := by
    intro c j j0 j1
    have st : ∀ (X : xG) (b : Nat) (x : Int), xg (xp X b k x) c j = xg X c j := by
      intro X b x
      by_cases hh : c = b
      · subst hh; exact xg_idx k0 j0 (by omega)
      · exact xg_cell hh
    unfold gD2 gD1
    rw [st, st]
  have t15 : gCv (xg (gD2 (gD1 G k) k) 10 k) (xg (gD2 (gD1 G k) k) 15 (xg (gD2 (gD1 G k) k) 12 (3 * k + 0))) (xg (gD2 (gD1 G k) k) 15 (xg (gD2 (gD1 G k) k) 12 (3 * k + 1))) (xg (gD2 (gD1 G k) k) 15 (xg (gD2 (gD1 G k) k) 12 (3 * k + 2))) (xg (gD2 (gD1 G k) k) 14 (xg (gD2 (gD1 G k) k) 12 (3 * k + 0))) (xg (gD2 (gD1 G k) k) 14 (xg (gD2 (gD1 G k) k) 12 (3 * k + 1))) = gCv (A.2 k).1 (ag (xg G 15) (A.2 k).2.2.1) (ag (xg G 15) (A.2 k).2.2.2.1) (ag (xg G 15) (A.2 k).2.2.2.2.1) (ag (xg G 14) (A.2 k).2.2.1) (ag (xg G 14) (A.2 k).2.2.2.1) := by
    rw [Int.add_zero, g2 10 k (by decide) (by decide), g2 12 _ (by decide) (by decide), g2 12 _ (by decide) (by decide), g2 12 _ (by decide) (by decide), e1, e3, e4, e5]
    exact gCv_ind hK (fun z => by rw [o2 15 _ (r1 z).1 (r1 z).2, o2 14 _ (r1 z).1 (r1 z).2, ag_p (r1 z).1, ag_p (r1 z).1]; exact ⟨rfl, rfl⟩) (fun z => by rw [o2 15 _ (r3 z).1 (r3 z).2, o2 14 _ (r3 z).1 (r3 z).2, ag_p (r3 z).1, ag_p (r3 z).1]; exact ⟨rfl, rfl⟩) (fun z => by rw [o2 15 _ (r5 z).1 (r5 z).2, ag_p (r5 z).1])
  have v15 : xg (gD3 (gD2 (gD1 G k) k) k) 15 k = gCv (A.2 k).1 (ag (xg G 15) (A.2 k).2.2.1) (ag (xg G 15) (A.2 k).2.2.2.1) (ag (xg G 15) (A.2 k).2.2.2.2.1) (ag (xg G 14) (A.2 k).2.2.1) (ag (xg G 14) (A.2 k).2.2.2.1) := by
    unfold gD3
    rw [t15]
    have := cv_b (kd := (A.2 k).1) (c0 := ag (xg G 15) (A.2 k).2.2.1) (c1 := ag (xg G 15) (A.2 k).2.2.2.1) (c2 := ag (xg G 15) (A.2 k).2.2.2.2.1) (s0 := ag (xg G 14) (A.2 k).2.2.1) (s1 := ag (xg G 14) (A.2 k).2.2.2.1)
    exact xg_self ⟨by omega, by omega⟩
  have g3 : ∀ (c : Nat) (j : Int), ¬ c = 18 → ¬ c = 14 → ¬ c = 15 → xg (gD3 (gD2 (gD1 G k) k) k) c j = xg G c j := fun c j hc hc2 hc3 => by unfold gD3; rw [xg_cell hc3, g2 c j hc hc2]
  have o3 : ∀ (c : Nat) (j : Int), 0 ≤ j → j < k → xg (gD3 (gD2 (gD1 G k) k) k) c j = xg G c j := by
    intro c j j0 j1
    unfold gD3
    by_cases hh : c = 15
    · subst hh; rw [xg_idx k0 j0 (by omega)]; exact o2 15 j j0 j1
    · rw [xg_cell hh]; exact o2 c j j0 j1
  have t17 : gCu (xar (xg (gD3 (gD2 (gD1 G k) k) k) 10 k)) (xg (gD3 (gD2 (gD1 G k) k) k) 15 k) (xg (gD3 (gD2 (gD1 G k) k) k) 15 (xg (gD3 (gD2 (gD1 G k) k) k) 12 (3 * k + 0))) (xg (gD3 (gD2 (gD1 G k) k) k) 15 (xg (gD3 (gD2 (gD1 G k) k) k) 12 (3 * k + 1))) (xg (gD3 (gD2 (gD1 G k) k) k) 15 (xg (gD3 (gD2 (gD1 G k) k) k) 12 (3 * k + 2))) (xg (gD3 (gD2 (gD1 G k) k) k) 17 (xg (gD3 (gD2 (gD1 G k) k) k) 12 (3 * k + 0))) (xg (gD3 (gD2 (gD1 G k) k) k) 17 (xg (gD3 (gD2 (gD1 G k) k) k) 12 (3 * k + 1))) (xg (gD3 (gD2 (gD1 G k) k) k) 17 (xg (gD3 (gD2 (gD1 G k) k) k) 12 (3 * k + 2))) k = gCu (xar (A.2 k).1) (xg (gD3 (gD2 (gD1 G k) k) k) 15 k) (ag (xg G 15) (A.2 k).2.2.1) (ag (xg G 15) (A.2 k).2.2.2.1) (ag (xg G 15) (A.2 k).2.2.2.2.1) (ag (xg G 17) (A.2 k).2.2.1) (ag (xg G 17) (A.2 k).2.2.2.1) (ag (xg G 17) (A.2 k).2.2.2.2.1) k := by
    rw [Int.add_zero, g3 10 k (by decide) (by decide) (by decide), g3 12 _ (by decide) (by decide) (by decide), g3 12 _ (by decide) (by decide) (by decide), g3 12 _ (by decide) (by decide) (by decide), e1, e3, e4, e5]
    exact gCu_ind hK (fun z => by rw [o3 15 _ (r1 z).1 (r1 z).2, o3 17 _ (r1 z).1 (r1 z).2, ag_p (r1 z).1, ag_p (r1 z).1]; exact ⟨rfl, rfl⟩) (fun z => by rw [o3 15 _ (r3 z).1 (r3 z).2, o3 17 _ (r3 z).1 (r3 z).2, ag_p (r3 z).1, ag_p (r3 z).1]; exact ⟨rfl, rfl⟩) (fun z => by rw [o3 15 _ (r5 z).1 (r5 z).2, o3 17 _ (r5 z).1 (r5 z).2, ag_p (r5 z).1, ag_p (r5 z).1]; exact ⟨rfl, rfl⟩)
  have bU : ∀ cv : Int, -1 ≤ gCu (xar (A.2 k).1) cv (ag (xg G 15) (A.2 k).2.2.1) (ag (xg G 15) (A.2 k).2.2.2.1) (ag (xg G 15) (A.2 k).2.2.2.2.1) (ag (xg G 17) (A.2 k).2.2.1) (ag (xg G 17) (A.2 k).2.2.2.1) (ag (xg G 17) (A.2 k).2.2.2.2.1) k ∧ gCu (xar (A.2 k).1) cv (ag (xg G 15) (A.2 k).2.2.1) (ag (xg G 15) (A.2 k).2.2.2.1) (ag (xg G 15) (A.2 k).2.2.2.2.1) (ag (xg G 17) (A.2 k).2.2.1) (ag (xg G 17) (A.2 k).2.2.2.1) (ag (xg G 17) (A.2 k).2.2.2.2.1) k ≤ k := by
    intro cv
    have fU : ∀ x, (0 ≤ x ∧ x < k) → -1 ≤ ag (xg G 17) x ∧ ag (xg G 17) x ≤ k := by
      intro x hx
      rw [ag_p hx.1]
      have := (bb x hx.1 hx.2).1.2.2
      omega
    unfold gCu
    split
    · omega
    · split
      · rename_i z; exact fU _ (r1 z.1)
      · split
        · rename_i z; exact fU _ (r3 z.1)
        · split
          · rename_i z; exact fU _ (r5 z.1)
          · omega
  have hk36 := hA.2.1
  have v17 : xg (gD4 (gD3 (gD2 (gD1 G k) k) k) k) 17 k = gCu (xar (A.2 k).1) (xg (gD3 (gD2 (gD1 G k) k) k) 15 k) (ag (xg G 15) (A.2 k).2.2.1) (ag (xg G 15) (A.2 k).2.2.2.1) (ag (xg G 15) (A.2 k).2.2.2.2.1) (ag (xg G 17) (A.2 k).2.2.1) (ag (xg G 17) (A.2 k).2.2.2.1) (ag (xg G 17) (A.2 k).2.2.2.2.1) k := by
    unfold gD4
    rw [t17]
    have := bU (xg (gD3 (gD2 (gD1 G k) k) k) 15 k)
    exact xg_self ⟨by omega, by omega⟩
  have g4 : ∀ (c : Nat) (j : Int), ¬ c = 18 → ¬ c = 14 → ¬ c = 15 → ¬ c = 17 → xg (gD4 (gD3 (gD2 (gD1 G k) k) k) k) c j = xg G c j := fun c j hc hc2 hc3 hc4 => by unfold gD4; rw [xg_cell hc4, g3 c j hc hc2 hc3]
  have o4 : ∀ (c : Nat) (j : Int), 0 ≤ j → j < k → xg (gD4 (gD3 (gD2 (gD1 G k) k) k) k) c j = xg G c j := by
    intro c j j0 j1
    unfold gD4
    by_cases hh : c = 17
    · subst hh; rw [xg_idx k0 j0 (by omega)]; exact o3 17 j j0 j1
    · rw [xg_cell hh]; exact o3 c j j0 j1
  have t16 : gBl (xg (gD4 (gD3 (gD2 (gD1 G k) k) k) k) 10 k) (xg (gD4 (gD3 (gD2 (gD1 G k) k) k) k) 15 (xg (gD4 (gD3 (gD2 (gD1 G k) k) k) k) 12 (3 * k + 0))) (xg (gD4 (gD3 (gD2 (gD1 G k) k) k) k) 15 (xg (gD4 (gD3 (gD2 (gD1 G k) k) k) k) 12 (3 * k + 1))) (xg (gD4 (gD3 (gD2 (gD1 G k) k) k) k) 15 (xg (gD4 (gD3 (gD2 (gD1 G k) k) k) k) 12 (3 * k + 2))) (xg (gD4 (gD3 (gD2 (gD1 G k) k) k) k) 14 (xg (gD4 (gD3 (gD2 (gD1 G k) k) k) k) 12 (3 * k + 0))) (xg (gD4 (gD3 (gD2 (gD1 G k) k) k) k) 14 (xg (gD4 (gD3 (gD2 (gD1 G k) k) k) k) 12 (3 * k + 1))) = gBl (A.2 k).1 (ag (xg G 15) (A.2 k).2.2.1) (ag (xg G 15) (A.2 k).2.2.2.1) (ag (xg G 15) (A.2 k).2.2.2.2.1) (ag (xg G 14) (A.2 k).2.2.1) (ag (xg G 14) (A.2 k).2.2.2.1) := by
    rw [Int.add_zero, g4 10 k (by decide) (by decide) (by decide) (by decide), g4 12 _ (by decide) (by decide) (by decide) (by decide), g4 12 _ (by decide) (by decide) (by decide) (by decide), g4 12 _ (by decide) (by decide) (by decide) (by decide), e1, e3, e4, e5]
    exact gBl_ind hK (fun z => by rw [o4 15 _ (r1 z).1 (r1 z).2, o4 14 _ (r1 z).1 (r1 z).2, ag_p (r1 z).1, ag_p (r1 z).1]; exact ⟨rfl, rfl⟩) (fun z => by rw [o4 15 _ (r3 z).1 (r3 z).2, o4 14 _ (r3 z).1 (r3 z).2, ag_p (r3 z).1, ag_p (r3 z).1]; exact ⟨rfl, rfl⟩) (fun z => by rw [o4 15 _ (r5 z).1 (r5 z).2, ag_p (r5 z).1])
  have v16 : xg (gDs G k) 16 k = (if xg (gD4 (gD3 (gD2 (gD1 G k) k) k) k) 17 k = k then gBl (A.2 k).1 (ag (xg G 15) (A.2 k).2.2.1) (ag (xg G 15) (A.2 k).2.2.2.1) (ag (xg G 15) (A.2 k).2.2.2.2.1) (ag (xg G 14) (A.2 k).2.2.1) (ag (xg G 14) (A.2 k).2.2.2.1) else 0) := by
    unfold gDs gD5
    rw [t16]
    refine xg_self ?_
    split
    · have := gBl_b (kd := (A.2 k).1) (c0 := ag (xg G 15) (A.2 k).2.2.1) (c1 := ag (xg G 15) (A.2 k).2.2.2.1) (c2 := ag (xg G 15) (A.2 k).2.2.2.2.1) (s0 := ag (xg G 14) (A.2 k).2.2.1) (s1 := ag (xg G 14) (A.2 k).2.2.2.1)
      exact ⟨by omega, by omega⟩
    · exact xin_0
  -- the state as a whole
  have f17 : xg (gDs G k) 17 k = xg (gD4 (gD3 (gD2 (gD1 G k) k) k) k) 17 k := by unfold gDs gD5; rw [xg_cell (by decide)]
  have f15 : xg (gDs G k) 15 k = xg (gD3 (gD2 (gD1 G k) k) k) 15 k := by unfold gDs gD5 gD4; rw [xg_cell (by decide), xg_cell (by decide)]
  have f14 : xg (gDs G k) 14 k = xg (gD2 (gD1 G k) k) 14 k := by unfold gDs gD5 gD4 gD3; rw [xg_cell (by decide), xg_cell (by decide), xg_cell (by decide)]
  have f18 : xg (gDs G k) 18 k = xg (gD1 G k) 18 k := by unfold gDs gD5 gD4 gD3 gD2; rw [xg_cell (by decide), xg_cell (by decide), xg_cell (by decide), xg_cell (by decide)]
  have ga : ∀ (c : Nat) (x : Int), x = -1 ∨ (0 ≤ x ∧ x < k) → ag (xg (gDs G k) c) x = ag (xg G c) x := by
    intro c x hx
    rcases hx with rfl | ⟨x0, x1⟩
    · rw [ag_n, ag_n]
    · rw [ag_p x0, ag_p x0, gDs_o k0 x0 (by omega)]
  refine ⟨hN, hV, fun j j0 j1 => ?_, fun hi => ?_⟩
  · by_cases hj : j = k
    · subst hj
      refine ⟨⟨?_, ?_, ?_, ?_⟩, ?_, ?_⟩
      · rw [ga 14 _ d1, ga 14 _ d2, ga 14 _ d3, f14]; exact v14
      · rw [ga 14 _ d1, ga 14 _ d2, ga 15 _ d1, ga 15 _ d2, ga 15 _ d3, f15]; exact v15
      · rw [ga 15 _ d1, ga 15 _ d2, ga 15 _ d3, ga 17 _ d1, ga 17 _ d2, ga 17 _ d3, f17, f15]; exact v17
      · rw [ga 14 _ d1, ga 14 _ d2, ga 15 _ d1, ga 15 _ d2, ga 15 _ d3, f17]; exact v16
      · rw [f18, v18]
        unfold aIn
        by_cases hi : (A.2 j).1 = 1 ∨ (A.2 j).1 = 2
        · rw [if_pos hi]; omega
        · exact ⟨fun z => absurd (Or.inl z) hi, fun z => absurd (Or.inr z) hi⟩
      · intro hi
        rw [f18, v18, if_neg hi, ga 18 _ d1, ga 18 _ d2, ga 18 _ d3]
    · obtain ⟨l1, l2⟩ := h j j0 (by omega)
      have oo : ∀ (c : Nat) (x : Int), 0 ≤ x → x ≤ j → xg (gDs G k) c x = xg G c x := fun c x x0 x1 => gDs_o k0 x0 (by omega)
      exact ⟨aL_eq hA j0 (by omega) l1 (fun x x0 x1 => ⟨oo 14 x x0 x1, oo 15 x x0 x1, oo 16 x x0 x1, oo 17 x x0 x1⟩), aV_eq hA j0 (by omega) l2 (fun x x0 x1 => oo 18 x x0 x1)⟩
  · rw [f18, v18, if_pos hi]
theorem ds_all {A : aG} (hA : aOk A) : ∀ (n : Nat) (k : Int) (G : xG), cRep G A → cUp G A k → 0 ≤ k → k + n = A.1 → gDlOk n k G ∧ cUp (gDl n k G) A A.1 ∧ (∀ (a : Nat) (j : Int), ¬ (14 ≤ a ∧ a ≤ 18) → xg (gDl n k G) a j = xg G a j) ∧ (∀ (a : Nat) (j : Int), 0 ≤ j → j < k → xg (gDl n k G) a j = xg G a j) ∧ ∀ j, k ≤ j → j < A.1 → ((A.2 j).1 = 1 ∨ (A.2 j).1 = 2) → xg (gDl n k G) 18 j = 0
  | 0, k, G, hR, hU, k0, k1 => by
    have e : k = A.1 := by omega
    subst e
    exact ⟨trivial, hU, fun _ _ _ => rfl, fun _ _ _ _ => rfl, fun j h1 h2 => absurd h1 (by omega)⟩
  | n + 1, k, G, hR, hU, k0, k1 => by
    obtain ⟨s1, s2, s3, s4⟩ := ds_step hR hA k0 (by omega) hU
    obtain ⟨i1, i2, i3, i4, i5⟩ := ds_all hA n (k + 1) (gDs G k) (cRep_eq hR (gDs_c (by decide)) (fun b j hb => gDs_c (by omega))) s3 (by omega) (by omega)
    refine ⟨⟨s1, s2, i1⟩, i2, fun a j ha => (i3 a j ha).trans (gDs_c ha), fun a j j0 j1 => (i4 a j j0 (by omega)).trans (gDs_o k0 j0 (by omega)), fun j h1 h2 hi => ?_⟩
    by_cases hj : j = k
    · subst hj
      show xg (gDl n (j + 1) (gDs G j)) 18 j = 0
      rw [i4 18 j k0 (by omega)]
      exact s4 hi
    · exact i5 j (by omega) h2 hi
