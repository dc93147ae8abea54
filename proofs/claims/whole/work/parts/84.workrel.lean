/-! work gives the class's attributes -/
theorem lem4 {kd c0 c1 c2 s0 s1 : Int} (k0 : 0 ≤ kd) (k1 : kd ≤ 11) (a0 : 0 ≤ c0) (a1 : c0 ≤ 4) (h : gCv kd c0 c1 c2 s0 s1 = 4) (h2 : ¬ 0 < mHv (xar kd) 4 4 c0 c1 c2) (h3 : kd ≤ 6) : 1 < xar kd := by
  rcases (show kd = 0 ∨ kd = 1 ∨ kd = 2 ∨ kd = 3 ∨ kd = 4 ∨ kd = 5 ∨ kd = 6 by omega) with rfl | rfl | rfl | rfl | rfl | rfl | rfl
  · simp [gCv, xar_0] at h
  · simp [gCv, xar_1] at h
  · simp [gCv, xar_2] at h
  · decide
  · decide
  · exfalso
    have e := neg_4 a0 a1 h
    apply h2
    rw [hv_4 (show xar 5 = 1 ∨ xar 5 = 2 ∨ xar 5 = 3 from Or.inl rfl)]
    exact Or.inl e
  · decide
theorem mK1_o {G : xG} {k j : Int} {a : Nat} (hk : 0 ≤ k) (hj : 0 ≤ j) (hne : ¬ j = k) : xg (mK1 G k) a j = xg G a j := by
  have st : ∀ (X : xG) (b : Nat) (x : Int), xg (xp X b k x) a j = xg X a j := by
    intro X b x
    by_cases h : a = b
    · subst h; exact xg_idx hk hj hne
    · exact xg_cell h
  unfold mK1 mB mC mV mS
  rw [st, st, st, st, st]
/-- as mRJ, with values of its own -/
def mRV (V : Int → Int) (G : xG) (j : Int) : Prop := xsg (xg G 14 j) (xg G 45 j) (xg G 46 j) ∧ xg G 47 j = xg G 15 j ∧ xg G 48 j = xg G 16 j ∧ xg G 49 j = V j
def cLv (G : xG) (A : aG) (V : Int → Int) : Prop := aLs A (xg G 14) (xg G 15) (xg G 16) (xg G 17) ∧ aVs A V
def mGw (G : xG) (A : aG) (V : Int → Int) : Prop := ∀ j, 0 ≤ j → j < A.1 → ((A.2 j).1 = 1 ∨ (A.2 j).1 = 2) → xg G 44 j = V j
theorem wk_step {G : xG} {K : xK} {A : aG} {V : Int → Int} {k : Int} (hR : mRep G K A) (hA : aOk A) (hC : cLv G A V) (hG : mGw G A V) (k0 : 0 ≤ k) (k1 : k < A.1) (hJ : ∀ j, 0 ≤ j → j < k → mRV V G j) : mK1Ok G k ∧ mRV V (mK1 G k) k := by
  have hN := mN_of hR hA k0 k1
  obtain ⟨e1, e2, e3, e4, e5, e6⟩ := hR.2 k k0 k1
  obtain ⟨q1, q2, q3, q4, q5, q6, q7, q8⟩ := hA.2.2 k k0 k1
  obtain ⟨l1, l2, l3, l4⟩ := hC.1 k k0 k1
  obtain ⟨v1, v2⟩ := hC.2 k k0 k1
  obtain ⟨d1, d2, d3⟩ := aAr_d q5
  obtain ⟨r1, r2, r3, r4, r5, r6⟩ := q5
  have hgk := hG k k0 k1
  have hVx : xin (V k) := by
    have := (aV_bb hA hC.2 k0 k1).2.2
    unfold mB6 at this
    exact ⟨by omega, by omega⟩
  generalize (A.2 k).1 = kd at *
  generalize (A.2 k).2.1 = dt at *
  generalize (A.2 k).2.2.1 = a at *
  generalize (A.2 k).2.2.2.1 = b at *
  generalize (A.2 k).2.2.2.2.1 = c at *
  have hK := hK_of q1 q2
  -- signs of arguments
  have fs : ∀ x, x = -1 ∨ (0 ≤ x ∧ x < k) → xsg (ag (xg G 14) x) (ag (xg G 45) x) (ag (xg G 46) x) := by
    intro x hx
    rcases hx with rfl | ⟨x0, x1⟩
    · rw [ag_n, ag_n, ag_n]; exact xsg_0
    · rw [ag_p x0, ag_p x0, ag_p x0]; exact (hJ x x0 x1).1
  have fc : ∀ x, x = -1 ∨ (0 ≤ x ∧ x < k) → 0 ≤ ag (xg G 15) x ∧ ag (xg G 15) x ≤ 4 := by
    intro x hx
    rcases hx with rfl | ⟨x0, x1⟩
    · rw [ag_n]; omega
    · rw [ag_p x0]; exact (aL_bb hA hC.1 x0 (by omega)).2.1
  have fu : ∀ x, (0 ≤ x ∧ x < k) → ag (xg G 17) x < k := by
    intro x hx
    rw [ag_p hx.1]
    have := (aL_bb hA hC.1 hx.1 (by omega)).2.2.1
    omega
  have p0 : 0 < xar kd → 0 ≤ a ∧ a < k := r1
  have p1 : 1 < xar kd → 0 ≤ b ∧ b < k := r3
  have p2 : 2 < xar kd → 0 ≤ c ∧ c < k := r5
  have sgs := sg_eq q1 q2 q3 (fs a d1) (fs b d2) (fs c d3)
  rw [← l1] at sgs
  have su : mSu (xg G 40 k) (xg G 41 k) (xg G 45 (xg G 42 (3 * k))) (xg G 46 (xg G 42 (3 * k))) (xg G 45 (xg G 42 (3 * k + 1))) (xg G 46 (xg G 42 (3 * k + 1))) (xg G 45 (xg G 42 (3 * k + 2))) = mSu kd dt (ag (xg G 45) a) (ag (xg G 46) a) (ag (xg G 45) b) (ag (xg G 46) b) (ag (xg G 45) c) := by
    rw [e1, e2, e3, e4, e5]
    exact mSu_ind hK (fun z => ⟨(ag_p (p0 z).1).symm, (ag_p (p0 z).1).symm⟩) (fun z => ⟨(ag_p (p1 z).1).symm, (ag_p (p1 z).1).symm⟩) (fun z => (ag_p (p2 z).1).symm)
  have sd : mSd (xg G 40 k) (xg G 41 k) (xg G 45 (xg G 42 (3 * k))) (xg G 46 (xg G 42 (3 * k))) (xg G 45 (xg G 42 (3 * k + 1))) (xg G 46 (xg G 42 (3 * k + 1))) (xg G 46 (xg G 42 (3 * k + 2))) = mSd kd dt (ag (xg G 45) a) (ag (xg G 46) a) (ag (xg G 45) b) (ag (xg G 46) b) (ag (xg G 46) c) := by
    rw [e1, e2, e3, e4, e5]
    exact mSd_ind hK (fun z => ⟨(ag_p (p0 z).1).symm, (ag_p (p0 z).1).symm⟩) (fun z => ⟨(ag_p (p1 z).1).symm, (ag_p (p1 z).1).symm⟩) (fun z => (ag_p (p2 z).1).symm)
  have eS : mS G k = xp (xp G 45 k (mSu kd dt (ag (xg G 45) a) (ag (xg G 46) a) (ag (xg G 45) b) (ag (xg G 46) b) (ag (xg G 45) c))) 46 k (mSd kd dt (ag (xg G 45) a) (ag (xg G 46) a) (ag (xg G 45) b) (ag (xg G 46) b) (ag (xg G 46) c)) := by
    unfold mS
    rw [su, sd]
  generalize mSu kd dt (ag (xg G 45) a) (ag (xg G 46) a) (ag (xg G 45) b) (ag (xg G 46) b) (ag (xg G 45) c) = SU at sgs eS
  generalize mSd kd dt (ag (xg G 45) a) (ag (xg G 46) a) (ag (xg G 45) b) (ag (xg G 46) b) (ag (xg G 46) c) = SD at sgs eS
  -- value
  have hw : mW (xg (mS G k) 40 k) (xg (mS G k) 41 k) (xg (mS G k) 44 k) (xg (mS G k) 49 (xg (mS G k) 42 (3 * k))) (xg (mS G k) 49 (xg (mS G k) 42 (3 * k + 1))) (xg (mS G k) 49 (xg (mS G k) 42 (3 * k + 2))) = V k := by
    have c40 : ∀ (x : Nat) (j : Int), ¬ x = 45 → ¬ x = 46 → xg (mS G k) x j = xg G x j := fun x j h5 h6 => by rw [eS, xg_cell h6, xg_cell h5]
    rw [c40 40 k (by decide) (by decide), c40 41 k (by decide) (by decide), c40 44 k (by decide) (by decide), c40 42 _ (by decide) (by decide), c40 42 _ (by decide) (by decide), c40 42 _ (by decide) (by decide), c40 49 _ (by decide) (by decide), c40 49 _ (by decide) (by decide), c40 49 _ (by decide) (by decide), e1, e2, e3, e4, e5]
    by_cases hi : kd = 1 ∨ kd = 2
    · have : ∀ nm gv x y z : Int, mW kd nm gv x y z = gv := by
        intro nm gv x y z
        rcases hi with rfl | rfl <;> rfl
      rw [this]
      exact hgk hi
    · rw [v2 hi, ← va_eq (gv := xg G 44 k) q1 q2 hi]
      exact mW_ind hK (fun z => by rw [ag_p (p0 z).1]; exact (hJ a (p0 z).1 (p0 z).2).2.2.2) (fun z => by rw [ag_p (p1 z).1]; exact (hJ b (p1 z).1 (p1 z).2).2.2.2) (fun z => by rw [ag_p (p2 z).1]; exact (hJ c (p2 z).1 (p2 z).2).2.2.2)
  have eV : mV (mS G k) k = xp (mS G k) 49 k (V k) := by
    unfold mV
    rw [hw]
  -- cells of the state behind value
  have g2 : ∀ (x : Nat) (j : Int), ¬ x = 45 → ¬ x = 46 → ¬ x = 49 → xg (mV (mS G k) k) x j = xg G x j := fun x j h5 h6 h9 => by rw [eV, xg_cell h9, eS, xg_cell h6, xg_cell h5]
  have g2j : ∀ (x : Nat) (j : Int), 0 ≤ j → j < k → xg (mV (mS G k) k) x j = xg G x j := by
    intro x j j0 j1
    have st : ∀ (X : xG) (b : Nat) (y : Int), xg (xp X b k y) x j = xg X x j := by
      intro X b y
      by_cases h : x = b
      · subst h; exact xg_idx k0 j0 (by omega)
      · exact xg_cell h
    rw [eV, st, eS, st, st]
  have hcu : mCu (mV (mS G k) k) k = xg G 15 k := by
    have h1 : mCu (mV (mS G k) k) k = mCv kd (xg (mV (mS G k) k) 47 a) (xg (mV (mS G k) k) 47 b) (xg (mV (mS G k) k) 47 c) (mAd kd 0 (xg (mV (mS G k) k) 47 a) (xg (mV (mS G k) k) 46 a) (xg (mV (mS G k) k) 45 a) (xg (mV (mS G k) k) 46 b) (xg (mV (mS G k) k) 45 b) 2) (mAd kd 1 (xg (mV (mS G k) k) 47 b) (xg (mV (mS G k) k) 46 a) (xg (mV (mS G k) k) 45 a) (xg (mV (mS G k) k) 46 b) (xg (mV (mS G k) k) 45 b) 2) (mAd kd 2 (xg (mV (mS G k) k) 47 c) (xg (mV (mS G k) k) 46 a) (xg (mV (mS G k) k) 45 a) (xg (mV (mS G k) k) 46 b) (xg (mV (mS G k) k) 45 b) 2) (mAd kd 0 (xg (mV (mS G k) k) 47 a) (xg (mV (mS G k) k) 46 a) (xg (mV (mS G k) k) 45 a) (xg (mV (mS G k) k) 46 b) (xg (mV (mS G k) k) 45 b) 3) (mAd kd 1 (xg (mV (mS G k) k) 47 b) (xg (mV (mS G k) k) 46 a) (xg (mV (mS G k) k) 45 a) (xg (mV (mS G k) k) 46 b) (xg (mV (mS G k) k) 45 b) 3) (mAd kd 2 (xg (mV (mS G k) k) 47 c) (xg (mV (mS G k) k) 46 a) (xg (mV (mS G k) k) 45 a) (xg (mV (mS G k) k) 46 b) (xg (mV (mS G k) k) 45 b) 3) := by
      have c40 : xg (mV (mS G k) k) 40 k = kd := by rw [g2 40 k (by decide) (by decide) (by decide)]; exact e1
      have c42 : xg (mV (mS G k) k) 42 (3 * k) = a := by rw [g2 42 _ (by decide) (by decide) (by decide)]; exact e3
      have c43 : xg (mV (mS G k) k) 42 (3 * k + 1) = b := by rw [g2 42 _ (by decide) (by decide) (by decide)]; exact e4
      have c44 : xg (mV (mS G k) k) 42 (3 * k + 2) = c := by rw [g2 42 _ (by decide) (by decide) (by decide)]; exact e5
      rw [← c40, ← c42, ← c43, ← c44]
      rfl
    rw [h1, l2, cv_eq q1 q2 (fc a d1).1 (fc a d1).2 (fc b d2).1 (fc b d2).2 (fc c d3).1 (fc c d3).2 (fs a d1) (fs b d2)]
    have ha : 0 < xar kd → xg (mV (mS G k) k) 47 a = ag (xg G 15) a ∧ xg (mV (mS G k) k) 46 a = ag (xg G 46) a ∧ xg (mV (mS G k) k) 45 a = ag (xg G 45) a := fun z => by
      obtain ⟨x0, x1⟩ := p0 z
      rw [g2j 47 a x0 x1, g2j 46 a x0 x1, g2j 45 a x0 x1, ag_p x0, ag_p x0, ag_p x0]
      exact ⟨(hJ a x0 x1).2.1, rfl, rfl⟩
    have hb : 1 < xar kd → xg (mV (mS G k) k) 47 b = ag (xg G 15) b ∧ xg (mV (mS G k) k) 46 b = ag (xg G 46) b ∧ xg (mV (mS G k) k) 45 b = ag (xg G 45) b := fun z => by
      obtain ⟨x0, x1⟩ := p1 z
      rw [g2j 47 b x0 x1, g2j 46 b x0 x1, g2j 45 b x0 x1, ag_p x0, ag_p x0, ag_p x0]
      exact ⟨(hJ b x0 x1).2.1, rfl, rfl⟩
    have hcc : 2 < xar kd → xg (mV (mS G k) k) 47 c = ag (xg G 15) c := fun z => by
      obtain ⟨x0, x1⟩ := p2 z
      rw [g2j 47 c x0 x1, ag_p x0]
      exact (hJ c x0 x1).2.1
    exact mCv_ind hK
      (fun z => ⟨(ha z).1, mAd_ind hK (ha z).1 (fun z => (ha z).2) (fun z => (hb z).2) z, mAd_ind hK (ha z).1 (fun z => (ha z).2) (fun z => (hb z).2) z⟩)
      (fun z => ⟨(hb z).1, mAd_ind hK (hb z).1 (fun z => (ha z).2) (fun z => (hb z).2) (by omega), mAd_ind hK (hb z).1 (fun z => (ha z).2) (fun z => (hb z).2) (by omega)⟩)
      (fun z => ⟨hcc z, mAd_ind hK (hcc z) (fun z => (ha z).2) (fun z => (hb z).2) (by omega), mAd_ind hK (hcc z) (fun z => (ha z).2) (fun z => (hb z).2) (by omega)⟩)
  have eC : mC (mV (mS G k) k) k = xp (mV (mS G k) k) 47 k (xg G 15 k) := by
    unfold mC
    rw [hcu]
  have g3 : ∀ (x : Nat) (j : Int), ¬ x = 45 → ¬ x = 46 → ¬ x = 47 → ¬ x = 49 → xg (mC (mV (mS G k) k) k) x j = xg G x j := fun x j h5 h6 h7 h9 => by rw [eC, xg_cell h7, g2 x j h5 h6 h9]
  have g3j : ∀ (x : Nat) (j : Int), 0 ≤ j → j < k → xg (mC (mV (mS G k) k) k) x j = xg G x j := by
    intro x j j0 j1
    by_cases h : x = 47
    · subst h; rw [eC, xg_idx k0 j0 (by omega)]; exact g2j 47 j j0 j1
    · rw [eC, xg_cell h]; exact g2j x j j0 j1
  have c47 : xg (mC (mV (mS G k) k) k) 47 k = xg G 15 k := by rw [eC]; exact xg_self (xin_g _ _ _)
  have ha : 0 < xar kd → xg (mC (mV (mS G k) k) k) 47 a = ag (xg G 15) a ∧ xg (mC (mV (mS G k) k) k) 46 a = ag (xg G 46) a ∧ xg (mC (mV (mS G k) k) k) 45 a = ag (xg G 45) a := fun z => by
    obtain ⟨x0, x1⟩ := p0 z
    rw [g3j 47 a x0 x1, g3j 46 a x0 x1, g3j 45 a x0 x1, ag_p x0, ag_p x0, ag_p x0]
    exact ⟨(hJ a x0 x1).2.1, rfl, rfl⟩
  have hb : 1 < xar kd → xg (mC (mV (mS G k) k) k) 47 b = ag (xg G 15) b ∧ xg (mC (mV (mS G k) k) k) 46 b = ag (xg G 46) b ∧ xg (mC (mV (mS G k) k) k) 45 b = ag (xg G 45) b := fun z => by
    obtain ⟨x0, x1⟩ := p1 z
    rw [g3j 47 b x0 x1, g3j 46 b x0 x1, g3j 45 b x0 x1, ag_p x0, ag_p x0, ag_p x0]
    exact ⟨(hJ b x0 x1).2.1, rfl, rfl⟩
  have hcc : 2 < xar kd → xg (mC (mV (mS G k) k) k) 47 c = ag (xg G 15) c := fun z => by
    obtain ⟨x0, x1⟩ := p2 z
    rw [g3j 47 c x0 x1, ag_p x0]
    exact (hJ c x0 x1).2.1
  have h4a : xg G 15 k = 4 → ¬ 0 < mHv (xar kd) 4 4 (ag (xg G 15) a) (ag (xg G 15) b) (ag (xg G 15) c) → kd ≤ 6 → 1 < xar kd := fun z1 z2 z3 => lem4 q1 q2 (fc a d1).1 (fc a d1).2 (by rw [← l2]; exact z1) z2 z3
  have hHv : mHv (xar kd) 4 4 (xg (mC (mV (mS G k) k) k) 47 a) (xg (mC (mV (mS G k) k) k) 47 b) (xg (mC (mV (mS G k) k) k) 47 c) = mHv (xar kd) 4 4 (ag (xg G 15) a) (ag (xg G 15) b) (ag (xg G 15) c) := mHv_ind hK (fun z => (ha z).1) (fun z => (hb z).1) hcc
  have c40 : xg (mC (mV (mS G k) k) k) 40 k = kd := by rw [g3 40 k (by decide) (by decide) (by decide) (by decide)]; exact e1
  have c42 : xg (mC (mV (mS G k) k) k) 42 (3 * k) = a := by rw [g3 42 _ (by decide) (by decide) (by decide) (by decide)]; exact e3
  have c43 : xg (mC (mV (mS G k) k) k) 42 (3 * k + 1) = b := by rw [g3 42 _ (by decide) (by decide) (by decide) (by decide)]; exact e4
  have c44 : xg (mC (mV (mS G k) k) k) 42 (3 * k + 2) = c := by rw [g3 42 _ (by decide) (by decide) (by decide) (by decide)]; exact e5
  have hbl : mBl (mC (mV (mS G k) k) k) k = xg G 16 k := by
    have h1 : mBl (mC (mV (mS G k) k) k) k = mBq kd (xg (mC (mV (mS G k) k) k) 47 k) (xg (mC (mV (mS G k) k) k) 47 a) (xg (mC (mV (mS G k) k) k) 47 b) (xg (mC (mV (mS G k) k) k) 47 c) (mAd kd 0 (xg (mC (mV (mS G k) k) k) 47 a) (xg (mC (mV (mS G k) k) k) 46 a) (xg (mC (mV (mS G k) k) k) 45 a) (xg (mC (mV (mS G k) k) k) 46 b) (xg (mC (mV (mS G k) k) k) 45 b) (if kd = 8 then 3 else 2)) (mAd kd 1 (xg (mC (mV (mS G k) k) k) 47 b) (xg (mC (mV (mS G k) k) k) 46 a) (xg (mC (mV (mS G k) k) k) 45 a) (xg (mC (mV (mS G k) k) k) 46 b) (xg (mC (mV (mS G k) k) k) 45 b) (if kd = 8 then 3 else 2)) (mAd kd 2 (xg (mC (mV (mS G k) k) k) 47 c) (xg (mC (mV (mS G k) k) k) 46 a) (xg (mC (mV (mS G k) k) k) 45 a) (xg (mC (mV (mS G k) k) k) 46 b) (xg (mC (mV (mS G k) k) k) 45 b) (if kd = 8 then 3 else 2)) := by
      rw [← c40, ← c42, ← c43, ← c44]
      rfl
    have hA4 := h4a
    rw [← hHv] at hA4
    rw [h1, c47, mBq_ind hK (fun z => ⟨(ha z).1, mAd_ind hK (ha z).1 (fun z => (ha z).2) (fun z => (hb z).2) z⟩) (fun z => ⟨(hb z).1, mAd_ind hK (hb z).1 (fun z => (ha z).2) (fun z => (hb z).2) (by omega)⟩) (fun z => ⟨hcc z, mAd_ind hK (hcc z) (fun z => (ha z).2) (fun z => (hb z).2) (by omega)⟩) hA4]
    rw [l4, l3, l2]
    exact (bl_eq q1 q2 (fc a d1).1 (fc a d1).2 (fc b d2).1 (fc b d2).2 (fc c d3).1 (fc c d3).2 (fs a d1) (fs b d2) k0 (fun z => fu a (p0 z)) (fun z => fu b (p1 z)) (fun z => fu c (p2 z))).symm
  have eK : mK1 G k = xp (mC (mV (mS G k) k) k) 48 k (xg G 16 k) := by
    show mB (mC (mV (mS G k) k) k) k = _
    unfold mB
    rw [hbl]
  have fb : ∀ x, x = -1 ∨ (0 ≤ x ∧ x < k) → 0 ≤ x → mB6 (xg G 49 x) := fun x hx x0 => by
    rw [(hJ x x0 (by omega)).2.2.2]
    exact (aV_bb hA hC.2 x0 (by omega)).2.2
  refine ⟨⟨hN, fun z => ?_, fun z => ?_, fun z => ?_, fun z => ?_, fun z => ?_, fun z1 z2 z3 => ?_⟩, ?_, ?_, ?_, ?_⟩
  · rw [e3]
    have h5 : 0 < xar kd := by rw [← e1, z]; decide
    exact (hJ a (p0 h5).1 (p0 h5).2).1.1
  · rw [e3]
    have h5 : 0 < xar kd := by rw [← e1, z]; decide
    exact (hJ a (p0 h5).1 (p0 h5).2).1.2.1
  · rw [e3] at z ⊢; exact fb a d1 z
  · rw [e4] at z ⊢; exact fb b d2 z
  · rw [e5] at z ⊢; exact fb c d3 z
  · rw [e4]
    rw [c47] at z1
    have h2 : mHa (mC (mV (mS G k) k) k) k 4 4 = mHv (xar kd) 4 4 (xg (mC (mV (mS G k) k) k) 47 a) (xg (mC (mV (mS G k) k) k) 47 b) (xg (mC (mV (mS G k) k) k) 47 c) := by
      rw [← c40, ← c42, ← c43, ← c44]
      rfl
    rw [h2, hHv] at z2
    rw [e1] at z3
    exact (p1 (h4a z1 (by omega) z3)).1
  · rw [eK, xg_cell (show ¬ 14 = 48 by decide), xg_cell (show ¬ 45 = 48 by decide), xg_cell (show ¬ 46 = 48 by decide), g3 14 k (by decide) (by decide) (by decide) (by decide), eC, xg_cell (show ¬ 45 = 47 by decide), xg_cell (show ¬ 46 = 47 by decide), eV, xg_cell (show ¬ 45 = 49 by decide), xg_cell (show ¬ 46 = 49 by decide), eS, xg_cell (show ¬ 45 = 46 by decide), xg_self (xin_bo sgs.1), xg_self (xin_bo sgs.2.1)]
    exact sgs
  · rw [eK, xg_cell (show ¬ 47 = 48 by decide), xg_cell (show ¬ 15 = 48 by decide), c47, g3 15 k (by decide) (by decide) (by decide) (by decide)]
  · rw [eK, xg_self (xin_g _ _ _), xg_cell (show ¬ 16 = 48 by decide), g3 16 k (by decide) (by decide) (by decide) (by decide)]
  · rw [eK, xg_cell (show ¬ 49 = 48 by decide), eC, xg_cell (show ¬ 49 = 47 by decide), eV, xg_self hVx]
theorem mRep_w {G : xG} {K : xK} {A : aG} {G' : xG} (hR : mRep G K A) (h : ∀ (a : Nat) (j : Int), ¬ a = 45 → ¬ a = 46 → ¬ a = 47 → ¬ a = 48 → ¬ a = 49 → xg G' a j = xg G a j) : mRep G' K A := by
  refine ⟨by rw [h 33 12 (by decide) (by decide) (by decide) (by decide) (by decide)]; exact hR.1, fun j j0 j1 => ?_⟩
  rw [h 40 j (by decide) (by decide) (by decide) (by decide) (by decide), h 41 j (by decide) (by decide) (by decide) (by decide) (by decide), h 42 _ (by decide) (by decide) (by decide) (by decide) (by decide), h 42 _ (by decide) (by decide) (by decide) (by decide) (by decide), h 42 _ (by decide) (by decide) (by decide) (by decide) (by decide)]
  exact hR.2 j j0 j1
theorem cAt_w {G G' : xG} {A : aG} (hC : cAt G A) (h : ∀ (a : Nat) (j : Int), (14 ≤ a ∧ a ≤ 18) → xg G' a j = xg G a j) : cAt G' A := by
  have e : ∀ a : Nat, (14 ≤ a ∧ a ≤ 18) → xg G' a = xg G a := fun a ha => funext (fun j => h a j ha)
  unfold cAt
  rw [e 14 (by decide), e 15 (by decide), e 16 (by decide), e 17 (by decide), e 18 (by decide)]
  exact hC
theorem wk_all {K : xK} {A : aG} {V : Int → Int} (hA : aOk A) : ∀ (n : Nat) (k : Int) (G : xG), mRep G K A → cLv G A V → mGw G A V → 0 ≤ k → k + n = A.1 → (∀ j, 0 ≤ j → j < k → mRV V G j) → mWkOk n k G ∧ (∀ j, 0 ≤ j → j < A.1 → mRV V (mWk n k G) j) ∧ ∀ (a : Nat) (j : Int), ¬ a = 45 → ¬ a = 46 → ¬ a = 47 → ¬ a = 48 → ¬ a = 49 → xg (mWk n k G) a j = xg G a j
  | 0, k, G, hR, hC, hG, k0, k1, hJ => ⟨trivial, fun j j0 j1 => hJ j j0 (by omega), fun _ _ _ _ _ _ _ => rfl⟩
  | n + 1, k, G, hR, hC, hG, k0, k1, hJ => by
    obtain ⟨s1, s2⟩ := wk_step hR hA hC hG k0 (by omega) hJ
    have fr : ∀ (a : Nat) (j : Int), ¬ a = 45 → ¬ a = 46 → ¬ a = 47 → ¬ a = 48 → ¬ a = 49 → xg (mK1 G k) a j = xg G a j := fun a j h1 h2 h3 h4 h5 => mK1_c h1 h2 h3 h4 h5
    have frf : ∀ (a : Nat), ¬ a = 45 → ¬ a = 46 → ¬ a = 47 → ¬ a = 48 → ¬ a = 49 → xg (mK1 G k) a = xg G a := fun a h1 h2 h3 h4 h5 => funext (fun j => fr a j h1 h2 h3 h4 h5)
    have hJ' : ∀ j, 0 ≤ j → j < k + 1 → mRV V (mK1 G k) j := by
      intro j j0 j1
      by_cases hj : j = k
      · subst hj; exact s2
      · have := hJ j j0 (by omega)
        unfold mRV at this ⊢
        simp only [mK1_o k0 j0 hj]
        exact this
    have hC' : cLv (mK1 G k) A V := by
      unfold cLv
      rw [frf 14 (by decide) (by decide) (by decide) (by decide) (by decide), frf 15 (by decide) (by decide) (by decide) (by decide) (by decide), frf 16 (by decide) (by decide) (by decide) (by decide) (by decide), frf 17 (by decide) (by decide) (by decide) (by decide) (by decide)]
      exact hC
    obtain ⟨i1, i2, i3⟩ := wk_all hA n (k + 1) (mK1 G k) (mRep_w hR fr) hC' (fun j j0 j1 hi => by rw [fr 44 j (by decide) (by decide) (by decide) (by decide) (by decide)]; exact hG j j0 j1 hi) (by omega) (by omega) hJ'
    exact ⟨⟨s1, i1⟩, i2, fun a j h1 h2 h3 h4 h5 => (i3 a j h1 h2 h3 h4 h5).trans (fr a j h1 h2 h3 h4 h5)⟩
/-- work has been done -/
def mDn (G : xG) (A : aG) : Prop := ∀ j, 0 ≤ j → j < A.1 → mRJ G j
def mDv (V : Int → Int) (G : xG) (A : aG) : Prop := ∀ j, 0 ≤ j → j < A.1 → mRV V G j
/-- nothing but work's cells has changed -/
def mFw (G G' : xG) : Prop := ∀ (a : Nat) (j : Int), ¬ (45 ≤ a ∧ a ≤ 49) → xg G' a j = xg G a j
section SP
variable {sc : Nat × (Nat → Int32)} {d : Nat} {G : xG} {K : xK}
theorem sm_wv {A : aG} {V : Int → Int} (hR : mRep G K A) (hA : aOk A) (hC : cLv G A V) (hG : mGw G A V) : ∃ X : xG, (∀ (d : Nat) (Q : Option Value → am_H → Prop), xc sc (d + 4) Mm_work [.ref 33] (xH G K) Q ↔ Q none (xH X K)) ∧ mDv V X A ∧ mFw G X := by
  have e := hR.1
  have hn := hA.1
  obtain ⟨i1, i2, i3⟩ := wk_all hA A.1.toNat 0 G hR hC hG (by decide) (by omega) (fun j j0 j1 => absurd j1 (by omega))
  refine ⟨mWk A.1.toNat 0 G, fun d Q => ?_, i2, fun a j h => i3 a j (by omega) (by omega) (by omega) (by omega) (by omega)⟩
  have := sm_work (sc := sc) (d := d) (K := K) (Q := Q) (G := G) (by omega) (by rw [e]; exact i1)
  rw [e] at this
  exact this
theorem mDn_v {X : xG} {A : aG} (h : mDv (xg G 18) X A) (hF : mFw G X) : mDn X A := fun j j0 j1 => by
  obtain ⟨h1, h2, h3, h4⟩ := h j j0 j1
  exact ⟨h1, h2, h3, by rw [hF 18 j (by decide)]; exact h4⟩
theorem sm_wk {A : aG} (hR : mRep G K A) (hA : aOk A) (hC : cAt G A) (hG : mGi G A) : ∃ X : xG, (∀ (d : Nat) (Q : Option Value → am_H → Prop), xc sc (d + 4) Mm_work [.ref 33] (xH G K) Q ↔ Q none (xH X K)) ∧ mDn X A ∧ mFw G X := by
  obtain ⟨X, x1, x2, x3⟩ := sm_wv (sc := sc) (V := xg G 18) hR hA hC hG
  exact ⟨X, x1, mDn_v x2 x3, x3⟩
end SP
