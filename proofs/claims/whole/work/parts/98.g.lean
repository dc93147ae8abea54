/-! the form, in the class and behind the reference's mark -/
theorem cPl_e {G G' : xG} (f10 : xg G' 10 = xg G 10) (f15 : xg G' 15 = xg G 15) (f26 : xg G' 26 = xg G 26) : cPl G' = cPl G ∧ cCf G' = cCf G := by
  have h1 : cPf G' = cPf G := by funext k q; unfold cPf cVa gAx; rw [f10, f15, f26]
  refine ⟨by funext k; unfold cPl cVa gAx; rw [h1, f10, f15, f26], by funext k; unfold cCf cVa gAx; rw [f10, f15, f26]⟩
/-- the class's cells behind make -/
theorem make_ok {G : xG} {A : aG} (hR : cRep G A) (hA : aOk A) (hP : gPb G A) (ht : 0 ≤ xg G 21 4) : UFx A (gBs (gMake G)) (xg (gMake G) 26) ∧ (∀ x, A.1 ≤ x → x < 36 → xg (gMake G) 26 x = 0) ∧ cCols (gMake G) ∧ cRows (gMake G) ∧ (∀ k, 0 ≤ k → k < 36 → xg (gMake G) 28 k = 0) ∧ xg (gMake G) 25 11 = 1 ∧ ∀ (a : Nat), ¬ (25 ≤ a ∧ a ≤ 31) → xg (gMake G) a = xg G a := by
  obtain ⟨n, hn⟩ : ∃ n : Nat, (n : Int) = A.1 := ⟨A.1.toNat, by have := hA.1; omega⟩
  have h36 := hA.2.1
  obtain ⟨u1, u2⟩ := gMu_ch hR hA hP ht
  have m : ∀ (a : Nat), ¬ a = 26 → xg (gMu G) a = xg G a := fun a ha => funext (fun j => gMu_c ha j)
  obtain ⟨c1, c2, c3, c4, c5⟩ := gNc_ok (G := gMu G) (n := n) (by rw [m 9 (by decide), hR.1, hn]) (by omega) (fun x x0 x1 => u2 x (by omega) x1)
  have c5' : ∀ (a : Nat), ¬ a = 25 → ¬ a = 27 → ¬ a = 28 → xg (gNc (gMu G)) a = xg (gMu G) a := fun a q1 q2 q3 => funext (fun j => c5 a j q1 q2 q3)
  obtain ⟨r1, r2, r3⟩ := gNr_ok (G := gNc (gMu G)) (n := n) (by rw [c5' 9 (by decide) (by decide) (by decide), m 9 (by decide), hR.1, hn]) (by omega) (fun x x0 x1 => by rw [c5' 26 (by decide) (by decide) (by decide)]; exact u2 x (by omega) x1) (by rw [c5' 21 (by decide) (by decide) (by decide), m 21 (by decide)]; exact hP.1) (by rw [c5' 21 (by decide) (by decide) (by decide), m 21 (by decide)]; exact hP.2.1)
  have r3' : ∀ (a : Nat), ¬ a = 25 → ¬ a = 29 → ¬ a = 30 → ¬ a = 31 → xg (gNr (gNc (gMu G))) a = xg (gNc (gMu G)) a := fun a q1 q2 q3 q4 => funext (fun j => r3 a j q1 q2 q3 q4)
  have z : ∀ (a : Nat), ¬ a = 25 → xg (gMake G) a = xg (gNr (gNc (gMu G))) a := fun a ha => by unfold gMake; exact xp_f ha
  have z25 : ∀ j, 0 ≤ j → ¬ j = 11 → xg (gMake G) 25 j = xg (gNr (gNc (gMu G))) 25 j := fun j j0 hj => by unfold gMake; rw [xg_idx (by decide) j0 hj]
  have fin : ∀ (a : Nat), ¬ (25 ≤ a ∧ a ≤ 31) → xg (gMake G) a = xg G a := fun a ha => by rw [z a (by omega), r3' a (by omega) (by omega) (by omega) (by omega), c5' a (by omega) (by omega) (by omega), m a (by omega)]
  have f26 : xg (gMake G) 26 = xg (gMu G) 26 := by rw [z 26 (by decide), r3' 26 (by decide) (by decide) (by decide) (by decide), c5' 26 (by decide) (by decide) (by decide)]
  have eb : gBs (gMake G) = gBs G := by funext x; unfold gBs; rw [fin 21 (by decide), fin 23 (by decide), fin 24 (by decide)]
  obtain ⟨p1, p2⟩ := cPl_e (G := gMu G) (G' := gMake G) (by rw [fin 10 (by decide), m 10 (by decide)]) (by rw [fin 15 (by decide), m 15 (by decide)]) f26
  refine ⟨by rw [eb, f26]; exact u1, fun x x0 x1 => by rw [f26]; exact u2 x x0 x1, ⟨fun k k0 k1 => ?_, ?_⟩, ?_, fun k k0 k1 => ?_, by unfold gMake; exact xg_self ⟨by decide, by decide⟩, fin⟩
  · rw [z 27 (by decide), r3 27 k (by decide) (by decide) (by decide) (by decide), c1 k k0 k1, p1]
  · rw [z25 10 (by decide) (by decide), r2 10 (by decide) (by decide), c2, p2]
  · have e1 : ∀ s, cFe (gMake G) s = cFe (gNr (gNc (gMu G))) s := fun s => funext (fun q => by unfold cFe; rw [z 22 (by decide)])
    have e2 : ∀ s, cFa (gMake G) s = cFa (gNr (gNc (gMu G))) s := fun s => funext (fun q => by unfold cFa gAx; rw [z 26 (by decide), z 10 (by decide), z 15 (by decide)])
    have e3 : cTe (gMake G) = cTe (gNr (gNc (gMu G))) := by funext s; unfold cTe; rw [e1, z 21 (by decide)]
    have e4 : cTa (gMake G) = cTa (gNr (gNc (gMu G))) := by funext s; unfold cTa; rw [e2]
    unfold cRows at r1 ⊢
    rw [e3, e4, e1, e1, e2, e2, z 21 (by decide), z 29 (by decide), z 30 (by decide), z 31 (by decide), z25 9 (by decide) (by decide)]
    exact r1
  · rw [z 28 (by decide), r3 28 k (by decide) (by decide) (by decide) (by decide)]; exact c4 k k0 k1
/-- behind mark: the reference's marks are the class's -/
def Mk (Z : xG) (A : aG) : Prop := mDn Z A ∧ ∀ k, 0 ≤ k → k < A.1 → (¬ xg Z 50 k = 0 ↔ ¬ xg Z 26 k = 0)
theorem mBs_g {G : xG} {A : aG} (h : rPb G A) : mBs G = gBs G := by
  obtain ⟨⟨g1, g2, g3, g4, g5, g6, g7⟩, p2, p3, p4, p5⟩ := h
  funext x
  unfold mBs gBs
  rw [p2, p3]
  refine propext ⟨?_, ?_⟩
  · rintro (z | ⟨q, q0, q1, z⟩)
    · exact Or.inl z
    · have := p5 q q0 (by omega)
      rw [this.2.1, this.2.2] at z
      exact Or.inr ⟨q, q0, q1, z⟩
  · rintro (z | ⟨q, q0, q1, z⟩)
    · exact Or.inl z
    · have := p5 q q0 (by omega)
      rw [← this.2.1, ← this.2.2] at z
      exact Or.inr ⟨q, q0, q1, z⟩
theorem mPb_g {G : xG} {A : aG} (h : rPb G A) : mPb G A := by
  obtain ⟨⟨g1, g2, g3, g4, g5, g6, g7⟩, p2, p3, p4, p5⟩ := h
  unfold mPb
  rw [p2, p3, p4]
  refine ⟨g1, g2, g3, g4, g5, fun q q0 q1 => by rw [(p5 q q0 q1).1]; exact g6 q q0 q1, fun q q0 q1 => ?_⟩
  rw [(p5 q q0 (by omega)).2.1, (p5 q q0 (by omega)).2.2]
  exact g7 q q0 q1
section MK
variable {Z : xG} {K : xK} {A : aG}
theorem mk_va (h : Rel Z K A) (m : Mk Z A) {k : Int} (k0 : 0 ≤ k) (k1 : k < A.1) : (mVa Z k ↔ cVa Z k) ∧ (mAx Z k ↔ gAx Z k) ∧ xg Z 40 k = xg Z 10 k := by
  have e1 := (h.2.1.1.2 k k0 k1).1
  have e2 := (h.2.1.2.1.2 k k0 k1).1
  have e3 := (m.1 k k0 k1).2.1
  have e4 := m.2 k k0 k1
  have e : xg Z 40 k = xg Z 10 k := e1.trans e2.symm
  refine ⟨?_, ?_, e⟩
  · unfold mVa cVa; rw [e, e4]
  · unfold mAx gAx; rw [e, e3, e4]
theorem mk_n (h : Rel Z K A) : ∃ n : Nat, (n : Int) = A.1 ∧ n ≤ 36 ∧ (xg Z 33 12).toNat = n ∧ xg Z 33 12 = A.1 ∧ xg Z 9 9 = A.1 := by
  have h0 := h.2.1.2.2.1.1
  have h36 := h.2.1.2.2.1.2.1
  have e := h.2.1.1.1
  exact ⟨A.1.toNat, by omega, by omega, by rw [e], e, h.2.1.2.1.1⟩
theorem tot_x {f g : Int → Int} {n : Nat} (h36 : n ≤ 36) (he : ∀ x : Int, 0 ≤ x → x < (n : Int) → f x = g x) (hz : ∀ x : Int, (n : Int) ≤ x → x < 36 → g x = 0) : tot f n 0 = tot g 36 0 := by
  rw [show 36 = n + (36 - n) by omega, tot_app, tot_0 (36 - n) (0 + n) (fun x x0 x1 => hz x (by omega) (by omega)), tot_e n 0 (fun x x0 x1 => he x x0 (by omega))]
  omega
theorem pick_x {f g : Int → Int} {n : Nat} (h36 : n ≤ 36) (he : ∀ x : Int, 0 ≤ x → x < (n : Int) → f x = g x) (hz : ∀ x : Int, (n : Int) ≤ x → x < 36 → g x = 0) {i : Int} (i0 : 0 ≤ i) (i1 : i < tot g 36 0) : pick f n 0 i = pick g 36 0 i := by
  have e := tot_x h36 he hz
  rw [pick_e n 0 i (fun x x0 x1 => he x x0 (by omega)), show 36 = n + (36 - n) by omega, pick_app n (36 - n) 0 i i0 (by
    rw [← tot_e (f := f) n 0 (fun x x0 x1 => he x x0 (by omega)), e]; exact i1)]
theorem mk_z (F : Fm Z A) {x : Int} (x0 : A.1 ≤ x) (x1 : x < 36) : ¬ cVa Z x ∧ ¬ gAx Z x := ⟨fun z => z.1 (F.2.2.1 x x0 x1), fun z => z.1 (F.2.2.1 x x0 x1)⟩
theorem mk_pl (h : Rel Z K A) (m : Mk Z A) (F : Fm Z A) {k : Int} (k0 : 0 ≤ k) (k1 : k < A.1) : mPl Z k = cPl Z k := by
  obtain ⟨n, n1, n2, n3, n4, n5⟩ := mk_n h
  obtain ⟨v1, v2, v3⟩ := mk_va h m k0 k1
  unfold mPl cPl
  simp only [v1, v2]
  have : tot (mPf Z k) (xg Z 33 12).toNat 0 = tot (cPf Z k) 36 0 := by
    rw [n3]
    refine tot_x n2 (fun x x0 x1 => ?_) (fun x x0 x1 => ?_)
    · obtain ⟨w1, w2, w3⟩ := mk_va h m x0 (show x < A.1 by omega)
      unfold mPf cPf
      simp only [v1, w1, w2]
    · obtain ⟨z1, z2⟩ := mk_z F (show A.1 ≤ x by omega) x1
      unfold cPf
      rw [if_neg (by rintro (y | y); exact z1 y.2.1; exact y.2.elim z1 (fun t => z2 t.1))]
  rw [this]
theorem mk_co (h : Rel Z K A) (m : Mk Z A) (F : Fm Z A) : mCo Z (xg Z 33 12).toNat 0 0 = xg Z 25 10 := by
  obtain ⟨n, n1, n2, n3, n4, n5⟩ := mk_n h
  rw [mCo_t, n3, F.2.2.2.1.2, Int.zero_add]
  refine tot_x n2 (fun x x0 x1 => ?_) (fun x x0 x1 => ?_)
  · obtain ⟨w1, w2, w3⟩ := mk_va h m x0 (show x < A.1 by omega)
    unfold mCf cCf
    simp only [w1, w2]
  · obtain ⟨z1, z2⟩ := mk_z F (show A.1 ≤ x by omega) x1
    unfold cCf
    rw [if_neg (fun y => y.elim z1 z2)]
theorem mk_fr (h : Rel Z K A) {q : Int} (q0 : 0 ≤ q) (q1 : q < 6) : mFr0 Z 0 q = cFe Z 1 q ∧ mFr0 Z 1 q = cFe Z 0 q ∧ mFr0 Z 2 q = 0 := by
  have e := (h.2.2.1.2.2.2.2 q q0 q1).1
  have b := h.2.2.1.1.2.2.2.2.2.1 q q0 q1
  unfold mFr0 cFe
  rw [e]
  rcases b with b | b <;> rw [b] <;> decide
theorem mk_fa (h : Rel Z K A) (m : Mk Z A) {k : Int} (k0 : 0 ≤ k) (k1 : k < A.1) : mFa Z 0 k = 0 ∧ mFa Z 1 k = cFa Z 0 k ∧ mFa Z 2 k = cFa Z 1 k := by
  obtain ⟨v1, v2, v3⟩ := mk_va h m k0 k1
  unfold mFa cFa
  simp only [v2, v3]
  by_cases c : gAx Z k
  · by_cases e : xg Z 10 k = 10
    · simp [c, e]
    · simp [c, e]
  · simp [c]
theorem mk_te (h : Rel Z K A) : mTq Z 0 = cTe Z 1 ∧ mTq Z 1 = cTe Z 0 ∧ mTq Z 2 = 0 := by
  have g2 := h.2.2.1.1.2.1
  have e := h.2.2.1.2.1
  unfold mTq cTe
  rw [e]
  refine ⟨tot_e _ _ (fun x x0 x1 => (mk_fr h x0 (by omega)).1), tot_e _ _ (fun x x0 x1 => (mk_fr h x0 (by omega)).2.1), tot_0 _ _ (fun x x0 x1 => (mk_fr h x0 (by omega)).2.2)⟩
theorem mk_ta (h : Rel Z K A) (m : Mk Z A) (F : Fm Z A) : mTa Z 0 = 0 ∧ mTa Z 1 = cTa Z 0 ∧ mTa Z 2 = cTa Z 1 := by
  obtain ⟨n, n1, n2, n3, n4, n5⟩ := mk_n h
  unfold mTa cTa
  rw [n3]
  have hz : ∀ s x, (n : Int) ≤ x → x < 36 → cFa Z s x = 0 := fun s x x0 x1 => by
    unfold cFa; rw [if_neg (fun y => (mk_z F (show A.1 ≤ x by omega) x1).2 y.1)]
  refine ⟨tot_0 _ _ (fun x x0 x1 => (mk_fa h m x0 (by omega)).1), tot_x n2 (fun x x0 x1 => (mk_fa h m x0 (by omega)).2.1) (hz 0), tot_x n2 (fun x x0 x1 => (mk_fa h m x0 (by omega)).2.2) (hz 1)⟩
theorem mk_rc (h : Rel Z K A) (m : Mk Z A) (F : Fm Z A) : mRc Z 0 = xg Z 29 0 ∧ mRc Z 1 = xg Z 29 1 ∧ mRc Z 2 = xg Z 29 2 ∧ mRc Z 0 + mRc Z 1 + mRc Z 2 = xg Z 25 9 ∧ ∀ c, ¬ c = 0 → ¬ c = 1 → ¬ c = 2 → mRc Z c = 0 := by
  obtain ⟨t1, t2, t3⟩ := mk_te h
  obtain ⟨a1, a2, a3⟩ := mk_ta h m F
  obtain ⟨-, -, -, -, ⟨r1, r2, r3, r4, -⟩, -⟩ := F
  have e : ∀ c, mRc Z c = mTq Z c + mTa Z c := fun c => rfl
  rw [e, e, e, t1, t2, t3, a1, a2, a3, r1, r2, r3, r4]
  refine ⟨by omega, rfl, by omega, by omega, fun c c0 c1 c2 => ?_⟩
  rw [e]
  unfold mTq mTa
  rw [tot_0 _ _ (fun x x0 x1 => by unfold mFr0; rw [if_neg (by split <;> omega)]), tot_0 _ _ (fun x x0 x1 => by unfold mFa; rw [if_neg (fun y => by have := y.2; split at this <;> omega)])]
  rfl
end MK
section SP
variable {sc : Nat × (Nat → Int32)} {d : Nat} {G : xG} {K : xK} {A : aG}
theorem rel_mk0 (h : Rel G K A) : ∃ X : xG, (∀ Q : Option Value → am_H → Prop, xc sc (d + 5) Mm_mark [.ref 33] (xH G K) Q ↔ Q none (xH X K)) ∧ mDn X A ∧ mFm G X ∧ Rel X K A ∧ (¬ xg G 25 11 = 0 → Mk X A) := by
  obtain ⟨r1, r2, r3, r4, r5⟩ := h.2.1
  obtain ⟨X, x1, x2, x3, x4⟩ := sm_mark (sc := sc) (d := d) r1 r3 r4 r5 (mPb_g h.2.2.1)
  refine ⟨X, x1, x2, x3, Rel_s h (Rs_m x3) (fun _ => rfl), fun hs => ⟨x2, fun k k0 k1 => ?_⟩⟩
  have F := h.2.2.2.2.2 hs
  rw [mBs_g h.2.2.1] at x4
  have f26 : xg X 26 = xg G 26 := (Rs_m x3).1 26 (by decide)
  rw [f26]
  exact UFx_u r3 x4 F.2.1 36 k k0 k1 (by have := r3.2.1; omega)
theorem two_column {k : Int} (h : Rel G K A) (hk : xin k) : Two sc (d + 6) MC_column [.ref 2, xI k] Mm_column [.ref 33, xI k] G K pI := by
  obtain ⟨X, x1, x2, x3, x4, x5⟩ := rel_mk0 (sc := sc) (d := d) h
  obtain ⟨n, n1, n2, n3, n4, n5⟩ := mk_n h
  obtain ⟨n', m1, m2, m3, m4, m5⟩ := mk_n x4
  have es : xg G 33 34 = xg G 25 11 := h.2.2.2.2.1
  by_cases hc : (0 ≤ k ∧ k < A.1) ∧ ¬ xg G 25 11 = 0
  · obtain ⟨⟨k0, k1⟩, hs⟩ := hc
    have F := h.2.2.2.2.2 hs
    have sX : xg X 25 = xg G 25 := (Rs_m x3).1 25 (by decide)
    have FX := x4.2.2.2.2.2 (by rw [sX]; exact hs)
    refine ⟨some (xI (xg G 27 k)), G, K, X, K, A, ⟨_, xin_g _ _ _, rfl⟩, fun Q => ?_, fun Q => ?_, x4⟩
    · rw [sC_column hk (by omega), n5, if_pos ⟨hs, k0, k1⟩]
    · rw [sm_column hk x1 (by omega) (by omega) (by omega), n4, es, if_pos ⟨⟨k0, k1⟩, hs⟩, mk_pl x4 (x5 hs) FX k0 k1, ← FX.2.2.2.1.1 k k0 (by omega), (Rs_m x3).1 27 (by decide)]
  · refine ⟨some (xI (-1)), G, K, G, K, A, ⟨_, ⟨by decide, by decide⟩, rfl⟩, fun Q => ?_, fun Q => ?_, h⟩
    · rw [sC_column hk (by omega), n5, if_neg (fun z => hc ⟨⟨z.2.1, z.2.2⟩, z.1⟩)]
    · rw [sm_column hk x1 (by omega) (by omega) (by omega), n4, es, if_neg hc]
theorem two_rows {c : Int} (h : Rel G K A) (hc : xin c) : Two sc (d + 6) MC_rows [.ref 2, xI c] Mm_rows [.ref 33, xI c] G K pI := by
  obtain ⟨X, x1, x2, x3, x4, x5⟩ := rel_mk0 (sc := sc) (d := d) h
  obtain ⟨n', m1, m2, m3, m4, m5⟩ := mk_n x4
  have es : xg G 33 34 = xg G 25 11 := h.2.2.2.2.1
  have e30 : xg X 33 30 = xg X 21 3 := x4.2.2.1.2.1
  have g1 := x4.2.2.1.1.1
  have g2 := x4.2.2.1.1.2.1
  by_cases hs : xg G 25 11 = 0
  · refine ⟨some (xI 0), G, K, G, K, A, ⟨_, xin_0, rfl⟩, fun Q => ?_, fun Q => ?_, h⟩
    · rw [sC_rows hc, if_neg (fun z => z.1 hs)]
    · rw [sm_rows hc x1 (by omega) (by omega) (by omega) (by omega), es, if_pos hs]
  · have sX : xg X 25 = xg G 25 := (Rs_m x3).1 25 (by decide)
    have s29 : xg X 29 = xg G 29 := (Rs_m x3).1 29 (by decide)
    have FX := x4.2.2.2.2.2 (by rw [sX]; exact hs)
    obtain ⟨r1, r2, r3, r4, r5⟩ := mk_rc x4 (x5 hs) FX
    refine ⟨some (xI (if ¬ xg G 25 11 = 0 ∧ 0 ≤ c ∧ c < 3 then xg G 29 c else 0)), G, K, X, K, A, ⟨_, ?_, rfl⟩, fun Q => sC_rows hc, fun Q => ?_, x4⟩
    · split
      · exact xin_g _ _ _
      · exact xin_0
    · rw [sm_rows hc x1 (by omega) (by omega) (by omega) (by omega), es, if_neg hs]
      have : mRc X c = if ¬ xg G 25 11 = 0 ∧ 0 ≤ c ∧ c < 3 then xg G 29 c else 0 := by
        by_cases hcc : 0 ≤ c ∧ c < 3
        · rw [if_pos ⟨hs, hcc⟩]
          rcases (show c = 0 ∨ c = 1 ∨ c = 2 by omega) with rfl | rfl | rfl
          · rw [r1, s29]
          · rw [r2, s29]
          · rw [r3, s29]
        · rw [if_neg (fun z => hcc z.2)]
          exact r5 c (by omega) (by omega) (by omega)
      rw [this]
end SP
