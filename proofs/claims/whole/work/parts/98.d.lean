/-! calls of both: read -/
theorem Fm_pre {G G' : xG} {A B : aG} (hA : aOk A) (hp : aPre A B) (hB : B.1 ≤ 36) (hb : ∀ x, gBs G x → x < A.1) (h : Fm G A) (e : ∀ a : Nat, (21 ≤ a ∧ a ≤ 31) → xg G' a = xg G a) (ek : ∀ j, 0 ≤ j → j < A.1 → xg G' 10 j = xg G 10 j ∧ xg G' 15 j = xg G 15 j ∧ xg G' 58 j = xg G 58 j) : Fm G' B := by
  obtain ⟨h1, h2, h3, ⟨h4, h5⟩, ⟨c1, c2, c3, c4, c5, c6, c7, c8⟩, h7⟩ := h
  have f26 := e 26 (by decide)
  have f21 := e 21 (by decide)
  have f22 := e 22 (by decide)
  have va : ∀ k, 0 ≤ k → k < 36 → (cVa G' k ↔ cVa G k) := by
    intro k k0 k1
    unfold cVa
    rw [f26]
    by_cases hk : k < A.1
    · rw [(ek k k0 hk).1]
    · have := h3 k (by omega) k1
      constructor
      · intro z; exact absurd this z.1
      · intro z; exact absurd this z.1
  have ax : ∀ k, 0 ≤ k → k < 36 → (gAx G' k ↔ gAx G k) := by
    intro k k0 k1
    unfold gAx
    rw [f26]
    by_cases hk : k < A.1
    · rw [(ek k k0 hk).1, (ek k k0 hk).2.1]
    · have := h3 k (by omega) k1
      constructor
      · intro z; exact absurd this z.1
      · intro z; exact absurd this z.1
  have t1 : ∀ k, 0 ≤ k → k < 36 → tot (cPf G' k) 36 0 = tot (cPf G k) 36 0 := fun k k0 k1 => tot_e 36 0 (fun x x0 x1 => by unfold cPf; simp only [va k k0 k1, va x x0 (show x < 36 by omega), ax x x0 (show x < 36 by omega)])
  have t2 : tot (cCf G') 36 0 = tot (cCf G) 36 0 := tot_e 36 0 (fun x x0 x1 => by unfold cCf; simp only [va x x0 (show x < 36 by omega), ax x x0 (show x < 36 by omega)])
  have t3 : cFe G' = cFe G := by funext s q; unfold cFe; rw [f22]
  have t4 : cTe G' = cTe G := by funext s; unfold cTe; rw [t3, f21]
  have t5 : ∀ s x, 0 ≤ x → x < 0 + ((36 : Nat) : Int) → cFa G' s x = cFa G s x := by
    intro s x x0 x1
    have hx := ax x x0 (by omega)
    unfold cFa
    by_cases hk : x < A.1
    · simp only [hx, (ek x x0 hk).1]
    · have : ¬ gAx G x := fun z => z.1 (h3 x (by omega) (by omega))
      rw [if_neg (fun z => this (hx.mp z.1)), if_neg (fun z => this z.1)]
  have t6 : cTa G' = cTa G := by funext s; unfold cTa; exact tot_e 36 0 (fun x x0 x1 => t5 s x x0 x1)
  have t7 : ∀ s i, pick (cFa G' s) 36 0 i = pick (cFa G s) 36 0 i := fun s i => pick_e 36 0 i (fun x x0 x1 => t5 s x x0 x1)
  have t8 : gBs G' = gBs G := by funext x; unfold gBs; rw [f21, e 23 (by decide), e 24 (by decide)]
  refine ⟨by rw [f21]; exact h1, ?_, fun x x0 x1 => by rw [f26]; exact h3 x (by have := hp.1; omega) x1, ⟨fun k k0 k1 => ?_, ?_⟩, ?_, fun k k0 k1 hx => ?_⟩
  · rw [t8, f26]
    exact UFx_pre hA hp h2 (fun x x0 x1 => h3 x x0 (by omega)) hb
  · rw [e 27 (by decide), h4 k k0 k1]
    unfold cPl
    simp only [va k k0 k1, ax k k0 k1, t1 k k0 k1]
  · rw [e 25 (by decide), t2]; exact h5
  · unfold cRows
    rw [t4, t6, t3, f21, e 25 (by decide), e 29 (by decide), e 30 (by decide), e 31 (by decide)]
    simp only [t7]
    exact ⟨c1, c2, c3, c4, c5, c6, c7, c8⟩
  · have hx' := (ax k k0 k1).mp hx
    have hk : k < A.1 := by
      rcases (show k < A.1 ∨ A.1 ≤ k by omega) with z | z
      · exact z
      · exact absurd (h3 k z k1) hx'.1
    rw [e 28 (by decide), (ek k k0 hk).2.2]
    exact h7 k k0 k1 hx'
theorem mLn_cLn {G X : xG} : ∀ (n : Nat) (k : Int), (∀ i, k ≤ i → i < k + n → xg X 34 i = xg G 4 i) → mLn X n k = cLn G n k
  | 0, k, _ => rfl
  | n + 1, k, h => by
    simp only [mLn, cLn]
    rw [h k (Int.le_refl _) (by omega), mLn_cLn n (k + 1) (fun i h0 h1 => h i (by omega) (by omega))]
theorem cLn_len {G : xG} : ∀ (n : Nat) (k : Int), (cLn G n k).length = n
  | 0, k => rfl
  | n + 1, k => by simp only [cLn, List.length_cons, cLn_len n]
theorem gBs_lt {G : xG} {A : aG} (h : gPb G A) (x : Int) (hx : gBs G x) : x < A.1 := by
  obtain ⟨g1, g2, g3, g4, g5, g6, g7⟩ := h
  rcases hx with z | ⟨q, q0, q1, z⟩
  · rw [z]; exact g4
  · have := g7 q q0 q1
    rcases z with z | z <;> omega
theorem gPb_pre {G : xG} {A B : aG} (h : gPb G A) (hp : A.1 ≤ B.1) : gPb G B := by
  obtain ⟨g1, g2, g3, g4, g5, g6, g7⟩ := h
  exact ⟨g1, g2, g3, by omega, g5, g6, fun q q0 q1 => by have := g7 q q0 q1; omega⟩
theorem rPb_pre {G : xG} {A B : aG} (h : rPb G A) (hp : A.1 ≤ B.1) : rPb G B := ⟨gPb_pre h.1 hp, h.2⟩
section SP
variable {sc : Nat × (Nat → Int32)} {d : Nat} {G : xG} {K : xK} {A : aG}
/-- what the class's parser says -/
theorem cl_parse (h : Rel G K A) : (∀ (d : Nat) (Q : Option Value → am_H → Prop), xc sc (d + 100) MR_parseLine [.ref 8] (xH G K) Q ↔ Q (some (xI (if ¬ xg (gPl G) 8 3 = 0 ∨ xg (gPl G) 8 2 < xg (gPl G) 3 1 then xg (gPl G) 8 2 else -1))) (xH (gPl G) K)) ∧ cFr G (gPl G) ∧ (∀ (dg : Int) (na : Nat), ((if ¬ xg (gPl G) 8 3 = 0 ∨ xg (gPl G) 8 2 < xg (gPl G) 3 1 then xg (gPl G) 8 2 else -1) = (rpar (0, dg, na, [], []) (cLs G) 0).1)) ∧ ((if ¬ xg (gPl G) 8 3 = 0 ∨ xg (gPl G) 8 2 < xg (gPl G) 3 1 then xg (gPl G) 8 2 else -1) = -1 → ∃ F : pL, (∀ (dg : Int) (na : Nat), (rpar (0, dg, na, [], []) (cLs G) 0).2 = F) ∧ pwf 1 F ∧ F.length ≤ 20 ∧ pGd F ∧ xg (gPl G) 5 2 = (F.length : Int) ∧ cOp (gPl G) F) ∧ -1 ≤ (if ¬ xg (gPl G) 8 3 = 0 ∨ xg (gPl G) 8 2 < xg (gPl G) 3 1 then xg (gPl G) 8 2 else -1) ∧ (if ¬ xg (gPl G) 8 3 = 0 ∨ xg (gPl G) 8 2 < xg (gPl G) 3 1 then xg (gPl G) 8 2 else -1) ≤ 20 := by
  obtain ⟨⟨⟨l0, l1, l2⟩, l3, l4⟩, -⟩ := h
  rw [l3] at l0 l1 l2
  have l2' : ∀ i, 0 ≤ i → i < xg G 3 1 → 0 ≤ xg G 4 i ∧ xg G 4 i < 65536 := fun i i0 i1 => by rw [← l4 i i0 i1]; exact l2 i i0 i1
  obtain ⟨⟨o1, o2, o3, o4, o5, o6⟩, fr⟩ := cLine l0 l1 l2'
  have hlen : (cLs G).length = (xg G 3 1).toNat := cLn_len _ _
  have e3 : xg (gPl G) 3 1 = xg G 3 1 := fr 3 1 (by decide) (by decide) (by decide) (by decide)
  have hl1 : (pE (pF 21) (cLs G, false, [])).1.length = (xg (gPl G) 3 1 - xg (gPl G) 8 2).toNat := by rw [o2]; exact cLn_len _ _
  obtain ⟨p1, p2, p3, p4, p5, p6⟩ := o1
  have rl := fun dg na => rpar_line (cLs G) (by omega) dg na
  generalize pE (pF 21) (cLs G, false, []) = s at *
  refine ⟨fun d Q => sR_parseLine l0 l1 l2', fr, fun dg na => ?_, fun hp => ?_, ?_, ?_⟩
  · rcases rl dg na with ⟨q1, q2, q3, q4, q5⟩ | ⟨q1, q2, q3⟩
    · rw [q1] at o3
      rw [q2] at hl1
      have o3 : xg (gPl G) 8 3 = 0 := o3
      simp only [List.length_nil] at hl1
      rw [q3, if_neg (by omega)]
    · rw [q3, hl1, hlen]
      by_cases hb : s.2.1 = true
      · rw [hb] at o3
        have o3 : xg (gPl G) 8 3 = 1 := o3
        rw [if_pos (Or.inl (by omega))]
        omega
      · have q1' : ¬ s.1 = [] := by
          rcases q1 with q | q
          · exact absurd q hb
          · exact q
        have : 0 < s.1.length := by
          rcases Nat.eq_zero_or_pos s.1.length with z | z
          · exact absurd (List.eq_nil_of_length_eq_zero z) q1'
          · exact z
        rw [if_pos (Or.inr (by omega))]
        omega
  · refine ⟨s.2.2, fun dg na => ?_, ?_, ?_, o6, o4, o5⟩
    · rcases rl dg na with ⟨q1, q2, q3, q4, q5⟩ | ⟨q1, q2, q3⟩
      · rw [q3]
      · exfalso
        by_cases hb : s.2.1 = true
        · rw [hb] at o3
          have o3 : xg (gPl G) 8 3 = 1 := o3
          rw [if_pos (Or.inl (by omega))] at hp
          omega
        · have q1' : ¬ s.1 = [] := by
            rcases q1 with q | q
            · exact absurd q hb
            · exact q
          have : 0 < s.1.length := by
            rcases Nat.eq_zero_or_pos s.1.length with z | z
            · exact absurd (List.eq_nil_of_length_eq_zero z) q1'
            · exact z
          rw [if_pos (Or.inr (by omega))] at hp
          omega
    · rcases rl 0 0 with ⟨q1, q2, q3, q4, q5⟩ | ⟨q1, q2, q3⟩
      · exact q4
      · exfalso
        by_cases hb : s.2.1 = true
        · rw [hb] at o3
          have o3 : xg (gPl G) 8 3 = 1 := o3
          rw [if_pos (Or.inl (by omega))] at hp
          omega
        · have q1' : ¬ s.1 = [] := by
            rcases q1 with q | q
            · exact absurd q hb
            · exact q
          have : 0 < s.1.length := by
            rcases Nat.eq_zero_or_pos s.1.length with z | z
            · exact absurd (List.eq_nil_of_length_eq_zero z) q1'
            · exact z
          rw [if_pos (Or.inr (by omega))] at hp
          omega
    · omega
  · split <;> omega
  · split <;> omega
theorem two_read (h : Rel G K A) : Two sc (d + 101) MC_read [.ref 2] Mm_read [.ref 33] G K pI := by
  obtain ⟨c1, c2, c3, c4, c5, c6⟩ := cl_parse (sc := sc) h
  have hX := Rel_s h (Rs_c c2) (fun _ => rfl)
  generalize (if ¬ xg (gPl G) 8 3 = 0 ∨ xg (gPl G) 8 2 < xg (gPl G) 3 1 then xg (gPl G) 8 2 else -1) = p at *
  have hls : ∀ Y : xG, xg Y 33 1 = xg G 33 1 → (∀ i, xg Y 34 i = xg G 34 i) → mLs Y = cLs G := by
    intro Y y1 y2
    obtain ⟨⟨⟨l0, l1, l2⟩, l3, l4⟩, -⟩ := h
    unfold mLs cLs
    rw [y1, l3]
    exact mLn_cLn _ _ (fun i i0 i1 => by rw [y2]; exact l4 i i0 (by omega))
  generalize hXg : gPl G = X at *
  have px : xin p := ⟨by omega, by omega⟩
  by_cases hp : p = -1
  · subst hp
    obtain ⟨F, f1, f2, f3, f4, f5, f6⟩ := c4 rfl
    have hX' := hX
    obtain ⟨x1, ⟨r1, r2, r3, r4, r5⟩, x3, x4⟩ := hX
    have hn0 := r3.1
    have hn := r3.2.1
    have e9 : xg X 9 9 = A.1 := r2.1
    have hph : phg F 0 = some 1 := f2 0
    -- the class builds
    have hR0 : cRep (xp X 19 2 0) A := cRep_c r2 (by decide)
    obtain ⟨b1, b2, b3, b4⟩ := cBd (bf := A.1) (L := xg X 5 2) hn0 F 0 [] 0 (xp X 19 2 0) A hR0 r3 (fun v hv => by simp at hv) trivial (by rw [xg_self xin_0]; rfl) (by simpa using f3) f4 ⟨1, hph⟩ (Int.le_refl _) (by decide) (by decide) (by rw [xg_cell (by decide)]) (by decide) (fun j q hq => by
      rw [xg_cell (by decide), xg_cell (by decide), show (0 : Int) + (j : Int) = (j : Int) by omega]
      exact f6 j q hq)
    have ab : aOk (aBd A.1 F [] 0 A).2 ∧ aPre A (aBd A.1 F [] 0 A).2 ∧ -102 ≤ (aBd A.1 F [] 0 A).1 ∧ (aBd A.1 F [] 0 A).1 < 36 ∧ (0 ≤ (aBd A.1 F [] 0 A).1 → (aBd A.1 F [] 0 A).1 < (aBd A.1 F [] 0 A).2.1) := by
      cases F with
      | nil => exact absurd hph (by decide)
      | cons q F => exact aBd_ok (bf := A.1) (q :: F) [] (-1) A r3 (fun v hv => by simp at hv) f4 ⟨1, hph⟩ (Int.le_refl _) (by decide) (by omega)
    obtain ⟨a1, a2, a3, a4, a5⟩ := ab
    have hbd : ∀ Q : Option Value → am_H → Prop, xc sc (d + 96 + 4) MB_build [.ref 19, .ref 5] (xH X K) Q ↔ Q (some (xI (aBd A.1 F [] 0 A).1)) (xH (gBd A.1 F.length 0 0 (xp X 19 2 0)).2 K) := by
      intro Q
      have e5 : (xg X 5 2).toNat = F.length := by rw [f5]; simp
      have := sB_build (sc := sc) (d := d + 96) (K := K) (Q := Q) (G := X) (by rw [f5]; omega) (by rw [f5]; omega) (by rw [e9, e5]; exact b1)
      rw [e9, e5, b2] at this
      exact this
    have hbm := fun (X2 : xG) (K2 : xK) (hR2 : mRep X2 K2 A) (h8 : xg X2 33 8 = (F.length : Int)) (hO : mOp X2 F) => sm_build (sc := sc) (d := d + 98) (K := K2) (G := X2) (bf := A.1) hR2 r3 f3 f4 hph hn0 (Int.le_refl _) h8 hO
    generalize (gBd A.1 F.length 0 0 (xp X 19 2 0)).2 = Y at *
    generalize hB : aBd A.1 F [] 0 A = RB at *
    obtain ⟨nd, B⟩ := RB
    have a1 : aOk B := a1
    have a2 : aPre A B := a2
    have a3 : -102 ≤ nd := a3
    have a4 : nd < 36 := a4
    have b3 : cRep Y B := b3
    have yc : ∀ (c : Nat) (j : Int), ¬ (9 ≤ c ∧ c ≤ 13) → ¬ c = 19 → ¬ c = 20 → xg Y c j = xg X c j := fun c j q1 q2 q3 => by rw [b4 c j q1 q2 q3, xg_cell q2]
    have yB : ∀ j, 0 ≤ j → j < A.1 → B.2 j = A.2 j := a2.2
    have nx : xin nd := ⟨by omega, by omega⟩
    have hle := a2.1
    have hB36 := a1.2.1
    have yU : cUp Y B A.1 := by
      intro j j0 j1
      have e14 : xg Y 14 = xg X 14 := funext (fun i => yc 14 i (by decide) (by decide) (by decide))
      have e15 : xg Y 15 = xg X 15 := funext (fun i => yc 15 i (by decide) (by decide) (by decide))
      have e16 : xg Y 16 = xg X 16 := funext (fun i => yc 16 i (by decide) (by decide) (by decide))
      have e17 : xg Y 17 = xg X 17 := funext (fun i => yc 17 i (by decide) (by decide) (by decide))
      have e18 : xg Y 18 = xg X 18 := funext (fun i => yc 18 i (by decide) (by decide) (by decide))
      unfold aL aV
      rw [yB j j0 j1, e14, e15, e16, e17, e18]
      exact ⟨r4.1 j j0 j1, r4.2 j j0 j1⟩
    obtain ⟨s1, s2, s3, s4, s5⟩ := ds_all a1 (B.1 - A.1).toNat A.1 Y b3 yU hn0 (by omega)
    have e9Y : xg Y 9 9 = B.1 := b3.1
    have hcl : ∀ Q : Option Value → am_H → Prop, xc sc (d + 101) MC_read [.ref 2] (xH G K) Q ↔ (if nd < 0 then Q (some (xI nd)) (xH (xp Y 9 9 A.1) K) else Q (some (xI nd)) (xH (xp (gDl (B.1 - A.1).toNat A.1 Y) 3 1 0) K)) := by
      intro Q
      rw [sC_read_1 (d := d + 100) (p := -1) (c1 d) px]
      have := sC_read_2 (sc := sc) (d := d + 95) (K := K) (Q := Q) (G := X) (Y := Y) (nd := nd) (u := some (xI (-1))) hbd nx (by rw [e9]; exact hn0) (by rw [e9, e9Y]; exact hle) (by rw [e9Y]; exact hB36) (fun _ => by rw [e9, e9Y]; exact s1)
      rw [e9, e9Y] at this
      constructor
      · intro z; exact this.mp (z.1 rfl)
      · intro z; exact ⟨fun _ => this.mpr z, fun q => absurd rfl q⟩
    -- the reference, on any state whose cells of it are as before
    have hrf : ∀ Z : xG, (∀ c : Nat, 33 ≤ c → xg Z c = xg X c) → ∃ (G2 G3 : xG) (K3 : xK), (∀ Q : Option Value → am_H → Prop, xc sc (d + 101) Mm_read [.ref 33] (xH Z K) Q ↔ (if nd < 0 then Q (some (xI nd)) (xH (xp G3 33 12 A.1) K3) else Q (some (xI nd)) (xH (xp G3 33 1 0) K3))) ∧ mRep G3 K3 B ∧ mFr Z G2 ∧ mFb G2 G3 ∧ mGv G2 G3 A.1 B.1 := by
      intro Z hZ
      have z1 : xg Z 33 1 = xg G 33 1 := by rw [hZ 33 (by decide), c2 33 1 (by decide) (by decide) (by decide) (by decide)]
      have z2 : ∀ i, xg Z 34 i = xg G 34 i := fun i => by rw [hZ 34 (by decide), c2 34 i (by decide) (by decide) (by decide) (by decide)]
      have hLi : mLi Z := by
        have := h.1.1
        unfold mLi at this ⊢
        rw [z1]
        simp only [z2]
        exact this
      obtain ⟨G2, dg, na, t1, t2, t3⟩ := sm_parse (sc := sc) (d := d + 95) (K := K) hLi
      rw [hls Z z1 z2, ← c3 dg na] at t1
      rw [hls Z z1 z2, ← c3 dg na, f1 dg na] at t3
      obtain ⟨t4, t5⟩ := t3 rfl
      have zr : mRep Z K A := by
        unfold mRep
        rw [hZ 33 (by decide), hZ 40 (by decide), hZ 41 (by decide), hZ 42 (by decide)]
        exact r1
      have hR2 : mRep G2 K A := by
        have q := fun (c : Nat) (j : Int) (j0 : 0 ≤ j) (q1 : ¬ (c = 33 ∧ (j = 2 ∨ j = 3 ∨ j = 4 ∨ j = 5 ∨ j = 8))) (q2 : ¬ (35 ≤ c ∧ c ≤ 38)) => t2 c j j0 q1 (by omega) (by omega) (by omega) (by omega)
        refine ⟨by rw [q 33 12 (by decide) (by decide) (by decide)]; exact zr.1, fun j j0 j1 => ?_⟩
        rw [q 40 j j0 (by omega) (by decide), q 41 j j0 (by omega) (by decide), q 42 _ (by omega) (by omega) (by decide), q 42 _ (by omega) (by omega) (by decide), q 42 _ (by omega) (by omega) (by decide)]
        exact zr.2 j j0 j1
      obtain ⟨G3, K3, v1, v2, v3, v4, v5⟩ := hbm G2 K hR2 t4 t5
      have e12 : xg G2 33 12 = A.1 := hR2.1
      refine ⟨G2, G3, K3, fun Q => ?_, v2, t2, v3, v5⟩
      rw [sm_read_2 (d := d + 100) (nd := nd) (Y := G3) (K' := K3) t1 (fun Q => by rw [e12]; exact v1 Q) nx, e12]
    by_cases hnd : nd < 0
    · simp only [if_pos hnd] at hcl hrf
      have hZ : ∀ c : Nat, 33 ≤ c → xg (xp Y 9 9 A.1) c = xg X c := fun c hc => by rw [xp_f (by omega)]; exact funext (fun j => yc c j (by omega) (by omega) (by omega))
      obtain ⟨G2, G3, K3, v1, v2, v3, v4, v5⟩ := hrf _ hZ
      refine ⟨some (xI nd), xp Y 9 9 A.1, K, xp G3 33 12 A.1, K3, A, ⟨nd, nx, rfl⟩, hcl, v1, ?_⟩
      have w : ∀ (c : Nat) (j : Int), 0 ≤ j → ¬ c = 33 → ¬ (35 ≤ c ∧ c ≤ 42) → ¬ c = 44 → ¬ c = 58 → xg (xp G3 33 12 A.1) c j = xg (xp Y 9 9 A.1) c j := fun c j j0 q1 q2 q3 q4 => by
        rw [xg_cell q1, v4 c j j0 (by omega) (by omega) (by omega) (by omega) (by omega) (by omega) (by omega), v3 c j j0 (by omega) (by omega) (by omega) (by omega) (by omega)]
      have w33 : ∀ j, 0 ≤ j → ¬ j = 12 → ¬ (j = 2 ∨ j = 3 ∨ j = 4 ∨ j = 5 ∨ j = 8) → xg (xp G3 33 12 A.1) 33 j = xg X 33 j := fun j j0 q1 q2 => by
        rw [xg_idx (by decide) j0 q1, v4 33 j j0 (by omega) (by decide) (by decide) (by decide) (by decide) (by decide) (by decide), v3 33 j j0 (by omega) (by decide) (by decide) (by decide) (by decide), hZ 33 (by decide)]
      have wX : ∀ c : Nat, ¬ (9 ≤ c ∧ c ≤ 13) → ¬ c = 19 → ¬ c = 20 → ¬ c = 33 → ¬ (35 ≤ c ∧ c ≤ 42) → ¬ c = 44 → ¬ c = 58 → xg (xp G3 33 12 A.1) c = xg X c := fun c q1 q2 q3 q4 q5 q6 q7 => xg_nn (fun j j0 => by rw [w c j j0 q4 q5 q6 q7, xg_cell (by omega), yc c j q1 q2 q3])
      have kx : xin A.1 := ⟨by omega, by omega⟩
      have gv : ∀ j, 0 ≤ j → j < A.1 → xg (xp G3 33 12 A.1) 44 j = xg X 44 j ∧ xg (xp G3 33 12 A.1) 58 j = xg X 58 j := fun j j0 j1 => by
        rw [xg_cell (by decide), xg_cell (by decide), (v5.1 j j0 j1).1, (v5.1 j j0 j1).2, v3 44 j j0 (by omega) (by decide) (by decide) (by decide) (by decide), v3 58 j j0 (by omega) (by decide) (by decide) (by decide) (by decide), hZ 44 (by decide), hZ 58 (by decide)]
        exact ⟨rfl, rfl⟩
      have w10 : ∀ j, 0 ≤ j → j < A.1 → xg (xp G3 33 12 A.1) 10 j = (A.2 j).1 ∧ xg (xp G3 33 12 A.1) 11 j = (A.2 j).2.1 ∧ xg (xp G3 33 12 A.1) 12 (3 * j) = (A.2 j).2.2.1 ∧ xg (xp G3 33 12 A.1) 12 (3 * j + 1) = (A.2 j).2.2.2.1 ∧ xg (xp G3 33 12 A.1) 12 (3 * j + 2) = (A.2 j).2.2.2.2.1 ∧ xg (xp G3 33 12 A.1) 13 j = (A.2 j).2.2.2.2.2 := fun j j0 j1 => by
        have := b3.2 j j0 (by omega)
        rw [yB j j0 j1] at this
        rw [w 10 j j0 (by decide) (by decide) (by decide) (by decide), w 11 j j0 (by decide) (by decide) (by decide) (by decide), w 12 _ (by omega) (by decide) (by decide) (by decide) (by decide), w 12 _ (by omega) (by decide) (by decide) (by decide) (by decide), w 12 _ (by omega) (by decide) (by decide) (by decide) (by decide), w 13 j j0 (by decide) (by decide) (by decide) (by decide), xg_cell (by decide), xg_cell (by decide), xg_cell (by decide), xg_cell (by decide), xg_cell (by decide), xg_cell (by decide)]
        exact this
      refine ⟨rLn_s x1 (by rw [wX 3 (by decide) (by decide) (by decide) (by decide) (by decide) (by decide) (by decide)]) (wX 4 (by decide) (by decide) (by decide) (by decide) (by decide) (by decide) (by decide)) (wX 34 (by decide) (by decide) (by decide) (by decide) (by decide) (by decide) (by decide)) (w33 1 (by decide) (by decide) (by decide)), ⟨⟨xg_self kx, fun j j0 j1 => ?_⟩, ⟨?_, w10⟩, r3, ?_, fun j j0 j1 hi => ?_⟩, rPb_s x3 (fun a ha => wX a (by omega) (by omega) (by omega) (by omega) (by omega) (by omega) (by omega)) (w33 28 (by decide) (by decide) (by decide)) (w33 29 (by decide) (by decide) (by decide)) (w33 30 (by decide) (by decide) (by decide)), ?_, ?_, ?_⟩
      · have := v2.2 j j0 (by omega)
        rw [yB j j0 j1] at this
        rw [xg_cell (by decide), xg_cell (by decide), xg_cell (by decide), xg_cell (by decide), xg_cell (by decide)]
        exact this
      · rw [w 9 9 (by decide) (by decide) (by decide) (by decide) (by decide), xg_self kx]
      · exact cAt_w r4 (fun a j ha => by rw [wX a (by omega) (by omega) (by omega) (by omega) (by omega) (by omega) (by omega)])
      · rw [(gv j j0 j1).1, wX 18 (by decide) (by decide) (by decide) (by decide) (by decide) (by decide) (by decide)]
        exact r5 j j0 j1 hi
      · rw [wX 25 (by decide) (by decide) (by decide) (by decide) (by decide) (by decide) (by decide)]; exact x4.1
      · rw [w33 34 (by decide) (by decide) (by decide), wX 25 (by decide) (by decide) (by decide) (by decide) (by decide) (by decide) (by decide)]; exact x4.2.1
      · rw [wX 25 (by decide) (by decide) (by decide) (by decide) (by decide) (by decide) (by decide)]
        intro z
        refine Fm_pre r3 aPre_rfl hn (gBs_lt x3.1) (x4.2.2 z) (fun a ha => wX a (by omega) (by omega) (by omega) (by omega) (by omega) (by omega) (by omega)) (fun j j0 j1 => ⟨?_, ?_, (gv j j0 j1).2⟩)
        · rw [(w10 j j0 j1).1, (r2.2 j j0 j1).1]
        · rw [wX 15 (by decide) (by decide) (by decide) (by decide) (by decide) (by decide) (by decide)]
    · simp only [if_neg hnd] at hcl hrf
      have gc : ∀ (c : Nat) (j : Int), ¬ (9 ≤ c ∧ c ≤ 20) → ¬ c = 3 → xg (xp (gDl (B.1 - A.1).toNat A.1 Y) 3 1 0) c j = xg X c j := fun c j q1 q2 => by rw [xg_cell q2, s3 c j (by omega), yc c j (by omega) (by omega) (by omega)]
      have hZ : ∀ c : Nat, 33 ≤ c → xg (xp (gDl (B.1 - A.1).toNat A.1 Y) 3 1 0) c = xg X c := fun c hc => funext (fun j => gc c j (by omega) (by omega))
      obtain ⟨G2, G3, K3, v1, v2, v3, v4, v5⟩ := hrf _ hZ
      generalize hZg : xp (gDl (B.1 - A.1).toNat A.1 Y) 3 1 0 = Z at *
      have zc : ∀ (c : Nat) (j : Int), ¬ c = 3 → xg Z c j = xg (gDl (B.1 - A.1).toNat A.1 Y) c j := fun c j q => by rw [← hZg, xg_cell q]
      have z3 : xg Z 3 1 = 0 := by rw [← hZg, xg_self xin_0]
      refine ⟨some (xI nd), Z, K, xp G3 33 1 0, K3, B, ⟨nd, nx, rfl⟩, hcl, v1, ?_⟩
      have w : ∀ (c : Nat) (j : Int), 0 ≤ j → ¬ c = 33 → ¬ (35 ≤ c ∧ c ≤ 42) → ¬ c = 44 → ¬ c = 58 → xg (xp G3 33 1 0) c j = xg Z c j := fun c j j0 q1 q2 q3 q4 => by
        rw [xg_cell q1, v4 c j j0 (by omega) (by omega) (by omega) (by omega) (by omega) (by omega) (by omega), v3 c j j0 (by omega) (by omega) (by omega) (by omega) (by omega)]
      have w33 : ∀ j, 0 ≤ j → ¬ j = 1 → ¬ j = 12 → ¬ (j = 2 ∨ j = 3 ∨ j = 4 ∨ j = 5 ∨ j = 8) → xg (xp G3 33 1 0) 33 j = xg X 33 j := fun j j0 q0 q1 q2 => by
        rw [xg_idx (by decide) j0 q0, v4 33 j j0 (by omega) (by decide) (by decide) (by decide) (by decide) (by decide) (by decide), v3 33 j j0 (by omega) (by decide) (by decide) (by decide) (by decide), hZ 33 (by decide)]
      have wX : ∀ c : Nat, ¬ c = 3 → ¬ (9 ≤ c ∧ c ≤ 20) → ¬ c = 33 → ¬ (35 ≤ c ∧ c ≤ 42) → ¬ c = 44 → ¬ c = 58 → xg (xp G3 33 1 0) c = xg X c := fun c q1 q2 q4 q5 q6 q7 => xg_nn (fun j j0 => by rw [w c j j0 q4 q5 q6 q7, gc c j q2 q1])
      have wD : ∀ c : Nat, (9 ≤ c ∧ c ≤ 18) → xg (xp G3 33 1 0) c = xg (gDl (B.1 - A.1).toNat A.1 Y) c := fun c hc => xg_nn (fun j j0 => by rw [w c j j0 (by omega) (by omega) (by omega) (by omega), zc c j (by omega)])
      have gv : ∀ j, 0 ≤ j → j < A.1 → xg (xp G3 33 1 0) 44 j = xg X 44 j ∧ xg (xp G3 33 1 0) 58 j = xg X 58 j := fun j j0 j1 => by
        rw [xg_cell (by decide), xg_cell (by decide), (v5.1 j j0 j1).1, (v5.1 j j0 j1).2, v3 44 j j0 (by omega) (by decide) (by decide) (by decide) (by decide), v3 58 j j0 (by omega) (by decide) (by decide) (by decide) (by decide), hZ 44 (by decide), hZ 58 (by decide)]
        exact ⟨rfl, rfl⟩
      have l1 : xg (xp G3 33 1 0) 33 1 = 0 := xg_self xin_0
      have l3 : xg (xp G3 33 1 0) 3 1 = 0 := by rw [w 3 1 (by decide) (by decide) (by decide) (by decide) (by decide)]; exact z3
      refine ⟨⟨⟨by rw [l1]; decide, by rw [l1]; decide, fun i i0 i1 => by rw [l1] at i1; omega⟩, by rw [l1, l3], fun i i0 i1 => by rw [l3] at i1; omega⟩, ⟨⟨?_, fun j j0 j1 => ?_⟩, ⟨?_, fun j j0 j1 => ?_⟩, a1, ?_, fun j j0 j1 hi => ?_⟩, rPb_pre (rPb_s x3 (fun a ha => wX a (by omega) (by omega) (by omega) (by omega) (by omega) (by omega)) (w33 28 (by decide) (by decide) (by decide) (by decide)) (w33 29 (by decide) (by decide) (by decide) (by decide)) (w33 30 (by decide) (by decide) (by decide) (by decide))) hle, ?_, ?_, ?_⟩
      · rw [xg_idx (by decide) (by decide) (by decide)]; exact v2.1
      · rw [xg_cell (by decide), xg_cell (by decide), xg_cell (by decide), xg_cell (by decide), xg_cell (by decide)]
        exact v2.2 j j0 j1
      · rw [wD 9 (by decide), s3 9 9 (by decide)]; exact b3.1
      · rw [wD 10 (by decide), wD 11 (by decide), wD 12 (by decide), wD 13 (by decide), s3 10 _ (by decide), s3 11 _ (by decide), s3 12 _ (by decide), s3 12 _ (by decide), s3 12 _ (by decide), s3 13 _ (by decide)]
        exact b3.2 j j0 j1
      · unfold cAt
        rw [wD 14 (by decide), wD 15 (by decide), wD 16 (by decide), wD 17 (by decide), wD 18 (by decide)]
        exact ⟨fun j j0 j1 => (s2 j j0 j1).1, fun j j0 j1 => (s2 j j0 j1).2⟩
      · rw [wD 18 (by decide)]
        by_cases hj : j < A.1
        · rw [(gv j j0 hj).1, s4 18 j j0 hj, yc 18 j (by decide) (by decide) (by decide)]
          rw [yB j j0 hj] at hi
          exact r5 j j0 hj hi
        · rw [s5 j (by omega) j1 hi, xg_cell (by decide)]
          exact (v5.2 j j0 (by omega) j1).1
      · rw [wX 25 (by decide) (by decide) (by decide) (by decide) (by decide) (by decide)]; exact x4.1
      · rw [w33 34 (by decide) (by decide) (by decide) (by decide), wX 25 (by decide) (by decide) (by decide) (by decide) (by decide) (by decide)]; exact x4.2.1
      · rw [wX 25 (by decide) (by decide) (by decide) (by decide) (by decide) (by decide)]
        intro z
        refine Fm_pre r3 a2 hB36 (gBs_lt x3.1) (x4.2.2 z) (fun a ha => wX a (by omega) (by omega) (by omega) (by omega) (by omega) (by omega)) (fun j j0 j1 => ⟨?_, ?_, (gv j j0 j1).2⟩)
        · rw [wD 10 (by decide), s3 10 j (by decide), (b3.2 j j0 (by omega)).1, yB j j0 j1, (r2.2 j j0 j1).1]
        · rw [wD 15 (by decide), s4 15 j j0 j1, yc 15 j (by decide) (by decide) (by decide)]
  · -- the line is no expression
    have hLi : mLi X := hX.1.1
    obtain ⟨G2, dg, na, t1, t2, t3⟩ := sm_parse (sc := sc) (d := d + 95) (K := K) hLi
    rw [hls X (c2 33 1 (by decide) (by decide) (by decide) (by decide)) (fun i => c2 34 i (by decide) (by decide) (by decide) (by decide)), ← c3 dg na] at t1
    refine ⟨some (xI (-1 - p)), X, K, G2, K, A, ⟨-1 - p, ⟨by omega, by omega⟩, rfl⟩, fun Q => ?_, fun Q => ?_, Rel_s hX (Rs_p t2) (fun _ => rfl)⟩
    · rw [sC_read_1 (d := d + 100) (p := p) (c1 d) px]
      constructor
      · intro z; exact z.2 hp
      · intro z; exact ⟨fun q => absurd q hp, fun _ => z⟩
    · exact sm_read_1 (d := d + 100) t1 px (by omega)
end SP
