/-! calls of both: entry, cost -/
theorem pI_any {v : Int} : pI (some (xI v)) := ⟨(Int32.ofInt v).toInt, xin_of _, by show some (Value.int (Int32.ofInt v)) = some (Value.int (Int32.ofInt (Int32.ofInt v).toInt)); rw [Int32.ofInt_toInt]⟩
theorem pJ_any {v : Int} : pJ (some (xJ v)) := ⟨(Int64.ofInt v).toInt, xinl_of _, by show some (Value.long (Int64.ofInt v)) = some (Value.long (Int64.ofInt (Int64.ofInt v).toInt)); rw [Int64.ofInt_toInt]⟩
section FX
variable {Z : xG} {K : xK} {A : aG}
theorem RV_s {G X : xG} (h : Rs G X) : RV X = RV G := by
  obtain ⟨e, -⟩ := h
  funext f one r
  unfold RV rvX rvQ rvS
  rw [e 10 (by decide), e 12 (by decide), e 21 (by decide), e 22 (by decide), e 23 (by decide), e 24 (by decide), e 30 (by decide), e 31 (by decide)]
theorem EX_s {G X : xG} (h : Rs G X) {f : Int → Int} {asp cz n : Int} : EX X A f asp cz n ↔ EX G A f asp cz n := by
  obtain ⟨e, -⟩ := h
  unfold EX exV gEc
  rw [e 10 (by decide), e 15 (by decide), e 18 (by decide), e 26 (by decide), e 27 (by decide), e 28 (by decide)]
theorem gNs_of (h : Rel Z K A) : gNs Z := by
  obtain ⟨-, ⟨r1, r2, r3, r4, r5⟩, -, -⟩ := h
  have e9 : xg Z 9 9 = A.1 := r2.1
  exact ⟨fun k k0 k1 => (gN_of r2 r3 k0 (by omega)).1, by rw [e9]; exact r3.1, by rw [e9]; exact r3.2.1⟩
theorem rows_n (h : Rel Z K A) (F : Fm Z A) : 0 ≤ xg Z 25 9 ∧ xg Z 25 9 ≤ 114 := by
  obtain ⟨tN, t1, t0, a0, a1, ab⟩ := te_N h
  have g2 := h.2.2.1.1.2.1
  have c4 := F.2.2.2.2.1.2.2.2.1
  omega
theorem gRw_of (h : Rel Z K A) (F : Fm Z A) {r : Int} (r0 : -1 ≤ r) (r1 : r < xg Z 25 9) : gRwOk Z r := by
  have h' := h
  obtain ⟨-, ⟨s1, s2, s3, s4, s5⟩, ⟨⟨g1, g2, g3, g4, g5, g6, g7⟩, -⟩, -⟩ := h'
  have hn := s3.2.1
  have rn := rows_n h F
  have u := us_t F h
  refine ⟨r0, by omega, u.1, by omega, fun z0 z1 => ?_, fun z0 z1 => ?_⟩
  · obtain ⟨y1, y2, y3, y4, y5, y6, y7⟩ := (row_d h F z0 r1).2 z1
    exact ⟨(gN_of s2 s3 y2 y3).1, by omega⟩
  · obtain ⟨y1, y2⟩ := (row_d h F z0 r1).1 (by omega)
    have := g7 _ y1 y2
    omega
theorem mRv_of (h : Rel Z K A) (F : Fm Z A) : mRvOk Z := by
  have h' := h
  obtain ⟨-, ⟨s1, s2, s3, s4, s5⟩, ⟨⟨g1, g2, g3, g4, g5, g6, g7⟩, p2, p3, p4, p5⟩, -⟩ := h'
  have hn := s3.2.1
  have u := us_t F h
  have e12 : xg Z 33 12 = A.1 := s1.1
  refine ⟨by omega, by omega, by rw [e12]; exact s3.1, by omega, by omega, by omega, fun q q0 q1 => ?_, fun k k0 k1 => mN_of s1 s3 k0 (by omega)⟩
  rw [p2] at q1
  rw [(p5 q q0 (by omega)).2.1, (p5 q q0 (by omega)).2.2]
  have := g7 q q0 q1
  omega
theorem mEn_of (h : Rel Z K A) (m : Mk Z A) : ∀ k, 0 ≤ k → k < xg Z 33 12 → mEnOk Z k := by
  intro k k0 k1
  have h' := h
  obtain ⟨-, ⟨s1, s2, s3, s4, s5⟩, -, -⟩ := h'
  have e12 : xg Z 33 12 = A.1 := s1.1
  rw [e12] at k1
  refine ⟨mN_of s1 s3 k0 k1, fun z => ?_⟩
  rw [(m.1 k k0 k1).2.1, (s4.1 k k0 k1).2.1]
  rw [(s1.2 k k0 k1).1] at z
  rcases z with z | z <;> rw [z] <;> rfl
theorem mX_col (h : Rel Z K A) (m : Mk Z A) (F : Fm Z A) {c : Int} (hc : 0 ≤ c) {K1 : xK} : EX Z A (xgl (mXK Z c K1) 54) c 1 A.1 ∧ ∀ (a : Nat) (j : Int), ¬ a = 54 → xgl (mXK Z c K1) a j = xgl K1 a j := by
  have e12 : xg Z 33 12 = A.1 := h.2.1.1.1
  have hA := h.2.1.2.2.1
  have h0 := hA.1
  unfold mXK
  rw [e12]
  have := mX_all h m F (asp := c) (b := fun x => (A.2 x).2.2.2.2.2 * 2) (fun e k k0 k1 hu hb => ex_bB h F (B := 2) (by decide) (fun z => absurd z (by omega)) k0 k1 hu hb) (fun k k0 k1 => by
    have q8 := (hA.2.2 k k0 k1).2.2.2.2.2.2.2
    show (A.2 k).2.2.2.2.2 * 2 ≤ _
    omega) A.1.toNat 0 K1 (by omega) (by decide) (fun x x0 x1 => absurd x1 (by omega)) (fun x x0 x1 => absurd x1 (by omega))
  exact ⟨this.1, this.2.2⟩
end FX
section SP
variable {sc : Nat × (Nat → Int32)} {d : Nat} {G : xG} {K : xK} {A : aG}
theorem two_cost (h : Rel G K A) : Two sc (d + 6) MC_cost [.ref 2] Mm_cost [.ref 33] G K pJ := by
  have es : xg G 33 34 = xg G 25 11 := h.2.2.2.2.1
  by_cases hs : xg G 25 11 = 0
  · obtain ⟨X, x1, x2, x3, x4, x5⟩ := rel_mk0 (sc := sc) (d := d) h
    refine ⟨some (xJ 0), G, K, G, K, A, pJ_any, fun Q => ?_, fun Q => ?_, h⟩
    · rw [sC_cost (d := d + 1) (gNs_of h) (fun z => absurd hs z), if_neg (fun z => z hs)]
    · rw [sm_cost x1 (fun z => absurd (by rw [es]; exact hs) z), es, if_pos hs]
  · have F := h.2.2.2.2.2 hs
    obtain ⟨g1, g2, g3⟩ := gX_ok h F (asp := -2) (K1 := K)
    have h1 : Rel G (gXK G (-2) K) A := Rel_s h Rs_rfl (fun j => g3 43 j (by decide))
    obtain ⟨X, x1, x2, x3, x4, x5⟩ := rel_mk0 (sc := sc) (d := d) h1
    have xR := Rs_m x3
    have sX : xg X 25 = xg G 25 := xR.1 25 (by decide)
    have FX := x4.2.2.2.2.2 (by rw [sX]; exact hs)
    have mX := x5 hs
    obtain ⟨y1, y2, y3⟩ := mX_ok x4 mX FX (asp := -2) (Or.inr rfl) (K1 := gXK G (-2) K)
    have g1' : EX X A (xgl (gXK G (-2) K) 32) (-2) 1 A.1 := (EX_s xR).mpr g1
    have rn := rows_n x4 FX
    have hA := h.2.1.2.2.1
    have ee : ∀ x, 0 ≤ x → x < A.1 → ¬ xg X 26 x = 0 → xgl (mXK X (-2) (gXK G (-2) K)) 54 x = xgl (gXK G (-2) K) 32 x := fun x x0 x1 xu => EX_u x4 FX y1 g1' 36 x x0 (by have := hA.2.1; omega) x1 xu
    refine ⟨some (xJ (RV G (xgl (gXK G (-2) K) 32) 1 (-1))), G, gXK G (-2) K, X, mXK X (-2) (gXK G (-2) K), A, pJ_any, fun Q => ?_, fun Q => ?_, Rel_s x4 Rs_rfl (fun j => y3 43 j (by decide))⟩
    · have rnG := rows_n h F
      rw [sC_cost (d := d + 1) (gNs_of h) (fun _ => gRw_of h F (by decide) (by omega)), if_pos hs]
      exact Iff.rfl
    · rw [sm_cost x1 (fun _ => ⟨mRv_of x4 FX, mEn_of x4 mX⟩), es, if_neg hs, mRv_RV x4 mX FX (by decide) (by omega), RV_e x4 FX ee (by decide) (by omega), RV_s xR]
theorem two_entry {r c : Int} (h : Rel G K A) (hr : xin r) (hc : xin c) : Two sc (d + 6) MC_entry [.ref 2, xI r, xI c] Mm_entry [.ref 33, xI r, xI c] G K pI := by
  have es : xg G 33 34 = xg G 25 11 := h.2.2.2.2.1
  have hA := h.2.1.2.2.1
  have hn := hA.2.1
  by_cases hs : xg G 25 11 = 0
  · obtain ⟨X, x1, x2, x3, x4, x5⟩ := rel_mk0 (sc := sc) (d := d) h
    refine ⟨some (xI 0), G, K, G, K, A, pI_any, fun Q => ?_, fun Q => ?_, h⟩
    · rw [sC_entry (d := d + 1) hr hc (gNs_of h) (fun z => absurd hs z), if_neg (fun z => z.1.1 hs)]
    · rw [sm_entry hr hc x1 (fun z => absurd (by rw [es]; exact hs) z), es, if_pos hs]
  · have F := h.2.2.2.2.2 hs
    have hcl := fun (Q : Option Value → am_H → Prop) => sC_entry (sc := sc) (d := d + 1) (K := K) (Q := Q) hr hc (gNs_of h) (fun _ z0 z1 => gRw_of h F z0 z1)
    by_cases hin : (-1 ≤ r ∧ r < xg G 25 9) ∧ (-1 ≤ c ∧ c < xg G 25 10)
    · obtain ⟨⟨r0, r1⟩, c0, c1⟩ := hin
      obtain ⟨g1, g2, g3⟩ := gX_ok h F (asp := c) (K1 := K)
      have h1 : Rel G (gXK G c K) A := Rel_s h Rs_rfl (fun j => g3 43 j (by decide))
      obtain ⟨X, x1, x2, x3, x4, x5⟩ := rel_mk0 (sc := sc) (d := d) h1
      have xR := Rs_m x3
      have sX : xg X 25 = xg G 25 := xR.1 25 (by decide)
      have FX := x4.2.2.2.2.2 (by rw [sX]; exact hs)
      have mX := x5 hs
      obtain ⟨k1, k2, k3, k4, k5⟩ := mk_rc x4 mX FX
      have kc := mk_co x4 mX FX
      rw [sX] at k4 kc
      obtain ⟨y1, y2, y3⟩ := mX_ok x4 mX FX (asp := -1) (Or.inl rfl) (K1 := gXK G c K)
      have g1' := (EX_s (A := A) xR (f := xgl (gXK G c K) 32) (asp := c) (cz := if 0 ≤ c then 0 else 1) (n := A.1)).mpr g1
      have rX : r < xg X 25 9 := by rw [sX]; exact r1
      by_cases cm : c = -1
      · have g1'' : EX X A (xgl (gXK G c K) 32) (-1) 1 A.1 := by
          rw [if_neg (show ¬ 0 ≤ c by omega)] at g1'
          have := g1'
          rw [cm] at this ⊢
          exact this
        have ee : ∀ x, 0 ≤ x → x < A.1 → ¬ xg X 26 x = 0 → xgl (mXK X (-1) (gXK G c K)) 54 x = xgl (gXK G c K) 32 x := fun x x0 x1 xu => EX_u x4 FX y1 g1'' 36 x x0 (by omega) x1 xu
        refine ⟨some (xI (RV G (xgl (gXK G c K) 32) 1 r)), G, gXK G c K, X, mXK X (-1) (gXK G c K), A, pI_any, fun Q => ?_, fun Q => ?_, Rel_s x4 Rs_rfl (fun j => y3 43 j (by decide))⟩
        · rw [hcl, if_pos ⟨⟨hs, r0, r1⟩, hs, c0, c1⟩, gRw_RV, if_neg (show ¬ 0 ≤ c by omega)]
        · rw [sm_entry hr hc x1 (fun _ => ⟨mRv_of x4 FX, mEn_of x4 mX⟩), es, if_neg hs, if_pos ⟨r0, by omega, c0, by omega⟩, if_pos cm, mRv_RV x4 mX FX r0 rX, RV_e x4 FX ee r0 rX, RV_s xR]
      · have c00 : 0 ≤ c := by omega
        rw [if_pos c00] at g1'
        obtain ⟨z1, z2⟩ := mX_col x4 mX FX c00 (K1 := mXK X (-1) (gXK G c K))
        have sum := EX_add x4 FX c00 y1 g1'
        have ee : ∀ x, 0 ≤ x → x < A.1 → ¬ xg X 26 x = 0 → xgl (mXK X c (mXK X (-1) (gXK G c K))) 54 x = (fun k => xgl (mXK X (-1) (gXK G c K)) 54 k + xgl (gXK G c K) 32 k) x := fun x x0 x1 xu => EX_u x4 FX z1 sum 36 x x0 (by omega) x1 xu
        refine ⟨some (xI (RV G (xgl (gXK G c K) 32) 0 r)), G, gXK G c K, X, mXK X c (mXK X (-1) (gXK G c K)), A, pI_any, fun Q => ?_, fun Q => ?_, Rel_s x4 Rs_rfl (fun j => by rw [z2 43 j (by decide), y3 43 j (by decide)])⟩
        · rw [hcl, if_pos ⟨⟨hs, r0, r1⟩, hs, c0, c1⟩, gRw_RV, if_pos c00]
        · rw [sm_entry hr hc x1 (fun _ => ⟨mRv_of x4 FX, mEn_of x4 mX⟩), es, if_neg hs, if_pos ⟨r0, by omega, c0, by omega⟩, if_neg cm, mRv_RV x4 mX FX r0 rX, mRv_RV x4 mX FX r0 rX, RV_e x4 FX ee r0 rX, RV_add, RV_s xR]
    · obtain ⟨X, x1, x2, x3, x4, x5⟩ := rel_mk0 (sc := sc) (d := d) h
      have xR := Rs_m x3
      have sX : xg X 25 = xg G 25 := xR.1 25 (by decide)
      have FX := x4.2.2.2.2.2 (by rw [sX]; exact hs)
      have mX := x5 hs
      obtain ⟨k1, k2, k3, k4, k5⟩ := mk_rc x4 mX FX
      have kc := mk_co x4 mX FX
      rw [sX] at k4 kc
      refine ⟨some (xI 0), G, K, X, K, A, pI_any, fun Q => ?_, fun Q => ?_, x4⟩
      · rw [hcl, if_neg (fun z => hin ⟨z.1.2, z.2.2⟩)]
      · rw [sm_entry hr hc x1 (fun _ => ⟨mRv_of x4 FX, mEn_of x4 mX⟩), es, if_neg hs, k4, kc, if_neg (fun z => hin ⟨⟨z.1, z.2.1⟩, z.2.2⟩)]
end SP
