/-! expansions: the class's and the reference's keep the rules -/
section EXS
variable {Z : xG} {K : xK} {A : aG}
theorem gEn_x (h : Rel Z K A) (F : Fm Z A) {K1 : xK} {k asp : Int} (k0 : 0 ≤ k) (k1 : k < A.1) (hu : ¬ xg Z 26 k = 0) : gEn Z K1 k asp = exV Z A (xgl K1 32) asp (if 0 ≤ asp then 0 else 1) k := by
  have h' := h
  obtain ⟨-, ⟨r1, r2, r3, r4, r5⟩, -, -⟩ := h'
  obtain ⟨e1, e2, e3, e4, e5, e6⟩ := r2.2 k k0 k1
  unfold gEn exV
  rw [Int.add_zero, e1, e3, e4]
  by_cases c1 : xg Z 15 k = 0
  · rw [if_pos c1, if_pos c1]
    by_cases ca : 0 ≤ asp
    · rw [if_pos ca, if_pos ca, if_neg (by decide)]
    · rw [if_neg ca, if_neg ca, if_pos rfl]
  · rw [if_neg c1, if_neg c1]
    by_cases c2 : ¬ xg Z 27 k = -1
    · rw [if_pos c2, if_pos c2]
    · rw [if_neg c2, if_neg c2]
      rcases ex_kd h F k0 k1 hu c1 (by omega) with z | z | z | z
      · simp only [if_pos z]
      · simp only [if_neg (show ¬ (A.2 k).1 = 3 by omega), if_pos z]
      · simp only [if_neg (show ¬ (A.2 k).1 = 3 by omega), if_neg (show ¬ (A.2 k).1 = 4 by omega), if_pos z]
      · simp only [if_neg (show ¬ (A.2 k).1 = 3 by omega), if_neg (show ¬ (A.2 k).1 = 4 by omega), if_neg (show ¬ (A.2 k).1 = 5 by omega), if_pos z]
theorem mEn_x (h : Rel Z K A) (m : Mk Z A) (F : Fm Z A) {K1 : xK} {k c : Int} (k0 : 0 ≤ k) (k1 : k < A.1) (hu : ¬ xg Z 26 k = 0) : mEn Z K1 k c = exV Z A (xgl K1 54) c 1 k := by
  have h' := h
  obtain ⟨-, ⟨r1, r2, r3, r4, r5⟩, -, -⟩ := h'
  have hn := r3.2.1
  obtain ⟨e1, e2, e3, e4, e5, e6⟩ := r1.2 k k0 k1
  obtain ⟨v1, v2, v3⟩ := mk_va h m k0 k1
  obtain ⟨j1, j2, j3, j4⟩ := m.1 k k0 k1
  obtain ⟨u1, u2, u3⟩ := ex_args h F k0 k1 hu
  have hcol := (col_n F k0 (show k < 36 by omega)).1
  unfold mEn exV
  rw [if_neg ((m.2 k k0 k1).mpr hu)]
  simp only [j2, j4, e1, e3, e4]
  by_cases c1 : xg Z 15 k = 0
  · rw [if_pos c1, if_pos c1, if_pos trivial]
  · rw [if_neg c1, if_neg c1]
    by_cases c2 : cVa Z k ∨ gAx Z k
    · rw [if_pos (by rw [v1, v2]; exact c2), if_pos (hcol.mpr c2)]
      unfold mCh gEc
      by_cases ca : c = -2
      · rw [if_pos ca, if_pos ca]
        by_cases hv : cVa Z k
        · rw [if_pos (v1.mpr hv), if_pos hv.2]
          exact r5 k k0 k1 (Or.inl (by rw [← (r2.2 k k0 k1).1]; exact hv.2))
        · have hx := c2.resolve_left hv
          rw [if_neg (fun z => hv (v1.mp z)), if_neg (fun z => hv ⟨hu, z⟩)]
          exact (F.2.2.2.2.2 k k0 (by omega) hx).1.symm
      · rw [if_neg ca, if_neg ca, mk_pl h m F k0 k1, ← F.2.2.2.1.1 k k0 (by omega)]
        by_cases ce : c = xg Z 27 k
        · rw [if_pos ce, if_pos ce.symm]
        · rw [if_neg ce, if_neg (fun z => ce z.symm)]
    · have c2' : ¬ ¬ xg Z 27 k = -1 := fun z => c2 (hcol.mp z)
      rw [if_neg (by rw [v1, v2]; exact c2), if_neg c2']
      rcases ex_kd h F k0 k1 hu c1 (by omega) with z | z | z | z
      · simp only [if_pos z]
      · simp only [if_neg (show ¬ (A.2 k).1 = 3 by omega), if_pos z]
      · simp only [if_neg (show ¬ (A.2 k).1 = 3 by omega), if_neg (show ¬ (A.2 k).1 = 4 by omega), if_pos z]
      · simp only [if_neg (show ¬ (A.2 k).1 = 3 by omega), if_neg (show ¬ (A.2 k).1 = 4 by omega), if_neg (show ¬ (A.2 k).1 = 5 by omega)]
        have a := u1 (by rw [z]; decide)
        have b := u2 (by rw [z]; decide)
        rw [(m.1 _ a.1 (by omega)).2.1, (m.1 _ a.1 (by omega)).2.2.2, (m.1 _ b.1 (by omega)).2.2.2, Int.mul_comm (xgl K1 54 (A.2 k).2.2.1)]
theorem wB {A : aG} {k asp x : Int} (hA : aOk A) (k0 : 0 ≤ k) (k1 : k < A.1) (h1 : -((A.2 k).2.2.2.2.2 * eB asp) ≤ x) (h2 : x ≤ (A.2 k).2.2.2.2.2 * eB asp) : -1000000000000 ≤ x ∧ x ≤ 1000000000000 := by
  have q := hA.2.2 k k0 k1
  have q7 := q.2.2.2.2.2.2.1
  have q8 := q.2.2.2.2.2.2.2
  have hB : eB asp = 1000000 ∨ eB asp = 1 := by unfold eB; split <;> simp
  rcases hB with z | z <;> rw [z] at h1 h2 <;> omega
/-- the class's expansion -/
theorem gX_all (h : Rel Z K A) (F : Fm Z A) {asp : Int} : ∀ (n : Nat) (k : Int) (K1 : xK), k + n = A.1 → 0 ≤ k → EX Z A (xgl K1 32) asp (if 0 ≤ asp then 0 else 1) k → (∀ x, 0 ≤ x → x < k → ¬ xg Z 26 x = 0 → -((A.2 x).2.2.2.2.2 * eB asp) ≤ xgl K1 32 x ∧ xgl K1 32 x ≤ (A.2 x).2.2.2.2.2 * eB asp) → EX Z A (xgl (gXp Z asp n k K1) 32) asp (if 0 ≤ asp then 0 else 1) A.1 ∧ (∀ x, 0 ≤ x → x < A.1 → ¬ xg Z 26 x = 0 → -((A.2 x).2.2.2.2.2 * eB asp) ≤ xgl (gXp Z asp n k K1) 32 x ∧ xgl (gXp Z asp n k K1) 32 x ≤ (A.2 x).2.2.2.2.2 * eB asp) ∧ ∀ (a : Nat) (j : Int), ¬ a = 32 → xgl (gXp Z asp n k K1) a j = xgl K1 a j
  | 0, k, K1, hk, k0, hE, hb => by
    have e : k = A.1 := by omega
    subst e
    exact ⟨hE, hb, fun _ _ _ => rfl⟩
  | n + 1, k, K1, hk, k0, hE, hb => by
    have hA := h.2.1.2.2.1
    show EX Z A (xgl (gXp Z asp n (k + 1) (if xg Z 26 k = 0 then K1 else xpl K1 32 k (gEn Z K1 k asp))) 32) _ _ _ ∧ _
    by_cases hu : xg Z 26 k = 0
    · have ed : gXp Z asp (n + 1) k K1 = gXp Z asp n (k + 1) K1 := by
        show gXp Z asp n (k + 1) (if xg Z 26 k = 0 then K1 else _) = _
        rw [if_pos hu]
      rw [ed, if_pos hu]
      exact gX_all h F n (k + 1) K1 (by omega) (by omega) (fun x x0 x1 xu => hE x x0 (by
        by_cases hx : x = k
        · subst hx; exact absurd hu xu
        · omega) xu) (fun x x0 x1 xu => hb x x0 (by
        by_cases hx : x = k
        · subst hx; exact absurd hu xu
        · omega) xu)
    · have ed : gXp Z asp (n + 1) k K1 = gXp Z asp n (k + 1) (xpl K1 32 k (gEn Z K1 k asp)) := by
        show gXp Z asp n (k + 1) (if xg Z 26 k = 0 then K1 else _) = _
        rw [if_neg hu]
      rw [ed, if_neg hu]
      have eg := gEn_x h F (K1 := K1) (asp := asp) k0 (show k < A.1 by omega) hu
      have bnd := ex_b h F (e := xgl K1 32) (asp := asp) (cz := if 0 ≤ asp then 0 else 1) k0 (show k < A.1 by omega) hu hb
      rw [← eg] at bnd
      have wb := wB hA k0 (show k < A.1 by omega) bnd.1 bnd.2
      have vx : xinl (gEn Z K1 k asp) := ⟨by omega, by omega⟩
      have o : ∀ x, 0 ≤ x → ¬ x = k → xgl (xpl K1 32 k (gEn Z K1 k asp)) 32 x = xgl K1 32 x := fun x x0 hx => xgl_idx k0 x0 hx
      have s : xgl (xpl K1 32 k (gEn Z K1 k asp)) 32 k = gEn Z K1 k asp := xgl_self vx
      have ihs := gX_all h F (asp := asp) n (k + 1) (xpl K1 32 k (gEn Z K1 k asp)) (by omega) (by omega) (fun x x0 x1 xu => by
        by_cases hx : x = k
        · subst hx
          refine s.trans (eg.trans ?_)
          exact exV_e h F k0 (by omega) xu (fun y y0 y1 _ => (o y y0 (by omega)).symm)
        · rw [o x x0 hx, hE x x0 (by omega) xu]
          exact exV_e h F x0 (by omega) xu (fun y y0 y1 _ => (o y y0 (by omega)).symm)) (fun x x0 x1 xu => by
        by_cases hx : x = k
        · subst hx; rw [s]; exact bnd
        · rw [o x x0 hx]; exact hb x x0 (by omega) xu)
      exact ⟨ihs.1, ihs.2.1, fun a j ha => (ihs.2.2 a j ha).trans (xgl_cell ha)⟩
theorem gX_ok (h : Rel Z K A) (F : Fm Z A) {asp : Int} {K1 : xK} : EX Z A (xgl (gXK Z asp K1) 32) asp (if 0 ≤ asp then 0 else 1) A.1 ∧ (∀ x, 0 ≤ x → x < A.1 → ¬ xg Z 26 x = 0 → -((A.2 x).2.2.2.2.2 * eB asp) ≤ xgl (gXK Z asp K1) 32 x ∧ xgl (gXK Z asp K1) 32 x ≤ (A.2 x).2.2.2.2.2 * eB asp) ∧ ∀ (a : Nat) (j : Int), ¬ a = 32 → xgl (gXK Z asp K1) a j = xgl K1 a j := by
  have e9 : xg Z 9 9 = A.1 := h.2.1.2.1.1
  have h0 := h.2.1.2.2.1.1
  unfold gXK
  rw [e9]
  exact gX_all h F A.1.toNat 0 K1 (by omega) (by decide) (fun x x0 x1 => absurd x1 (by omega)) (fun x x0 x1 => absurd x1 (by omega))
/-- with the constants, both at once: a bound for the reference -/
def eC (asp : Int) : Int := if asp = -2 then 1000000 else 2
theorem mEn_0 {K1 : xK} {k c : Int} (hu : xg Z 50 k = 0) : mEn Z K1 k c = 0 := by unfold mEn; rw [if_pos hu]
/-- the reference's expansion of the constants, or at the columns' values -/
theorem mX_all (h : Rel Z K A) (m : Mk Z A) (F : Fm Z A) {asp : Int} {b : Int → Int} (hbs : ∀ e : Int → Int, ∀ k, 0 ≤ k → k < A.1 → ¬ xg Z 26 k = 0 → (∀ x, 0 ≤ x → x < k → ¬ xg Z 26 x = 0 → -b x ≤ e x ∧ e x ≤ b x) → -b k ≤ exV Z A e asp 1 k ∧ exV Z A e asp 1 k ≤ b k) (hbx : ∀ k, 0 ≤ k → k < A.1 → b k ≤ 4000000000000) : ∀ (n : Nat) (k : Int) (K1 : xK), k + n = A.1 → 0 ≤ k → EX Z A (xgl K1 54) asp 1 k → (∀ x, 0 ≤ x → x < k → ¬ xg Z 26 x = 0 → -b x ≤ xgl K1 54 x ∧ xgl K1 54 x ≤ b x) → EX Z A (xgl (mXp Z asp n k K1) 54) asp 1 A.1 ∧ (∀ x, 0 ≤ x → x < A.1 → ¬ xg Z 26 x = 0 → -b x ≤ xgl (mXp Z asp n k K1) 54 x ∧ xgl (mXp Z asp n k K1) 54 x ≤ b x) ∧ ∀ (a : Nat) (j : Int), ¬ a = 54 → xgl (mXp Z asp n k K1) a j = xgl K1 a j
  | 0, k, K1, hk, k0, hE, hb => by
    have e : k = A.1 := by omega
    subst e
    exact ⟨hE, hb, fun _ _ _ => rfl⟩
  | n + 1, k, K1, hk, k0, hE, hb => by
    show EX Z A (xgl (mXp Z asp n (k + 1) (xpl K1 54 k (mEn Z K1 k asp))) 54) _ _ _ ∧ (∀ x, 0 ≤ x → x < A.1 → ¬ xg Z 26 x = 0 → -b x ≤ xgl (mXp Z asp n (k + 1) (xpl K1 54 k (mEn Z K1 k asp))) 54 x ∧ xgl (mXp Z asp n (k + 1) (xpl K1 54 k (mEn Z K1 k asp))) 54 x ≤ b x) ∧ ∀ (a : Nat) (j : Int), ¬ a = 54 → xgl (mXp Z asp n (k + 1) (xpl K1 54 k (mEn Z K1 k asp))) a j = xgl K1 a j
    have o : ∀ x, 0 ≤ x → ¬ x = k → xgl (xpl K1 54 k (mEn Z K1 k asp)) 54 x = xgl K1 54 x := fun x x0 hx => xgl_idx k0 x0 hx
    have ihs := mX_all h m F (asp := asp) (b := b) hbs hbx n (k + 1) (xpl K1 54 k (mEn Z K1 k asp)) (by omega) (by omega) (fun x x0 x1 xu => by
      by_cases hx : x = k
      · subst hx
        have eg := mEn_x h m F (K1 := K1) (c := asp) k0 (show x < A.1 by omega) xu
        have bnd := hbs (xgl K1 54) x k0 (by omega) xu hb
        rw [← eg] at bnd
        have := hbx x k0 (by omega)
        refine (xgl_self ⟨by omega, by omega⟩).trans (eg.trans ?_)
        exact exV_e h F k0 (by omega) xu (fun y y0 y1 _ => (o y y0 (by omega)).symm)
      · rw [o x x0 hx, hE x x0 (by omega) xu]
        exact exV_e h F x0 (by omega) xu (fun y y0 y1 _ => (o y y0 (by omega)).symm)) (fun x x0 x1 xu => by
      by_cases hx : x = k
      · subst hx
        have eg := mEn_x h m F (K1 := K1) (c := asp) k0 (show x < A.1 by omega) xu
        have bnd := hbs (xgl K1 54) x k0 (by omega) xu hb
        rw [← eg] at bnd
        have := hbx x k0 (by omega)
        rw [xgl_self ⟨by omega, by omega⟩]; exact bnd
      · rw [o x x0 hx]; exact hb x x0 (by omega) xu)
    exact ⟨ihs.1, ihs.2.1, fun a j ha => (ihs.2.2 a j ha).trans (xgl_cell ha)⟩
theorem mX_ok (h : Rel Z K A) (m : Mk Z A) (F : Fm Z A) {asp : Int} (ha : asp = -1 ∨ asp = -2) {K1 : xK} : EX Z A (xgl (mXK Z asp K1) 54) asp 1 A.1 ∧ (∀ x, 0 ≤ x → x < A.1 → ¬ xg Z 26 x = 0 → -((A.2 x).2.2.2.2.2 * eB asp) ≤ xgl (mXK Z asp K1) 54 x ∧ xgl (mXK Z asp K1) 54 x ≤ (A.2 x).2.2.2.2.2 * eB asp) ∧ ∀ (a : Nat) (j : Int), ¬ a = 54 → xgl (mXK Z asp K1) a j = xgl K1 a j := by
  have e12 : xg Z 33 12 = A.1 := h.2.1.1.1
  have hA := h.2.1.2.2.1
  have h0 := hA.1
  unfold mXK
  rw [e12]
  exact mX_all h m F (asp := asp) (b := fun x => (A.2 x).2.2.2.2.2 * eB asp) (fun e k k0 k1 hu hb => ex_b h F k0 k1 hu hb) (fun k k0 k1 => by
    have q7 := (hA.2.2 k k0 k1).2.2.2.2.2.2.1
    have hB : eB asp = 1000000 ∨ eB asp = 1 := by unfold eB; split <;> simp
    have := wB (asp := asp) hA k0 k1 (x := (A.2 k).2.2.2.2.2 * eB asp) (by rcases hB with z | z <;> rw [z] <;> omega) (Int.le_refl _)
    show (A.2 k).2.2.2.2.2 * eB asp ≤ _
    omega) A.1.toNat 0 K1 (by omega) (by decide) (fun x x0 x1 => absurd x1 (by omega)) (fun x x0 x1 => absurd x1 (by omega))
end EXS
