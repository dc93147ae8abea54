/-! calls of both: fits -/
def aZ (v : Int → Int) : Nat → Int → Int
  | 0, _ => 1
  | n + 1, r => if v r = 0 then aZ v n (r + 1) else 0
def aP (v : Int → Int) : Nat → Int → Int
  | 0, _ => 1
  | n + 1, r => if 0 ≤ v r then aP v n (r + 1) else 0
def aQ (v : Int → Int) : Nat → Int → Int
  | 0, _ => 1
  | n + 1, r => if 0 ≤ v r ∧ v (r + 1) * v (r + 1) + v (r + 2) * v (r + 2) ≤ v r * v r then aQ v n (r + 3) else 0
theorem aZ_b {v : Int → Int} : ∀ (n : Nat) (r : Int), xbo (aZ v n r)
  | 0, r => Or.inr rfl
  | n + 1, r => by
    unfold aZ
    split
    · exact aZ_b n (r + 1)
    · exact Or.inl rfl
theorem aP_b {v : Int → Int} : ∀ (n : Nat) (r : Int), xbo (aP v n r)
  | 0, r => Or.inr rfl
  | n + 1, r => by
    unfold aP
    split
    · exact aP_b n (r + 1)
    · exact Or.inl rfl
section FT
variable {G X : xG} {K : xK} {v : Int → Int}
theorem gW1_0 : ∀ (n : Nat) (r : Int), gW1 G K n r 0 = 0
  | 0, r => rfl
  | n + 1, r => by
    show gW1 G K n (r + 1) (if ¬ (0 : Int) = 0 ∧ _ then 1 else 0) = 0
    rw [if_neg (fun z => z.1 rfl)]; exact gW1_0 n _
theorem gW2_0 : ∀ (n : Nat) (r : Int), gW2 G K n r 0 = 0
  | 0, r => rfl
  | n + 1, r => by
    show gW2 G K n (r + 1) (if ¬ (0 : Int) = 0 ∧ _ then 1 else 0) = 0
    rw [if_neg (fun z => z.1 rfl)]; exact gW2_0 n _
theorem gW3_0 : ∀ (n : Nat) (r : Int), gW3 G K n r 0 = 0
  | 0, r => rfl
  | n + 1, r => by
    show gW3 G K n (r + 3) (if ¬ (0 : Int) = 0 ∧ _ then 1 else 0) = 0
    rw [if_neg (fun z => z.1 rfl)]; exact gW3_0 n _
theorem gW1_v : ∀ (n : Nat) (r : Int), (∀ x, r ≤ x → x < r + n → gRw G K x (-2) = v x) → gW1 G K n r 1 = aZ v n r
  | 0, r, _ => rfl
  | n + 1, r, h => by
    show gW1 G K n (r + 1) (if ¬ (1 : Int) = 0 ∧ gRw G K r (-2) = 0 then 1 else 0) = (if v r = 0 then aZ v n (r + 1) else 0)
    rw [h r (Int.le_refl _) (by omega)]
    by_cases c : v r = 0
    · rw [if_pos ⟨by decide, c⟩, if_pos c]; exact gW1_v n (r + 1) (fun x x0 x1 => h x (by omega) (by omega))
    · rw [if_neg (fun z => c z.2), if_neg c]; exact gW1_0 n _
theorem gW2_v : ∀ (n : Nat) (r : Int), (∀ x, r ≤ x → x < r + n → gRw G K x (-2) = v x) → gW2 G K n r 1 = aP v n r
  | 0, r, _ => rfl
  | n + 1, r, h => by
    show gW2 G K n (r + 1) (if ¬ (1 : Int) = 0 ∧ 0 ≤ gRw G K r (-2) then 1 else 0) = (if 0 ≤ v r then aP v n (r + 1) else 0)
    rw [h r (Int.le_refl _) (by omega)]
    by_cases c : 0 ≤ v r
    · rw [if_pos ⟨by decide, c⟩, if_pos c]; exact gW2_v n (r + 1) (fun x x0 x1 => h x (by omega) (by omega))
    · rw [if_neg (fun z => c z.2), if_neg c]; exact gW2_0 n _
theorem gW3_v : ∀ (n : Nat) (r : Int), (∀ x, r ≤ x → x < r + 3 * n → gRw G K x (-2) = v x) → gW3 G K n r 1 = aQ v n r
  | 0, r, _ => rfl
  | n + 1, r, h => by
    have h0 := h r (Int.le_refl _) (by omega)
    have h1 := h (r + 1) (by omega) (by omega)
    have h2 := h (r + 2) (by omega) (by omega)
    show gW3 G K n (r + 3) (if ¬ (1 : Int) = 0 ∧ ¬ gQf G K r = 0 then 1 else 0) = (if 0 ≤ v r ∧ v (r + 1) * v (r + 1) + v (r + 2) * v (r + 2) ≤ v r * v r then aQ v n (r + 3) else 0)
    unfold gQf
    rw [h0, h1, h2]
    by_cases c : 0 ≤ v r ∧ v (r + 1) * v (r + 1) + v (r + 2) * v (r + 2) ≤ v r * v r
    · rw [if_pos c, if_pos c, if_pos ⟨by decide, by decide⟩]; exact gW3_v n (r + 3) (fun x x0 x1 => h x (by omega) (by omega))
    · rw [if_neg c, if_neg c, if_neg (fun z => z.2 rfl)]; exact gW3_0 n _
theorem mF1_Z {z : Int} {m : Nat} : ∀ (n : Nat) (r : Int), (∀ x, r ≤ x → x < r + n → mRv X K x = v x) → r + n ≤ z → mF1 X K z (n + m) r = if aZ v n r = 0 then 0 else mF1 X K z m (r + n)
  | 0, r, _, hz => by
    rw [Nat.zero_add, if_neg (show ¬ aZ v 0 r = 0 by show ¬ (1 : Int) = 0; decide), show r + ((0 : Nat) : Int) = r by omega]
  | n + 1, r, h, hz => by
    rw [show n + 1 + m = (n + m) + 1 by omega]
    show (if (if r < z then mRv X K r = 0 else 0 ≤ mRv X K r) then mF1 X K z (n + m) (r + 1) else 0) = if (if v r = 0 then aZ v n (r + 1) else 0) = 0 then 0 else _
    simp only [if_pos (show r < z by omega)]
    rw [h r (Int.le_refl _) (by omega)]
    by_cases c : v r = 0
    · rw [if_pos c, if_pos c, mF1_Z n (r + 1) (fun x x0 x1 => h x (by omega) (by omega)) (by omega), show r + 1 + (n : Int) = r + ((n + 1 : Nat) : Int) by omega]
    · rw [if_neg c, if_neg c, if_pos rfl]
theorem mF1_P {z : Int} : ∀ (n : Nat) (r : Int), (∀ x, r ≤ x → x < r + n → mRv X K x = v x) → z ≤ r → mF1 X K z n r = aP v n r
  | 0, r, _, _ => rfl
  | n + 1, r, h, hz => by
    show (if (if r < z then mRv X K r = 0 else 0 ≤ mRv X K r) then mF1 X K z n (r + 1) else 0) = (if 0 ≤ v r then aP v n (r + 1) else 0)
    simp only [if_neg (show ¬ r < z by omega)]
    rw [h r (Int.le_refl _) (by omega), mF1_P n (r + 1) (fun x x0 x1 => h x (by omega) (by omega)) (by omega)]
theorem sq_lt {f g : Int} (hf : 0 ≤ f) (z : f < g) : f * f < g * g := by
  have := Int.mul_le_mul (show f + 1 ≤ g by omega) (show f + 1 ≤ g by omega) (show 0 ≤ f + 1 by omega) (show 0 ≤ g by omega)
  simp only [Int.add_mul, Int.mul_add, Int.mul_one, Int.one_mul] at this
  omega
theorem sq_nn {g : Int} : 0 ≤ g * g := by
  rcases (show 0 ≤ g ∨ 0 ≤ -g by omega) with z | z
  · exact Int.mul_nonneg z z
  · rw [← Int.neg_mul_neg]; exact Int.mul_nonneg z z
theorem sq_le {f g : Int} (hf : 0 ≤ f) (h : g * g ≤ f * f) : g ≤ f ∧ -g ≤ f := by
  constructor
  · rcases (show g ≤ f ∨ f < g by omega) with z | z
    · exact z
    · exfalso
      have := sq_lt hf z
      omega
  · rcases (show -g ≤ f ∨ f < -g by omega) with z | z
    · exact z
    · exfalso
      have := sq_lt hf z
      rw [Int.neg_mul_neg] at this
      omega
theorem mIn_q {f g q : Int} : mIn f g q = 0 ↔ ¬ (0 ≤ f ∧ g * g + q * q ≤ f * f) := by
  unfold mIn
  have gg := sq_nn (g := g)
  have qq := sq_nn (g := q)
  by_cases c : 0 ≤ f ∧ g * g + q * q ≤ f * f
  · have h1 := sq_le c.1 (show g * g ≤ f * f by omega)
    have h2 := sq_le c.1 (show q * q ≤ f * f by omega)
    rw [if_neg (by omega), if_pos c.2]
    constructor
    · intro z; exact absurd z (by decide)
    · intro z; exact absurd c z
  · constructor
    · intro _; exact c
    · intro _
      split
      · rfl
      · rename_i hn
        rw [if_neg (fun z => c ⟨by omega, z⟩)]
theorem mF2_Q : ∀ (n : Nat) (r : Int), (∀ x, r ≤ x → x < r + 3 * n → mRv X K x = v x) → mF2 X K n r = aQ v n r
  | 0, r, _ => rfl
  | n + 1, r, h => by
    have h0 := h r (Int.le_refl _) (by omega)
    have h1 := h (r + 1) (by omega) (by omega)
    have h2 := h (r + 2) (by omega) (by omega)
    show (if mIn (mRv X K r) (mRv X K (r + 1)) (mRv X K (r + 2)) = 0 then 0 else mF2 X K n (r + 3)) = (if 0 ≤ v r ∧ v (r + 1) * v (r + 1) + v (r + 2) * v (r + 2) ≤ v r * v r then aQ v n (r + 3) else 0)
    rw [h0, h1, h2, mF2_Q n (r + 3) (fun x x0 x1 => h x (by omega) (by omega))]
    by_cases c : 0 ≤ v r ∧ v (r + 1) * v (r + 1) + v (r + 2) * v (r + 2) ≤ v r * v r
    · rw [if_neg (fun z => (mIn_q.mp z) c), if_pos c]
    · rw [if_pos (mIn_q.mpr c), if_neg c]
theorem fit_eq {z o : Nat} {q : Nat} (hg : ∀ x : Int, 0 ≤ x → x < (z : Int) + o + 3 * q → gRw G K x (-2) = v x) {K2 : xK} (hm : ∀ x : Int, 0 ≤ x → x < (z : Int) + o + 3 * q → mRv X K2 x = v x) : gW3 G K q ((z : Int) + o) (gW2 G K o z (gW1 G K z 0 1)) = if mF1 X K2 z (z + o) 0 = 0 then 0 else mF2 X K2 q ((z : Int) + o) := by
  rw [gW1_v z 0 (fun x x0 x1 => hg x x0 (by omega)), mF1_Z (v := v) z 0 (fun x x0 x1 => hm x x0 (by omega)) (by omega)]
  rcases aZ_b (v := v) z 0 with c | c
  · rw [c, if_pos rfl, if_pos rfl, gW2_0, gW3_0]
  · rw [c, if_neg (show ¬ (1 : Int) = 0 by decide), gW2_v o z (fun x x0 x1 => hg x (by omega) (by omega)), show (0 : Int) + (z : Int) = z by omega, mF1_P (v := v) o z (fun x x0 x1 => hm x (by omega) (by omega)) (Int.le_refl _)]
    rcases aP_b (v := v) o z with c2 | c2
    · rw [c2, if_pos rfl, gW3_0]
    · rw [c2, if_neg (by decide), gW3_v q _ (fun x x0 x1 => hg x (by omega) (by omega)), mF2_Q (v := v) q _ (fun x x0 x1 => hm x (by omega) (by omega))]
end FT
/-! three rows a square -/
theorem tot_3 {f : Int → Int} : ∀ (n : Nat) (q : Int), (∀ x, q ≤ x → x < q + n → f x = 0 ∨ f x = 3) → tot f n q % 3 = 0
  | 0, q, _ => rfl
  | n + 1, q, h => by
    have a := h q (Int.le_refl _) (by omega)
    have b := tot_3 n (q + 1) (fun x x0 x1 => h x (by omega) (by omega))
    show (f q + tot f n (q + 1)) % 3 = 0
    omega
theorem pick_3 {f : Int → Int} {j : Int} (j0 : 0 ≤ j) (j1 : j < 3) : ∀ (n : Nat) (q i : Int), (∀ x, q ≤ x → x < q + n → f x = 0 ∨ f x = 3) → 0 ≤ i → 3 * i < tot f n q → pick f n q (3 * i + j) = ((pick f n q (3 * i)).1, j)
  | 0, q, i, _, i0, h => absurd h (by show ¬ 3 * i < 0; omega)
  | n + 1, q, i, hf, i0, h => by
    have h : 3 * i < f q + tot f n (q + 1) := h
    have a := hf q (Int.le_refl _) (by omega)
    show (if 3 * i + j < f q then (q, 3 * i + j) else pick f n (q + 1) (3 * i + j - f q)) = ((if 3 * i < f q then (q, 3 * i) else pick f n (q + 1) (3 * i - f q)).1, j)
    rcases a with z | z
    · rw [z, if_neg (by omega), if_neg (by omega), show 3 * i + j - 0 = 3 * i + j by omega, show 3 * i - 0 = 3 * i by omega]
      exact pick_3 j0 j1 n (q + 1) i (fun x x0 x1 => hf x (by omega) (by omega)) i0 (by omega)
    · by_cases c : i = 0
      · subst c
        rw [z, if_pos (by omega), if_pos (by omega)]
        show (q, 3 * 0 + j) = (q, j)
        rw [show 3 * 0 + j = j by omega]
      · rw [z, if_neg (by omega), if_neg (by omega), show 3 * i + j - 3 = 3 * (i - 1) + j by omega, show 3 * i - 3 = 3 * (i - 1) by omega]
        exact pick_3 j0 j1 n (q + 1) (i - 1) (fun x x0 x1 => hf x (by omega) (by omega)) (by omega) (by omega)
section FX
variable {Z : xG} {K : xK} {A : aG}
theorem rowB (h : Rel Z K A) (F : Fm Z A) {e : Int → Int} {one r : Int} (ho : one = 0 ∨ one = 1) (hb : ∀ x, 0 ≤ x → x < A.1 → ¬ xg Z 26 x = 0 → -1000000000000 ≤ e x ∧ e x ≤ 1000000000000) (r0 : -1 ≤ r) (r1 : r < xg Z 25 9) : xinl (RV Z e one r) := by
  suffices hh : -4000000000000 ≤ RV Z e one r ∧ RV Z e one r ≤ 4000000000000 from ⟨by omega, by omega⟩
  unfold RV
  by_cases c : r = -1
  · have u := us_t F h
    have := hb _ u.1 u.2.1 u.2.2
    rw [if_pos c]
    split <;> omega
  · rw [if_neg c]
    obtain ⟨d1, d2⟩ := row_d h F (show 0 ≤ r by omega) r1
    by_cases c2 : xg Z 21 3 ≤ r
    · rw [if_pos c2]
      obtain ⟨y1, y2, y3, y4, y5, y6, y7⟩ := d2 c2
      have bk := hb _ y2 y3 y1.1
      have es : ∀ p, (p = 0 ∨ p = 1 ∨ p = 2) → -1000000000000 ≤ rvS Z e (xg Z 30 r) p ∧ rvS Z e (xg Z 30 r) p ≤ 1000000000000 := by
        intro p hp
        unfold rvS
        rcases us_s h F y2 y3 y1.1 hp with ⟨z, -⟩ | ⟨z1, z2, z3, z4, z5⟩
        · rw [if_pos z]; omega
        · rw [if_neg (by omega)]; exact hb _ z1 (by omega) z3
      have e0 := es 0 (by decide)
      have e1 := es (xg Z 31 r) (by omega)
      have e2 := es (if xg Z 31 r = 2 then 1 else 0) (by split <;> decide)
      have e3 := es (if xg Z 31 r = 0 then 1 else 2) (by split <;> decide)
      unfold rvX gSr
      generalize rvS Z e (xg Z 30 r) (if xg Z 31 r = 2 then 1 else 0) = s2 at *
      generalize rvS Z e (xg Z 30 r) (if xg Z 31 r = 0 then 1 else 2) = s3 at *
      (repeat' split) <;> omega
    · rw [if_neg c2]
      have u := us_q F h (d1 (by omega)).1 (d1 (by omega)).2
      have b1 := hb _ u.1.1 u.1.2.1 u.1.2.2
      have b2 := hb _ u.2.1 u.2.2.1 u.2.2.2
      unfold rvQ
      split <;> omega
/-- the three rows of a square -/
theorem sqB (h : Rel Z K A) (F : Fm Z A) {e : Int → Int} {i : Int} (hE : EX Z A e (-2) 1 A.1) (hb : ∀ x, 0 ≤ x → x < A.1 → ¬ xg Z 26 x = 0 → -((A.2 x).2.2.2.2.2 * 1000000) ≤ e x ∧ e x ≤ (A.2 x).2.2.2.2.2 * 1000000) (i0 : 0 ≤ i) (i1 : 3 * i < cTa Z 1) : (-2000000 ≤ RV Z e 1 (cTe Z 1 + cTe Z 0 + cTa Z 0 + 3 * i) ∧ RV Z e 1 (cTe Z 1 + cTe Z 0 + cTa Z 0 + 3 * i) ≤ 2000000) ∧ (-2000000 ≤ RV Z e 1 (cTe Z 1 + cTe Z 0 + cTa Z 0 + 3 * i + 1) ∧ RV Z e 1 (cTe Z 1 + cTe Z 0 + cTa Z 0 + 3 * i + 1) ≤ 2000000) ∧ (-2000000000 ≤ RV Z e 1 (cTe Z 1 + cTe Z 0 + cTa Z 0 + 3 * i + 2) ∧ RV Z e 1 (cTe Z 1 + cTe Z 0 + cTa Z 0 + 3 * i + 2) ≤ 2000000000) := by
  have h' := h
  obtain ⟨-, ⟨s1, s2, s3, s4, s5⟩, -, -⟩ := h'
  have hn := s3.2.1
  obtain ⟨tN, t1, t0, a0, a1, ab⟩ := te_N h
  have F' := F
  obtain ⟨f1, f2, f3, f4, ⟨c1, c2, c3, c4, c5, c6, c7, c8⟩, f6⟩ := F'
  have hf : ∀ x, (0 : Int) ≤ x → x < 0 + ((36 : Nat) : Int) → cFa Z 1 x = 0 ∨ cFa Z 1 x = 3 := fun x _ _ => by
    unfold cFa
    by_cases c : gAx Z x ∧ ((xg Z 10 x = 10 ∧ (1 : Int) = 1) ∨ (¬ xg Z 10 x = 10 ∧ (1 : Int) = 0))
    · rw [if_pos c, if_pos (Or.inl (by decide))]; exact Or.inr rfl
    · rw [if_neg c]; exact Or.inl rfl
  have m3 : cTa Z 1 % 3 = 0 := tot_3 36 0 hf
  obtain ⟨kp, hkp⟩ : ∃ kp, kp = (pick (cFa Z 1) 36 0 (3 * i)).1 := ⟨_, rfl⟩
  have pk : ∀ j, 0 ≤ j → j < 3 → xg Z 30 (cTe Z 1 + cTe Z 0 + cTa Z 0 + 3 * i + j) = kp ∧ xg Z 31 (cTe Z 1 + cTe Z 0 + cTa Z 0 + 3 * i + j) = j := by
    intro j j0 j1
    have e8 := c8 (3 * i + j) (by omega) (by omega)
    rw [pick_3 j0 j1 36 0 i hf i0 i1, ← Int.add_assoc, ← hkp] at e8
    exact e8
  have r0 : 0 ≤ cTe Z 1 + cTe Z 0 + cTa Z 0 + 3 * i + 0 := by omega
  obtain ⟨d1, d2⟩ := row_d h F r0 (by rw [c4]; omega)
  obtain ⟨y1, y2, y3, y4, y5, y6, y7⟩ := d2 (by omega)
  rw [(pk 0 (by decide) (by decide)).1] at y1 y2 y3 y7
  have k10 : xg Z 10 kp = 10 := by
    rcases (show xg Z 10 kp = 10 ∨ ¬ xg Z 10 kp = 10 by omega) with z | z
    · exact z
    · exact absurd (y7.mpr z) (by omega)
  have rv : ∀ j, 0 ≤ j → j < 3 → RV Z e 1 (cTe Z 1 + cTe Z 0 + cTa Z 0 + 3 * i + j) = gSr (e kp) (rvS Z e kp 0) j 1 := by
    intro j j0 j1
    unfold RV
    rw [if_neg (by omega), if_pos (by omega), (pk j j0 j1).1, (pk j j0 j1).2]
    unfold rvX
    rw [if_neg (by omega), if_neg (by omega), if_neg (by omega), if_neg (by omega)]
  have kd := (s2.2 kp y2 y3).1
  -- the square's own value
  have et : e kp = xg Z 28 kp := by
    rw [hE kp y2 y3 y1.1]
    unfold exV gEc
    rw [if_neg y1.2.2, if_pos ((col_n F y2 (by omega)).1.mpr (Or.inr y1)), if_pos rfl, if_neg (by omega)]
  have bt := (F.2.2.2.2.2 kp y2 (by omega) y1).2
  unfold mB6 at bt
  -- its argument
  have ba : -1000000000 ≤ rvS Z e kp 0 ∧ rvS Z e kp 0 ≤ 1000000000 := by
    unfold rvS
    rcases us_s h F y2 y3 y1.1 (p := 0) (by decide) with ⟨z, -⟩ | ⟨z1, z2, z3, z4, z5⟩
    · rw [if_pos z]; omega
    · rw [if_neg (by omega)]
      obtain ⟨q1, q2, q3, q4, q5, q6, q7, q8⟩ := s3.2.2 kp y2 y3
      have ea : xg Z 12 (3 * kp + 0) = (A.2 kp).2.2.1 := by rw [Int.add_zero]; exact (s2.2 kp y2 y3).2.2.1
      rw [ea] at z1 z2 z3 ⊢
      have ew : (A.2 kp).2.2.2.2.2 = (A.2 (A.2 kp).2.2.1).2.2.2.2.2 * (A.2 (A.2 kp).2.2.1).2.2.2.2.2 := by
        have ra : aR A (A.2 kp).2.2.1 = (A.2 (A.2 kp).2.2.1).2.2.2.2.2 := by unfold aR; rw [if_neg (by omega)]
        rw [q6, ← ra, ← kd, k10]
        rfl
      have wa := (s3.2.2 _ z1 (show (A.2 kp).2.2.1 < A.1 by omega)).2.2.2.2.2.2.1
      have wl : (A.2 (A.2 kp).2.2.1).2.2.2.2.2 ≤ 1000 := by
        rcases (show (A.2 (A.2 kp).2.2.1).2.2.2.2.2 ≤ 1000 ∨ 1001 ≤ (A.2 (A.2 kp).2.2.1).2.2.2.2.2 by omega) with z | z
        · exact z
        · exfalso
          have := Int.mul_le_mul z z (by decide) (by omega)
          omega
      have := hb _ z1 (by omega) z3
      omega
  have v0 := rv 0 (by decide) (by decide)
  have v1 := rv 1 (by decide) (by decide)
  have v2 := rv 2 (by decide) (by decide)
  rw [show cTe Z 1 + cTe Z 0 + cTa Z 0 + 3 * i + 0 = cTe Z 1 + cTe Z 0 + cTa Z 0 + 3 * i by omega] at v0
  rw [v0, v1, v2, et]
  unfold gSr
  rw [if_neg (by decide), if_pos rfl, if_neg (by decide), if_neg (by decide), if_pos rfl]
  omega
theorem sqX {f g q : Int} (hf : -2000000 ≤ f ∧ f ≤ 2000000) (hg : -2000000 ≤ g ∧ g ≤ 2000000) (hq : -2000000000 ≤ q ∧ q ≤ 2000000000) : xinl (f * f) ∧ xinl (g * g + q * q) := by
  have a := mul_ab (r := 2000000) (s := 2000000) hf.1 hf.2 hf.1 hf.2
  have b := mul_ab (r := 2000000) (s := 2000000) hg.1 hg.2 hg.1 hg.2
  have c := mul_ab (r := 2000000000) (s := 2000000000) hq.1 hq.2 hq.1 hq.2
  exact ⟨⟨by omega, by omega⟩, ⟨by omega, by omega⟩⟩
end FX
section SP
variable {sc : Nat × (Nat → Int32)} {d : Nat} {G : xG} {K : xK} {A : aG}
theorem two_fits (h : Rel G K A) : Two sc (d + 6) MC_fits [.ref 2] Mm_fits [.ref 33] G K pI := by
  have es : xg G 33 34 = xg G 25 11 := h.2.2.2.2.1
  have hA := h.2.1.2.2.1
  have hn := hA.2.1
  by_cases hs : xg G 25 11 = 0
  · obtain ⟨X, x1, x2, x3, x4, x5⟩ := rel_mk0 (sc := sc) (d := d) h
    refine ⟨some (xI 0), G, K, G, K, A, pI_any, fun Q => ?_, fun Q => ?_, h⟩
    · rw [sC_fits (d := d) (gNs_of h) (fun z => absurd hs z), if_neg (fun z => z hs)]
    · rw [sm_fits x1 (fun z => absurd (by rw [es]; exact hs) z), es, if_pos hs]
  · have F := h.2.2.2.2.2 hs
    obtain ⟨g1, g2, g3⟩ := gX_ok h F (asp := -2) (K1 := K)
    have h1 : Rel G (gXK G (-2) K) A := Rel_s h Rs_rfl (fun j => g3 43 j (by decide))
    obtain ⟨X, x1, x2, x3, x4, x5⟩ := rel_mk0 (sc := sc) (d := d) h1
    have xR := Rs_m x3
    have sX : xg X 25 = xg G 25 := xR.1 25 (by decide)
    have s29 : xg X 29 = xg G 29 := xR.1 29 (by decide)
    have FX := x4.2.2.2.2.2 (by rw [sX]; exact hs)
    have mX := x5 hs
    obtain ⟨y1, y2, y3⟩ := mX_ok x4 mX FX (asp := -2) (Or.inr rfl) (K1 := gXK G (-2) K)
    have g1' : EX X A (xgl (gXK G (-2) K) 32) (-2) 1 A.1 := (EX_s xR).mpr g1
    have ee : ∀ x, 0 ≤ x → x < A.1 → ¬ xg X 26 x = 0 → xgl (mXK X (-2) (gXK G (-2) K)) 54 x = xgl (gXK G (-2) K) 32 x := fun x x0 x1 xu => EX_u x4 FX y1 g1' 36 x x0 (by omega) x1 xu
    have rn := rows_n h F
    have hrv : ∀ x, -1 ≤ x → x < xg G 25 9 → mRv X (mXK X (-2) (gXK G (-2) K)) x = RV G (xgl (gXK G (-2) K) 32) 1 x := fun x x0 x1 => by
      rw [mRv_RV x4 mX FX x0 (by rw [sX]; exact x1), RV_e x4 FX ee x0 (by rw [sX]; exact x1), RV_s xR]
    have hgv : ∀ x, gRw G (gXK G (-2) K) x (-2) = RV G (xgl (gXK G (-2) K) 32) 1 x := fun x => rfl
    have eb2 : eB (-2) = 1000000 := rfl
    rw [eb2] at g2
    have hwb : ∀ x, 0 ≤ x → x < A.1 → ¬ xg G 26 x = 0 → -1000000000000 ≤ xgl (gXK G (-2) K) 32 x ∧ xgl (gXK G (-2) K) 32 x ≤ 1000000000000 := fun x x0 x1 xu => by
      have := g2 x x0 x1 xu
      have q8 := (hA.2.2 x x0 x1).2.2.2.2.2.2.2
      have q7 := (hA.2.2 x x0 x1).2.2.2.2.2.2.1
      omega
    have hxl : ∀ r, -1 ≤ r → r < xg G 25 9 → xinl (RV G (xgl (gXK G (-2) K) 32) 1 r) := fun r r0 r1 => rowB h F (Or.inr rfl) hwb r0 r1
    obtain ⟨tN, t1, t0, a0, a1, ab⟩ := te_N h
    obtain ⟨c1, c2, c3, c4, -⟩ := F.2.2.2.2.1
    have hf : ∀ x, (0 : Int) ≤ x → x < 0 + ((36 : Nat) : Int) → cFa G 1 x = 0 ∨ cFa G 1 x = 3 := fun x _ _ => by
      unfold cFa
      by_cases c : gAx G x ∧ ((xg G 10 x = 10 ∧ (1 : Int) = 1) ∨ (¬ xg G 10 x = 10 ∧ (1 : Int) = 0))
      · rw [if_pos c, if_pos (Or.inl (by decide))]; exact Or.inr rfl
      · rw [if_neg c]; exact Or.inl rfl
    have m3 : cTa G 1 % 3 = 0 := tot_3 36 0 hf
    have sq : ∀ i : Int, 0 ≤ i → 3 * i < cTa G 1 → (-2000000 ≤ RV G (xgl (gXK G (-2) K) 32) 1 (xg G 29 0 + xg G 29 1 + 3 * i) ∧ RV G (xgl (gXK G (-2) K) 32) 1 (xg G 29 0 + xg G 29 1 + 3 * i) ≤ 2000000) ∧ (-2000000 ≤ RV G (xgl (gXK G (-2) K) 32) 1 (xg G 29 0 + xg G 29 1 + 3 * i + 1) ∧ RV G (xgl (gXK G (-2) K) 32) 1 (xg G 29 0 + xg G 29 1 + 3 * i + 1) ≤ 2000000) ∧ (-2000000000 ≤ RV G (xgl (gXK G (-2) K) 32) 1 (xg G 29 0 + xg G 29 1 + 3 * i + 2) ∧ RV G (xgl (gXK G (-2) K) 32) 1 (xg G 29 0 + xg G 29 1 + 3 * i + 2) ≤ 2000000000) := by
      intro i i0 i1
      have := sqB h F g1 g2 i0 i1
      rw [show xg G 29 0 + xg G 29 1 = cTe G 1 + cTe G 0 + cTa G 0 by omega]
      exact this
    have hFit : gFitOk G (gXK G (-2) K) := by
      refine ⟨by omega, by omega, by omega, rn.2, by omega, fun r r0 r1 => ⟨gRw_of h F (by omega) (by omega), ?_⟩, fun i i0 i1 => ?_⟩
      · rw [hgv]; exact hxl r (by omega) (by omega)
      · obtain ⟨q1, q2, q3⟩ := sq i i0 (by omega)
        obtain ⟨w1, w2⟩ := sqX q1 q2 q3
        refine ⟨gRw_of h F (by omega) (by omega), gRw_of h F (by omega) (by omega), gRw_of h F (by omega) (by omega), ?_, ?_, ?_⟩
        · rw [hgv]; exact ⟨by omega, by omega⟩
        · rw [hgv]; exact w1
        · rw [hgv, hgv]; exact w2
    obtain ⟨k1, k2, k3, k4, k5⟩ := mk_rc x4 mX FX
    rw [s29] at k1 k2 k3
    have hFt : mFtOk X (mXK X (-2) (gXK G (-2) K)) := by
      refine ⟨mRv_of x4 FX, mEn_of x4 mX, by rw [k3]; omega, fun r r0 r1 => ?_, fun i i0 i1 => ?_⟩
      · rw [k1, k2] at r1
        rw [hrv r (by omega) (by omega)]
        exact hxl r (by omega) (by omega)
      · rw [k3] at i1
        rw [k1, k2]
        obtain ⟨q1, q2, q3⟩ := sq i i0 (by omega)
        obtain ⟨w1, w2⟩ := sqX q1 q2 q3
        rw [hrv _ (by omega) (by omega), hrv _ (by omega) (by omega), hrv _ (by omega) (by omega)]
        exact ⟨⟨by omega, by omega⟩, ⟨by omega, by omega⟩, ⟨by omega, by omega⟩, ⟨by omega, by omega⟩, ⟨by omega, by omega⟩, w1, w2⟩
    have key : gFit G (gXK G (-2) K) = mFt X (mXK X (-2) (gXK G (-2) K)) := by
      unfold gFit mFt
      rw [k1, k2, k3]
      obtain ⟨z, hz⟩ : ∃ z : Nat, xg G 29 0 = (z : Int) := ⟨(xg G 29 0).toNat, by omega⟩
      obtain ⟨o, ho⟩ : ∃ o : Nat, xg G 29 1 = (o : Int) := ⟨(xg G 29 1).toNat, by omega⟩
      obtain ⟨q, hq⟩ : ∃ q : Nat, xg G 29 2 = 3 * (q : Int) := ⟨(xg G 29 2).toNat / 3, by omega⟩
      have e1 : (xg G 25 9 - (xg G 29 0 + xg G 29 1)).toNat / 3 = q := by omega
      have e2 : (xg G 29 2).toNat / 3 = q := by omega
      rw [e1, e2, hz, ho, show ((z : Int)).toNat = z by simp, show ((o : Int)).toNat = o by simp, show ((z : Int) + o).toNat = z + o by omega]
      exact fit_eq (G := G) (X := X) (v := RV G (xgl (gXK G (-2) K) 32) 1) (fun x x0 x1 => hgv x) (fun x x0 x1 => hrv x (by omega) (by omega))
    refine ⟨some (xI (gFit G (gXK G (-2) K))), G, gXK G (-2) K, X, mXK X (-2) (gXK G (-2) K), A, pI_any, fun Q => ?_, fun Q => ?_, Rel_s x4 Rs_rfl (fun j => y3 43 j (by decide))⟩
    · rw [sC_fits (d := d) (gNs_of h) (fun _ => hFit), if_pos hs]
    · rw [sm_fits x1 (fun _ => hFt), es, if_neg hs, key]
end SP
