/-! expansions, as rules -/
def exV (Z : xG) (A : aG) (e : Int → Int) (asp : Int) (cz : Int) (k : Int) : Int :=
  if xg Z 15 k = 0 then (if cz = 1 then xg Z 18 k else 0)
  else if ¬ xg Z 27 k = -1 then gEc Z k asp
  else if (A.2 k).1 = 3 then e (A.2 k).2.2.1 + e (A.2 k).2.2.2.1
  else if (A.2 k).1 = 4 then e (A.2 k).2.2.1 - e (A.2 k).2.2.2.1
  else if (A.2 k).1 = 5 then - e (A.2 k).2.2.1
  else if xg Z 15 (A.2 k).2.2.1 = 0 then xg Z 18 (A.2 k).2.2.1 * e (A.2 k).2.2.2.1 else e (A.2 k).2.2.1 * xg Z 18 (A.2 k).2.2.2.1
def EX (Z : xG) (A : aG) (e : Int → Int) (asp : Int) (cz : Int) (n : Int) : Prop := ∀ k, 0 ≤ k → k < n → ¬ xg Z 26 k = 0 → e k = exV Z A e asp cz k
section EXS
variable {Z : xG} {K : xK} {A : aG}
theorem col_n (F : Fm Z A) {k : Int} (k0 : 0 ≤ k) (k1 : k < 36) : (¬ xg Z 27 k = -1 ↔ (cVa Z k ∨ gAx Z k)) ∧ (cVa Z k ∨ gAx Z k → 0 ≤ xg Z 27 k) := by
  rw [F.2.2.2.1.1 k k0 k1]
  unfold cPl
  have tb := tot_b (f := cPf Z k) (M := 1) 36 0 (fun x _ _ => by unfold cPf; split <;> decide)
  by_cases h : cVa Z k ∨ gAx Z k
  · rw [if_pos h]; exact ⟨⟨fun _ => h, fun _ => by omega⟩, fun _ => tb.1⟩
  · rw [if_neg h]; exact ⟨⟨fun z => absurd rfl z, fun z => absurd z h⟩, fun z => absurd z h⟩
/-- what is neither constant nor a column is a sum, a difference, a negation or a product -/
theorem ex_kd (h : Rel Z K A) (F : Fm Z A) {k : Int} (k0 : 0 ≤ k) (k1 : k < A.1) (hu : ¬ xg Z 26 k = 0) (hc : ¬ xg Z 15 k = 0) (hn : xg Z 27 k = -1) : (A.2 k).1 = 3 ∨ (A.2 k).1 = 4 ∨ (A.2 k).1 = 5 ∨ (A.2 k).1 = 6 := by
  obtain ⟨-, ⟨r1, r2, r3, r4, r5⟩, -, -⟩ := h
  have e := (r2.2 k k0 k1).1
  have q := r3.2.2 k k0 k1
  have q1 := q.1
  have q2 := q.2.1
  have hcol := (col_n F k0 (show k < 36 by have := r3.2.1; omega)).1
  have hv : ¬ (cVa Z k ∨ gAx Z k) := fun z => (hcol.mpr z) hn
  have a1 : ¬ (A.2 k).1 = 1 := fun z => hv (Or.inl ⟨hu, by rw [e]; exact z⟩)
  have a2 : ¬ 7 ≤ (A.2 k).1 := fun z => hv (Or.inr ⟨hu, by rw [e]; exact z, hc⟩)
  have l2 := (r4.1 k k0 k1).2.1
  have a3 : ¬ (A.2 k).1 = 0 := fun z => hc (by rw [l2, z]; rfl)
  have a4 : ¬ (A.2 k).1 = 2 := fun z => hc (by rw [l2, z]; rfl)
  omega
/-- arguments of what is used are used -/
theorem us_arg (h : Rel Z K A) (F : Fm Z A) {k p : Int} (k0 : 0 ≤ k) (k1 : k < A.1) (hu : ¬ xg Z 26 k = 0) (p0 : 0 ≤ p) (p1 : p < xar (A.2 k).1) : 0 ≤ aAg A k p ∧ aAg A k p < k ∧ ¬ xg Z 26 (aAg A k p) = 0 := by
  obtain ⟨-, ⟨r1, r2, r3, r4, r5⟩, -, -⟩ := h
  obtain ⟨a0, a1⟩ := aAg_r r3 k0 k1 p0 p1
  exact ⟨a0, a1, (F.2.1 _ a0 (by omega)).mpr (Or.inr ⟨k, k0, k1, hu, p, p0, p1, rfl⟩)⟩
theorem ex_args (h : Rel Z K A) (F : Fm Z A) {k : Int} (k0 : 0 ≤ k) (k1 : k < A.1) (hu : ¬ xg Z 26 k = 0) : (0 < xar (A.2 k).1 → 0 ≤ (A.2 k).2.2.1 ∧ (A.2 k).2.2.1 < k ∧ ¬ xg Z 26 (A.2 k).2.2.1 = 0) ∧ (1 < xar (A.2 k).1 → 0 ≤ (A.2 k).2.2.2.1 ∧ (A.2 k).2.2.2.1 < k ∧ ¬ xg Z 26 (A.2 k).2.2.2.1 = 0) ∧ (2 < xar (A.2 k).1 → 0 ≤ (A.2 k).2.2.2.2.1 ∧ (A.2 k).2.2.2.2.1 < k ∧ ¬ xg Z 26 (A.2 k).2.2.2.2.1 = 0) :=
  ⟨fun z => us_arg (p := 0) h F k0 k1 hu (by decide) z, fun z => us_arg (p := 1) h F k0 k1 hu (by decide) z, fun z => us_arg (p := 2) h F k0 k1 hu (by decide) z⟩
theorem exV_e (h : Rel Z K A) (F : Fm Z A) {e e' : Int → Int} {asp cz k : Int} (k0 : 0 ≤ k) (k1 : k < A.1) (hu : ¬ xg Z 26 k = 0) (he : ∀ x, 0 ≤ x → x < k → ¬ xg Z 26 x = 0 → e x = e' x) : exV Z A e asp cz k = exV Z A e' asp cz k := by
  obtain ⟨u1, u2, u3⟩ := ex_args h F k0 k1 hu
  unfold exV
  by_cases c1 : xg Z 15 k = 0
  · rw [if_pos c1, if_pos c1]
  · rw [if_neg c1, if_neg c1]
    by_cases c2 : ¬ xg Z 27 k = -1
    · rw [if_pos c2, if_pos c2]
    · rw [if_neg c2, if_neg c2]
      have hk := ex_kd h F k0 k1 hu c1 (by omega)
      rcases hk with z | z | z | z
      · have a := u1 (by rw [z]; decide)
        have b := u2 (by rw [z]; decide)
        rw [if_pos z, if_pos z, he _ a.1 a.2.1 a.2.2, he _ b.1 b.2.1 b.2.2]
      · have a := u1 (by rw [z]; decide)
        have b := u2 (by rw [z]; decide)
        simp only [if_neg (show ¬ (A.2 k).1 = 3 by omega), if_pos z, he _ a.1 a.2.1 a.2.2, he _ b.1 b.2.1 b.2.2]
      · have a := u1 (by rw [z]; decide)
        simp only [if_neg (show ¬ (A.2 k).1 = 3 by omega), if_neg (show ¬ (A.2 k).1 = 4 by omega), if_pos z, he _ a.1 a.2.1 a.2.2]
      · have a := u1 (by rw [z]; decide)
        have b := u2 (by rw [z]; decide)
        simp only [if_neg (show ¬ (A.2 k).1 = 3 by omega), if_neg (show ¬ (A.2 k).1 = 4 by omega), if_neg (show ¬ (A.2 k).1 = 5 by omega), he _ a.1 a.2.1 a.2.2, he _ b.1 b.2.1 b.2.2]
/-- there is one expansion -/
theorem EX_u (h : Rel Z K A) (F : Fm Z A) {e e' : Int → Int} {asp cz : Int} (h1 : EX Z A e asp cz A.1) (h2 : EX Z A e' asp cz A.1) : ∀ (n : Nat) (k : Int), 0 ≤ k → k < n → k < A.1 → ¬ xg Z 26 k = 0 → e k = e' k
  | 0, k, k0, k1, _, _ => absurd k1 (by omega)
  | n + 1, k, k0, k1, k2, hu => by
    rw [h1 k k0 k2 hu, h2 k k0 k2 hu]
    exact exV_e h F k0 k2 hu (fun x x0 x1 xu => EX_u h F h1 h2 n x x0 (by omega) (by omega) xu)
/-- the numbers of a column, upon the constants -/
theorem EX_add (h : Rel Z K A) (F : Fm Z A) {e e' : Int → Int} {c : Int} (hc : 0 ≤ c) (h1 : EX Z A e (-1) 1 A.1) (h2 : EX Z A e' c 0 A.1) : EX Z A (fun k => e k + e' k) c 1 A.1 := by
  intro k k0 k1 hu
  have e1 := h1 k k0 k1 hu
  have e2 := h2 k k0 k1 hu
  show e k + e' k = _
  rw [e1, e2]
  unfold exV
  by_cases c1 : xg Z 15 k = 0
  · rw [if_pos c1, if_pos c1, if_pos c1, if_pos rfl, if_neg (by decide)]
    omega
  · rw [if_neg c1, if_neg c1, if_neg c1]
    by_cases c2 : ¬ xg Z 27 k = -1
    · rw [if_pos c2, if_pos c2, if_pos c2]
      unfold gEc
      rw [if_neg (show ¬ (-1 : Int) = -2 by decide), if_neg (fun z => c2 z.symm), if_neg (show ¬ c = -2 by omega)]
      omega
    · rw [if_neg c2, if_neg c2, if_neg c2]
      have hk := ex_kd h F k0 k1 hu c1 (by omega)
      rcases hk with z | z | z | z
      · simp only [if_pos z]; omega
      · simp only [if_neg (show ¬ (A.2 k).1 = 3 by omega), if_pos z]; omega
      · simp only [if_neg (show ¬ (A.2 k).1 = 3 by omega), if_neg (show ¬ (A.2 k).1 = 4 by omega), if_pos z]; omega
      · simp only [if_neg (show ¬ (A.2 k).1 = 3 by omega), if_neg (show ¬ (A.2 k).1 = 4 by omega), if_neg (show ¬ (A.2 k).1 = 5 by omega)]
        by_cases c3 : xg Z 15 (A.2 k).2.2.1 = 0
        · simp only [if_pos c3, Int.mul_add]
        · simp only [if_neg c3, Int.add_mul]
/-- a bound of an expansion's numbers -/
def eB (asp : Int) : Int := if asp = -2 then 1000000 else 1
theorem mul3 {x y r s B : Int} (h1 : -r ≤ x) (h2 : x ≤ r) (h3 : -(s * B) ≤ y) (h4 : y ≤ s * B) : -(r * s * B) ≤ x * y ∧ x * y ≤ r * s * B := by
  have := mul_ab h1 h2 h3 h4
  rw [Int.mul_assoc]
  exact this
theorem ex_bB (h : Rel Z K A) (F : Fm Z A) {e : Int → Int} {asp cz k B : Int} (hB1 : 1 ≤ B) (hB2 : asp = -2 → 1000000 ≤ B) (k0 : 0 ≤ k) (k1 : k < A.1) (hu : ¬ xg Z 26 k = 0) (hb : ∀ x, 0 ≤ x → x < k → ¬ xg Z 26 x = 0 → -((A.2 x).2.2.2.2.2 * B) ≤ e x ∧ e x ≤ (A.2 x).2.2.2.2.2 * B) : -((A.2 k).2.2.2.2.2 * B) ≤ exV Z A e asp cz k ∧ exV Z A e asp cz k ≤ (A.2 k).2.2.2.2.2 * B := by
  have h' := h
  obtain ⟨-, ⟨r1, r2, r3, r4, r5⟩, -, -⟩ := h'
  obtain ⟨u1, u2, u3⟩ := ex_args h F k0 k1 hu
  obtain ⟨q1, q2, q3, q4, q5, q6, q7, q8⟩ := r3.2.2 k k0 k1
  have hn := r3.2.1
  have vb := aV_bb r3 r4.2 k0 k1
  have w1 : (A.2 k).2.2.2.2.2 ≤ (A.2 k).2.2.2.2.2 * B := by have := Int.mul_le_mul_of_nonneg_left hB1 (show 0 ≤ (A.2 k).2.2.2.2.2 by omega); omega
  have w2 : B ≤ (A.2 k).2.2.2.2.2 * B := by have := Int.mul_le_mul_of_nonneg_right q7 (show 0 ≤ B by omega); omega
  have rr : ∀ x, 0 ≤ x → aR A x = (A.2 x).2.2.2.2.2 := fun x x0 => by unfold aR; rw [if_neg (by omega)]
  unfold exV
  by_cases c1 : xg Z 15 k = 0
  · rw [if_pos c1]
    split <;> omega
  · rw [if_neg c1]
    by_cases c2 : ¬ xg Z 27 k = -1
    · rw [if_pos c2]
      unfold gEc
      by_cases ca : asp = -2
      · rw [if_pos ca]
        have eb := hB2 ca
        split
        · omega
        · rename_i hk1
          have hcol := (col_n F k0 (show k < 36 by omega)).1.mp c2
          have hx : gAx Z k := hcol.resolve_left (fun z => hk1 z.2)
          have := (F.2.2.2.2.2 k k0 (by omega) hx).2
          unfold mB6 at this
          omega
      · rw [if_neg ca]
        split <;> omega
    · rw [if_neg c2]
      have hk := ex_kd h F k0 k1 hu c1 (by omega)
      rcases hk with z | z | z | z
      · have a := u1 (by rw [z]; decide)
        have b := u2 (by rw [z]; decide)
        have ha := hb _ a.1 a.2.1 a.2.2
        have hbb := hb _ b.1 b.2.1 b.2.2
        have e6 : (A.2 k).2.2.2.2.2 = (A.2 (A.2 k).2.2.1).2.2.2.2.2 + (A.2 (A.2 k).2.2.2.1).2.2.2.2.2 := by
          rw [q6, ← rr _ a.1, ← rr _ b.1, q5.2.2.2.2.2 (by rw [z]; decide), z]
          show _ + _ + aR A (-1) = _
          have : aR A (-1) = 0 := by unfold aR; rw [if_pos rfl]
          omega
        rw [if_pos z, e6, Int.add_mul]
        omega
      · have a := u1 (by rw [z]; decide)
        have b := u2 (by rw [z]; decide)
        have ha := hb _ a.1 a.2.1 a.2.2
        have hbb := hb _ b.1 b.2.1 b.2.2
        have e6 : (A.2 k).2.2.2.2.2 = (A.2 (A.2 k).2.2.1).2.2.2.2.2 + (A.2 (A.2 k).2.2.2.1).2.2.2.2.2 := by
          rw [q6, ← rr _ a.1, ← rr _ b.1, q5.2.2.2.2.2 (by rw [z]; decide), z]
          show _ + _ + aR A (-1) = _
          have : aR A (-1) = 0 := by unfold aR; rw [if_pos rfl]
          omega
        rw [if_neg (show ¬ (A.2 k).1 = 3 by omega), if_pos z, e6, Int.add_mul]
        omega
      · have a := u1 (by rw [z]; decide)
        have ha := hb _ a.1 a.2.1 a.2.2
        have e6 : (A.2 k).2.2.2.2.2 = (A.2 (A.2 k).2.2.1).2.2.2.2.2 := by
          rw [q6, ← rr _ a.1, q5.2.2.2.1 (by rw [z]; decide), z]
          have n1 : aR A (-1) = 0 := by unfold aR; rw [if_pos rfl]
          have n2 := (aR_b r3 (Or.inr ⟨a.1, by omega⟩)).2.2 (by omega)
          show (if aR A (-1) < aR A (A.2 k).2.2.1 then aR A (A.2 k).2.2.1 else _) = _
          rw [if_pos (by omega)]
        rw [if_neg (show ¬ (A.2 k).1 = 3 by omega), if_neg (show ¬ (A.2 k).1 = 4 by omega), if_pos z, e6]
        omega
      · have a := u1 (by rw [z]; decide)
        have b := u2 (by rw [z]; decide)
        have ha := hb _ a.1 a.2.1 a.2.2
        have hbb := hb _ b.1 b.2.1 b.2.2
        have va := aV_bb r3 r4.2 a.1 (show (A.2 k).2.2.1 < A.1 by omega)
        have vbb := aV_bb r3 r4.2 b.1 (show (A.2 k).2.2.2.1 < A.1 by omega)
        have e6 : (A.2 k).2.2.2.2.2 = (A.2 (A.2 k).2.2.1).2.2.2.2.2 * (A.2 (A.2 k).2.2.2.1).2.2.2.2.2 := by
          rw [q6, ← rr _ a.1, ← rr _ b.1, z]
          rfl
        rw [if_neg (show ¬ (A.2 k).1 = 3 by omega), if_neg (show ¬ (A.2 k).1 = 4 by omega), if_neg (show ¬ (A.2 k).1 = 5 by omega), e6]
        split
        · exact mul3 va.1 va.2.1 hbb.1 hbb.2
        · have := mul3 vbb.1 vbb.2.1 ha.1 ha.2
          rw [Int.mul_comm (e (A.2 k).2.2.1), Int.mul_comm (A.2 (A.2 k).2.2.1).2.2.2.2.2]
          exact this
theorem ex_b (h : Rel Z K A) (F : Fm Z A) {e : Int → Int} {asp cz k : Int} (k0 : 0 ≤ k) (k1 : k < A.1) (hu : ¬ xg Z 26 k = 0) (hb : ∀ x, 0 ≤ x → x < k → ¬ xg Z 26 x = 0 → -((A.2 x).2.2.2.2.2 * eB asp) ≤ e x ∧ e x ≤ (A.2 x).2.2.2.2.2 * eB asp) : -((A.2 k).2.2.2.2.2 * eB asp) ≤ exV Z A e asp cz k ∧ exV Z A e asp cz k ≤ (A.2 k).2.2.2.2.2 * eB asp :=
  ex_bB h F (by unfold eB; split <;> decide) (fun z => by unfold eB; rw [if_pos z]; decide) k0 k1 hu hb
end EXS
