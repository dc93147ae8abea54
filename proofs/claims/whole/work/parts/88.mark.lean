/-! marks of use: one fixed point, in the class and in the reference -/
def isA (A : aG) (m x : Int) : Prop := ∃ p, 0 ≤ p ∧ p < xar (A.2 m).1 ∧ aAg A m p = x
theorem isA_lt {A : aG} {m x : Int} (hA : aOk A) (m0 : 0 ≤ m) (m1 : m < A.1) (h : isA A m x) : 0 ≤ x ∧ x < m := by
  obtain ⟨p, p0, p1, e⟩ := h
  have := aAg_r hA m0 m1 p0 p1
  rw [← e]
  exact this
def UFx (A : aG) (b : Int → Prop) (u : Int → Int) : Prop := ∀ x, 0 ≤ x → x < A.1 → (¬ u x = 0 ↔ (b x ∨ ∃ m, 0 ≤ m ∧ m < A.1 ∧ ¬ u m = 0 ∧ isA A m x))
theorem UFx_u {A : aG} {b : Int → Prop} {u v : Int → Int} (hA : aOk A) (hu : UFx A b u) (hv : UFx A b v) : ∀ (n : Nat) (x : Int), 0 ≤ x → x < A.1 → A.1 - x ≤ n → (¬ u x = 0 ↔ ¬ v x = 0)
  | 0, x, x0, x1, hn => absurd hn (by omega)
  | n + 1, x, x0, x1, hn => by
    rw [hu x x0 x1, hv x x0 x1]
    constructor
    · rintro (h | ⟨m, m0, m1, h1, h2⟩)
      · exact Or.inl h
      · have := isA_lt hA m0 m1 h2
        exact Or.inr ⟨m, m0, m1, (UFx_u hA hu hv n m m0 m1 (by omega)).mp h1, h2⟩
    · rintro (h | ⟨m, m0, m1, h1, h2⟩)
      · exact Or.inl h
      · have := isA_lt hA m0 m1 h2
        exact Or.inr ⟨m, m0, m1, (UFx_u hA hu hv n m m0 m1 (by omega)).mpr h1, h2⟩
theorem isA_pre {A B : aG} {m x : Int} (h : aPre A B) (m0 : 0 ≤ m) (m1 : m < A.1) : isA B m x ↔ isA A m x := by
  unfold isA aAg
  rw [h.2 m m0 m1]
/-- marks stay as nodes are added -/
theorem UFx_pre {A B : aG} {b : Int → Prop} {u : Int → Int} (hA : aOk A) (hp : aPre A B) (hu : UFx A b u) (hz : ∀ x, A.1 ≤ x → x < B.1 → u x = 0) (hb : ∀ x, b x → x < A.1) : UFx B b u := by
  intro x x0 x1
  have hm : ∀ m, m < B.1 → ¬ u m = 0 → m < A.1 := fun m m1 h => by
    rcases (show m < A.1 ∨ A.1 ≤ m by omega) with z | z
    · exact z
    · exact absurd (hz m z m1) h
  by_cases hx : x < A.1
  · rw [hu x x0 hx]
    constructor
    · rintro (h | ⟨m, m0, m1, h1, h2⟩)
      · exact Or.inl h
      · exact Or.inr ⟨m, m0, by have := hp.1; omega, h1, (isA_pre hp m0 m1).mpr h2⟩
    · rintro (h | ⟨m, m0, m1, h1, h2⟩)
      · exact Or.inl h
      · have := hm m m1 h1
        exact Or.inr ⟨m, m0, this, h1, (isA_pre hp m0 this).mp h2⟩
  · constructor
    · intro h; exact absurd (hz x (by omega) x1) h
    · rintro (h | ⟨m, m0, m1, h1, h2⟩)
      · exact absurd (hb x h) hx
      · have m2 := hm m m1 h1
        have := isA_lt hA m0 m2 ((isA_pre hp m0 m2).mp h2)
        omega
/-- the arguments of k are marked, if k is -/
def mkF (c : Nat) (G : xG) (k n a0 a1 a2 : Int) : xG := if xg G c k = 0 then G else if n = 0 then G else if n = 1 then xp G c a0 1 else if n = 2 then xp (xp G c a0 1) c a1 1 else xp (xp (xp G c a0 1) c a1 1) c a2 1
theorem mkF_c {c b : Nat} {G : xG} {k n a0 a1 a2 j : Int} (h : ¬ b = c) : xg (mkF c G k n a0 a1 a2) b j = xg G b j := by
  unfold mkF
  split
  · rfl
  · split
    · rfl
    · split
      · rw [xg_cell h]
      · split
        · rw [xg_cell h, xg_cell h]
        · rw [xg_cell h, xg_cell h, xg_cell h]
theorem xp_1 {c : Nat} {G : xG} {a x : Int} (a0 : 0 ≤ a) (x0 : 0 ≤ x) : xg (xp G c a 1) c x = if x = a then 1 else xg G c x := by
  by_cases h : x = a
  · subst h; rw [if_pos rfl, xg_self ⟨by decide, by decide⟩]
  · rw [if_neg h, xg_idx a0 x0 h]
theorem xp_1n {c : Nat} {G : xG} {a x : Int} (a0 : 0 ≤ a) (x0 : 0 ≤ x) : ¬ xg (xp G c a 1) c x = 0 ↔ (¬ xg G c x = 0 ∨ x = a) := by
  rw [xp_1 a0 x0]
  by_cases h : x = a
  · rw [if_pos h]; simp [h]
  · rw [if_neg h]; simp [h]
theorem mkF_ch {c : Nat} {G : xG} {A : aG} {k : Int} (hA : aOk A) (k0 : 0 ≤ k) (k1 : k < A.1) {x : Int} (x0 : 0 ≤ x) : ¬ xg (mkF c G k (xar (A.2 k).1) (A.2 k).2.2.1 (A.2 k).2.2.2.1 (A.2 k).2.2.2.2.1) c x = 0 ↔ (¬ xg G c x = 0 ∨ (¬ xg G c k = 0 ∧ isA A k x)) := by
  obtain ⟨r1, r2, r3, r4, r5, r6⟩ := aArgs hA k0 k1
  have q := hA.2.2 k k0 k1
  have e := par_xar q.1 (show (A.2 k).1 ≤ 12 by have := q.2.1; omega)
  have e3 := par_3 (k := (A.2 k).1)
  unfold mkF
  by_cases hu : xg G c k = 0
  · rw [if_pos hu]
    simp [hu]
  · rw [if_neg hu]
    have ha : isA A k x ↔ ((0 < xar (A.2 k).1 ∧ x = (A.2 k).2.2.1) ∨ (1 < xar (A.2 k).1 ∧ x = (A.2 k).2.2.2.1) ∨ (2 < xar (A.2 k).1 ∧ x = (A.2 k).2.2.2.2.1)) := by
      unfold isA
      constructor
      · rintro ⟨p, p0, p1, ep⟩
        unfold aAg at ep
        rcases (show p = 0 ∨ p = 1 ∨ p = 2 by omega) with rfl | rfl | rfl
        · rw [if_pos rfl] at ep; exact Or.inl ⟨p1, ep.symm⟩
        · rw [if_neg (by decide), if_pos rfl] at ep; exact Or.inr (Or.inl ⟨p1, ep.symm⟩)
        · rw [if_neg (by decide), if_neg (by decide)] at ep; exact Or.inr (Or.inr ⟨p1, ep.symm⟩)
      · rintro (⟨h1, h2⟩ | ⟨h1, h2⟩ | ⟨h1, h2⟩)
        · exact ⟨0, by decide, h1, h2.symm⟩
        · exact ⟨1, by decide, h1, h2.symm⟩
        · exact ⟨2, by decide, h1, h2.symm⟩
    rw [ha]
    rcases (show xar (A.2 k).1 = 0 ∨ xar (A.2 k).1 = 1 ∨ xar (A.2 k).1 = 2 ∨ xar (A.2 k).1 = 3 by omega) with z | z | z | z
    · rw [if_pos z]; simp [z]
    · have h0 := r1 (by omega)
      rw [if_neg (by omega), if_pos z, xp_1n h0.1 x0]
      simp [z, hu]
    · have h0 := r1 (by omega)
      have h1 := r3 (by omega)
      rw [if_neg (by omega), if_neg (by omega), if_pos z, xp_1n h1.1 x0, xp_1n h0.1 x0]
      simp [z, hu, or_assoc]
    · have h0 := r1 (by omega)
      have h1 := r3 (by omega)
      have h2 := r5 (by omega)
      rw [if_neg (by omega), if_neg (by omega), if_neg (by omega), xp_1n h2.1 x0, xp_1n h1.1 x0, xp_1n h0.1 x0]
      simp [z, hu, or_assoc]
theorem mkF_b {c : Nat} {G : xG} {A : aG} {k : Int} (hA : aOk A) (k0 : 0 ≤ k) (k1 : k < A.1) (hb : ∀ x, 0 ≤ x → xbo (xg G c x)) {x : Int} (x0 : 0 ≤ x) : xbo (xg (mkF c G k (xar (A.2 k).1) (A.2 k).2.2.1 (A.2 k).2.2.2.1 (A.2 k).2.2.2.2.1) c x) := by
  obtain ⟨r1, r2, r3, r4, r5, r6⟩ := aArgs hA k0 k1
  have q := hA.2.2 k k0 k1
  have e := par_xar q.1 (show (A.2 k).1 ≤ 12 by have := q.2.1; omega)
  have e3 := par_3 (k := (A.2 k).1)
  have st : ∀ (X : xG) (a : Int), (∀ x, 0 ≤ x → xbo (xg X c x)) → 0 ≤ a → ∀ x, 0 ≤ x → xbo (xg (xp X c a 1) c x) := by
    intro X a hX a0 x x0
    rw [xp_1 a0 x0]
    split
    · exact Or.inr rfl
    · exact hX x x0
  unfold mkF
  split
  · exact hb x x0
  · rcases (show xar (A.2 k).1 = 0 ∨ xar (A.2 k).1 = 1 ∨ xar (A.2 k).1 = 2 ∨ xar (A.2 k).1 = 3 by omega) with z | z | z | z
    · rw [if_pos z]; exact hb x x0
    · rw [if_neg (by omega), if_pos z]
      exact st _ _ hb (r1 (by omega)).1 x x0
    · rw [if_neg (by omega), if_neg (by omega), if_pos z]
      exact st _ _ (st _ _ hb (r1 (by omega)).1) (r3 (by omega)).1 x x0
    · rw [if_neg (by omega), if_neg (by omega), if_neg (by omega)]
      exact st _ _ (st _ _ (st _ _ hb (r1 (by omega)).1) (r3 (by omega)).1) (r5 (by omega)).1 x x0
def mkL (c : Nat) (A : aG) : Nat → xG → xG
  | 0, G => G
  | n + 1, G => mkL c A n (mkF c G n (xar (A.2 n).1) (A.2 n).2.2.1 (A.2 n).2.2.2.1 (A.2 n).2.2.2.2.1)
theorem mkL_c {c b : Nat} {A : aG} (h : ¬ b = c) : ∀ (n : Nat) (G : xG) (j : Int), xg (mkL c A n G) b j = xg G b j
  | 0, G, j => rfl
  | n + 1, G, j => (mkL_c h n _ j).trans (mkF_c h)
theorem mkL_b {c : Nat} {A : aG} (hA : aOk A) : ∀ (n : Nat) (G : xG), (n : Int) ≤ A.1 → (∀ x, 0 ≤ x → xbo (xg G c x)) → ∀ x, 0 ≤ x → xbo (xg (mkL c A n G) c x)
  | 0, G, _, hb, x, x0 => hb x x0
  | n + 1, G, hn, hb, x, x0 => mkL_b hA n _ (by omega) (fun y y0 => mkF_b hA (by omega) (by omega) hb y0) x x0
theorem mkL_ch {c : Nat} {A : aG} {b : Int → Prop} (hA : aOk A) : ∀ (n : Nat) (G : xG), (n : Int) ≤ A.1 → (∀ x, 0 ≤ x → x < A.1 → (¬ xg G c x = 0 ↔ (b x ∨ ∃ m, (n : Int) ≤ m ∧ m < A.1 ∧ ¬ xg G c m = 0 ∧ isA A m x))) → UFx A b (xg (mkL c A n G) c)
  | 0, G, _, h => fun x x0 x1 => by
    show ¬ xg G c x = 0 ↔ _
    have := h x x0 x1
    exact this
  | n + 1, G, hn, h => by
    refine mkL_ch hA n _ (by omega) (fun x x0 x1 => ?_)
    have e : ∀ y, 0 ≤ y → (¬ xg (mkF c G n (xar (A.2 n).1) (A.2 n).2.2.1 (A.2 n).2.2.2.1 (A.2 n).2.2.2.2.1) c y = 0 ↔ (¬ xg G c y = 0 ∨ (¬ xg G c n = 0 ∧ isA A n y))) := fun y y0 => mkF_ch hA (by omega) (by omega) y0
    have eu : ∀ m : Int, (n : Int) ≤ m → (¬ xg (mkF c G n (xar (A.2 n).1) (A.2 n).2.2.1 (A.2 n).2.2.2.1 (A.2 n).2.2.2.2.1) c m = 0 ↔ ¬ xg G c m = 0) := by
      intro m hm
      rw [e m (by omega)]
      constructor
      · rintro (q | ⟨q1, q2⟩)
        · exact q
        · have := isA_lt hA (show (0 : Int) ≤ (n : Int) by omega) (by omega) q2
          omega
      · intro q; exact Or.inl q
    rw [e x x0, h x x0 x1]
    constructor
    · rintro ((h1 | ⟨m, m0, m1, h2, h3⟩) | ⟨h2, h3⟩)
      · exact Or.inl h1
      · exact Or.inr ⟨m, by omega, m1, (eu m (by omega)).mpr h2, h3⟩
      · exact Or.inr ⟨n, Int.le_refl _, by omega, (eu n (Int.le_refl _)).mpr h2, h3⟩
    · rintro (h1 | ⟨m, m0, m1, h2, h3⟩)
      · exact Or.inl (Or.inl h1)
      · have h2' := (eu m m0).mp h2
        by_cases hm : m = n
        · subst hm; exact Or.inr ⟨h2', h3⟩
        · exact Or.inl (Or.inr ⟨m, by omega, m1, h2', h3⟩)
