/-! the class's form: rows -/
def Ap (G G' : xG) (t : Int) (h : Int → Int × Int) : Prop := xg G' 25 9 = xg G 25 9 + t ∧ (∀ j, 0 ≤ j → ¬ j = 9 → xg G' 25 j = xg G 25 j) ∧ (∀ (a : Nat) (j : Int), ¬ a = 25 → ¬ a = 30 → ¬ a = 31 → xg G' a j = xg G a j) ∧ (∀ x, 0 ≤ x → x < xg G 25 9 → xg G' 30 x = xg G 30 x ∧ xg G' 31 x = xg G 31 x) ∧ ∀ i, 0 ≤ i → i < t → xg G' 30 (xg G 25 9 + i) = (h i).1 ∧ xg G' 31 (xg G 25 9 + i) = (h i).2
theorem Ap_0 {G : xG} {h : Int → Int × Int} : Ap G G 0 h := ⟨by omega, fun _ _ _ => rfl, fun _ _ _ _ _ => rfl, fun _ _ _ => ⟨rfl, rfl⟩, fun i i0 i1 => absurd i1 (by omega)⟩
theorem Ap_c {G G1 G2 : xG} {t1 t2 : Int} {h1 h2 : Int → Int × Int} (hg : 0 ≤ xg G 25 9) (ht : 0 ≤ t1) (a : Ap G G1 t1 h1) (b : Ap G1 G2 t2 h2) : Ap G G2 (t1 + t2) (fun i => if i < t1 then h1 i else h2 (i - t1)) := by
  obtain ⟨a1, a2, a3, a4, a5⟩ := a
  obtain ⟨b1, b2, b3, b4, b5⟩ := b
  refine ⟨by rw [b1, a1]; omega, fun j j0 hj => (b2 j j0 hj).trans (a2 j j0 hj), fun c j q1 q2 q3 => (b3 c j q1 q2 q3).trans (a3 c j q1 q2 q3), fun x x0 x1 => ?_, fun i i0 i1 => ?_⟩
  · rw [(b4 x x0 (by omega)).1, (b4 x x0 (by omega)).2]; exact a4 x x0 x1
  · by_cases hi : i < t1
    · simp only [if_pos hi]
      rw [(b4 _ (by omega) (by omega)).1, (b4 _ (by omega) (by omega)).2]
      exact a5 i i0 hi
    · simp only [if_neg hi]
      have := b5 (i - t1) (by omega) (by omega)
      rw [a1, show xg G 25 9 + t1 + (i - t1) = xg G 25 9 + i by omega] at this
      exact this
theorem Ap_1 {G : xG} {o p : Int} (h0 : 0 ≤ xg G 25 9) (h1 : xg G 25 9 < 114) (xo : xin o) (xq : xin p) : Ap G (gAr G o p) 1 (fun _ => (o, p)) := by
  unfold gAr
  rw [if_pos h1]
  refine ⟨xg_self ⟨by omega, by omega⟩, fun j j0 hj => ?_, fun a j q1 q2 q3 => ?_, fun x x0 x1 => ?_, fun i i0 i1 => ?_⟩
  · rw [xg_idx (by decide) j0 hj, xg_cell (by decide), xg_cell (by decide)]
  · rw [xg_cell q1, xg_cell q3, xg_cell q2]
  · rw [xg_cell (show ¬ 30 = 25 by decide), xg_cell (show ¬ 31 = 25 by decide), xg_cell (show ¬ 30 = 31 by decide), xg_idx h0 x0 (by omega), xg_idx h0 x0 (by omega), xg_cell (show ¬ 31 = 30 by decide)]; exact ⟨rfl, rfl⟩
  · have e : i = 0 := by omega
    subst e
    rw [Int.add_zero, xg_cell (show ¬ 30 = 25 by decide), xg_cell (show ¬ 31 = 25 by decide), xg_cell (show ¬ 30 = 31 by decide), xg_self xo, xg_self xq]; exact ⟨rfl, rfl⟩
theorem Ap_e {G G' : xG} {t t' : Int} {h h' : Int → Int × Int} (a : Ap G G' t h) (et : t = t') (eh : ∀ i, 0 ≤ i → i < t → h i = h' i) : Ap G G' t' h' := by
  subst et
  obtain ⟨a1, a2, a3, a4, a5⟩ := a
  exact ⟨a1, a2, a3, a4, fun i i0 i1 => by rw [← eh i i0 i1]; exact a5 i i0 i1⟩
def apR (G : xG) (m k : Int) : xG := if m = 0 then G else if m = 1 then gAr G k 0 else if m = 2 then gAr (gAr G k 0) k 1 else gAr (gAr (gAr G k 0) k 1) k 2
theorem apR_ok {G : xG} {m k : Int} (h0 : 0 ≤ xg G 25 9) (hm : m = 0 ∨ m = 1 ∨ m = 2 ∨ m = 3) (h1 : xg G 25 9 + m ≤ 114) (xk : xin k) : Ap G (apR G m k) m (fun i => (k, i)) := by
  have x1 : xin 1 := ⟨by decide, by decide⟩
  have x2 : xin 2 := ⟨by decide, by decide⟩
  unfold apR
  rcases hm with rfl | rfl | rfl | rfl
  · rw [if_pos rfl]; exact Ap_0
  · rw [if_neg (by decide), if_pos rfl]
    exact Ap_e (Ap_1 h0 (by omega) xk xin_0) rfl (fun i i0 i1 => by rw [show i = 0 by omega])
  · rw [if_neg (by decide), if_neg (by decide), if_pos rfl]
    have a := Ap_1 (o := k) (p := 0) h0 (by omega) xk xin_0
    have b := Ap_1 (G := gAr G k 0) (o := k) (p := 1) (by rw [a.1]; omega) (by rw [a.1]; omega) xk x1
    exact Ap_e (Ap_c h0 (by decide) a b) rfl (fun i i0 i1 => by
      by_cases hi : i < 1
      · rw [if_pos hi, show i = 0 by omega]
      · rw [if_neg hi, show i = 1 by omega])
  · rw [if_neg (by decide), if_neg (by decide), if_neg (by decide)]
    have a := Ap_1 (o := k) (p := 0) h0 (by omega) xk xin_0
    have b := Ap_1 (G := gAr G k 0) (o := k) (p := 1) (by rw [a.1]; omega) (by rw [a.1]; omega) xk x1
    have c := Ap_1 (G := gAr (gAr G k 0) k 1) (o := k) (p := 2) (by rw [b.1, a.1]; omega) (by rw [b.1, a.1]; omega) xk x2
    exact Ap_e (Ap_c h0 (by decide) (Ap_c h0 (by decide) a b) c) rfl (fun i i0 i1 => by
      by_cases h2 : i < 1 + 1
      · rw [if_pos h2]
        by_cases hi : i < 1
        · rw [if_pos hi, show i = 0 by omega]
        · rw [if_neg hi, show i = 1 by omega]
      · rw [if_neg h2, show i = 2 by omega])
def apL (f : Int → Int) : Nat → Int → xG → xG
  | 0, _, G => G
  | n + 1, k, G => apL f n (k + 1) (apR G (f k) k)
theorem apL_ok {f : Int → Int} : ∀ (n : Nat) (k : Int) (G : xG), (∀ x, k ≤ x → x < k + n → f x = 0 ∨ f x = 1 ∨ f x = 2 ∨ f x = 3) → 0 ≤ k → k + n ≤ 36 → 0 ≤ xg G 25 9 → xg G 25 9 + tot f n k ≤ 114 → Ap G (apL f n k G) (tot f n k) (fun i => pick f n k i)
  | 0, k, G, _, _, _, _, _ => Ap_0
  | n + 1, k, G, hf, k0, k1, h0, h1 => by
    have h1 : xg G 25 9 + (f k + tot f n (k + 1)) ≤ 114 := h1
    have fk := hf k (Int.le_refl _) (by omega)
    have tb := tot_b (f := f) (M := 3) n (k + 1) (fun x x0 x1 => by have := hf x (by omega) (by omega); omega)
    have a := apR_ok (G := G) (m := f k) (k := k) h0 fk (by omega) ⟨by omega, by omega⟩
    have b := apL_ok (f := f) n (k + 1) (apR G (f k) k) (fun x x0 x1 => hf x (by omega) (by omega)) (by omega) (by omega) (by rw [a.1]; omega) (by rw [a.1]; omega)
    exact Ap_e (Ap_c h0 (by omega) a b) rfl (fun i i0 i1 => rfl)
theorem apL_c {f : Int → Int} {c : Nat} (h1 : ¬ c = 25) (h2 : ¬ c = 30) (h3 : ¬ c = 31) {G : xG} {m k : Int} : xg (apR G m k) c = xg G c := by
  funext j
  unfold apR
  split
  · rfl
  · split
    · rw [gAr_c h2 h3 h1]
    · split
      · rw [gAr_c h2 h3 h1, gAr_c h2 h3 h1]
      · rw [gAr_c h2 h3 h1, gAr_c h2 h3 h1, gAr_c h2 h3 h1]
theorem gAq_l {s : Int} : ∀ (n : Nat) (j : Int) (G H : xG), xg G 22 = xg H 22 → gAq s n j G = apL (cFe H s) n j G
  | 0, _, _, _, _ => rfl
  | n + 1, j, G, H, h => by
    show gAq s n (j + 1) (if xg G 22 j = s then gAr G j 0 else G) = apL (cFe H s) n (j + 1) (apR G (cFe H s j) j)
    have e : (if xg G 22 j = s then gAr G j 0 else G) = apR G (cFe H s j) j := by
      unfold cFe apR
      rw [h]
      by_cases c : xg H 22 j = s
      · rw [if_pos c, if_pos c, if_neg (by decide), if_pos rfl]
      · rw [if_neg c, if_neg c, if_pos rfl]
    rw [e]
    exact gAq_l n (j + 1) _ H (by rw [apL_c (f := cFe H s) (by decide) (by decide) (by decide)]; exact h)
theorem gAa_l {s : Int} : ∀ (n : Nat) (k : Int) (G H : xG), xg G 26 = xg H 26 → xg G 10 = xg H 10 → xg G 15 = xg H 15 → gAa s n k G = apL (cFa H s) n k G
  | 0, _, _, _, _, _, _ => rfl
  | n + 1, k, G, H, h1, h2, h3 => by
    show gAa s n (k + 1) (gAa1 s G k) = apL (cFa H s) n (k + 1) (apR G (cFa H s k) k)
    have e : gAa1 s G k = apR G (cFa H s k) k := by
      unfold gAa1 cFa apR gAx
      rw [h1, h2, h3]
      by_cases c : (¬ xg H 26 k = 0 ∧ 7 ≤ xg H 10 k ∧ ¬ xg H 15 k = 0) ∧ (xg H 10 k = 10 ∧ s = 1 ∨ ¬ xg H 10 k = 10 ∧ s = 0)
      · rw [if_pos c, if_pos c]
        by_cases c2 : ¬ s = 0 ∨ xg H 10 k = 11
        · rw [if_pos c2, if_pos c2, if_neg (by decide), if_neg (by decide), if_neg (by decide)]
        · rw [if_neg c2, if_neg c2, if_neg (by decide), if_neg (by decide), if_pos rfl]
      · rw [if_neg c, if_neg c, if_pos rfl]
    rw [e]
    exact gAa_l n (k + 1) _ H (by rw [apL_c (f := cFa H s) (by decide) (by decide) (by decide)]; exact h1) (by rw [apL_c (f := cFa H s) (by decide) (by decide) (by decide)]; exact h2) (by rw [apL_c (f := cFa H s) (by decide) (by decide) (by decide)]; exact h3)
theorem cFe_r {G : xG} {s q : Int} : cFe G s q = 0 ∨ cFe G s q = 1 := by unfold cFe; split <;> simp
theorem cFa_r {G : xG} {s k : Int} : cFa G s k = 0 ∨ cFa G s k = 2 ∨ cFa G s k = 3 := by
  unfold cFa
  (repeat' split) <;> simp
/-- how many rows there may be -/
theorem rows_b {G : xG} {N : Nat} (hN : N ≤ 6) : tot (cFe G 1) N 0 + tot (cFe G 0) N 0 ≤ N ∧ tot (cFa G 0) 36 0 + tot (cFa G 1) 36 0 ≤ 108 ∧ 0 ≤ tot (cFe G 1) N 0 ∧ 0 ≤ tot (cFe G 0) N 0 ∧ 0 ≤ tot (cFa G 0) 36 0 ∧ 0 ≤ tot (cFa G 1) 36 0 := by
  have h1 := tot_b (f := fun x => cFe G 1 x + cFe G 0 x) (M := 1) N 0 (fun x _ _ => by
    unfold cFe
    by_cases a : xg G 22 x = 1
    · simp only [if_pos a, if_neg (show ¬ xg G 22 x = 0 by omega)]; decide
    · by_cases b : xg G 22 x = 0
      · simp only [if_neg a, if_pos b]; decide
      · simp only [if_neg a, if_neg b]; decide)
  have h2 := tot_b (f := fun x => cFa G 0 x + cFa G 1 x) (M := 3) 36 0 (fun x _ _ => by
    have a := cFa_r (G := G) (s := 0) (k := x)
    have b := cFa_r (G := G) (s := 1) (k := x)
    have c : cFa G 0 x = 0 ∨ cFa G 1 x = 0 := by
      unfold cFa
      by_cases e : xg G 10 x = 10
      · left; rw [if_neg (fun z => by rcases z.2 with y | y; exact absurd y.2 (by decide); exact y.1 e)]
      · right; rw [if_neg (fun z => by rcases z.2 with y | y; exact e y.1; exact absurd y.2 (by decide))]
    show 0 ≤ cFa G 0 x + cFa G 1 x ∧ cFa G 0 x + cFa G 1 x ≤ 3
    omega)
  rw [← tot_add] at h1 h2
  have a1 := tot_b (f := cFe G 1) (M := 1) N 0 (fun x _ _ => by have := cFe_r (G := G) (s := 1) (q := x); omega)
  have a2 := tot_b (f := cFe G 0) (M := 1) N 0 (fun x _ _ => by have := cFe_r (G := G) (s := 0) (q := x); omega)
  have a3 := tot_b (f := cFa G 0) (M := 3) 36 0 (fun x _ _ => by have := cFa_r (G := G) (s := 0) (k := x); omega)
  have a4 := tot_b (f := cFa G 1) (M := 3) 36 0 (fun x _ _ => by have := cFa_r (G := G) (s := 1) (k := x); omega)
  omega
theorem gNr_ok {G : xG} {n : Nat} (hn : xg G 9 9 = (n : Int)) (h36 : n ≤ 36) (hz : ∀ x, (n : Int) ≤ x → x < 36 → xg G 26 x = 0) (g1 : 0 ≤ xg G 21 3) (g2 : xg G 21 3 ≤ 6) : cRows (gNr G) ∧ (∀ j, 0 ≤ j → ¬ j = 9 → xg (gNr G) 25 j = xg G 25 j) ∧ ∀ (a : Nat) (j : Int), ¬ a = 25 → ¬ a = 29 → ¬ a = 30 → ¬ a = 31 → xg (gNr G) a j = xg G a j := by
  obtain ⟨N, hN⟩ : ∃ N : Nat, N = (xg G 21 3).toNat := ⟨_, rfl⟩
  have hN6 : N ≤ 6 := by omega
  have en : (xg G 9 9).toNat = n := by rw [hn]; simp
  obtain ⟨b1, b2, b3, b4, b5, b6⟩ := rows_b (G := G) hN6
  have fz : ∀ s x, (n : Int) ≤ x → x < 36 → cFa G s x = 0 := fun s x x0 x1 => by unfold cFa; rw [if_neg (fun z => z.1.1 (hz x x0 x1))]
  have tF : ∀ s, tot (cFa G s) n 0 = tot (cFa G s) 36 0 := fun s => by
    rw [show 36 = n + (36 - n) by omega, tot_app, tot_0 (36 - n) (0 + n) (fun x x0 x1 => fz s x (by omega) (by omega))]
    omega
  have pF : ∀ s i, 0 ≤ i → i < tot (cFa G s) 36 0 → pick (cFa G s) n 0 i = pick (cFa G s) 36 0 i := fun s i i0 i1 => by
    rw [← tF s] at i1
    rw [show 36 = n + (36 - n) by omega, pick_app n (36 - n) 0 i i0 i1]
  -- the four runs
  have A1 := apL_ok (f := cFe G 1) N 0 (xp G 25 9 0) (fun x _ _ => by have := cFe_r (G := G) (s := 1) (q := x); omega) (by decide) (by omega) (by rw [xg_self xin_0]; decide) (by rw [xg_self xin_0]; omega)
  have e1 : gN1 G = apL (cFe G 1) N 0 (xp G 25 9 0) := by unfold gN1; rw [← hN]; exact gAq_l N 0 _ G (xp_f (by decide))
  rw [← e1] at A1
  obtain ⟨p1, p2, p3, p4, p5⟩ := A1
  rw [xg_self xin_0, Int.zero_add] at p1
  have fr1 : ∀ (a : Nat), ¬ a = 25 → ¬ a = 30 → ¬ a = 31 → xg (gN1 G) a = xg G a := fun a q1 q2 q3 => funext (fun j => by rw [p3 a j q1 q2 q3, xg_cell q1])
  have A3 := apL_ok (f := cFe G 0) N 0 (xp (gN1 G) 29 0 (xg (gN1 G) 25 9)) (fun x _ _ => by have := cFe_r (G := G) (s := 0) (q := x); omega) (by decide) (by omega) (by rw [xg_cell (by decide), p1]; omega) (by rw [xg_cell (by decide), p1]; omega)
  have e3 : gN3 G = apL (cFe G 0) N 0 (xp (gN1 G) 29 0 (xg (gN1 G) 25 9)) := by unfold gN3; rw [← hN]; exact gAq_l N 0 _ G (by rw [xp_f (by decide), fr1 22 (by decide) (by decide) (by decide)])
  rw [← e3] at A3
  obtain ⟨q1, q2, q3, q4, q5⟩ := A3
  simp only [xg_cell (show ¬ 25 = 29 by decide), xg_cell (show ¬ 30 = 29 by decide), xg_cell (show ¬ 31 = 29 by decide), p1] at q1 q2 q4 q5
  have fr3 : ∀ (a : Nat), ¬ a = 25 → ¬ a = 29 → ¬ a = 30 → ¬ a = 31 → xg (gN3 G) a = xg G a := fun a y1 y2 y3 y4 => funext (fun j => by rw [q3 a j y1 y3 y4, xg_cell y2, fr1 a y1 y3 y4])
  have A4 := apL_ok (f := cFa G 0) n 0 (gN3 G) (fun x _ _ => by have := cFa_r (G := G) (s := 0) (k := x); omega) (by decide) (by omega) (by omega) (by rw [tF]; omega)
  have e4 : gN4 G = apL (cFa G 0) n 0 (gN3 G) := by unfold gN4; rw [en]; exact gAa_l n 0 _ G (fr3 26 (by decide) (by decide) (by decide) (by decide)) (fr3 10 (by decide) (by decide) (by decide) (by decide)) (fr3 15 (by decide) (by decide) (by decide) (by decide))
  rw [← e4, tF] at A4
  obtain ⟨r1, r2, r3, r4, r5⟩ := A4
  rw [q1] at r1
  have fr4 : ∀ (a : Nat), ¬ a = 25 → ¬ a = 29 → ¬ a = 30 → ¬ a = 31 → xg (gN4 G) a = xg G a := fun a y1 y2 y3 y4 => funext (fun j => by rw [r3 a j y1 y3 y4, fr3 a y1 y2 y3 y4])
  have d0 : xg (gN4 G) 29 0 = tot (cFe G 1) N 0 := by rw [r3 29 0 (by decide) (by decide) (by decide), q3 29 0 (by decide) (by decide) (by decide), xg_self (xin_g _ _ _), p1]
  have A6 := apL_ok (f := cFa G 1) n 0 (xp (gN4 G) 29 1 (xg (gN4 G) 25 9 - xg (gN4 G) 29 0)) (fun x _ _ => by have := cFa_r (G := G) (s := 1) (k := x); omega) (by decide) (by omega) (by rw [xg_cell (by decide)]; omega) (by rw [xg_cell (by decide), tF]; omega)
  have e6 : gN6 G = apL (cFa G 1) n 0 (xp (gN4 G) 29 1 (xg (gN4 G) 25 9 - xg (gN4 G) 29 0)) := by unfold gN6; rw [en]; exact gAa_l n 0 _ G (by rw [xp_f (by decide), fr4 26 (by decide) (by decide) (by decide) (by decide)]) (by rw [xp_f (by decide), fr4 10 (by decide) (by decide) (by decide) (by decide)]) (by rw [xp_f (by decide), fr4 15 (by decide) (by decide) (by decide) (by decide)])
  rw [← e6, tF] at A6
  obtain ⟨s1, s2, s3, s4, s5⟩ := A6
  simp only [xg_cell (show ¬ 25 = 29 by decide), xg_cell (show ¬ 30 = 29 by decide), xg_cell (show ¬ 31 = 29 by decide), r1] at s1 s2 s4 s5
  have fr6 : ∀ (a : Nat), ¬ a = 25 → ¬ a = 29 → ¬ a = 30 → ¬ a = 31 → xg (gN6 G) a = xg G a := fun a y1 y2 y3 y4 => funext (fun j => by rw [s3 a j y1 y3 y4, xg_cell y2, fr4 a y1 y2 y3 y4])
  have fin : ∀ (a : Nat), ¬ a = 25 → ¬ a = 29 → ¬ a = 30 → ¬ a = 31 → xg (gNr G) a = xg G a := fun a y1 y2 y3 y4 => by unfold gNr; rw [xp_f y2, fr6 a y1 y2 y3 y4]
  have w30 : ∀ x, xg (gNr G) 30 x = xg (gN6 G) 30 x ∧ xg (gNr G) 31 x = xg (gN6 G) 31 x := fun x => by unfold gNr; rw [xg_cell (by decide), xg_cell (by decide)]; exact ⟨rfl, rfl⟩
  have w29 : xg (gN6 G) 29 0 = tot (cFe G 1) N 0 ∧ xg (gN6 G) 29 1 = xg (gN4 G) 25 9 - xg (gN4 G) 29 0 := by
    rw [s3 29 0 (by decide) (by decide) (by decide), s3 29 1 (by decide) (by decide) (by decide), xg_idx (by decide) (by decide) (by decide)]
    exact ⟨d0, xg_self ⟨by omega, by omega⟩⟩
  have fFe : ∀ s, cFe (gNr G) s = cFe G s := fun s => funext (fun q => by unfold cFe; rw [fin 22 (by decide) (by decide) (by decide) (by decide)])
  have fFa : ∀ s, cFa (gNr G) s = cFa G s := fun s => funext (fun q => by unfold cFa gAx; rw [fin 26 (by decide) (by decide) (by decide) (by decide), fin 10 (by decide) (by decide) (by decide) (by decide), fin 15 (by decide) (by decide) (by decide) (by decide)])
  have f21 : (xg (gNr G) 21 3).toNat = N := by rw [fin 21 (by decide) (by decide) (by decide) (by decide)]; exact hN.symm
  refine ⟨?_, fun j j0 hj => ?_, fun a j y1 y2 y3 y4 => by rw [fin a y1 y2 y3 y4]⟩
  · unfold cRows cTe cTa
    rw [fFe, fFe, fFa, fFa, f21]
    have n9 : xg (gNr G) 25 9 = tot (cFe G 1) N 0 + tot (cFe G 0) N 0 + tot (cFa G 0) 36 0 + tot (cFa G 1) 36 0 := by
      unfold gNr
      rw [xg_cell (by decide), s1]
    refine ⟨?_, ?_, ?_, n9, fun i i0 i1 => ?_, fun i i0 i1 => ?_, fun i i0 i1 => ?_, fun i i0 i1 => ?_⟩
    · unfold gNr; rw [xg_idx (by decide) (by decide) (by decide)]; exact w29.1
    · unfold gNr; rw [xg_idx (by decide) (by decide) (by decide), w29.2, r1, d0]; omega
    · unfold gNr; rw [xg_self ⟨by omega, by omega⟩, s1, r1]; omega
    · rw [(w30 i).1, (w30 i).2, (s4 i i0 (by omega)).1, (s4 i i0 (by omega)).2, (r4 i i0 (by omega)).1, (r4 i i0 (by omega)).2, (q4 i i0 (by omega)).1, (q4 i i0 (by omega)).2]
      have := p5 i i0 i1
      rw [xg_self xin_0, Int.zero_add] at this
      exact this
    · rw [(w30 _).1, (w30 _).2, (s4 _ (by omega) (by omega)).1, (s4 _ (by omega) (by omega)).2, (r4 _ (by omega) (by omega)).1, (r4 _ (by omega) (by omega)).2]
      exact q5 i i0 i1
    · rw [(w30 _).1, (w30 _).2, (s4 _ (by omega) (by omega)).1, (s4 _ (by omega) (by omega)).2, ← pF 0 i i0 i1]
      have := r5 i i0 i1
      rw [q1] at this
      exact this
    · rw [(w30 _).1, (w30 _).2, ← pF 1 i i0 i1]
      exact s5 i i0 i1
  · unfold gNr
    rw [xg_cell (by decide), s2 j j0 hj, r2 j j0 hj, q2 j j0 hj, p2 j j0 hj, xg_idx (by decide) j0 hj]
