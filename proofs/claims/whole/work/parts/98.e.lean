/-! the class's form is as it should be -/
theorem tot_add {f g : Int → Int} : ∀ (n : Nat) (q : Int), tot f n q + tot g n q = tot (fun x => f x + g x) n q
  | 0, q => rfl
  | n + 1, q => by
    have := tot_add (f := f) (g := g) n (q + 1)
    show f q + tot f n (q + 1) + (g q + tot g n (q + 1)) = f q + g q + tot (fun x => f x + g x) n (q + 1)
    omega
theorem tot_lt {f : Int → Int} (P : Int → Prop) {g : Int → Int} {k : Int} (hl : ∀ x, x < k → g x = f x) (hr : ∀ x, k ≤ x → g x = 0) : ∀ (n : Nat) (q : Int), q ≤ k → k ≤ q + n → tot g n q = tot f (k - q).toNat q
  | 0, q, h0, h1 => by
    have e : (k - q).toNat = 0 := by omega
    rw [e]; rfl
  | n + 1, q, h0, h1 => by
    by_cases h : q = k
    · subst h
      rw [tot_0 (n + 1) q (fun x x0 x1 => hr x x0), show (q - q).toNat = 0 by omega]; rfl
    · have e : (k - q).toNat = (k - (q + 1)).toNat + 1 := by omega
      rw [e]
      show g q + tot g n (q + 1) = f q + tot f _ (q + 1)
      rw [hl q (by omega), tot_lt P hl hr n (q + 1) (by omega) (by omega)]
/-! columns -/
def gCl (P : Int → Bool) : Nat → Int → xG → xG
  | 0, _, G => G
  | n + 1, k, G => gCl P n (k + 1) (if P k = true then gCk G k else G)
def iB (P : Int → Bool) (k : Int) : Int := if P k = true then 1 else 0
theorem gCl_ok (P : Int → Bool) : ∀ (n : Nat) (k : Int) (G : xG), 0 ≤ k → k + n ≤ 36 → 0 ≤ xg G 25 10 → xg G 25 10 ≤ 36 + k → xg (gCl P n k G) 25 10 = xg G 25 10 + tot (iB P) n k ∧ (∀ j, 0 ≤ j → ¬ j = 10 → xg (gCl P n k G) 25 j = xg G 25 j) ∧ (∀ (a : Nat) (j : Int), ¬ a = 25 → ¬ a = 27 → xg (gCl P n k G) a j = xg G a j) ∧ ∀ x, 0 ≤ x → (xg (gCl P n k G) 27 x = if k ≤ x ∧ x < k + n ∧ P x = true then xg G 25 10 + tot (iB P) (x - k).toNat k else xg G 27 x)
  | 0, k, G, k0, k1, c0, c1 => ⟨by simp [gCl, tot], fun _ _ _ => rfl, fun _ _ _ _ => rfl, fun x x0 => by rw [if_neg (by omega)]; rfl⟩
  | n + 1, k, G, k0, k1, c0, c1 => by
    by_cases hP : P k = true
    · have e0 : gCl P (n + 1) k G = gCl P n (k + 1) (gCk G k) := by
        show gCl P n (k + 1) (if P k = true then gCk G k else G) = _
        rw [if_pos hP]
      have ib : iB P k = 1 := by unfold iB; rw [if_pos hP]
      have e10 : xg (gCk G k) 25 10 = xg G 25 10 + 1 := by unfold gCk; exact xg_self ⟨by omega, by omega⟩
      obtain ⟨i1, i2, i3, i4⟩ := gCl_ok P n (k + 1) (gCk G k) (by omega) (by omega) (by omega) (by omega)
      rw [e0]
      refine ⟨?_, fun j j0 hj => ?_, fun a j a1 a2 => ?_, fun x x0 => ?_⟩
      · rw [i1, e10]
        show _ = _ + (iB P k + tot (iB P) n (k + 1))
        rw [ib]; omega
      · rw [i2 j j0 hj]; unfold gCk; rw [xg_idx (by decide) j0 hj, xg_cell (by decide)]
      · rw [i3 a j a1 a2]; unfold gCk; rw [xg_cell a1, xg_cell a2]
      · rw [i4 x x0]
        by_cases hx : k + 1 ≤ x ∧ x < k + 1 + n ∧ P x = true
        · rw [if_pos hx, if_pos ⟨by omega, by omega, hx.2.2⟩, e10]
          have e : (x - k).toNat = (x - (k + 1)).toNat + 1 := by omega
          rw [e]
          show _ = _ + (iB P k + tot (iB P) _ (k + 1))
          rw [ib]; omega
        · rw [if_neg hx]
          unfold gCk
          rw [xg_cell (by decide)]
          by_cases hxk : x = k
          · subst hxk
            rw [xg_self (xin_g _ _ _), if_pos ⟨Int.le_refl _, by omega, hP⟩, show (x - x).toNat = 0 by omega]
            show _ = _ + 0
            omega
          · rw [xg_idx k0 x0 hxk, if_neg (fun z => hx ⟨by omega, by omega, z.2.2⟩)]
    · have e0 : gCl P (n + 1) k G = gCl P n (k + 1) G := by
        show gCl P n (k + 1) (if P k = true then gCk G k else G) = _
        rw [if_neg hP]
      have ib : iB P k = 0 := by unfold iB; rw [if_neg hP]
      obtain ⟨i1, i2, i3, i4⟩ := gCl_ok P n (k + 1) G (by omega) (by omega) c0 (by omega)
      rw [e0]
      refine ⟨?_, i2, i3, fun x x0 => ?_⟩
      · rw [i1]
        show _ = _ + (iB P k + tot (iB P) n (k + 1))
        rw [ib]; omega
      · rw [i4 x x0]
        by_cases hx : k + 1 ≤ x ∧ x < k + 1 + n ∧ P x = true
        · rw [if_pos hx, if_pos ⟨by omega, by omega, hx.2.2⟩]
          have e : (x - k).toNat = (x - (k + 1)).toNat + 1 := by omega
          rw [e]
          show _ = _ + (iB P k + tot (iB P) _ (k + 1))
          rw [ib]; omega
        · rw [if_neg hx]
          by_cases hxk : x = k
          · subst hxk; rw [if_neg (fun z => hP z.2.2)]
          · rw [if_neg (fun z => hx ⟨by omega, by omega, z.2.2⟩)]
def bVa (G : xG) (k : Int) : Bool := decide (cVa G k)
def bAx (G : xG) (k : Int) : Bool := decide (gAx G k)
theorem gCk_e {G : xG} {k : Int} {c : Nat} (h1 : ¬ c = 25) (h2 : ¬ c = 27) : xg (gCk G k) c = xg G c := funext (fun j => by unfold gCk; rw [xg_cell h1, xg_cell h2])
theorem gC2_l : ∀ (n : Nat) (k : Int) (G H : xG), xg G 26 = xg H 26 → xg G 10 = xg H 10 → gC2 n k G = gCl (bVa H) n k G
  | 0, _, _, _, _, _ => rfl
  | n + 1, k, G, H, h1, h2 => by
    show gC2 n (k + 1) (if ¬ xg G 26 k = 0 ∧ xg G 10 k = 1 then gCk G k else G) = gCl (bVa H) n (k + 1) (if bVa H k = true then gCk G k else G)
    have e : (bVa H k = true) ↔ (¬ xg G 26 k = 0 ∧ xg G 10 k = 1) := by unfold bVa cVa; rw [decide_eq_true_eq, h1, h2]
    by_cases c : ¬ xg G 26 k = 0 ∧ xg G 10 k = 1
    · rw [if_pos c, if_pos (e.mpr c)]
      exact gC2_l n (k + 1) _ H (by rw [gCk_e (by decide) (by decide)]; exact h1) (by rw [gCk_e (by decide) (by decide)]; exact h2)
    · rw [if_neg c, if_neg (fun z => c (e.mp z))]
      exact gC2_l n (k + 1) _ H h1 h2
theorem gC3_l : ∀ (n : Nat) (k : Int) (G H : xG), xg G 26 = xg H 26 → xg G 10 = xg H 10 → xg G 15 = xg H 15 → gC3 n k G = gCl (bAx H) n k G
  | 0, _, _, _, _, _, _ => rfl
  | n + 1, k, G, H, h1, h2, h3 => by
    show gC3 n (k + 1) (if gAx G k then gCk G k else G) = gCl (bAx H) n (k + 1) (if bAx H k = true then gCk G k else G)
    have e : (bAx H k = true) ↔ gAx G k := by unfold bAx gAx; rw [decide_eq_true_eq, h1, h2, h3]
    by_cases c : gAx G k
    · rw [if_pos c, if_pos (e.mpr c)]
      exact gC3_l n (k + 1) _ H (by rw [gCk_e (by decide) (by decide)]; exact h1) (by rw [gCk_e (by decide) (by decide)]; exact h2) (by rw [gCk_e (by decide) (by decide)]; exact h3)
    · rw [if_neg c, if_neg (fun z => c (e.mp z))]
      exact gC3_l n (k + 1) _ H h1 h2 h3
theorem gC1_v : ∀ (n : Nat) (k : Int) (G : xG) (x : Int), 0 ≤ k → 0 ≤ x → (xg (gC1 n k G) 27 x = if k ≤ x ∧ x < k + n then -1 else xg G 27 x) ∧ (xg (gC1 n k G) 28 x = if k ≤ x ∧ x < k + n then 0 else xg G 28 x)
  | 0, k, G, x, k0, x0 => by rw [if_neg (by omega), if_neg (by omega)]; exact ⟨rfl, rfl⟩
  | n + 1, k, G, x, k0, x0 => by
    show (xg (gC1 n (k + 1) (xp (xp G 27 k (-1)) 28 k 0)) 27 x = _) ∧ (xg (gC1 n (k + 1) (xp (xp G 27 k (-1)) 28 k 0)) 28 x = _)
    rw [(gC1_v n (k + 1) _ x (by omega) x0).1, (gC1_v n (k + 1) _ x (by omega) x0).2]
    by_cases h : k + 1 ≤ x ∧ x < k + 1 + n
    · rw [if_pos h, if_pos h, if_pos (by omega), if_pos (by omega)]; exact ⟨rfl, rfl⟩
    · rw [if_neg h, if_neg h]
      by_cases hx : x = k
      · subst hx
        rw [xg_cell (by decide), xg_self ⟨by decide, by decide⟩, xg_self xin_0, if_pos (by omega), if_pos (by omega)]; exact ⟨rfl, rfl⟩
      · rw [xg_cell (by decide), xg_idx k0 x0 hx, xg_idx k0 x0 hx, xg_cell (by decide), if_neg (by omega), if_neg (by omega)]; exact ⟨rfl, rfl⟩
/-- columns are numbered as they should be -/
theorem gNc_ok {G : xG} {n : Nat} (hn : xg G 9 9 = (n : Int)) (h36 : n ≤ 36) (hz : ∀ x, (n : Int) ≤ x → x < 36 → xg G 26 x = 0) : (∀ k, 0 ≤ k → k < 36 → xg (gNc G) 27 k = cPl G k) ∧ xg (gNc G) 25 10 = tot (cCf G) 36 0 ∧ (∀ j, 0 ≤ j → ¬ j = 10 → xg (gNc G) 25 j = xg G 25 j) ∧ (∀ k, 0 ≤ k → k < 36 → xg (gNc G) 28 k = 0) ∧ ∀ (a : Nat) (j : Int), ¬ a = 25 → ¬ a = 27 → ¬ a = 28 → xg (gNc G) a j = xg G a j := by
  have ec1 : ∀ (a : Nat), ¬ a = 25 → ¬ a = 27 → ¬ a = 28 → xg (gC1 36 0 (xp G 25 10 0)) a = xg G a := fun a a1 a2 a3 => funext (fun j => by rw [gC1_c a2 a3, xg_cell a1])
  obtain ⟨H1, hH1⟩ : ∃ H1, H1 = gC1 36 0 (xp G 25 10 0) := ⟨_, rfl⟩
  rw [← hH1] at ec1
  have t10 : xg H1 25 10 = 0 := by rw [hH1, gC1_c (by decide) (by decide), xg_self xin_0]
  have t25 : ∀ j, 0 ≤ j → ¬ j = 10 → xg H1 25 j = xg G 25 j := fun j j0 hj => by rw [hH1, gC1_c (by decide) (by decide), xg_idx (by decide) j0 hj]
  have t27 : ∀ x, 0 ≤ x → x < 36 → xg H1 27 x = -1 ∧ xg H1 28 x = 0 := fun x x0 x1 => by
    have := gC1_v 36 0 (xp G 25 10 0) x (by decide) x0
    rw [if_pos (by omega), if_pos (by omega), ← hH1] at this
    exact this
  have en : (xg G 9 9).toNat = n := by rw [hn]; simp
  have e2 : gC2 n 0 H1 = gCl (bVa G) n 0 H1 := gC2_l n 0 H1 G (ec1 26 (by decide) (by decide) (by decide)) (ec1 10 (by decide) (by decide) (by decide))
  obtain ⟨a1, a2, a3, a4⟩ := gCl_ok (bVa G) n 0 H1 (by decide) (by omega) (by omega) (by omega)
  obtain ⟨H2, hH2⟩ : ∃ H2, H2 = gCl (bVa G) n 0 H1 := ⟨_, rfl⟩
  rw [← hH2] at a1 a2 a3 a4 e2
  have ec2 : ∀ (a : Nat), ¬ a = 25 → ¬ a = 27 → ¬ a = 28 → xg H2 a = xg G a := fun a q1 q2 q3 => funext (fun j => by rw [a3 a j q1 q2, ec1 a q1 q2 q3])
  have e3 : gC3 n 0 H2 = gCl (bAx G) n 0 H2 := gC3_l n 0 H2 G (ec2 26 (by decide) (by decide) (by decide)) (ec2 10 (by decide) (by decide) (by decide)) (ec2 15 (by decide) (by decide) (by decide))
  have tb := tot_b (f := iB (bVa G)) (M := 1) n 0 (fun x _ _ => by unfold iB; split <;> decide)
  obtain ⟨c1, c2, c3, c4⟩ := gCl_ok (bAx G) n 0 H2 (by decide) (by omega) (by omega) (by omega)
  have eN : gNc G = gCl (bAx G) n 0 H2 := by
    unfold gNc
    rw [en, ← hH1, e2, e3]
  rw [← eN] at c1 c2 c3 c4
  have vz : ∀ x, (n : Int) ≤ x → x < 36 → bVa G x = false := fun x x0 x1 => by unfold bVa cVa; rw [decide_eq_false_iff_not]; exact fun z => z.1 (hz x x0 x1)
  have az : ∀ x, (n : Int) ≤ x → x < 36 → bAx G x = false := fun x x0 x1 => by unfold bAx gAx; rw [decide_eq_false_iff_not]; exact fun z => z.1 (hz x x0 x1)
  have tV : tot (iB (bVa G)) 36 0 = tot (iB (bVa G)) n 0 := by
    rw [show 36 = n + (36 - n) by omega, tot_app, tot_0 (36 - n) (0 + n) (fun x x0 x1 => by unfold iB; rw [vz x (by omega) (by omega)]; rfl)]
    omega
  have tA : tot (iB (bAx G)) 36 0 = tot (iB (bAx G)) n 0 := by
    rw [show 36 = n + (36 - n) by omega, tot_app, tot_0 (36 - n) (0 + n) (fun x x0 x1 => by unfold iB; rw [az x (by omega) (by omega)]; rfl)]
    omega
  have bv : ∀ k, bVa G k = true ↔ cVa G k := fun k => by unfold bVa; rw [decide_eq_true_eq]
  have ba : ∀ k, bAx G k = true ↔ gAx G k := fun k => by unfold bAx; rw [decide_eq_true_eq]
  have dis : ∀ k, cVa G k → ¬ gAx G k := fun k z1 z2 => by have := z1.2; have := z2.2.1; omega
  refine ⟨fun k k0 k1 => ?_, ?_, fun j j0 hj => ?_, fun k k0 k1 => ?_, fun a j q1 q2 q3 => ?_⟩
  · rw [c4 k k0, a4 k k0, t10, a1, t10]
    unfold cPl
    by_cases hv : cVa G k
    · have hkn : k < n := by
        rcases (show k < n ∨ (n : Int) ≤ k by omega) with z | z
        · exact z
        · have := vz k z k1; rw [(bv k).mpr hv] at this; cases this
      rw [if_neg (fun z => dis k hv ((ba k).mp z.2.2)), if_pos ⟨k0, by omega, (bv k).mpr hv⟩, if_pos (Or.inl hv)]
      have := tot_lt (f := iB (bVa G)) (fun _ => True) (g := cPf G k) (k := k) (fun x hx => by
        unfold cPf iB
        by_cases z : cVa G x
        · rw [if_pos (Or.inl ⟨hv, z, hx⟩), if_pos ((bv x).mpr z)]
        · rw [if_neg (by rintro (y | y); exact z y.2.1; exact y.1 hv), if_neg (fun y => z ((bv x).mp y))]) (fun x hx => by
        unfold cPf
        rw [if_neg (by rintro (y | y); exact absurd y.2.2 (by omega); exact y.1 hv)]) 36 0 k0 (by omega)
      rw [this]
      omega
    · by_cases hx : gAx G k
      · have hkn : k < n := by
          rcases (show k < n ∨ (n : Int) ≤ k by omega) with z | z
          · exact z
          · have := az k z k1; rw [(ba k).mpr hx] at this; cases this
        rw [if_pos ⟨k0, by omega, (ba k).mpr hx⟩, if_pos (Or.inr hx)]
        have h1 : tot (cPf G k) 36 0 = tot (iB (bVa G)) 36 0 + tot (fun x => if gAx G x ∧ x < k then 1 else 0) 36 0 := by
          rw [tot_add]
          refine tot_e 36 0 (fun x x0 x1 => ?_)
          unfold cPf iB
          by_cases z : cVa G x
          · rw [if_pos (Or.inr ⟨hv, Or.inl z⟩), if_pos ((bv x).mpr z), if_neg (fun y => dis x z y.1)]; rfl
          · by_cases z2 : gAx G x ∧ x < k
            · rw [if_pos (Or.inr ⟨hv, Or.inr z2⟩), if_neg (fun y => z ((bv x).mp y)), if_pos z2]; rfl
            · rw [if_neg (by rintro (y | y); exact hv y.1; exact y.2.elim z z2), if_neg (fun y => z ((bv x).mp y)), if_neg z2]; rfl
        have h2 := tot_lt (f := iB (bAx G)) (fun _ => True) (g := fun x => if gAx G x ∧ x < k then 1 else 0) (k := k) (fun x hx => by
          unfold iB
          by_cases z : gAx G x
          · simp only [if_pos (And.intro z hx), if_pos ((ba x).mpr z)]
          · simp only [if_neg (fun y : gAx G x ∧ x < k => z y.1), if_neg (fun y => z ((ba x).mp y))]) (fun x hx => by
          simp only [if_neg (fun y : gAx G x ∧ x < k => absurd y.2 (by omega))]) 36 0 k0 (by omega)
        rw [h1, h2, tV]
        omega
      · rw [if_neg (fun z => hx ((ba k).mp z.2.2)), if_neg (fun z => hv ((bv k).mp z.2.2)), if_neg (fun z => z.elim hv hx)]
        exact (t27 k k0 k1).1
  · rw [c1, a1, t10, ← tV, ← tA, Int.zero_add, tot_add]
    refine tot_e 36 0 (fun x x0 x1 => ?_)
    unfold iB cCf
    by_cases z : cVa G x
    · rw [if_pos ((bv x).mpr z), if_neg (fun y => dis x z ((ba x).mp y)), if_pos (Or.inl z)]; rfl
    · by_cases z2 : gAx G x
      · rw [if_neg (fun y => z ((bv x).mp y)), if_pos ((ba x).mpr z2), if_pos (Or.inr z2)]; rfl
      · rw [if_neg (fun y => z ((bv x).mp y)), if_neg (fun y => z2 ((ba x).mp y)), if_neg (fun y => y.elim z z2)]; rfl
  · rw [c2 j j0 hj, a2 j j0 hj, t25 j j0 hj]
  · rw [c3 28 k (by decide) (by decide), a3 28 k (by decide) (by decide)]; exact (t27 k k0 k1).2
  · rw [c3 a j q1 q2, ec2 a q1 q2 q3]
