/-! the graph, as numbers: kind, detail, three arguments, reach -/
abbrev aN : Type := Int × Int × Int × Int × Int × Int
abbrev aG : Type := Int × (Int → aN)
def aApp (A : aG) (q : aN) : aG := (A.1 + 1, fun j => if j = A.1 then q else A.2 j)
abbrev aEq (A : aG) (j k v a b c : Int) : Prop := (A.2 j).1 = k ∧ (A.2 j).2.1 = v ∧ (A.2 j).2.2.1 = a ∧ (A.2 j).2.2.2.1 = b ∧ (A.2 j).2.2.2.2.1 = c
def aFd (A : aG) (k v a b c : Int) : Nat → Int → Int
  | 0, _ => -1
  | n + 1, j => if aEq A j k v a b c then j else aFd A k v a b c n (j + 1)
def aR (A : aG) (a : Int) : Int := if a = -1 then 0 else (A.2 a).2.2.2.2.2
def aWr (A : aG) (kd dt a b c : Int) : Int :=
  if kd = 0 then (if dt < 1 then 1 else dt) else if kd = 1 then 20 else if kd = 2 then 9
  else if kd = 3 ∨ kd = 4 ∨ kd = 11 then aR A a + aR A b + aR A c else if kd = 6 then aR A a * aR A b
  else if kd = 10 then aR A a * aR A a else (if aR A b < aR A a then aR A a else aR A b)
/-- arguments below n, as many as the kind has -/
def aAr (n kd a b c : Int) : Prop := (0 < xar kd → 0 ≤ a ∧ a < n) ∧ (xar kd ≤ 0 → a = -1) ∧ (1 < xar kd → 0 ≤ b ∧ b < n) ∧ (xar kd ≤ 1 → b = -1) ∧ (2 < xar kd → 0 ≤ c ∧ c < n) ∧ (xar kd ≤ 2 → c = -1)
def aNo (A : aG) (j : Int) (q : aN) : Prop := 0 ≤ q.1 ∧ q.1 ≤ 11 ∧ 0 ≤ q.2.1 ∧ q.2.1 < 1000 ∧ aAr j q.1 q.2.2.1 q.2.2.2.1 q.2.2.2.2.1 ∧ q.2.2.2.2.2 = aWr A q.1 q.2.1 q.2.2.1 q.2.2.2.1 q.2.2.2.2.1 ∧ 1 ≤ q.2.2.2.2.2 ∧ q.2.2.2.2.2 ≤ 1000000
def aOk (A : aG) : Prop := 0 ≤ A.1 ∧ A.1 ≤ 36 ∧ ∀ j, 0 ≤ j → j < A.1 → aNo A j (A.2 j)
def aPre (A B : aG) : Prop := A.1 ≤ B.1 ∧ ∀ j, 0 ≤ j → j < A.1 → B.2 j = A.2 j
theorem aPre_rfl {A : aG} : aPre A A := ⟨Int.le_refl _, fun _ _ _ => rfl⟩
theorem aPre_tr {A B C : aG} (h : aPre A B) (g : aPre B C) : aPre A C := ⟨Int.le_trans h.1 g.1, fun j h0 h1 => (g.2 j h0 (by have := h.1; omega)).trans (h.2 j h0 h1)⟩
theorem aPre_app {A : aG} {q : aN} : aPre A (aApp A q) := ⟨by show A.1 ≤ A.1 + 1; omega, fun j h0 h1 => by show (if j = A.1 then q else A.2 j) = _; rw [if_neg (by omega)]⟩
theorem aApp_at {A : aG} {q : aN} : (aApp A q).2 A.1 = q := by show (if A.1 = A.1 then q else _) = q; rw [if_pos rfl]
theorem aR_pre {A B : aG} {a n : Int} (h : aPre A B) (hn : n ≤ A.1) (ha : a = -1 ∨ (0 ≤ a ∧ a < n)) : aR B a = aR A a := by
  unfold aR
  rcases ha with ha | ha
  · rw [if_pos ha, if_pos ha]
  · rw [if_neg (by omega), if_neg (by omega), h.2 a ha.1 (by omega)]
theorem aAr_d {n kd a b c : Int} (h : aAr n kd a b c) : (a = -1 ∨ (0 ≤ a ∧ a < n)) ∧ (b = -1 ∨ (0 ≤ b ∧ b < n)) ∧ (c = -1 ∨ (0 ≤ c ∧ c < n)) := by
  obtain ⟨h1, h2, h3, h4, h5, h6⟩ := h
  refine ⟨?_, ?_, ?_⟩
  · rcases (show 0 < xar kd ∨ xar kd ≤ 0 by omega) with z | z
    · exact Or.inr (h1 z)
    · exact Or.inl (h2 z)
  · rcases (show 1 < xar kd ∨ xar kd ≤ 1 by omega) with z | z
    · exact Or.inr (h3 z)
    · exact Or.inl (h4 z)
  · rcases (show 2 < xar kd ∨ xar kd ≤ 2 by omega) with z | z
    · exact Or.inr (h5 z)
    · exact Or.inl (h6 z)
theorem aAr_mono {n m kd a b c : Int} (h : aAr n kd a b c) (hm : n ≤ m) : aAr m kd a b c := by
  obtain ⟨h1, h2, h3, h4, h5, h6⟩ := h
  exact ⟨fun z => ⟨(h1 z).1, by have := (h1 z).2; omega⟩, h2, fun z => ⟨(h3 z).1, by have := (h3 z).2; omega⟩, h4, fun z => ⟨(h5 z).1, by have := (h5 z).2; omega⟩, h6⟩
theorem aWr_pre {A B : aG} {n kd dt a b c : Int} (h : aPre A B) (hn : n ≤ A.1) (ha : aAr n kd a b c) : aWr B kd dt a b c = aWr A kd dt a b c := by
  obtain ⟨h1, h2, h3⟩ := aAr_d ha
  unfold aWr
  rw [aR_pre h hn h1, aR_pre h hn h2, aR_pre h hn h3]
theorem aNo_pre {A B : aG} {j : Int} {q : aN} (h : aPre A B) (hj : j ≤ A.1) (hq : aNo A j q) : aNo B j q := by
  obtain ⟨h1, h2, h3, h4, h5, h6, h7, h8⟩ := hq
  exact ⟨h1, h2, h3, h4, h5, by rw [aWr_pre h hj h5]; exact h6, h7, h8⟩
theorem aR_b {A : aG} {a : Int} (h : aOk A) (ha : a = -1 ∨ (0 ≤ a ∧ a < A.1)) : 0 ≤ aR A a ∧ aR A a ≤ 1000000 ∧ (¬ a = -1 → 1 ≤ aR A a) := by
  unfold aR
  rcases ha with ha | ha
  · rw [if_pos ha]; exact ⟨by decide, by decide, fun q => absurd ha q⟩
  · rw [if_neg (by omega)]
    obtain ⟨h1, h2, h3, h4, h5, h6, h7, h8⟩ := h.2.2 a ha.1 ha.2
    exact ⟨by omega, by omega, fun _ => h7⟩
theorem mul_b {x y X Y : Int} (hx : 0 ≤ x) (hx' : x ≤ X) (hy : 0 ≤ y) (hy' : y ≤ Y) : 0 ≤ x * y ∧ x * y ≤ X * Y := ⟨Int.mul_nonneg hx hy, Int.mul_le_mul hx' hy' hy (by omega)⟩
theorem aWr_b {A : aG} {kd dt a b c : Int} (h : aOk A) (h0 : 0 ≤ kd) (h1 : kd ≤ 11) (h2 : 0 ≤ dt) (h3 : dt < 1000) (ha : aAr A.1 kd a b c) : 1 ≤ aWr A kd dt a b c ∧ aWr A kd dt a b c ≤ 1000000000000 := by
  obtain ⟨d1, d2, d3⟩ := aAr_d ha
  obtain ⟨a1, a2, a3⟩ := aR_b h d1
  obtain ⟨b1, b2, b3⟩ := aR_b h d2
  obtain ⟨c1, c2, c3⟩ := aR_b h d3
  obtain ⟨m1, m2⟩ := mul_b a1 a2 b1 b2
  obtain ⟨n1, n2⟩ := mul_b a1 a2 a1 a2
  have p1 : 1 ≤ aR A a → 1 ≤ aR A b → 1 ≤ aR A a * aR A b := fun x y => by have := Int.mul_le_mul x y (by decide) (by omega); omega
  have p2 : 1 ≤ aR A a → 1 ≤ aR A a * aR A a := fun x => by have := Int.mul_le_mul x x (by decide) (by omega); omega
  have hc : kd = 0 ∨ kd = 1 ∨ kd = 2 ∨ kd = 3 ∨ kd = 4 ∨ kd = 5 ∨ kd = 6 ∨ kd = 7 ∨ kd = 8 ∨ kd = 9 ∨ kd = 10 ∨ kd = 11 := by omega
  unfold aWr
  generalize aR A a * aR A b = M at m1 m2 p1
  generalize aR A a * aR A a = N at n1 n2 p2
  unfold aAr at ha
  rcases hc with e | e | e | e | e | e | e | e | e | e | e | e <;> subst e <;> simp only [false_and, if_false, if_true, Int.reduceAdd, Int.reduceSub, Int.reduceMul, Int.reduceNeg, Int.reduceLE, Int.reduceLT, Int.reduceEq, false_implies, true_implies, not_true_eq_false, not_false_eq_true, and_true, true_and, xar_0, xar_1, xar_2, xar_3, xar_4, xar_5, xar_6, xar_7, xar_8, xar_9, xar_10, xar_11, xar_12, or_self, or_true, true_or, or_false, false_or] at ha ⊢ <;> (try split) <;> omega
def aMk (A : aG) (k v a b c : Int) : Int × aG :=
  if ¬ aFd A k v a b c A.1.toNat 0 = -1 then (aFd A k v a b c A.1.toNat 0, A)
  else if 1000000 < aWr A k v a b c then (-101, A)
  else if 36 ≤ A.1 then (-102, A)
  else (A.1, aApp A (k, v, a, b, c, aWr A k v a b c))
theorem aFd_lt {A : aG} {k v a b c : Int} : ∀ (n : Nat) (j : Int), 0 ≤ j → aFd A k v a b c n j = -1 ∨ (0 ≤ aFd A k v a b c n j ∧ aFd A k v a b c n j < j + n)
  | 0, j, h => Or.inl rfl
  | n + 1, j, h => by
    unfold aFd
    split
    · exact Or.inr ⟨h, by omega⟩
    · rcases aFd_lt (A := A) (k := k) (v := v) (a := a) (b := b) (c := c) n (j + 1) (by omega) with h1 | ⟨h1, h2⟩
      · exact Or.inl h1
      · exact Or.inr ⟨h1, by omega⟩
theorem aMk_ok {A : aG} {kd dt a b c : Int} (h : aOk A) (h0 : 0 ≤ kd) (h1 : kd ≤ 11) (h2 : 0 ≤ dt) (h3 : dt < 1000) (ha : aAr A.1 kd a b c) : aOk (aMk A kd dt a b c).2 ∧ aPre A (aMk A kd dt a b c).2 ∧ (0 ≤ (aMk A kd dt a b c).1 → (aMk A kd dt a b c).1 < (aMk A kd dt a b c).2.1) ∧ -102 ≤ (aMk A kd dt a b c).1 ∧ (aMk A kd dt a b c).1 < 36 := by
  obtain ⟨w1, w2⟩ := aWr_b h h0 h1 h2 h3 ha
  have hn := h.2.1
  have hn0 := h.1
  unfold aMk
  by_cases c1 : ¬ aFd A kd dt a b c A.1.toNat 0 = -1
  · rw [if_pos c1]
    have := aFd_lt (A := A) (k := kd) (v := dt) (a := a) (b := b) (c := c) A.1.toNat 0 (by omega)
    exact ⟨h, aPre_rfl, fun _ => by show aFd A kd dt a b c A.1.toNat 0 < A.1; omega, by show -102 ≤ aFd A kd dt a b c A.1.toNat 0; omega, by show aFd A kd dt a b c A.1.toNat 0 < 36; omega⟩
  · rw [if_neg c1]
    by_cases c2 : 1000000 < aWr A kd dt a b c
    · rw [if_pos c2]
      exact ⟨h, aPre_rfl, fun q => absurd q (by show ¬ (0 : Int) ≤ -101; decide), by show (-102 : Int) ≤ -101; decide, by show (-101 : Int) < 36; decide⟩
    · rw [if_neg c2]
      by_cases c3 : 36 ≤ A.1
      · rw [if_pos c3]
        exact ⟨h, aPre_rfl, fun q => absurd q (by show ¬ (0 : Int) ≤ -102; decide), by show (-102 : Int) ≤ -102; decide, by show (-102 : Int) < 36; decide⟩
      · rw [if_neg c3]
        refine ⟨⟨by show 0 ≤ A.1 + 1; omega, by show A.1 + 1 ≤ 36; omega, fun j j0 j1 => ?_⟩, aPre_app, fun _ => by show A.1 < A.1 + 1; omega, by show -102 ≤ A.1; omega, by show A.1 < 36; omega⟩
        have j1 : j < A.1 + 1 := j1
        by_cases hj : j = A.1
        · subst hj
          rw [aApp_at]
          refine aNo_pre aPre_app (Int.le_refl _) ⟨h0, h1, h2, h3, ha, rfl, w1, ?_⟩
          show aWr A kd dt a b c ≤ 1000000
          omega
        · rw [aPre_app.2 j j0 (by omega)]
          exact aNo_pre aPre_app (by omega) (h.2.2 j j0 (by omega))
/-! steps -/
def aArg (st : List Int) (k i : Int) : Int := if i < xar k then st.getD (xar k - 1 - i).toNat (-1) else -1
def aStp (A : aG) (st : List Int) (bf k v : Int) : Int × aG := if k = 12 then (if v < bf then v else -100, A) else aMk A k v (aArg st k 0) (aArg st k 1) (aArg st k 2)
def aBd (bf : Int) : pL → List Int → Int → aG → Int × aG
  | [], _, nd, A => (nd, A)
  | q :: F, st, nd, A => if (aStp A st bf q.1 q.2).1 < 0 then aStp A st bf q.1 q.2 else aBd bf F ((aStp A st bf q.1 q.2).1 :: st.drop (par q.1)) (aStp A st bf q.1 q.2).1 (aStp A st bf q.1 q.2).2
theorem par_xar {k : Int} (h0 : 0 ≤ k) (h1 : k ≤ 12) : xar k = (par k : Int) := by
  have hc : k = 0 ∨ k = 1 ∨ k = 2 ∨ k = 3 ∨ k = 4 ∨ k = 5 ∨ k = 6 ∨ k = 7 ∨ k = 8 ∨ k = 9 ∨ k = 10 ∨ k = 11 ∨ k = 12 := by omega
  rcases hc with rfl | rfl | rfl | rfl | rfl | rfl | rfl | rfl | rfl | rfl | rfl | rfl | rfl <;> rfl
theorem par_3 {k : Int} : par k ≤ 3 := by
  unfold par
  split
  · omega
  · split
    · omega
    · split <;> omega
def aSo (st : List Int) (n : Int) : Prop := ∀ v, v ∈ st → 0 ≤ v ∧ v < n
theorem aSo_at {st : List Int} {n : Int} {i : Nat} (h : aSo st n) (hi : i < st.length) : 0 ≤ st.getD i (-1) ∧ st.getD i (-1) < n := by
  rw [List.getD_eq_getElem?_getD, List.getElem?_eq_getElem hi]
  exact h _ (List.getElem_mem hi)
theorem aArg_ok {st : List Int} {n k : Int} (h : aSo st n) (h0 : 0 ≤ k) (h1 : k ≤ 12) (hp : par k ≤ st.length) : aAr n k (aArg st k 0) (aArg st k 1) (aArg st k 2) := by
  have e := par_xar h0 h1
  have e3 := par_3 (k := k)
  unfold aArg
  refine ⟨fun z => ?_, fun z => ?_, fun z => ?_, fun z => ?_, fun z => ?_, fun z => ?_⟩
  · rw [if_pos z]; exact aSo_at h (by omega)
  · rw [if_neg (by omega)]
  · rw [if_pos z]; exact aSo_at h (by omega)
  · rw [if_neg (by omega)]
  · rw [if_pos z]; exact aSo_at h (by omega)
  · rw [if_neg (by omega)]
theorem aStp_ok {A : aG} {st : List Int} {bf : Int} {q : Int × Int} (h : aOk A) (hs : aSo st A.1) (hq : pGq q) (hp : par q.1 ≤ st.length) (hb : bf ≤ A.1) : aOk (aStp A st bf q.1 q.2).2 ∧ aPre A (aStp A st bf q.1 q.2).2 ∧ (0 ≤ (aStp A st bf q.1 q.2).1 → (aStp A st bf q.1 q.2).1 < (aStp A st bf q.1 q.2).2.1) ∧ -102 ≤ (aStp A st bf q.1 q.2).1 ∧ (aStp A st bf q.1 q.2).1 < 36 := by
  obtain ⟨q0, q1, q2, q3⟩ := hq
  have hn := h.2.1
  unfold aStp
  by_cases hk : q.1 = 12
  · rw [if_pos hk]
    refine ⟨h, aPre_rfl, ?_, ?_, ?_⟩
    · show 0 ≤ (if q.2 < bf then q.2 else -100) → (if q.2 < bf then q.2 else -100) < A.1
      split <;> omega
    · show -102 ≤ (if q.2 < bf then q.2 else -100)
      split <;> omega
    · show (if q.2 < bf then q.2 else -100) < 36
      split <;> omega
  · rw [if_neg hk]
    exact aMk_ok h q0 (by omega) q2 q3 (aArg_ok hs q0 q1 hp)
theorem aSo_step {st : List Int} {n m r : Int} {p : Nat} (h : aSo st n) (hm : n ≤ m) (h0 : 0 ≤ r) (h1 : r < m) : aSo (r :: st.drop p) m := by
  intro v hv
  rw [List.mem_cons] at hv
  rcases hv with rfl | hv
  · exact ⟨h0, h1⟩
  · have := h v (List.mem_of_mem_drop hv)
    exact ⟨this.1, by omega⟩
theorem aBd_ok {bf : Int} : ∀ (F : pL) (st : List Int) (nd : Int) (A : aG), aOk A → aSo st A.1 → pGd F → (∃ h, phg F st.length = some h) → bf ≤ A.1 → -102 ≤ nd → nd < A.1 → aOk (aBd bf F st nd A).2 ∧ aPre A (aBd bf F st nd A).2 ∧ -102 ≤ (aBd bf F st nd A).1 ∧ (aBd bf F st nd A).1 < 36 ∧ (0 ≤ (aBd bf F st nd A).1 → (aBd bf F st nd A).1 < (aBd bf F st nd A).2.1)
  | [], st, nd, A, hA, hs, hg, hh, hb, hn, hn1 => ⟨hA, aPre_rfl, hn, by show nd < 36; have := hA.2.1; omega, fun _ => hn1⟩
  | q :: F, st, nd, A, hA, hs, hg, hh, hb, hn, hn1 => by
    obtain ⟨h, hh⟩ := hh
    simp only [phg] at hh
    have hp : par q.1 ≤ st.length := by
      split at hh
      · assumption
      · cases hh
    rw [if_pos hp] at hh
    obtain ⟨a1, a2, a3, a4, a5⟩ := aStp_ok hA hs (hg q (List.mem_cons_self ..)) hp hb
    unfold aBd
    by_cases hc : (aStp A st bf q.1 q.2).1 < 0
    · rw [if_pos hc]
      exact ⟨a1, a2, a4, a5, a3⟩
    · rw [if_neg hc]
      have hl : ((aStp A st bf q.1 q.2).1 :: st.drop (par q.1)).length = st.length - par q.1 + 1 := by simp
      obtain ⟨b1, b2, b3⟩ := aBd_ok (bf := bf) F _ (aStp A st bf q.1 q.2).1 (aStp A st bf q.1 q.2).2 a1 (aSo_step hs a2.1 (by omega) (a3 (by omega))) (fun r hr => hg r (List.mem_cons_of_mem _ hr)) ⟨h, by rw [hl]; exact hh⟩ (by have := a2.1; omega) a4 (a3 (by omega))
      exact ⟨b1, aPre_tr a2 b2, b3⟩
/-- the last node is all that is left on the stack -/
def aTop (st : List Int) (nd : Int) : Prop := st.headD nd = nd
