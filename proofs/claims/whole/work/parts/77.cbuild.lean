/-! the class's graph is the one of numbers; its builder -/
def cRep (G : xG) (A : aG) : Prop := xg G 9 9 = A.1 ∧ ∀ j, 0 ≤ j → j < A.1 → xg G 10 j = (A.2 j).1 ∧ xg G 11 j = (A.2 j).2.1 ∧ xg G 12 (3 * j) = (A.2 j).2.2.1 ∧ xg G 12 (3 * j + 1) = (A.2 j).2.2.2.1 ∧ xg G 12 (3 * j + 2) = (A.2 j).2.2.2.2.1 ∧ xg G 13 j = (A.2 j).2.2.2.2.2
theorem cRep_eq {G G' : xG} {A : aG} (h : cRep G A) (h9 : xg G' 9 9 = xg G 9 9) (he : ∀ (a : Nat) (j : Int), (a = 10 ∨ a = 11 ∨ a = 12 ∨ a = 13) → xg G' a j = xg G a j) : cRep G' A := by
  refine ⟨h9.trans h.1, fun j h0 h1 => ?_⟩
  rw [he 10 j (by omega), he 11 j (by omega), he 12 _ (by omega), he 12 _ (by omega), he 12 _ (by omega), he 13 j (by omega)]
  exact h.2 j h0 h1
theorem cRep_c {G : xG} {A : aG} {a : Nat} {i x : Int} (h : cRep G A) (ha : ¬ (9 ≤ a ∧ a ≤ 13)) : cRep (xp G a i x) A :=
  cRep_eq h (xg_cell (by omega)) (fun b j hb => xg_cell (by omega))
theorem cFd {G : xG} {A : aG} {k v a b c : Int} (h : cRep G A) : ∀ (n : Nat) (j : Int), 0 ≤ j → j + n ≤ A.1 → gFd G k v a b c n j = aFd A k v a b c n j
  | 0, j, _, _ => rfl
  | n + 1, j, h0, h1 => by
    obtain ⟨e1, e2, e3, e4, e5, e6⟩ := h.2 j h0 (by omega)
    unfold gFd aFd
    rw [cFd h n (j + 1) (by omega) (by omega)]
    unfold gEq aEq
    rw [e1, e2, Int.add_zero, e3, e4, e5]
theorem cRz {G : xG} {A : aG} {a : Int} (h : cRep G A) (ha : a = -1 ∨ (0 ≤ a ∧ a < A.1)) : gRz G a = aR A a := by
  unfold gRz aR
  rcases ha with ha | ha
  · rw [if_pos ha, if_pos ha]
  · rw [if_neg (by omega), if_neg (by omega)]
    exact (h.2 a ha.1 ha.2).2.2.2.2.2
theorem cWr {G : xG} {A : aG} {kd dt a b c : Int} (h : cRep G A) (ha : aAr A.1 kd a b c) : gWr G kd dt a b c = aWr A kd dt a b c := by
  obtain ⟨d1, d2, d3⟩ := aAr_d ha
  unfold gWr aWr
  rw [cRz h d1, cRz h d2, cRz h d3]
/-- nothing but the graph and the builder's stack has changed -/
def cFb (G G' : xG) : Prop := ∀ (a : Nat) (j : Int), ¬ (9 ≤ a ∧ a ≤ 13) → ¬ a = 19 → ¬ a = 20 → xg G' a j = xg G a j
theorem cFb_rfl {G : xG} : cFb G G := fun _ _ _ _ _ => rfl
theorem cFb_tr {A B C : xG} (h : cFb A B) (g : cFb B C) : cFb A C := fun a j h1 h2 h3 => (g a j h1 h2 h3).trans (h a j h1 h2 h3)
theorem cFb_c {A B : xG} {c : Nat} {i x : Int} (h : cFb A B) (hc : (9 ≤ c ∧ c ≤ 13) ∨ c = 19 ∨ c = 20) : cFb A (xp B c i x) := fun a j h1 h2 h3 => by
  rw [xg_cell (by omega)]
  exact h a j h1 h2 h3
theorem cNew {G : xG} {A : aG} {k v a b c w : Int} (h : cRep G A) (h0 : 0 ≤ A.1) (h1 : A.1 < 36) (x1 : xin k) (x2 : xin v) (x3 : xin a) (x4 : xin b) (x5 : xin c) (x6 : xin w) : cRep (gNew G k v a b c w) (aApp A (k, v, a, b, c, w)) ∧ cFb G (gNew G k v a b c w) ∧ (∀ j, xg (gNew G k v a b c w) 19 j = xg G 19 j) ∧ ∀ j, xg (gNew G k v a b c w) 20 j = xg G 20 j := by
  obtain ⟨e9, e⟩ := h
  unfold gNew
  rw [e9]
  refine ⟨⟨xg_self ⟨by omega, by omega⟩, fun j j0 j1 => ?_⟩, ?_, fun j => ?_, fun j => ?_⟩
  · have j1 : j < A.1 + 1 := j1
    simp only [xg_cell (show ¬ 10 = 9 by decide), xg_cell (show ¬ 10 = 13 by decide), xg_cell (show ¬ 10 = 12 by decide), xg_cell (show ¬ 10 = 11 by decide), xg_cell (show ¬ 11 = 9 by decide), xg_cell (show ¬ 11 = 13 by decide), xg_cell (show ¬ 11 = 12 by decide), xg_cell (show ¬ 12 = 9 by decide), xg_cell (show ¬ 12 = 13 by decide), xg_cell (show ¬ 13 = 9 by decide)]
    by_cases hj : j = A.1
    · subst hj
      rw [aApp_at, xg_self x1, xg_self x2, xg_idx (i := 3 * A.1 + 2) (by omega) (by omega) (by omega), xg_idx (i := 3 * A.1 + 1) (by omega) (by omega) (by omega), xg_self x3, xg_idx (i := 3 * A.1 + 2) (by omega) (by omega) (by omega), xg_self x4, xg_self x5, xg_self x6]
      exact ⟨rfl, rfl, rfl, rfl, rfl, rfl⟩
    · rw [aPre_app.2 j j0 (by omega)]
      rw [xg_idx (by omega) (by omega) (by omega), xg_idx (by omega) (by omega) (by omega), xg_idx (by omega) (by omega) (by omega), xg_idx (by omega) (by omega) (by omega), xg_idx (by omega) (by omega) (by omega), xg_idx (by omega) (by omega) (by omega), xg_idx (by omega) (by omega) (by omega), xg_idx (by omega) (by omega) (by omega), xg_idx (by omega) (by omega) (by omega), xg_idx (by omega) (by omega) (by omega), xg_idx (by omega) (by omega) (by omega), xg_idx (by omega) (by omega) (by omega)]
      simp only [xg_cell (show ¬ 11 = 10 by decide), xg_cell (show ¬ 12 = 11 by decide), xg_cell (show ¬ 12 = 10 by decide), xg_cell (show ¬ 13 = 12 by decide), xg_cell (show ¬ 13 = 11 by decide), xg_cell (show ¬ 13 = 10 by decide)]
      exact e j j0 (by omega)
  · exact cFb_c (cFb_c (cFb_c (cFb_c (cFb_c (cFb_c (cFb_c cFb_rfl (by omega)) (by omega)) (by omega)) (by omega)) (by omega)) (by omega)) (by omega)
  · simp only [xg_cell (show ¬ 19 = 9 by decide), xg_cell (show ¬ 19 = 13 by decide), xg_cell (show ¬ 19 = 12 by decide), xg_cell (show ¬ 19 = 11 by decide), xg_cell (show ¬ 19 = 10 by decide)]
  · simp only [xg_cell (show ¬ 20 = 9 by decide), xg_cell (show ¬ 20 = 13 by decide), xg_cell (show ¬ 20 = 12 by decide), xg_cell (show ¬ 20 = 11 by decide), xg_cell (show ¬ 20 = 10 by decide)]
theorem cOb {G : xG} {A : aG} {k v a b c : Int} (h : cRep G A) (hA : aOk A) (k0 : 0 ≤ k) (k1 : k ≤ 11) (v0 : 0 ≤ v) (v1 : v < 1000) (ha : aAr A.1 k a b c) : gObOk G k v a b c ∧ (gOb G k v a b c).1 = (aMk A k v a b c).1 ∧ cRep (gOb G k v a b c).2 (aMk A k v a b c).2 ∧ cFb G (gOb G k v a b c).2 ∧ (∀ j, xg (gOb G k v a b c).2 19 j = xg G 19 j) ∧ ∀ j, xg (gOb G k v a b c).2 20 j = xg G 20 j := by
  obtain ⟨n0, n1, hA'⟩ := hA
  obtain ⟨d1, d2, d3⟩ := aAr_d ha
  obtain ⟨w1, w2⟩ := aWr_b ⟨n0, n1, hA'⟩ k0 k1 v0 v1 ha
  have e9 := h.1
  refine ⟨⟨k0, k1, ⟨by omega, by omega⟩, by omega, by omega, by omega, by omega, by omega, by omega, by omega, by omega, ?_⟩, ?_⟩
  · rw [cWr h ha]; exact ⟨by omega, by omega⟩
  · unfold gOb aMk
    rw [cWr h ha, e9, cFd h A.1.toNat 0 (by omega) (by omega)]
    by_cases c1 : ¬ aFd A k v a b c A.1.toNat 0 = -1
    · rw [if_pos c1, if_pos c1]
      exact ⟨rfl, h, cFb_rfl, fun _ => rfl, fun _ => rfl⟩
    · rw [if_neg c1, if_neg c1]
      by_cases c2 : 1000000 < aWr A k v a b c
      · rw [if_pos c2, if_pos c2]
        exact ⟨rfl, h, cFb_rfl, fun _ => rfl, fun _ => rfl⟩
      · rw [if_neg c2, if_neg c2]
        by_cases c3 : 36 ≤ A.1
        · rw [if_pos c3, if_pos c3]
          exact ⟨rfl, h, cFb_rfl, fun _ => rfl, fun _ => rfl⟩
        · rw [if_neg c3, if_neg c3]
          obtain ⟨p1, p2⟩ := cNew (k := k) (v := v) (a := a) (b := b) (c := c) (w := aWr A k v a b c) h n0 (by omega) ⟨by omega, by omega⟩ ⟨by omega, by omega⟩ ⟨by omega, by omega⟩ ⟨by omega, by omega⟩ ⟨by omega, by omega⟩ ⟨by omega, by omega⟩
          exact ⟨rfl, p1, p2⟩
/-! the stack -/
def cSk (G : xG) : List Int → Prop
  | [] => True
  | v :: st => xg G 20 (st.length : Int) = v ∧ cSk G st
theorem cSk_at {G : xG} : ∀ (st : List Int) (j : Nat), cSk G st → j < st.length → xg G 20 ((st.length : Int) - 1 - j) = st.getD j (-1)
  | [], j, h, hj => absurd hj (Nat.not_lt_zero _)
  | v :: st, 0, h, hj => by
    simp only [List.length_cons, Int.natCast_add, Int.cast_ofNat_Int, List.getD_cons_zero]
    rw [show (st.length : Int) + 1 - 1 - 0 = (st.length : Int) by omega]
    exact h.1
  | v :: st, j + 1, h, hj => by
    simp only [List.length_cons] at hj
    simp only [List.length_cons, Int.natCast_add, Int.cast_ofNat_Int, List.getD_cons_succ]
    rw [show (st.length : Int) + 1 - 1 - (j + 1) = (st.length : Int) - 1 - j by omega]
    exact cSk_at st j h.2 (by omega)
theorem cSk_drop {G : xG} : ∀ (n : Nat) (st : List Int), cSk G st → cSk G (st.drop n)
  | 0, st, h => h
  | n + 1, [], h => by simpa using h
  | n + 1, v :: st, h => cSk_drop n st h.2
theorem cSk_e {G G' : xG} : ∀ (st : List Int), (∀ j, 0 ≤ j → j < (st.length : Int) → xg G' 20 j = xg G 20 j) → cSk G st → cSk G' st
  | [], _, _ => trivial
  | v :: st, he, h => by
    simp only [List.length_cons, Int.natCast_add, Int.cast_ofNat_Int] at he
    exact ⟨(he _ (by omega) (by omega)).trans h.1, cSk_e st (fun j h0 h1 => he j h0 (by omega)) h.2⟩
theorem cSt {G : xG} {st : List Int} {k i : Int} (h : cSk G st) (hh : xg G 19 2 = (st.length : Int)) (k0 : 0 ≤ k) (k1 : k ≤ 12) (hp : par k ≤ st.length) (hi : 0 ≤ i) : gSt G k i = aArg st k i := by
  have e := par_xar k0 k1
  unfold gSt aArg
  by_cases hc : i < xar k
  · rw [if_pos hc, if_pos hc, hh]
    have := cSk_at st (xar k - 1 - i).toNat h (by omega)
    rw [show (st.length : Int) - 1 - ((xar k - 1 - i).toNat : Int) = (st.length : Int) - xar k + i by omega] at this
    exact this
  · rw [if_neg hc, if_neg hc]
theorem cRs {G : xG} {A : aG} {st : List Int} {bf : Int} {q : Int × Int} (h : cRep G A) (hA : aOk A) (hs : aSo st A.1) (hk : cSk G st) (hh : xg G 19 2 = (st.length : Int)) (hl : st.length ≤ 20) (hq : pGq q) (hp : par q.1 ≤ st.length) (hb0 : 0 ≤ bf) (hb : bf ≤ A.1) : gRsOk G q.1 q.2 bf ∧ (gRs G q.1 q.2 bf).1 = (aStp A st bf q.1 q.2).1 ∧ cRep (gRs G q.1 q.2 bf).2 (aStp A st bf q.1 q.2).2 ∧ cFb G (gRs G q.1 q.2 bf).2 ∧ xg (gRs G q.1 q.2 bf).2 19 2 = ((st.drop (par q.1)).length : Int) ∧ ∀ j, xg (gRs G q.1 q.2 bf).2 20 j = xg G 20 j := by
  obtain ⟨q0, q1, q2, q3⟩ := hq
  have e := par_xar q0 q1
  have hn := hA.2.1
  have hdl : ((st.drop (par q.1)).length : Int) = (st.length : Int) - xar q.1 := by rw [List.length_drop, e]; omega
  have hc1 : cRep (xp G 19 2 (xg G 19 2 - xar q.1)) A := cRep_c h (by decide)
  have hx : xin ((st.length : Int) - xar q.1) := ⟨by omega, by omega⟩
  unfold gRsOk gRs aStp
  rw [cSt hk hh q0 q1 hp (by decide), cSt hk hh q0 q1 hp (by decide), cSt hk hh q0 q1 hp (by decide)]
  by_cases k12 : q.1 = 12
  · rw [if_pos k12, if_pos k12]
    refine ⟨⟨q0, q1, ⟨by omega, by omega⟩, ⟨by omega, by omega⟩, by omega, by omega, fun z => absurd k12 z⟩, rfl, h, cFb_rfl, ?_, fun _ => rfl⟩
    rw [hdl, k12]
    show xg G 19 2 = (st.length : Int) - 0
    omega
  · rw [if_neg k12, if_neg k12]
    obtain ⟨o1, o2, o3, o4, o5, o6⟩ := cOb hc1 hA q0 (show q.1 ≤ 11 by omega) q2 q3 (aArg_ok hs q0 q1 hp)
    refine ⟨⟨q0, q1, ⟨by omega, by omega⟩, ⟨by omega, by omega⟩, by omega, by omega, fun _ => o1⟩, o2, o3, cFb_tr (cFb_c cFb_rfl (by omega)) o4, ?_, fun j => ?_⟩
    · rw [o5, hh, xg_self hx, hdl]
    · rw [o6, xg_cell (by decide)]
theorem cPush {G : xG} {A : aG} {st : List Int} {v : Int} (h : cRep G A) (hk : cSk G st) (hh : xg G 19 2 = (st.length : Int)) (hl : st.length < 20) (hv : xin v) : cRep (gPush G v) A ∧ cSk (gPush G v) (v :: st) ∧ xg (gPush G v) 19 2 = ((v :: st).length : Int) ∧ cFb G (gPush G v) := by
  unfold gPush
  rw [hh, if_pos (show (st.length : Int) < 20 by omega)]
  refine ⟨cRep_c (cRep_c h (by decide)) (by decide), ⟨?_, ?_⟩, ?_, cFb_c (cFb_c cFb_rfl (by omega)) (by omega)⟩
  · rw [xg_cell (by decide), xg_self hv]
  · refine cSk_e st (fun j j0 j1 => ?_) hk
    rw [xg_cell (by decide), xg_idx (by omega) (by omega) (by omega)]
  · rw [xg_self ⟨by omega, by omega⟩]
    simp
theorem cBd {bf L : Int} (hb0 : 0 ≤ bf) : ∀ (F : pL) (i : Int) (st : List Int) (nd : Int) (G : xG) (A : aG), cRep G A → aOk A → aSo st A.1 → cSk G st → xg G 19 2 = (st.length : Int) → st.length + F.length ≤ 20 → pGd F → (∃ h, phg F st.length = some h) → bf ≤ A.1 → 0 ≤ nd → nd < 36 → xg G 5 2 = L → 0 ≤ i → (∀ (j : Nat) (q : Int × Int), F[j]? = some q → xg G 6 (i + j) = q.1 ∧ xg G 7 (i + j) = q.2) → gBdOk bf L F.length i nd G ∧ (gBd bf F.length i nd G).1 = (aBd bf F st nd A).1 ∧ cRep (gBd bf F.length i nd G).2 (aBd bf F st nd A).2 ∧ cFb G (gBd bf F.length i nd G).2
  | [], i, st, nd, G, A, h, hA, hs, hk, hh, hl, hg, hph, hb, n0, n1, hL, i0, hF => ⟨⟨⟨by omega, by omega⟩, hL⟩, rfl, h, cFb_rfl⟩
  | q :: F, i, st, nd, G, A, h, hA, hs, hk, hh, hl, hg, hph, hb, n0, n1, hL, i0, hF => by
    obtain ⟨hq6, hq7⟩ := hF 0 q rfl
    rw [show i + ((0 : Nat) : Int) = i by simp] at hq6 hq7
    obtain ⟨hx, hph⟩ := hph
    simp only [phg] at hph
    have hp : par q.1 ≤ st.length := by
      split at hph
      · assumption
      · cases hph
    rw [if_pos hp] at hph
    simp only [List.length_cons] at hl
    have hgq := hg q (List.mem_cons_self ..)
    obtain ⟨r1, r2, r3, r4, r5, r6⟩ := cRs (bf := bf) h hA hs hk hh (by omega) hgq hp hb0 hb
    obtain ⟨a1, a2, a3, a4, a5⟩ := aStp_ok (bf := bf) hA hs hgq hp hb
    have hk2 : cSk (gRs G q.1 q.2 bf).2 (st.drop (par q.1)) := cSk_e _ (fun j _ _ => r6 j) (cSk_drop _ _ hk)
    have hdl : (st.drop (par q.1)).length = st.length - par q.1 := List.length_drop
    have hvx : xin (gRs G q.1 q.2 bf).1 := by rw [r2]; exact ⟨by omega, by omega⟩
    obtain ⟨p1, p2, p3, p4⟩ := cPush (v := (gRs G q.1 q.2 bf).1) r3 hk2 r5 (by omega) hvx
    have hp5 : xg (gPush (gRs G q.1 q.2 bf).2 (gRs G q.1 q.2 bf).1) 5 2 = L := by rw [p4 5 2 (by decide) (by decide) (by decide), r4 5 2 (by decide) (by decide) (by decide)]; exact hL
    have hp19 : 0 ≤ xg (gRs G q.1 q.2 bf).2 19 2 := by rw [r5]; omega
    have e1 : gBd bf (F.length + 1) i nd G = gBd bf F.length (i + 1) (gRs G (xg G 6 i) (xg G 7 i) bf).1 (gPush (gRs G (xg G 6 i) (xg G 7 i) bf).2 (gRs G (xg G 6 i) (xg G 7 i) bf).1) := by
      show (if nd < 0 then _ else _) = _
      rw [if_neg (by omega)]
    show (xin nd ∧ xg G 5 2 = L ∧ (0 ≤ nd → gRsOk G (xg G 6 i) (xg G 7 i) bf ∧ 0 ≤ xg (gRs G (xg G 6 i) (xg G 7 i) bf).2 19 2 ∧ gBdOk bf L F.length (i + 1) (gRs G (xg G 6 i) (xg G 7 i) bf).1 (gPush (gRs G (xg G 6 i) (xg G 7 i) bf).2 (gRs G (xg G 6 i) (xg G 7 i) bf).1))) ∧ (gBd bf (F.length + 1) i nd G).1 = _ ∧ cRep (gBd bf (F.length + 1) i nd G).2 _ ∧ cFb G (gBd bf (F.length + 1) i nd G).2
    rw [e1, hq6, hq7]
    unfold aBd
    by_cases hc : (aStp A st bf q.1 q.2).1 < 0
    · rw [if_pos hc]
      have hc' : (gRs G q.1 q.2 bf).1 < 0 := by rw [r2]; exact hc
      have e2 : gBd bf F.length (i + 1) (gRs G q.1 q.2 bf).1 (gPush (gRs G q.1 q.2 bf).2 (gRs G q.1 q.2 bf).1) = ((gRs G q.1 q.2 bf).1, gPush (gRs G q.1 q.2 bf).2 (gRs G q.1 q.2 bf).1) := by
        cases F with
        | nil => rfl
        | cons x F =>
          show (if _ < 0 then _ else _) = _
          rw [if_pos hc']
      have e3 : gBdOk bf L F.length (i + 1) (gRs G q.1 q.2 bf).1 (gPush (gRs G q.1 q.2 bf).2 (gRs G q.1 q.2 bf).1) := by
        cases F with
        | nil => exact ⟨hvx, hp5⟩
        | cons x F => exact ⟨hvx, hp5, fun z => absurd z (by omega)⟩
      rw [e2]
      exact ⟨⟨⟨by omega, by omega⟩, hL, fun _ => ⟨r1, hp19, e3⟩⟩, r2, p1, cFb_tr r4 p4⟩
    · rw [if_neg hc]
      rw [r2] at p2 p3 ⊢
      have hl2 : ((aStp A st bf q.1 q.2).1 :: st.drop (par q.1)).length = st.length - par q.1 + 1 := by simp
      rw [r2] at p1 p4 hp5
      have ih := cBd (bf := bf) (L := L) hb0 F (i + 1) ((aStp A st bf q.1 q.2).1 :: st.drop (par q.1)) (aStp A st bf q.1 q.2).1 (gPush (gRs G q.1 q.2 bf).2 (aStp A st bf q.1 q.2).1) (aStp A st bf q.1 q.2).2 p1 a1 (aSo_step hs a2.1 (by omega) (a3 (by omega))) p2 p3 (by rw [hl2]; omega) (fun r hr => hg r (List.mem_cons_of_mem _ hr)) ⟨hx, by rw [hl2]; exact hph⟩ (by have := a2.1; omega) (by omega) a5 hp5 (by omega) (fun j r hr => by
        have := hF (j + 1) r hr
        rw [show i + ((j + 1 : Nat) : Int) = i + 1 + (j : Int) by omega] at this
        rw [p4 6 _ (by decide) (by decide) (by decide), p4 7 _ (by decide) (by decide) (by decide), r4 6 _ (by decide) (by decide) (by decide), r4 7 _ (by decide) (by decide) (by decide)]
        exact this)
      obtain ⟨i1, i2, i3, i4⟩ := ih
      exact ⟨⟨⟨by omega, by omega⟩, hL, fun _ => ⟨r1, hp19, i1⟩⟩, i2, i3, cFb_tr r4 (cFb_tr p4 i4)⟩
