/-! the class's parser on its cells is the parser on lists -/
def cLn (G : xG) : Nat → Int → List Int
  | 0, _ => []
  | n + 1, k => xg G 4 k :: cLn G n (k + 1)
def cOp (G : xG) (O : pL) : Prop := ∀ (i : Nat) (q : Int × Int), O[i]? = some q → xg G 6 (i : Int) = q.1 ∧ xg G 7 (i : Int) = q.2
/-- a step is in order -/
def pGq (q : Int × Int) : Prop := 0 ≤ q.1 ∧ q.1 ≤ 12 ∧ 0 ≤ q.2 ∧ q.2 < 1000
def pGd (O : pL) : Prop := ∀ q, q ∈ O → pGq q
def cP (G : xG) (s : pS) : Prop := okP G ∧ s.1 = cLn G (xg G 3 1 - xg G 8 2).toNat (xg G 8 2) ∧ (xg G 8 3 = if s.2.1 = true then 1 else 0) ∧ xg G 5 2 = (s.2.2.length : Int) ∧ cOp G s.2.2 ∧ pGd s.2.2
def cFr (G G' : xG) : Prop := ∀ (a : Nat) (j : Int), ¬ a = 5 → ¬ a = 6 → ¬ a = 7 → ¬ a = 8 → xg G' a j = xg G a j
theorem cFr_rfl {G : xG} : cFr G G := fun _ _ _ _ _ _ => rfl
theorem cFr_tr {A B C : xG} (h : cFr A B) (g : cFr B C) : cFr A C := fun a j h1 h2 h3 h4 => (g a j h1 h2 h3 h4).trans (h a j h1 h2 h3 h4)
theorem cFr_c {A B : xG} {c : Nat} {i x : Int} (h : cFr A B) (hc : c = 5 ∨ c = 6 ∨ c = 7 ∨ c = 8) : cFr A (xp B c i x) := fun a j h1 h2 h3 h4 => by
  rw [xg_cell (by omega)]
  exact h a j h1 h2 h3 h4
theorem cLn_c {G : xG} {a : Nat} {i x : Int} (h : ¬ 4 = a) : ∀ (n : Nat) (k : Int), cLn (xp G a i x) n k = cLn G n k
  | 0, _ => rfl
  | n + 1, k => by simp only [cLn]; rw [xg_cell h, cLn_c h n]
theorem cP_ah {G : xG} {s : pS} (h : cP G s) : gAh G = pa s := by
  obtain ⟨h1, h2, h3, h4, h5, h6⟩ := h
  unfold gAh pa
  cases hb : s.2.1 with
  | true =>
    rw [hb] at h3
    rw [if_pos rfl, if_pos (Or.inl (by rw [h3]; decide))]
  | false =>
    rw [hb] at h3
    rw [if_neg Bool.false_ne_true]
    have h3 : xg G 8 3 = 0 := h3
    by_cases hp : xg G 8 2 < xg G 3 1
    · rw [if_neg (by omega), h2]
      obtain ⟨n, hn⟩ : ∃ n, (xg G 3 1 - xg G 8 2).toNat = n + 1 := ⟨(xg G 3 1 - xg G 8 2).toNat - 1, by omega⟩
      rw [hn]
      rfl
    · rw [if_pos (Or.inr hp), h2]
      rw [show (xg G 3 1 - xg G 8 2).toNat = 0 by omega]
      rfl
theorem cP_adv {G : xG} {s : pS} (h : cP G s) (ha : ¬ pa s = 0) : cP (gAdv G) (padv s) := by
  have hA := cP_ah h
  obtain ⟨h1, h2, h3, h4, h5, h6⟩ := h
  have hp : xg G 8 2 < xg G 3 1 := by
    rw [← hA] at ha
    unfold gAh at ha
    split at ha
    · exact absurd rfl ha
    · omega
  have hx : xin (xg G 8 2 + 1) := ⟨by have := h1.1; omega, by have := h1.2.2.1; omega⟩
  refine ⟨okP_adv h1 (by rw [hA]; exact ha), ?_, ?_, ?_, ?_, h6⟩
  · unfold gAdv
    rw [xg_self hx, xg_cell (by decide), cLn_c (by decide)]
    show s.1.tail = _
    obtain ⟨n, hn⟩ : ∃ n, (xg G 3 1 - xg G 8 2).toNat = n + 1 := ⟨(xg G 3 1 - xg G 8 2).toNat - 1, by omega⟩
    rw [h2, hn, show (xg G 3 1 - (xg G 8 2 + 1)).toNat = n by omega]
    rfl
  · unfold gAdv
    rw [xg_idx (by omega) (by omega) (by omega)]
    exact h3
  · unfold gAdv
    rw [xg_cell (by decide)]
    exact h4
  · intro i q hq
    unfold gAdv
    rw [xg_cell (by decide), xg_cell (by decide)]
    exact h5 i q hq
theorem cFr_adv {G : xG} : cFr G (gAdv G) := cFr_c cFr_rfl (by omega)
theorem cP_set {G : xG} {s : pS} {b : Bool} {x : Int} (h : cP G s) (hx : x = if b = true then 1 else 0) : cP (xp G 8 3 x) (s.1, b, s.2.2) := by
  obtain ⟨h1, h2, h3, h4, h5, h6⟩ := h
  have hxx : xin x := by subst hx; split <;> exact ⟨by decide, by decide⟩
  refine ⟨okP_brk h1, ?_, ?_, ?_, ?_, h6⟩
  · rw [xg_cell (by decide), xg_idx (by omega) (by omega) (by omega), cLn_c (by decide)]
    exact h2
  · rw [xg_self hxx]
    exact hx
  · rw [xg_cell (by decide)]
    exact h4
  · intro i q hq
    rw [xg_cell (by decide), xg_cell (by decide)]
    exact h5 i q hq
theorem cP_brk {G : xG} {s : pS} (h : cP G s) : cP (gBrk G) (pbrk s) := cP_set (b := true) h rfl
theorem cFr_brk {G : xG} : cFr G (gBrk G) := cFr_c cFr_rfl (by omega)
theorem cFr_add {G : xG} {k v : Int} : cFr G (gAdd G k v) := by
  unfold gAdd
  split
  · exact cFr_c (cFr_c (cFr_c cFr_rfl (by omega)) (by omega)) (by omega)
  · exact cFr_rfl
theorem cP_add {G : xG} {s : pS} {k v : Int} (h : cP G s) (hg : pGq (k, v)) : cP (gAdd G k v) (padd s k v) := by
  have hO := okP_add (k := k) (v := v) h.1
  obtain ⟨h1, h2, h3, h4, h5, h6⟩ := h
  have hk : xin k := ⟨by have := hg.1; simp at this; omega, by have := hg.2.1; simp at this; omega⟩
  have hv : xin v := ⟨by have := hg.2.2.1; simp at this; omega, by have := hg.2.2.2; simp at this; omega⟩
  unfold gAdd at hO ⊢
  unfold padd
  by_cases hl : xg G 5 2 < 20
  · rw [if_pos hl] at hO ⊢
    rw [if_pos (show s.2.2.length < 20 by omega)]
    refine ⟨hO, ?_, ?_, ?_, ?_, ?_⟩
    · simp only [xg_cell (show ¬ 3 = 5 by decide), xg_cell (show ¬ 3 = 6 by decide), xg_cell (show ¬ 3 = 7 by decide), xg_cell (show ¬ 8 = 5 by decide), xg_cell (show ¬ 8 = 6 by decide), xg_cell (show ¬ 8 = 7 by decide), cLn_c (show ¬ 4 = 5 by decide), cLn_c (show ¬ 4 = 6 by decide), cLn_c (show ¬ 4 = 7 by decide)]
      exact h2
    · simp only [xg_cell (show ¬ 8 = 5 by decide), xg_cell (show ¬ 8 = 6 by decide), xg_cell (show ¬ 8 = 7 by decide)]
      exact h3
    · rw [xg_self ⟨by omega, by omega⟩, h4]
      simp
    · intro i q hq
      have hq : (s.2.2 ++ [(k, v)])[i]? = some q := hq
      rw [xg_cell (show ¬ 6 = 5 by decide), xg_cell (show ¬ 7 = 5 by decide), xg_cell (show ¬ 6 = 7 by decide), h4]
      rcases Nat.lt_trichotomy i s.2.2.length with hi | hi | hi
      · rw [List.getElem?_append_left hi] at hq
        obtain ⟨e1, e2⟩ := h5 i q hq
        rw [xg_idx (by omega) (by omega) (by omega), xg_idx (by omega) (by omega) (by omega), xg_cell (by decide)]
        exact ⟨e1, e2⟩
      · subst hi
        rw [List.getElem?_append_right (Nat.le_refl _)] at hq
        simp only [Nat.sub_self, List.getElem?_cons_zero, Option.some.injEq] at hq
        subst hq
        rw [xg_self hk, xg_self hv]
        exact ⟨rfl, rfl⟩
      · rw [List.getElem?_append_right (Nat.le_of_lt hi)] at hq
        rw [List.getElem?_eq_none (by simp; omega)] at hq
        cases hq
    · intro q hq
      have hq : q ∈ s.2.2 ++ [(k, v)] := hq
      rw [List.mem_append] at hq
      rcases hq with hq | hq
      · exact h6 q hq
      · simp at hq
        subst hq
        exact hg
  · rw [if_neg hl]
    rw [if_neg (show ¬ s.2.2.length < 20 by omega)]
    exact ⟨h1, h2, h3, h4, h5, h6⟩
def cSm (f : xG → xG) (g : pS → pS) : Prop := ∀ (G : xG) (s : pS), cP G s → cP (f G) (g s) ∧ cFr G (f G)
theorem cSm_X {c : Int} (hc : ¬ c = 0) : cSm (gX c) (pX c) := by
  intro G s h
  unfold gX pX
  rw [cP_ah h]
  by_cases hq : pa s = c
  · rw [if_pos hq, if_pos hq]
    exact ⟨cP_adv h (by omega), cFr_adv⟩
  · rw [if_neg hq, if_neg hq]
    exact ⟨cP_brk h, cFr_brk⟩
theorem cSm_Dg : ∀ (n : Nat) (v M : Int) (G : xG) (s : pS), cP G s → 0 ≤ v → v < M → (gDg n v G).1 = (pDig n v s).1 ∧ cP (gDg n v G).2 (pDig n v s).2 ∧ cFr G (gDg n v G).2 ∧ 0 ≤ (pDig n v s).1 ∧ (pDig n v s).1 < 10 ^ n * M
  | 0, v, M, G, s, h, v0, v1 => ⟨rfl, h, cFr_rfl, v0, by show v < 10 ^ 0 * M; simpa using v1⟩
  | n + 1, v, M, G, s, h, v0, v1 => by
    unfold gDg pDig
    rw [cP_ah h]
    by_cases hd : pdg (pa s) = true
    · rw [if_pos hd, if_pos hd]
      obtain ⟨z0, z1, z2⟩ := pdg_nz hd
      obtain ⟨a1, a2, a3, a4, a5⟩ := cSm_Dg n (10 * v + (pa s - 48)) (10 * M) (gAdv G) (padv s) (cP_adv h z0) (by omega) (by omega)
      refine ⟨a1, a2, cFr_tr cFr_adv a3, a4, ?_⟩
      rw [Int.pow_succ, Int.mul_assoc]
      exact a5
    · rw [if_neg hd, if_neg hd]
      refine ⟨rfl, h, cFr_rfl, v0, ?_⟩
      have : (1 : Int) ≤ 10 ^ (n + 1) := by
        have := Int.pow_pos (n := 10) (m := n + 1) (by decide)
        omega
      calc v < M := v1
        _ = 1 * M := by omega
        _ ≤ 10 ^ (n + 1) * M := Int.mul_le_mul_of_nonneg_right this (by omega)
theorem cSm_Tl {f : xG → xG} {g : pS → pS} (hf : cSm f g) : ∀ i : Nat, cSm (gTl f i) (pTl g i)
  | 0, G, s, h => ⟨h, cFr_rfl⟩
  | i + 1, G, s, h => by
    unfold gTl pTl
    rw [cP_ah h]
    by_cases hq : pa s = 42
    · rw [if_pos hq, if_pos hq]
      obtain ⟨a1, a2⟩ := hf _ _ (cP_adv h (by omega))
      obtain ⟨b1, b2⟩ := cSm_Tl hf i _ _ (cP_add (k := 6) (v := 0) a1 (by unfold pGq; decide))
      exact ⟨b1, cFr_tr (cFr_tr cFr_adv a2) (cFr_tr cFr_add b2)⟩
    · rw [if_neg hq, if_neg hq]
      exact ⟨h, cFr_rfl⟩
theorem cSm_T {f : xG → xG} {g : pS → pS} (hf : cSm f g) : cSm (gT f) (pT g) := by
  intro G s h
  obtain ⟨a1, a2⟩ := hf _ _ h
  obtain ⟨b1, b2⟩ := cSm_Tl hf 20 _ _ a1
  exact ⟨b1, cFr_tr a2 b2⟩
theorem cSm_El {f : xG → xG} {g : pS → pS} (hf : cSm f g) : ∀ i : Nat, cSm (gEl f i) (pEl g i)
  | 0, G, s, h => ⟨h, cFr_rfl⟩
  | i + 1, G, s, h => by
    unfold gEl pEl
    rw [cP_ah h]
    by_cases hq : pa s = 43 ∨ pa s = 45
    · rw [if_pos hq, if_pos hq]
      obtain ⟨a1, a2⟩ := cSm_T hf _ _ (cP_adv h (by omega))
      obtain ⟨b1, b2⟩ := cSm_El hf i _ _ (cP_add (k := if pa s = 43 then 3 else 4) (v := 0) a1 (by split <;> (unfold pGq; decide)))
      exact ⟨b1, cFr_tr (cFr_tr cFr_adv a2) (cFr_tr cFr_add b2)⟩
    · rw [if_neg hq, if_neg hq]
      exact ⟨h, cFr_rfl⟩
theorem cSm_E {f : xG → xG} {g : pS → pS} (hf : cSm f g) : cSm (gE f) (pE g) := by
  intro G s h
  obtain ⟨a1, a2⟩ := cSm_T hf _ _ h
  obtain ⟨b1, b2⟩ := cSm_El hf 20 _ _ a1
  exact ⟨b1, cFr_tr a2 b2⟩
theorem cSm_Al {f : xG → xG} {g : pS → pS} (hf : cSm f g) : ∀ n : Nat, cSm (gAl f n) (pAl g n)
  | 0, G, s, h => ⟨h, cFr_rfl⟩
  | n + 1, G, s, h => by
    obtain ⟨a1, a2⟩ := cSm_X (c := 44) (by decide) _ _ h
    obtain ⟨b1, b2⟩ := hf _ _ a1
    obtain ⟨c1, c2⟩ := cSm_Al hf n _ _ b1
    exact ⟨c1, cFr_tr a2 (cFr_tr b2 c2)⟩
theorem pfn_r {c : Int} : -1 ≤ pfn c ∧ pfn c ≤ 11 := by
  unfold pfn
  split
  · decide
  · split
    · decide
    · split
      · decide
      · split
        · decide
        · split <;> decide
theorem cSm_PA {f : xG → xG} {g : pS → pS} (hf : cSm f g) {c : Int} (hc : ¬ pfn c = -1) : cSm (gPA f c) (pA g c) := by
  intro G s h
  obtain ⟨a1, a2⟩ := cSm_X (c := 40) (by decide) _ _ h
  obtain ⟨b1, b2⟩ := hf _ _ a1
  obtain ⟨c1, c2⟩ := cSm_Al hf (pcm c) _ _ b1
  obtain ⟨d1, d2⟩ := cSm_X (c := 41) (by decide) _ _ c1
  have hr := pfn_r (c := c)
  exact ⟨cP_add (k := pfn c) (v := 0) d1 ⟨by show 0 ≤ pfn c; omega, by show pfn c ≤ 12; omega, by show (0 : Int) ≤ 0; decide, by show (0 : Int) < 1000; decide⟩, cFr_tr a2 (cFr_tr b2 (cFr_tr c2 (cFr_tr d2 cFr_add)))⟩
theorem cSm_F : ∀ n : Nat, cSm (gF n) (pF n)
  | 0, G, s, h => ⟨cP_brk h, cFr_brk⟩
  | n + 1, G, s, h => by
    have ih := cSm_F n
    unfold gF pF
    rw [cP_ah h]
    by_cases h45 : pa s = 45
    · rw [if_pos h45, if_pos h45]
      obtain ⟨a1, a2⟩ := ih _ _ (cP_adv h (by omega))
      exact ⟨cP_add (k := 5) (v := 0) a1 (by unfold pGq; decide), cFr_tr cFr_adv (cFr_tr a2 cFr_add)⟩
    · rw [if_neg h45, if_neg h45]
      by_cases h40 : pa s = 40
      · rw [if_pos h40, if_pos h40]
        obtain ⟨a1, a2⟩ := cSm_E ih _ _ (cP_adv h (by omega))
        obtain ⟨b1, b2⟩ := cSm_X (c := 41) (by decide) _ _ a1
        exact ⟨b1, cFr_tr cFr_adv (cFr_tr a2 b2)⟩
      · rw [if_neg h40, if_neg h40]
        by_cases h35 : pa s = 35
        · rw [if_pos h35, if_pos h35]
          have hA := cP_adv h (by omega)
          have hH : cP (gHs G) (s.1.tail, !(pdg (pa (padv s))), s.2.2) := by
            unfold gHs
            rw [cP_ah hA]
            refine cP_set (b := !(pdg (pa (padv s)))) hA ?_
            cases pdg (pa (padv s)) <;> rfl
          have hHf : cFr G (gHs G) := cFr_c cFr_adv (by omega)
          obtain ⟨a1, a2, a3, a4, a5⟩ := cSm_Dg 2 0 1 _ _ hH (by omega) (by omega)
          rw [a1]
          exact ⟨cP_add a2 ⟨show (0 : Int) ≤ 12 by decide, show (12 : Int) ≤ 12 by decide, a4, by show (pDig 2 0 _).1 < 1000; omega⟩, cFr_tr hHf (cFr_tr a3 cFr_add)⟩
        · rw [if_neg h35, if_neg h35]
          by_cases hd : pdg (pa s) = true
          · rw [if_pos hd, if_pos hd]
            obtain ⟨a1, a2, a3, a4, a5⟩ := cSm_Dg 3 0 1 _ _ h (by omega) (by omega)
            rw [a1]
            exact ⟨cP_add a2 ⟨show (0 : Int) ≤ 0 by decide, show (0 : Int) ≤ 12 by decide, a4, by show (pDig 3 0 _).1 < 1000; omega⟩, cFr_tr a3 cFr_add⟩
          · rw [if_neg hd, if_neg hd]
            by_cases hfn : ¬ pfn (pa s) = -1
            · rw [if_pos hfn, if_pos hfn]
              have hz : ¬ pa s = 0 := by
                intro z
                rw [z] at hfn
                exact hfn (by decide)
              obtain ⟨a1, a2⟩ := cSm_PA (cSm_E ih) hfn _ _ (cP_adv h hz)
              exact ⟨a1, cFr_tr cFr_adv a2⟩
            · rw [if_neg hfn, if_neg hfn]
              unfold gLet
              by_cases h1 : 117 ≤ pa s ∧ pa s ≤ 122
              · rw [if_pos h1, if_pos h1]
                exact ⟨cP_add (cP_adv h (by omega)) ⟨by show (0 : Int) ≤ 1; decide, by show (1 : Int) ≤ 12; decide, by show 0 ≤ pa s; omega, by show pa s < 1000; omega⟩, cFr_tr cFr_adv cFr_add⟩
              · rw [if_neg h1, if_neg h1]
                by_cases h2 : 112 ≤ pa s ∧ pa s ≤ 114
                · rw [if_pos h2, if_pos h2]
                  exact ⟨cP_add (cP_adv h (by omega)) ⟨by show (0 : Int) ≤ 2; decide, by show (2 : Int) ≤ 12; decide, by show 0 ≤ pa s; omega, by show pa s < 1000; omega⟩, cFr_tr cFr_adv cFr_add⟩
                · rw [if_neg h2, if_neg h2]
                  exact ⟨cP_brk h, cFr_brk⟩
/-- the class's line, as a list -/
def cLs (G : xG) : List Int := cLn G (xg G 3 1).toNat 0
theorem cLine {G : xG} (h0 : 0 ≤ xg G 3 1) (h1 : xg G 3 1 ≤ 20) (h2 : ∀ i, 0 ≤ i → i < xg G 3 1 → 0 ≤ xg G 4 i ∧ xg G 4 i < 65536) : cP (gPl G) (pE (pF 21) (cLs G, false, [])) ∧ cFr G (gPl G) := by
  have hf : cFr G (gP0 G) := cFr_c (cFr_c (cFr_c cFr_rfl (by omega)) (by omega)) (by omega)
  have hp : cP (gP0 G) (cLs G, false, []) := by
    refine ⟨gP0_ok h0 h1 h2, ?_, ?_, ?_, ?_, ?_⟩
    · have e1 : xg (gP0 G) 8 2 = 0 := by
        unfold gP0
        rw [xg_cell (by decide), xg_idx (by decide) (by decide) (by decide), xg_self xin_0]
      rw [e1, hf 3 1 (by decide) (by decide) (by decide) (by decide), Int.sub_zero]
      unfold gP0
      rw [cLn_c (by decide), cLn_c (by decide), cLn_c (by decide)]
      rfl
    · unfold gP0
      rw [xg_cell (by decide), xg_self xin_0]
      rfl
    · unfold gP0
      rw [xg_self xin_0]
      rfl
    · intro i q hq
      simp at hq
    · intro q hq
      simp at hq
  obtain ⟨a1, a2⟩ := cSm_E (cSm_F 21) _ _ hp
  exact ⟨a1, cFr_tr hf a2⟩
