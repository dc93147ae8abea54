/-! class and reference, side by side -/
theorem xg_nn {G G' : xG} {a : Nat} (h : ∀ j, 0 ≤ j → xg G' a j = xg G a j) : xg G' a = xg G a := by
  funext j
  have e : ∀ X : xG, xg X a j = xg X a ((j.toNat : Nat) : Int) := fun X => by simp only [xg, Int.toNat_natCast]
  rw [e G', e G]
  exact h _ (by omega)
def rLn (G : xG) : Prop := mLi G ∧ xg G 33 1 = xg G 3 1 ∧ ∀ i, 0 ≤ i → i < xg G 3 1 → xg G 34 i = xg G 4 i
def rGr (G : xG) (K : xK) (A : aG) : Prop := mRep G K A ∧ cRep G A ∧ aOk A ∧ cAt G A ∧ mGi G A
def rPb (G : xG) (A : aG) : Prop := gPb G A ∧ xg G 33 30 = xg G 21 3 ∧ xg G 33 28 = xg G 21 4 ∧ xg G 33 29 = xg G 21 5 ∧ ∀ q, 0 ≤ q → q < 6 → xg G 55 q = xg G 22 q ∧ xg G 56 q = xg G 23 q ∧ xg G 57 q = xg G 24 q
abbrev cVa (G : xG) (k : Int) : Prop := ¬ xg G 26 k = 0 ∧ xg G 10 k = 1
def cPf (G : xG) (k q : Int) : Int := if (cVa G k ∧ cVa G q ∧ q < k) ∨ (¬ cVa G k ∧ (cVa G q ∨ (gAx G q ∧ q < k))) then 1 else 0
def cPl (G : xG) (k : Int) : Int := if cVa G k ∨ gAx G k then tot (cPf G k) 36 0 else -1
def cCf (G : xG) (k : Int) : Int := if cVa G k ∨ gAx G k then 1 else 0
def cFe (G : xG) (s q : Int) : Int := if xg G 22 q = s then 1 else 0
def cFa (G : xG) (s k : Int) : Int := if gAx G k ∧ ((xg G 10 k = 10 ∧ s = 1) ∨ (¬ xg G 10 k = 10 ∧ s = 0)) then (if ¬ s = 0 ∨ xg G 10 k = 11 then 3 else 2) else 0
def cCols (G : xG) : Prop := (∀ k, 0 ≤ k → k < 36 → xg G 27 k = cPl G k) ∧ xg G 25 10 = tot (cCf G) 36 0
def cTe (G : xG) (s : Int) : Int := tot (cFe G s) (xg G 21 3).toNat 0
def cTa (G : xG) (s : Int) : Int := tot (cFa G s) 36 0
def cRows (G : xG) : Prop := xg G 29 0 = cTe G 1 ∧ xg G 29 1 = cTe G 0 + cTa G 0 ∧ xg G 29 2 = cTa G 1 ∧ xg G 25 9 = cTe G 1 + cTe G 0 + cTa G 0 + cTa G 1 ∧
  (∀ i, 0 ≤ i → i < cTe G 1 → xg G 30 i = (pick (cFe G 1) (xg G 21 3).toNat 0 i).1 ∧ xg G 31 i = (pick (cFe G 1) (xg G 21 3).toNat 0 i).2) ∧
  (∀ i, 0 ≤ i → i < cTe G 0 → xg G 30 (cTe G 1 + i) = (pick (cFe G 0) (xg G 21 3).toNat 0 i).1 ∧ xg G 31 (cTe G 1 + i) = (pick (cFe G 0) (xg G 21 3).toNat 0 i).2) ∧
  (∀ i, 0 ≤ i → i < cTa G 0 → xg G 30 (cTe G 1 + cTe G 0 + i) = (pick (cFa G 0) 36 0 i).1 ∧ xg G 31 (cTe G 1 + cTe G 0 + i) = (pick (cFa G 0) 36 0 i).2) ∧
  (∀ i, 0 ≤ i → i < cTa G 1 → xg G 30 (cTe G 1 + cTe G 0 + cTa G 0 + i) = (pick (cFa G 1) 36 0 i).1 ∧ xg G 31 (cTe G 1 + cTe G 0 + cTa G 0 + i) = (pick (cFa G 1) 36 0 i).2)
def cOwn (G : xG) : Prop := ∀ k, 0 ≤ k → k < 36 → gAx G k → xg G 28 k = xg G 58 k ∧ mB6 (xg G 28 k)
def Fm (G : xG) (A : aG) : Prop := 0 ≤ xg G 21 4 ∧ UFx A (gBs G) (xg G 26) ∧ (∀ x, A.1 ≤ x → x < 36 → xg G 26 x = 0) ∧ cCols G ∧ cRows G ∧ cOwn G
def rFm (G : xG) (A : aG) : Prop := xbo (xg G 25 11) ∧ xg G 33 34 = xg G 25 11 ∧ (¬ xg G 25 11 = 0 → Fm G A)
def Rel (G : xG) (K : xK) (A : aG) : Prop := rLn G ∧ rGr G K A ∧ rPb G A ∧ rFm G A
theorem rLn_s {G G' : xG} (h : rLn G) (e3 : xg G' 3 1 = xg G 3 1) (e4 : xg G' 4 = xg G 4) (e34 : xg G' 34 = xg G 34) (e33 : xg G' 33 1 = xg G 33 1) : rLn G' := by
  unfold rLn mLi
  rw [e3, e4, e34, e33]
  exact h
theorem rGr_s {G G' : xG} {K K' : xK} {A : aG} (h : rGr G K A) (e : ∀ a : Nat, ((9 ≤ a ∧ a ≤ 18) ∨ (40 ≤ a ∧ a ≤ 42) ∨ a = 44) → xg G' a = xg G a) (e33 : xg G' 33 12 = xg G 33 12) (eK : ∀ j, xgl K' 43 j = xgl K 43 j) : rGr G' K' A := by
  have eK' : xgl K' 43 = xgl K 43 := funext eK
  unfold rGr mRep cRep cAt mGi
  rw [e33, eK', e 9 (by decide), e 10 (by decide), e 11 (by decide), e 12 (by decide), e 13 (by decide), e 14 (by decide), e 15 (by decide), e 16 (by decide), e 17 (by decide), e 18 (by decide), e 40 (by decide), e 41 (by decide), e 42 (by decide), e 44 (by decide)]
  exact h
theorem rPb_s {G G' : xG} {A : aG} (h : rPb G A) (e : ∀ a : Nat, ((21 ≤ a ∧ a ≤ 24) ∨ (55 ≤ a ∧ a ≤ 57)) → xg G' a = xg G a) (e28 : xg G' 33 28 = xg G 33 28) (e29 : xg G' 33 29 = xg G 33 29) (e30 : xg G' 33 30 = xg G 33 30) : rPb G' A := by
  unfold rPb gPb
  rw [e28, e29, e30, e 21 (by decide), e 22 (by decide), e 23 (by decide), e 24 (by decide), e 55 (by decide), e 56 (by decide), e 57 (by decide)]
  exact h
theorem Fm_e {G G' : xG} {A : aG} (e : ∀ a : Nat, (a = 10 ∨ a = 15 ∨ (21 ≤ a ∧ a ≤ 31) ∨ a = 58) → xg G' a = xg G a) : Fm G' A ↔ Fm G A := by
  have f10 := e 10 (by decide)
  have f15 := e 15 (by decide)
  have f21 := e 21 (by decide)
  have f22 := e 22 (by decide)
  have f26 := e 26 (by decide)
  have h1 : cPf G' = cPf G := by funext k q; unfold cPf cVa gAx; rw [f10, f15, f26]
  have h2 : cPl G' = cPl G := by funext k; unfold cPl cVa gAx; rw [h1, f10, f15, f26]
  have h3 : cCf G' = cCf G := by funext k; unfold cCf cVa gAx; rw [f10, f15, f26]
  have h4 : cFe G' = cFe G := by funext s q; unfold cFe; rw [f22]
  have h5 : cFa G' = cFa G := by funext s q; unfold cFa gAx; rw [f10, f15, f26]
  have h6 : cTe G' = cTe G := by funext s; unfold cTe; rw [h4, f21]
  have h7 : cTa G' = cTa G := by funext s; unfold cTa; rw [h5]
  have h8 : gBs G' = gBs G := by funext x; unfold gBs; rw [f21, e 23 (by decide), e 24 (by decide)]
  unfold Fm cCols cRows cOwn gAx
  rw [h2, h3, h4, h5, h6, h7, h8, f10, f15, f21, f26, e 25 (by decide), e 27 (by decide), e 28 (by decide), e 29 (by decide), e 30 (by decide), e 31 (by decide), e 58 (by decide)]
theorem rFm_s {G G' : xG} {A : aG} (h : rFm G A) (e : ∀ a : Nat, (a = 10 ∨ a = 15 ∨ (21 ≤ a ∧ a ≤ 31) ∨ a = 58) → xg G' a = xg G a) (e34 : xg G' 33 34 = xg G 33 34) : rFm G' A := by
  unfold rFm
  rw [e34, Fm_e e, e 25 (by decide)]
  exact h
/-- nothing of weight has changed -/
def Rs (G G' : xG) : Prop := (∀ a : Nat, (a = 3 ∨ a = 4 ∨ (9 ≤ a ∧ a ≤ 18) ∨ (21 ≤ a ∧ a ≤ 31) ∨ a = 34 ∨ (40 ≤ a ∧ a ≤ 42) ∨ a = 44 ∨ (55 ≤ a ∧ a ≤ 58)) → xg G' a = xg G a) ∧ ∀ j, (j = 1 ∨ j = 12 ∨ j = 28 ∨ j = 29 ∨ j = 30 ∨ j = 34) → xg G' 33 j = xg G 33 j
theorem Rs_rfl {G : xG} : Rs G G := ⟨fun _ _ => rfl, fun _ _ => rfl⟩
theorem Rs_tr {X Y Z : xG} (h : Rs X Y) (g : Rs Y Z) : Rs X Z := ⟨fun a ha => (g.1 a ha).trans (h.1 a ha), fun j hj => (g.2 j hj).trans (h.2 j hj)⟩
theorem Rel_s {G G' : xG} {K K' : xK} {A : aG} (h : Rel G K A) (e : Rs G G') (eK : ∀ j, xgl K' 43 j = xgl K 43 j) : Rel G' K' A := by
  obtain ⟨h1, h2, h3, h4⟩ := h
  obtain ⟨e1, e2⟩ := e
  refine ⟨rLn_s h1 (by rw [e1 3 (by decide)]) (e1 4 (by decide)) (e1 34 (by decide)) (e2 1 (by decide)), rGr_s h2 (fun a ha => e1 a (by omega)) (e2 12 (by decide)) eK, rPb_s h3 (fun a ha => e1 a (by omega)) (e2 28 (by decide)) (e2 29 (by decide)) (e2 30 (by decide)), rFm_s h4 (fun a ha => e1 a (by omega)) (e2 34 (by decide))⟩
theorem Rs_w {G G' : xG} (h : mFw G G') : Rs G G' := ⟨fun a ha => funext (fun j => h a j (by omega)), fun j _ => h 33 j (by decide)⟩
theorem Rs_x {G G' : xG} (h : mFx G G') : Rs G G' := ⟨fun a ha => funext (fun j => h a j (by omega)), fun j _ => h 33 j (by decide)⟩
theorem Rs_m {G G' : xG} (h : mFm G G') : Rs G G' := ⟨fun a ha => xg_nn (fun j j0 => h a j j0 (by omega)), fun j hj => h 33 j (by omega) (by decide)⟩
theorem Rs_p {G G' : xG} (h : mFr G G') : Rs G G' := ⟨fun a ha => xg_nn (fun j j0 => h a j j0 (by omega) (by omega) (by omega) (by omega) (by omega)), fun j hj => h 33 j (by omega) (by omega) (by decide) (by decide) (by decide) (by decide)⟩
theorem Rs_c {G G' : xG} (h : cFr G G') : Rs G G' := ⟨fun a ha => funext (fun j => h a j (by omega) (by omega) (by omega) (by omega)), fun j _ => h 33 j (by decide) (by decide) (by decide) (by decide)⟩
/-- a write to a cell leaves the others -/
theorem xp_f {G : xG} {a b : Nat} {j x : Int} (h : ¬ b = a) : xg (xp G a j x) b = xg G b := funext (fun i => xg_cell h)
/-- one call of both: the same answer, and side by side again -/
def Two (sc : Nat × (Nat → Int32)) (d : Nat) (Mc : am_M) (ac : List Value) (Mr : am_M) (ar : List Value) (G : xG) (K : xK) (P : Option Value → Prop) : Prop := ∃ (r : Option Value) (G1 : xG) (K1 : xK) (G2 : xG) (K2 : xK) (B : aG), P r ∧ (∀ Q : Option Value → am_H → Prop, xc sc d Mc ac (xH G K) Q ↔ Q r (xH G1 K1)) ∧ (∀ Q : Option Value → am_H → Prop, xc sc d Mr ar (xH G1 K1) Q ↔ Q r (xH G2 K2)) ∧ Rel G2 K2 B
def pI (r : Option Value) : Prop := ∃ v : Int, xin v ∧ r = some (xI v)
def pJ (r : Option Value) : Prop := ∃ v : Int, xinl v ∧ r = some (xJ v)
def pN (r : Option Value) : Prop := r = none
section SP
variable {sc : Nat × (Nat → Int32)} {d : Nat} {G : xG} {K : xK} {A : aG}
theorem two_nodes (h : Rel G K A) : Two sc d MC_nodes [.ref 2] Mm_nodes [.ref 33] G K pI := by
  have e : xg G 33 12 = xg G 9 9 := h.2.1.1.1.trans h.2.1.2.1.1.symm
  refine ⟨_, G, K, G, K, A, ⟨xg G 9 9, xin_g _ _ _, rfl⟩, fun Q => sC_nodes, fun Q => ?_, h⟩
  rw [sm_nodes, e]
theorem two_wipe (h : Rel G K A) : Two sc d MC_wipe [.ref 2] Mm_wipe [.ref 33] G K pN := by
  refine ⟨none, xp G 3 1 0, K, xp (xp G 3 1 0) 33 1 0, K, A, rfl, fun Q => sC_wipe, fun Q => sm_wipe, ?_⟩
  obtain ⟨h1, h2, h3, h4⟩ := h
  have e : ∀ a : Nat, ¬ a = 3 → ¬ a = 33 → xg (xp (xp G 3 1 0) 33 1 0) a = xg G a := fun a a1 a2 => by rw [xp_f a2, xp_f a1]
  have e33 : ∀ j, 2 ≤ j → xg (xp (xp G 3 1 0) 33 1 0) 33 j = xg G 33 j := fun j hj => by rw [xg_idx (by decide) (by omega) (by omega), xg_cell (by decide)]
  have s1 : xg (xp (xp G 3 1 0) 33 1 0) 33 1 = 0 := xg_self xin_0
  have s2 : xg (xp (xp G 3 1 0) 33 1 0) 3 1 = 0 := by rw [xg_cell (by decide), xg_self xin_0]
  refine ⟨⟨⟨by rw [s1]; decide, by rw [s1]; decide, fun i i0 i1 => ?_⟩, by rw [s1, s2], fun i i0 i1 => ?_⟩, rGr_s h2 (fun a ha => e a (by omega) (by omega)) (e33 12 (by decide)) (fun _ => rfl), rPb_s h3 (fun a ha => e a (by omega) (by omega)) (e33 28 (by decide)) (e33 29 (by decide)) (e33 30 (by decide)), rFm_s h4 (fun a ha => e a (by omega) (by omega)) (e33 34 (by decide))⟩
  · rw [s1] at i1; omega
  · rw [s2] at i1; omega
theorem two_type {c : Int} (h : Rel G K A) (c0 : 0 ≤ c) (c1 : c < 65536) : Two sc (d + 1) MC_type [.ref 2, xI c] Mm_type [.ref 33, xI c] G K pI := by
  obtain ⟨⟨⟨l0, l1, l2⟩, l3, l4⟩, h2, h3, h4⟩ := h
  by_cases hc : c < 33 ∨ 126 < c ∨ 20 ≤ xg G 3 1
  · refine ⟨some (xI 0), G, K, G, K, A, ⟨0, xin_0, rfl⟩, fun Q => ?_, fun Q => ?_, ⟨⟨l0, l1, l2⟩, l3, l4⟩, h2, h3, h4⟩
    · rw [sC_type c0 c1 (by omega), if_pos hc]
    · rw [sm_type c0 c1 l0 l1, if_pos (by omega)]
  · have e1 : xg (xp (xp G 4 (xg G 3 1) c) 3 1 (xg G 3 1 + 1)) 33 1 = xg G 3 1 := by rw [xg_cell (by decide), xg_cell (by decide)]; exact l3
    refine ⟨some (xI 1), xp (xp G 4 (xg G 3 1) c) 3 1 (xg G 3 1 + 1), K, xp (xp (xp (xp G 4 (xg G 3 1) c) 3 1 (xg G 3 1 + 1)) 34 (xg G 3 1) c) 33 1 (xg G 3 1 + 1), K, A, ⟨1, ⟨by decide, by decide⟩, rfl⟩, fun Q => ?_, fun Q => ?_, ?_⟩
    · rw [sC_type c0 c1 (by omega), if_neg hc]
    · rw [sm_type c0 c1 (by rw [e1]; omega) (by rw [e1]; omega), e1, if_neg (by omega)]
    · have cx : xin c := ⟨by omega, by omega⟩
      have lx : xin (xg G 3 1 + 1) := ⟨by omega, by omega⟩
      have e : ∀ a : Nat, ¬ a = 3 → ¬ a = 4 → ¬ a = 33 → ¬ a = 34 → xg (xp (xp (xp (xp G 4 (xg G 3 1) c) 3 1 (xg G 3 1 + 1)) 34 (xg G 3 1) c) 33 1 (xg G 3 1 + 1)) a = xg G a := fun a a1 a2 a3 a4 => by rw [xp_f a3, xp_f a4, xp_f a1, xp_f a2]
      have e33 : ∀ j, 2 ≤ j → xg (xp (xp (xp (xp G 4 (xg G 3 1) c) 3 1 (xg G 3 1 + 1)) 34 (xg G 3 1) c) 33 1 (xg G 3 1 + 1)) 33 j = xg G 33 j := fun j hj => by rw [xg_idx (by decide) (by omega) (by omega), xg_cell (by decide), xg_cell (by decide), xg_cell (by decide)]
      have s1 : xg (xp (xp (xp (xp G 4 (xg G 3 1) c) 3 1 (xg G 3 1 + 1)) 34 (xg G 3 1) c) 33 1 (xg G 3 1 + 1)) 33 1 = xg G 3 1 + 1 := xg_self lx
      have s2 : xg (xp (xp (xp (xp G 4 (xg G 3 1) c) 3 1 (xg G 3 1 + 1)) 34 (xg G 3 1) c) 33 1 (xg G 3 1 + 1)) 3 1 = xg G 3 1 + 1 := by rw [xg_cell (by decide), xg_cell (by decide), xg_self lx]
      have s34 : ∀ i, 0 ≤ i → i < xg G 3 1 + 1 → xg (xp (xp (xp (xp G 4 (xg G 3 1) c) 3 1 (xg G 3 1 + 1)) 34 (xg G 3 1) c) 33 1 (xg G 3 1 + 1)) 34 i = (if i = xg G 3 1 then c else xg G 34 i) ∧ xg (xp (xp (xp (xp G 4 (xg G 3 1) c) 3 1 (xg G 3 1 + 1)) 34 (xg G 3 1) c) 33 1 (xg G 3 1 + 1)) 4 i = (if i = xg G 3 1 then c else xg G 4 i) := by
        intro i i0 i1
        rw [xg_cell (show ¬ 34 = 33 by decide), xg_cell (show ¬ 4 = 33 by decide), xg_cell (show ¬ 4 = 34 by decide), xg_cell (show ¬ 4 = 3 by decide)]
        by_cases hi : i = xg G 3 1
        · subst hi
          rw [if_pos rfl, if_pos rfl, xg_self cx, xg_self cx]
          exact ⟨rfl, rfl⟩
        · rw [if_neg hi, if_neg hi, xg_idx (by omega) i0 hi, xg_idx (by omega) i0 hi, xg_cell (by decide), xg_cell (by decide)]
          exact ⟨rfl, rfl⟩
      refine ⟨⟨⟨by rw [s1]; omega, by rw [s1]; omega, fun i i0 i1 => ?_⟩, by rw [s1, s2], fun i i0 i1 => ?_⟩, rGr_s h2 (fun a ha => e a (by omega) (by omega) (by omega) (by omega)) (e33 12 (by decide)) (fun _ => rfl), rPb_s h3 (fun a ha => e a (by omega) (by omega) (by omega) (by omega)) (e33 28 (by decide)) (e33 29 (by decide)) (e33 30 (by decide)), rFm_s h4 (fun a ha => e a (by omega) (by omega) (by omega) (by omega)) (e33 34 (by decide))⟩
      · rw [s1] at i1
        rw [(s34 i i0 i1).1]
        by_cases hi : i = xg G 3 1
        · rw [if_pos hi]; omega
        · rw [if_neg hi]; exact l2 i i0 (by omega)
      · rw [s2] at i1
        rw [(s34 i i0 i1).1, (s34 i i0 i1).2]
        by_cases hi : i = xg G 3 1
        · rw [if_pos hi, if_pos hi]
        · rw [if_neg hi, if_neg hi]; exact l4 i i0 (by omega)
end SP
