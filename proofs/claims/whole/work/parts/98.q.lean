/-! the law's loop -/
section SP
variable {sc : Nat × (Nat → Int32)} {d : Nat} {G : xG} {K : xK} {A : aG}
theorem lwx_end {i : Int} {P : Option Value → am_H → Prop} (hP : P (some (xI 1)) (xH G K)) (hL : sc.1 ≤ 2048) (i0 : 0 ≤ i) (i1 : i ≤ sc.1 + 4) (h : (sc.1 : Int) - 4 < i) : xw sc (d + 102) MW_law cW_law_18 [some (.ref 0), some (.ref 2), some (.ref 33), some (xI i)] [] (xH G K) P := by
  rw [rW_law_18, rW_law_19, rW_law_20, rW_law_21, rW_law_22, rW_law_23 ⟨by omega, by omega⟩ ⟨by omega, by omega⟩]
  refine ⟨fun _ => ?_, fun q => absurd h q⟩
  rw [rW_law_597, rW_law_598 xbo_1]
  exact hP
theorem lwx_go {i : Int} {P : Option Value → am_H → Prop} (hL : sc.1 ≤ 2048) (i0 : 0 ≤ i) (h : ¬ (sc.1 : Int) - 4 < i) : xw sc (d + 102) MW_law cW_law_18 [some (.ref 0), some (.ref 2), some (.ref 33), some (xI i)] [] (xH G K) P ↔ xw sc (d + 102) MW_law cW_law_32 [some (.ref 0), some (.ref 2), some (.ref 33), some (xI i)] [xI (xand (xsc sc i) 31)] (xH G K) P := by
  rw [rW_law_18, rW_law_19, rW_law_20, rW_law_21, rW_law_22, rW_law_23 ⟨by omega, by omega⟩ ⟨by omega, by omega⟩]
  rw [rW_law_26, rW_law_27, rW_law_28 i0 (by omega) (by omega), rW_law_29, rW_law_31]
  exact ⟨fun q => q.2 h, fun q => ⟨fun r => absurd r h, fun _ => q⟩⟩
theorem lwS_use {i : Int} {row : List am_I} {P : Option Value → am_H → Prop} (h : lwS sc d row i G K) (ih : ∀ (G : xG) (K : xK) (A : aG), Rel G K A → xw sc (d + 102) MW_law cW_law_18 [some (.ref 0), some (.ref 2), some (.ref 33), some (xI (i + 4))] [] (xH G K) P) : xw sc (d + 102) MW_law row [some (.ref 0), some (.ref 2), some (.ref 33), some (xI i)] [] (xH G K) P := by
  obtain ⟨G2, K2, B, h1, h2⟩ := h
  exact (h2 P).mpr (ih G2 K2 B h1)
theorem lwx_one {i t : Int} {P : Option Value → am_H → Prop} (h : Rel G K A) (hL : sc.1 ≤ 2048) (i0 : 0 ≤ i) (i4 : i + 4 ≤ sc.1) (ht : xin t) (ih : ∀ (G : xG) (K : xK) (A : aG), Rel G K A → xw sc (d + 102) MW_law cW_law_18 [some (.ref 0), some (.ref 2), some (.ref 33), some (xI (i + 4))] [] (xH G K) P) : xw sc (d + 102) MW_law cW_law_32 [some (.ref 0), some (.ref 2), some (.ref 33), some (xI i)] [xI t] (xH G K) P := by
  by_cases hd : t < 0 ∨ 19 < t
  · rw [rW_law_32_d ht hd, rW_law_591, rW_law_594]
    exact ih G K A h
  by_cases e0 : t = 0
  · subst e0
    rw [rW_law_32_0]
    exact lwS_use (lw_c0 h hL i0 i4) ih
  by_cases e1 : t = 1
  · subst e1
    rw [rW_law_32_1]
    exact lwS_use (lw_c1 h hL i0 i4) ih
  by_cases e2 : t = 2
  · subst e2
    rw [rW_law_32_2]
    exact lwS_use (lw_c2 h hL i0 i4) ih
  by_cases e3 : t = 3
  · subst e3
    rw [rW_law_32_3]
    exact lwS_use (lw_c3 h hL i0 i4) ih
  by_cases e4 : t = 4
  · subst e4
    rw [rW_law_32_4]
    exact lwS_use (lw_c4 h hL i0 i4) ih
  by_cases e5 : t = 5
  · subst e5
    rw [rW_law_32_5]
    exact lwS_use (lw_c5 h hL i0 i4) ih
  by_cases e6 : t = 6
  · subst e6
    rw [rW_law_32_6]
    exact lwS_use (lw_c6 h hL i0 i4) ih
  by_cases e7 : t = 7
  · subst e7
    rw [rW_law_32_7]
    exact lwS_use (lw_c7 h hL i0 i4) ih
  by_cases e8 : t = 8
  · subst e8
    rw [rW_law_32_8]
    exact lwS_use (lw_c8 h hL i0 i4) ih
  by_cases e9 : t = 9
  · subst e9
    rw [rW_law_32_9]
    exact lwS_use (lw_c9 h hL i0 i4) ih
  by_cases e10 : t = 10
  · subst e10
    rw [rW_law_32_10]
    exact lwS_use (lw_c10 h hL i0 i4) ih
  by_cases e11 : t = 11
  · subst e11
    rw [rW_law_32_11]
    exact lwS_use (lw_c11 h hL i0 i4) ih
  by_cases e12 : t = 12
  · subst e12
    rw [rW_law_32_12]
    exact lwS_use (lw_c12 h hL i0 i4) ih
  by_cases e13 : t = 13
  · subst e13
    rw [rW_law_32_13]
    exact lwS_use (lw_c13 h hL i0 i4) ih
  by_cases e14 : t = 14
  · subst e14
    rw [rW_law_32_14]
    exact lwS_use (lw_c14 h hL i0 i4) ih
  by_cases e15 : t = 15
  · subst e15
    rw [rW_law_32_15]
    exact lwS_use (lw_c15 h hL i0 i4) ih
  by_cases e16 : t = 16
  · subst e16
    rw [rW_law_32_16]
    exact lwS_use (lw_c16 h hL i0 i4) ih
  by_cases e17 : t = 17
  · subst e17
    rw [rW_law_32_17]
    exact lwS_use (lw_c17 h hL i0 i4) ih
  by_cases e18 : t = 18
  · subst e18
    rw [rW_law_32_18]
    exact lwS_use (lw_c18 h hL i0 i4) ih
  by_cases e19 : t = 19
  · subst e19
    rw [rW_law_32_19]
    exact lwS_use (lw_c19 h hL i0 i4) ih
  exact absurd hd (by omega)
theorem lwx_loop {P : Option Value → am_H → Prop} (hP : ∀ (G : xG) (K : xK), P (some (xI 1)) (xH G K)) (hL : sc.1 ≤ 2048) : ∀ (n : Nat) (i : Int) (G : xG) (K : xK) (A : aG), Rel G K A → 0 ≤ i → i ≤ sc.1 + 4 → (sc.1 : Int) - i ≤ 4 * n → xw sc (d + 102) MW_law cW_law_18 [some (.ref 0), some (.ref 2), some (.ref 33), some (xI i)] [] (xH G K) P := by
  intro n
  induction n with
  | zero =>
    intro i G K A h i0 i1 hn
    exact lwx_end (hP G K) hL i0 i1 (by omega)
  | succ n ih =>
    intro i G K A h i0 i1 hn
    by_cases he : (sc.1 : Int) - 4 < i
    · exact lwx_end (hP G K) hL i0 i1 he
    · rw [lwx_go hL i0 he]
      exact lwx_one h hL i0 (by omega) xin_and (fun G2 K2 B hB => ih (i + 4) G2 K2 B hB (by omega) (by omega) (by omega))
end SP
