/-! printed by wip/gen/main.py (its head: wip/gen/world_head.lean.txt): the world behind both constructors -/
def xarF : Nat → Int32 := fun i => ([0, 0, 0, 2, 2, 1, 2, 2, 2, 1, 1, 3, 0] : List Int32).getD i 0
def xZ (sc : Nat × (Nat → Int32)) : am_Z := [sc, (13, xarF)]
def xar (j : Int) : Int := (xarF j.toNat).toInt
def xsc (sc : Nat × (Nat → Int32)) (j : Int) : Int := (sc.2 j.toNat).toInt
def xw (sc : Nat × (Nat → Int32)) (d : Nat) (M : am_M) (is : List am_I) (L : am_L) (S : List Value) (h : am_H) (Q : Option Value → am_H → Prop) : Prop := am_wp amP (xZ sc) amDF d M is L S h Q
def xc (sc : Nat × (Nat → Int32)) (d : Nat) (M : am_M) (vs : List Value) (h : am_H) (Q : Option Value → am_H → Prop) : Prop := am_wp amP (xZ sc) amDF d M (am_tb M) (am_ent M vs) [] h Q
theorem xin_ar (j : Int) : xin (xar j) := xin_of _
theorem xin_sc (sc : Nat × (Nat → Int32)) (j : Int) : xin (xsc sc j) := xin_of _
theorem al_0 {sc : Nat × (Nat → Int32)} {h : am_H} {j : Int} (h0 : 0 ≤ j) (h1 : j < sc.1) (hn : sc.1 ≤ 2147483647) : am_iald (xZ sc) h 0 (Int32.ofInt j) = some (Int32.ofInt (xsc sc j)) := xa_iald (n := sc.1) (f := sc.2) rfl hn h0 h1
theorem al_1 {sc : Nat × (Nat → Int32)} {h : am_H} {j : Int} (h0 : 0 ≤ j) (h1 : j < 13) : am_iald (xZ sc) h 1 (Int32.ofInt j) = some (Int32.ofInt (xar j)) := xa_iald (n := 13) (f := xarF) rfl (by decide) h0 h1
theorem xr_len {sc : Nat × (Nat → Int32)} {h : am_H} {DF : List (List Value)} {aux : List Nat} {S : List Value} : am_hp (xZ sc) DF .arraylength aux (.ref 0 :: S) h = some (xI sc.1 :: S, h) := by
  show some (Value.int (Int32.ofNat sc.1) :: S, h) = _
  rw [xI, Int32.ofInt_eq_ofNat]
section XMT
variable {x y : Int} {S : List Value} {ix c : Nat}
theorem xm_mk {v : Value} {n : Nat} (hv : v.category = n) (hs : decide ((S.map fun v => v.category).sum + n ≤ 10) = true) : am_mk (some (v :: S)) = some (v :: S) := by
  have h1 := of_decide_eq_true hs
  simp only [am_mk]
  rw [if_pos]
  show v.category + (S.map fun v => v.category).sum ≤ 10
  omega
theorem xm_abs (h0 : xin x) (hs : decide ((S.map fun v => v.category).sum + 1 ≤ 10) = true) : am_obj (.invokestatic ix) [0, c] (xI x :: S) = some (xI (if 0 ≤ x then x else 0 - x) :: S) := by
  have e : (if 0 ≤ Int32.ofInt x then Int32.ofInt x else 0 - Int32.ofInt x) = Int32.ofInt (if 0 ≤ x then x else 0 - x) := by
    have hz : (0 ≤ Int32.ofInt x) ↔ 0 ≤ x := by
      rw [xz]
      exact xc_le xin_0 h0
    by_cases h : 0 ≤ x
    · rw [if_pos h, if_pos (hz.mpr h)]
    · rw [if_neg h, if_neg (fun q => h (hz.mp q)), Int32.ofInt_sub]
      rfl
  show am_mk (some (Value.int (if 0 ≤ Int32.ofInt x then Int32.ofInt x else 0 - Int32.ofInt x) :: S)) = _
  rw [e]
  exact xm_mk rfl hs
theorem xm_max (hx : xin x) (hy : xin y) (hs : decide ((S.map fun v => v.category).sum + 1 ≤ 10) = true) : am_obj (.invokestatic ix) [1, c] (xI y :: xI x :: S) = some (xI (if x < y then y else x) :: S) := by
  have e : (if Int32.ofInt x < Int32.ofInt y then Int32.ofInt y else Int32.ofInt x) = Int32.ofInt (if x < y then y else x) := by
    by_cases h : x < y
    · rw [if_pos h, if_pos ((xc_lt hx hy).mpr h)]
    · rw [if_neg h, if_neg (fun q => h ((xc_lt hx hy).mp q))]
  show am_mk (some (Value.int (if Int32.ofInt x < Int32.ofInt y then Int32.ofInt y else Int32.ofInt x) :: S)) = _
  rw [e]
  exact xm_mk rfl hs
theorem xm_min (hx : xin x) (hy : xin y) (hs : decide ((S.map fun v => v.category).sum + 1 ≤ 10) = true) : am_obj (.invokestatic ix) [2, c] (xI y :: xI x :: S) = some (xI (if y < x then y else x) :: S) := by
  have e : (if Int32.ofInt y < Int32.ofInt x then Int32.ofInt y else Int32.ofInt x) = Int32.ofInt (if y < x then y else x) := by
    by_cases h : y < x
    · rw [if_pos h, if_pos ((xc_lt hy hx).mpr h)]
    · rw [if_neg h, if_neg (fun q => h ((xc_lt hy hx).mp q))]
  show am_mk (some (Value.int (if Int32.ofInt y < Int32.ofInt x then Int32.ofInt y else Int32.ofInt x) :: S)) = _
  rw [e]
  exact xm_mk rfl hs
theorem xm_maxl (hx : xinl x) (hy : xinl y) (hs : decide ((S.map fun v => v.category).sum + 2 ≤ 10) = true) : am_obj (.invokestatic ix) [3, c] (xJ y :: xJ x :: S) = some (xJ (if y < x then x else y) :: S) := by
  have h1 : (Int64.ofInt y < Int64.ofInt x) ↔ y < x := by
    rw [Int64.lt_iff_toInt_lt, xinl_to hx, xinl_to hy]
  have e : (if Int64.ofInt y < Int64.ofInt x then Int64.ofInt x else Int64.ofInt y) = Int64.ofInt (if y < x then x else y) := by
    by_cases h : y < x
    · rw [if_pos h, if_pos (h1.mpr h)]
    · rw [if_neg h, if_neg (fun q => h (h1.mp q))]
  show am_mk (some (Value.long (if Int64.ofInt y < Int64.ofInt x then Int64.ofInt x else Int64.ofInt y) :: S)) = _
  rw [e]
  exact xm_mk rfl hs
end XMT
def xH (G : xG) (K : xK) : am_H := [
  .inr (0, [.ref 3, .ref 5, .ref 8, .ref 9, .ref 19, .ref 21, .ref 25]),
  .inr (1, [.ref 4, .int (G 3 1)]),
  .inl (.char, 20, .inl (G 4)),
  .inr (2, [.ref 6, .ref 7, .int (G 5 2)]),
  .inl (.int, 20, .inl (G 6)),
  .inl (.int, 20, .inl (G 7)),
  .inr (3, [.ref 3, .ref 5, .int (G 8 2), .int (G 8 3)]),
  .inr (5, [.ref 10, .ref 11, .ref 12, .ref 13, .ref 14, .ref 15, .ref 16, .ref 17, .ref 18, .int (G 9 9)]),
  .inl (.int, 36, .inl (G 10)),
  .inl (.int, 36, .inl (G 11)),
  .inl (.int, 108, .inl (G 12)),
  .inl (.int, 36, .inl (G 13)),
  .inl (.int, 36, .inl (G 14)),
  .inl (.int, 36, .inl (G 15)),
  .inl (.int, 36, .inl (G 16)),
  .inl (.int, 36, .inl (G 17)),
  .inl (.int, 36, .inl (G 18)),
  .inr (4, [.ref 9, .ref 20, .int (G 19 2)]),
  .inl (.int, 20, .inl (G 20)),
  .inr (6, [.ref 22, .ref 23, .ref 24, .int (G 21 3), .int (G 21 4), .int (G 21 5)]),
  .inl (.boolean, 6, .inl (G 22)),
  .inl (.int, 6, .inl (G 23)),
  .inl (.int, 6, .inl (G 24)),
  .inr (7, [.ref 9, .ref 21, .ref 26, .ref 27, .ref 28, .ref 29, .ref 30, .ref 31, .ref 32, .int (G 25 9), .int (G 25 10), .int (G 25 11)]),
  .inl (.boolean, 36, .inl (G 26)),
  .inl (.int, 36, .inl (G 27)),
  .inl (.int, 36, .inl (G 28)),
  .inl (.int, 3, .inl (G 29)),
  .inl (.int, 114, .inl (G 30)),
  .inl (.int, 114, .inl (G 31)),
  .inl (.long, 36, .inr (.inl (K 32))),
  .inr (8, [.ref 34, .int (G 33 1), .int (G 33 2), .int (G 33 3), .int (G 33 4), .int (G 33 5), .ref 35, .ref 36, .int (G 33 8), .ref 37, .ref 38, .ref 39, .int (G 33 12), .ref 40, .ref 41, .ref 42, .ref 43, .ref 44, .ref 45, .ref 46, .ref 47, .ref 48, .ref 49, .ref 50, .ref 51, .ref 52, .ref 53, .ref 54, .int (G 33 28), .int (G 33 29), .int (G 33 30), .ref 55, .ref 56, .ref 57, .int (G 33 34), .ref 58]),
  .inl (.int, 20, .inl (G 34)),
  .inl (.int, 20, .inl (G 35)),
  .inl (.int, 20, .inl (G 36)),
  .inl (.int, 20, .inl (G 37)),
  .inl (.int, 20, .inl (G 38)),
  .inl (.int, 20, .inl (G 39)),
  .inl (.int, 36, .inl (G 40)),
  .inl (.int, 36, .inl (G 41)),
  .inl (.int, 108, .inl (G 42)),
  .inl (.long, 36, .inr (.inl (K 43))),
  .inl (.int, 36, .inl (G 44)),
  .inl (.boolean, 36, .inl (G 45)),
  .inl (.boolean, 36, .inl (G 46)),
  .inl (.int, 36, .inl (G 47)),
  .inl (.int, 36, .inl (G 48)),
  .inl (.int, 36, .inl (G 49)),
  .inl (.boolean, 36, .inl (G 50)),
  .inl (.boolean, 36, .inl (G 51)),
  .inl (.int, 36, .inl (G 52)),
  .inl (.int, 36, .inl (G 53)),
  .inl (.long, 36, .inr (.inl (K 54))),
  .inl (.boolean, 6, .inl (G 55)),
  .inl (.int, 6, .inl (G 56)),
  .inl (.int, 6, .inl (G 57)),
  .inl (.int, 36, .inl (G 58))]
section XHL
variable {G : xG} {K : xK} {x j : Int} {sc : Nat × (Nat → Int32)}
theorem gf_2_0 : am_getf (xH G K) 0 0 2 = some (.ref 3) := rfl
theorem gf_2_1 : am_getf (xH G K) 0 1 2 = some (.ref 5) := rfl
theorem gf_2_2 : am_getf (xH G K) 0 2 2 = some (.ref 8) := rfl
theorem gf_2_3 : am_getf (xH G K) 0 3 2 = some (.ref 9) := rfl
theorem gf_2_4 : am_getf (xH G K) 0 4 2 = some (.ref 19) := rfl
theorem gf_2_5 : am_getf (xH G K) 0 5 2 = some (.ref 21) := rfl
theorem gf_2_6 : am_getf (xH G K) 0 6 2 = some (.ref 25) := rfl
theorem gf_3_0 : am_getf (xH G K) 1 0 3 = some (.ref 4) := rfl
theorem gf_3_1 : am_getf (xH G K) 1 1 3 = some (xI (xg G 3 1)) := by rw [xI_g]; exact rfl
theorem pf_3_1 : am_putf (xH G K) 1 1 0 3 (xI x) = some (xH (xp G 3 1 x) K) := rfl
theorem al_4 (h0 : 0 ≤ j) (h1 : j < 20) : am_ald (xH G K) .char 4 (Int32.ofInt j) = some (Int32.ofInt (xg G 4 j)) := xa_ald (n := 20) (f := G 4) rfl (by decide) h0 h1
theorem as_4 (h0 : 0 ≤ j) (h1 : j < 20) (hx : 0 ≤ x) (hy : x < 65536) : am_ast (xH G K) .char 4 (Int32.ofInt j) (vp_nar .char (Int32.ofInt x)) = some (xH (xp G 4 j x) K) := by rw [xnar_c hx hy]; exact xa_ast (n := 20) (f := G 4) rfl (by decide) rfl h0 h1
theorem gf_5_0 : am_getf (xH G K) 2 0 5 = some (.ref 6) := rfl
theorem gf_5_1 : am_getf (xH G K) 2 1 5 = some (.ref 7) := rfl
theorem gf_5_2 : am_getf (xH G K) 2 2 5 = some (xI (xg G 5 2)) := by rw [xI_g]; exact rfl
theorem pf_5_2 : am_putf (xH G K) 2 2 0 5 (xI x) = some (xH (xp G 5 2 x) K) := rfl
theorem al_6 (h0 : 0 ≤ j) (h1 : j < 20) : am_iald (xZ sc) (xH G K) 6 (Int32.ofInt j) = some (Int32.ofInt (xg G 6 j)) := xa_iald (n := 20) (f := G 6) rfl (by decide) h0 h1
theorem as_6 (h0 : 0 ≤ j) (h1 : j < 20) : am_ast (xH G K) .int 6 (Int32.ofInt j) (Int32.ofInt x) = some (xH (xp G 6 j x) K) := xa_ast (n := 20) (f := G 6) rfl (by decide) rfl h0 h1
theorem al_7 (h0 : 0 ≤ j) (h1 : j < 20) : am_iald (xZ sc) (xH G K) 7 (Int32.ofInt j) = some (Int32.ofInt (xg G 7 j)) := xa_iald (n := 20) (f := G 7) rfl (by decide) h0 h1
theorem as_7 (h0 : 0 ≤ j) (h1 : j < 20) : am_ast (xH G K) .int 7 (Int32.ofInt j) (Int32.ofInt x) = some (xH (xp G 7 j x) K) := xa_ast (n := 20) (f := G 7) rfl (by decide) rfl h0 h1
theorem gf_8_0 : am_getf (xH G K) 3 0 8 = some (.ref 3) := rfl
theorem gf_8_1 : am_getf (xH G K) 3 1 8 = some (.ref 5) := rfl
theorem gf_8_2 : am_getf (xH G K) 3 2 8 = some (xI (xg G 8 2)) := by rw [xI_g]; exact rfl
theorem pf_8_2 : am_putf (xH G K) 3 2 0 8 (xI x) = some (xH (xp G 8 2 x) K) := rfl
theorem gf_8_3 : am_getf (xH G K) 3 3 8 = some (xI (xg G 8 3)) := by rw [xI_g]; exact rfl
theorem pf_8_3 (hx : xbo x) : am_putf (xH G K) 3 3 2 8 (xI x) = some (xH (xp G 8 3 x) K) := by rcases hx with rfl | rfl <;> exact rfl
theorem gf_9_0 : am_getf (xH G K) 5 0 9 = some (.ref 10) := rfl
theorem gf_9_1 : am_getf (xH G K) 5 1 9 = some (.ref 11) := rfl
theorem gf_9_2 : am_getf (xH G K) 5 2 9 = some (.ref 12) := rfl
theorem gf_9_3 : am_getf (xH G K) 5 3 9 = some (.ref 13) := rfl
theorem gf_9_4 : am_getf (xH G K) 5 4 9 = some (.ref 14) := rfl
theorem gf_9_5 : am_getf (xH G K) 5 5 9 = some (.ref 15) := rfl
theorem gf_9_6 : am_getf (xH G K) 5 6 9 = some (.ref 16) := rfl
theorem gf_9_7 : am_getf (xH G K) 5 7 9 = some (.ref 17) := rfl
theorem gf_9_8 : am_getf (xH G K) 5 8 9 = some (.ref 18) := rfl
theorem gf_9_9 : am_getf (xH G K) 5 9 9 = some (xI (xg G 9 9)) := by rw [xI_g]; exact rfl
theorem pf_9_9 : am_putf (xH G K) 5 9 0 9 (xI x) = some (xH (xp G 9 9 x) K) := rfl
theorem al_10 (h0 : 0 ≤ j) (h1 : j < 36) : am_iald (xZ sc) (xH G K) 10 (Int32.ofInt j) = some (Int32.ofInt (xg G 10 j)) := xa_iald (n := 36) (f := G 10) rfl (by decide) h0 h1
theorem as_10 (h0 : 0 ≤ j) (h1 : j < 36) : am_ast (xH G K) .int 10 (Int32.ofInt j) (Int32.ofInt x) = some (xH (xp G 10 j x) K) := xa_ast (n := 36) (f := G 10) rfl (by decide) rfl h0 h1
theorem al_11 (h0 : 0 ≤ j) (h1 : j < 36) : am_iald (xZ sc) (xH G K) 11 (Int32.ofInt j) = some (Int32.ofInt (xg G 11 j)) := xa_iald (n := 36) (f := G 11) rfl (by decide) h0 h1
theorem as_11 (h0 : 0 ≤ j) (h1 : j < 36) : am_ast (xH G K) .int 11 (Int32.ofInt j) (Int32.ofInt x) = some (xH (xp G 11 j x) K) := xa_ast (n := 36) (f := G 11) rfl (by decide) rfl h0 h1
theorem al_12 (h0 : 0 ≤ j) (h1 : j < 108) : am_iald (xZ sc) (xH G K) 12 (Int32.ofInt j) = some (Int32.ofInt (xg G 12 j)) := xa_iald (n := 108) (f := G 12) rfl (by decide) h0 h1
theorem as_12 (h0 : 0 ≤ j) (h1 : j < 108) : am_ast (xH G K) .int 12 (Int32.ofInt j) (Int32.ofInt x) = some (xH (xp G 12 j x) K) := xa_ast (n := 108) (f := G 12) rfl (by decide) rfl h0 h1
theorem al_13 (h0 : 0 ≤ j) (h1 : j < 36) : am_iald (xZ sc) (xH G K) 13 (Int32.ofInt j) = some (Int32.ofInt (xg G 13 j)) := xa_iald (n := 36) (f := G 13) rfl (by decide) h0 h1
theorem as_13 (h0 : 0 ≤ j) (h1 : j < 36) : am_ast (xH G K) .int 13 (Int32.ofInt j) (Int32.ofInt x) = some (xH (xp G 13 j x) K) := xa_ast (n := 36) (f := G 13) rfl (by decide) rfl h0 h1
theorem al_14 (h0 : 0 ≤ j) (h1 : j < 36) : am_iald (xZ sc) (xH G K) 14 (Int32.ofInt j) = some (Int32.ofInt (xg G 14 j)) := xa_iald (n := 36) (f := G 14) rfl (by decide) h0 h1
theorem as_14 (h0 : 0 ≤ j) (h1 : j < 36) : am_ast (xH G K) .int 14 (Int32.ofInt j) (Int32.ofInt x) = some (xH (xp G 14 j x) K) := xa_ast (n := 36) (f := G 14) rfl (by decide) rfl h0 h1
theorem al_15 (h0 : 0 ≤ j) (h1 : j < 36) : am_iald (xZ sc) (xH G K) 15 (Int32.ofInt j) = some (Int32.ofInt (xg G 15 j)) := xa_iald (n := 36) (f := G 15) rfl (by decide) h0 h1
theorem as_15 (h0 : 0 ≤ j) (h1 : j < 36) : am_ast (xH G K) .int 15 (Int32.ofInt j) (Int32.ofInt x) = some (xH (xp G 15 j x) K) := xa_ast (n := 36) (f := G 15) rfl (by decide) rfl h0 h1
theorem al_16 (h0 : 0 ≤ j) (h1 : j < 36) : am_iald (xZ sc) (xH G K) 16 (Int32.ofInt j) = some (Int32.ofInt (xg G 16 j)) := xa_iald (n := 36) (f := G 16) rfl (by decide) h0 h1
theorem as_16 (h0 : 0 ≤ j) (h1 : j < 36) : am_ast (xH G K) .int 16 (Int32.ofInt j) (Int32.ofInt x) = some (xH (xp G 16 j x) K) := xa_ast (n := 36) (f := G 16) rfl (by decide) rfl h0 h1
theorem al_17 (h0 : 0 ≤ j) (h1 : j < 36) : am_iald (xZ sc) (xH G K) 17 (Int32.ofInt j) = some (Int32.ofInt (xg G 17 j)) := xa_iald (n := 36) (f := G 17) rfl (by decide) h0 h1
theorem as_17 (h0 : 0 ≤ j) (h1 : j < 36) : am_ast (xH G K) .int 17 (Int32.ofInt j) (Int32.ofInt x) = some (xH (xp G 17 j x) K) := xa_ast (n := 36) (f := G 17) rfl (by decide) rfl h0 h1
theorem al_18 (h0 : 0 ≤ j) (h1 : j < 36) : am_iald (xZ sc) (xH G K) 18 (Int32.ofInt j) = some (Int32.ofInt (xg G 18 j)) := xa_iald (n := 36) (f := G 18) rfl (by decide) h0 h1
theorem as_18 (h0 : 0 ≤ j) (h1 : j < 36) : am_ast (xH G K) .int 18 (Int32.ofInt j) (Int32.ofInt x) = some (xH (xp G 18 j x) K) := xa_ast (n := 36) (f := G 18) rfl (by decide) rfl h0 h1
theorem gf_19_0 : am_getf (xH G K) 4 0 19 = some (.ref 9) := rfl
theorem gf_19_1 : am_getf (xH G K) 4 1 19 = some (.ref 20) := rfl
theorem gf_19_2 : am_getf (xH G K) 4 2 19 = some (xI (xg G 19 2)) := by rw [xI_g]; exact rfl
theorem pf_19_2 : am_putf (xH G K) 4 2 0 19 (xI x) = some (xH (xp G 19 2 x) K) := rfl
theorem al_20 (h0 : 0 ≤ j) (h1 : j < 20) : am_iald (xZ sc) (xH G K) 20 (Int32.ofInt j) = some (Int32.ofInt (xg G 20 j)) := xa_iald (n := 20) (f := G 20) rfl (by decide) h0 h1
theorem as_20 (h0 : 0 ≤ j) (h1 : j < 20) : am_ast (xH G K) .int 20 (Int32.ofInt j) (Int32.ofInt x) = some (xH (xp G 20 j x) K) := xa_ast (n := 20) (f := G 20) rfl (by decide) rfl h0 h1
theorem gf_21_0 : am_getf (xH G K) 6 0 21 = some (.ref 22) := rfl
theorem gf_21_1 : am_getf (xH G K) 6 1 21 = some (.ref 23) := rfl
theorem gf_21_2 : am_getf (xH G K) 6 2 21 = some (.ref 24) := rfl
theorem gf_21_3 : am_getf (xH G K) 6 3 21 = some (xI (xg G 21 3)) := by rw [xI_g]; exact rfl
theorem pf_21_3 : am_putf (xH G K) 6 3 0 21 (xI x) = some (xH (xp G 21 3 x) K) := rfl
theorem gf_21_4 : am_getf (xH G K) 6 4 21 = some (xI (xg G 21 4)) := by rw [xI_g]; exact rfl
theorem pf_21_4 : am_putf (xH G K) 6 4 0 21 (xI x) = some (xH (xp G 21 4 x) K) := rfl
theorem gf_21_5 : am_getf (xH G K) 6 5 21 = some (xI (xg G 21 5)) := by rw [xI_g]; exact rfl
theorem pf_21_5 (hx : xbo x) : am_putf (xH G K) 6 5 2 21 (xI x) = some (xH (xp G 21 5 x) K) := by rcases hx with rfl | rfl <;> exact rfl
theorem al_22 (h0 : 0 ≤ j) (h1 : j < 6) : am_ald (xH G K) .boolean 22 (Int32.ofInt j) = some (Int32.ofInt (xg G 22 j)) := xa_ald (n := 6) (f := G 22) rfl (by decide) h0 h1
theorem as_22 (h0 : 0 ≤ j) (h1 : j < 6) (hx : xbo x) : am_ast (xH G K) .boolean 22 (Int32.ofInt j) (vp_nar .boolean (Int32.ofInt x)) = some (xH (xp G 22 j x) K) := by rw [xnar_b hx]; exact xa_ast (n := 6) (f := G 22) rfl (by decide) rfl h0 h1
theorem al_23 (h0 : 0 ≤ j) (h1 : j < 6) : am_iald (xZ sc) (xH G K) 23 (Int32.ofInt j) = some (Int32.ofInt (xg G 23 j)) := xa_iald (n := 6) (f := G 23) rfl (by decide) h0 h1
theorem as_23 (h0 : 0 ≤ j) (h1 : j < 6) : am_ast (xH G K) .int 23 (Int32.ofInt j) (Int32.ofInt x) = some (xH (xp G 23 j x) K) := xa_ast (n := 6) (f := G 23) rfl (by decide) rfl h0 h1
theorem al_24 (h0 : 0 ≤ j) (h1 : j < 6) : am_iald (xZ sc) (xH G K) 24 (Int32.ofInt j) = some (Int32.ofInt (xg G 24 j)) := xa_iald (n := 6) (f := G 24) rfl (by decide) h0 h1
theorem as_24 (h0 : 0 ≤ j) (h1 : j < 6) : am_ast (xH G K) .int 24 (Int32.ofInt j) (Int32.ofInt x) = some (xH (xp G 24 j x) K) := xa_ast (n := 6) (f := G 24) rfl (by decide) rfl h0 h1
theorem gf_25_0 : am_getf (xH G K) 7 0 25 = some (.ref 9) := rfl
theorem gf_25_1 : am_getf (xH G K) 7 1 25 = some (.ref 21) := rfl
theorem gf_25_2 : am_getf (xH G K) 7 2 25 = some (.ref 26) := rfl
theorem gf_25_3 : am_getf (xH G K) 7 3 25 = some (.ref 27) := rfl
theorem gf_25_4 : am_getf (xH G K) 7 4 25 = some (.ref 28) := rfl
theorem gf_25_5 : am_getf (xH G K) 7 5 25 = some (.ref 29) := rfl
theorem gf_25_6 : am_getf (xH G K) 7 6 25 = some (.ref 30) := rfl
theorem gf_25_7 : am_getf (xH G K) 7 7 25 = some (.ref 31) := rfl
theorem gf_25_8 : am_getf (xH G K) 7 8 25 = some (.ref 32) := rfl
theorem gf_25_9 : am_getf (xH G K) 7 9 25 = some (xI (xg G 25 9)) := by rw [xI_g]; exact rfl
theorem pf_25_9 : am_putf (xH G K) 7 9 0 25 (xI x) = some (xH (xp G 25 9 x) K) := rfl
theorem gf_25_10 : am_getf (xH G K) 7 10 25 = some (xI (xg G 25 10)) := by rw [xI_g]; exact rfl
theorem pf_25_10 : am_putf (xH G K) 7 10 0 25 (xI x) = some (xH (xp G 25 10 x) K) := rfl
theorem gf_25_11 : am_getf (xH G K) 7 11 25 = some (xI (xg G 25 11)) := by rw [xI_g]; exact rfl
theorem pf_25_11 (hx : xbo x) : am_putf (xH G K) 7 11 2 25 (xI x) = some (xH (xp G 25 11 x) K) := by rcases hx with rfl | rfl <;> exact rfl
theorem al_26 (h0 : 0 ≤ j) (h1 : j < 36) : am_ald (xH G K) .boolean 26 (Int32.ofInt j) = some (Int32.ofInt (xg G 26 j)) := xa_ald (n := 36) (f := G 26) rfl (by decide) h0 h1
theorem as_26 (h0 : 0 ≤ j) (h1 : j < 36) (hx : xbo x) : am_ast (xH G K) .boolean 26 (Int32.ofInt j) (vp_nar .boolean (Int32.ofInt x)) = some (xH (xp G 26 j x) K) := by rw [xnar_b hx]; exact xa_ast (n := 36) (f := G 26) rfl (by decide) rfl h0 h1
theorem al_27 (h0 : 0 ≤ j) (h1 : j < 36) : am_iald (xZ sc) (xH G K) 27 (Int32.ofInt j) = some (Int32.ofInt (xg G 27 j)) := xa_iald (n := 36) (f := G 27) rfl (by decide) h0 h1
theorem as_27 (h0 : 0 ≤ j) (h1 : j < 36) : am_ast (xH G K) .int 27 (Int32.ofInt j) (Int32.ofInt x) = some (xH (xp G 27 j x) K) := xa_ast (n := 36) (f := G 27) rfl (by decide) rfl h0 h1
theorem al_28 (h0 : 0 ≤ j) (h1 : j < 36) : am_iald (xZ sc) (xH G K) 28 (Int32.ofInt j) = some (Int32.ofInt (xg G 28 j)) := xa_iald (n := 36) (f := G 28) rfl (by decide) h0 h1
theorem as_28 (h0 : 0 ≤ j) (h1 : j < 36) : am_ast (xH G K) .int 28 (Int32.ofInt j) (Int32.ofInt x) = some (xH (xp G 28 j x) K) := xa_ast (n := 36) (f := G 28) rfl (by decide) rfl h0 h1
theorem al_29 (h0 : 0 ≤ j) (h1 : j < 3) : am_iald (xZ sc) (xH G K) 29 (Int32.ofInt j) = some (Int32.ofInt (xg G 29 j)) := xa_iald (n := 3) (f := G 29) rfl (by decide) h0 h1
theorem as_29 (h0 : 0 ≤ j) (h1 : j < 3) : am_ast (xH G K) .int 29 (Int32.ofInt j) (Int32.ofInt x) = some (xH (xp G 29 j x) K) := xa_ast (n := 3) (f := G 29) rfl (by decide) rfl h0 h1
theorem al_30 (h0 : 0 ≤ j) (h1 : j < 114) : am_iald (xZ sc) (xH G K) 30 (Int32.ofInt j) = some (Int32.ofInt (xg G 30 j)) := xa_iald (n := 114) (f := G 30) rfl (by decide) h0 h1
theorem as_30 (h0 : 0 ≤ j) (h1 : j < 114) : am_ast (xH G K) .int 30 (Int32.ofInt j) (Int32.ofInt x) = some (xH (xp G 30 j x) K) := xa_ast (n := 114) (f := G 30) rfl (by decide) rfl h0 h1
theorem al_31 (h0 : 0 ≤ j) (h1 : j < 114) : am_iald (xZ sc) (xH G K) 31 (Int32.ofInt j) = some (Int32.ofInt (xg G 31 j)) := xa_iald (n := 114) (f := G 31) rfl (by decide) h0 h1
theorem as_31 (h0 : 0 ≤ j) (h1 : j < 114) : am_ast (xH G K) .int 31 (Int32.ofInt j) (Int32.ofInt x) = some (xH (xp G 31 j x) K) := xa_ast (n := 114) (f := G 31) rfl (by decide) rfl h0 h1
theorem al_32 (h0 : 0 ≤ j) (h1 : j < 36) : am_lald (xH G K) 32 (Int32.ofInt j) = some (Int64.ofInt (xgl K 32 j)) := xa_lald (n := 36) (f := K 32) rfl (by decide) h0 h1
theorem as_32 (h0 : 0 ≤ j) (h1 : j < 36) : am_last (xH G K) 32 (Int32.ofInt j) (Int64.ofInt x) = some (xH G (xpl K 32 j x)) := xa_last (n := 36) (f := K 32) rfl (by decide) rfl h0 h1
theorem gf_33_0 : am_getf (xH G K) 8 0 33 = some (.ref 34) := rfl
theorem gf_33_1 : am_getf (xH G K) 8 1 33 = some (xI (xg G 33 1)) := by rw [xI_g]; exact rfl
theorem pf_33_1 : am_putf (xH G K) 8 1 0 33 (xI x) = some (xH (xp G 33 1 x) K) := rfl
theorem gf_33_2 : am_getf (xH G K) 8 2 33 = some (xI (xg G 33 2)) := by rw [xI_g]; exact rfl
theorem pf_33_2 : am_putf (xH G K) 8 2 0 33 (xI x) = some (xH (xp G 33 2 x) K) := rfl
theorem gf_33_3 : am_getf (xH G K) 8 3 33 = some (xI (xg G 33 3)) := by rw [xI_g]; exact rfl
theorem pf_33_3 : am_putf (xH G K) 8 3 0 33 (xI x) = some (xH (xp G 33 3 x) K) := rfl
theorem gf_33_4 : am_getf (xH G K) 8 4 33 = some (xI (xg G 33 4)) := by rw [xI_g]; exact rfl
theorem pf_33_4 : am_putf (xH G K) 8 4 0 33 (xI x) = some (xH (xp G 33 4 x) K) := rfl
theorem gf_33_5 : am_getf (xH G K) 8 5 33 = some (xI (xg G 33 5)) := by rw [xI_g]; exact rfl
theorem pf_33_5 : am_putf (xH G K) 8 5 0 33 (xI x) = some (xH (xp G 33 5 x) K) := rfl
theorem gf_33_6 : am_getf (xH G K) 8 6 33 = some (.ref 35) := rfl
theorem gf_33_7 : am_getf (xH G K) 8 7 33 = some (.ref 36) := rfl
theorem gf_33_8 : am_getf (xH G K) 8 8 33 = some (xI (xg G 33 8)) := by rw [xI_g]; exact rfl
theorem pf_33_8 : am_putf (xH G K) 8 8 0 33 (xI x) = some (xH (xp G 33 8 x) K) := rfl
theorem gf_33_9 : am_getf (xH G K) 8 9 33 = some (.ref 37) := rfl
theorem gf_33_10 : am_getf (xH G K) 8 10 33 = some (.ref 38) := rfl
theorem gf_33_11 : am_getf (xH G K) 8 11 33 = some (.ref 39) := rfl
theorem gf_33_12 : am_getf (xH G K) 8 12 33 = some (xI (xg G 33 12)) := by rw [xI_g]; exact rfl
theorem pf_33_12 : am_putf (xH G K) 8 12 0 33 (xI x) = some (xH (xp G 33 12 x) K) := rfl
theorem gf_33_13 : am_getf (xH G K) 8 13 33 = some (.ref 40) := rfl
theorem gf_33_14 : am_getf (xH G K) 8 14 33 = some (.ref 41) := rfl
theorem gf_33_15 : am_getf (xH G K) 8 15 33 = some (.ref 42) := rfl
theorem gf_33_16 : am_getf (xH G K) 8 16 33 = some (.ref 43) := rfl
theorem gf_33_17 : am_getf (xH G K) 8 17 33 = some (.ref 44) := rfl
theorem gf_33_18 : am_getf (xH G K) 8 18 33 = some (.ref 45) := rfl
theorem gf_33_19 : am_getf (xH G K) 8 19 33 = some (.ref 46) := rfl
theorem gf_33_20 : am_getf (xH G K) 8 20 33 = some (.ref 47) := rfl
theorem gf_33_21 : am_getf (xH G K) 8 21 33 = some (.ref 48) := rfl
theorem gf_33_22 : am_getf (xH G K) 8 22 33 = some (.ref 49) := rfl
theorem gf_33_23 : am_getf (xH G K) 8 23 33 = some (.ref 50) := rfl
theorem gf_33_24 : am_getf (xH G K) 8 24 33 = some (.ref 51) := rfl
theorem gf_33_25 : am_getf (xH G K) 8 25 33 = some (.ref 52) := rfl
theorem gf_33_26 : am_getf (xH G K) 8 26 33 = some (.ref 53) := rfl
theorem gf_33_27 : am_getf (xH G K) 8 27 33 = some (.ref 54) := rfl
theorem gf_33_28 : am_getf (xH G K) 8 28 33 = some (xI (xg G 33 28)) := by rw [xI_g]; exact rfl
theorem pf_33_28 : am_putf (xH G K) 8 28 0 33 (xI x) = some (xH (xp G 33 28 x) K) := rfl
theorem gf_33_29 : am_getf (xH G K) 8 29 33 = some (xI (xg G 33 29)) := by rw [xI_g]; exact rfl
theorem pf_33_29 (hx : xbo x) : am_putf (xH G K) 8 29 2 33 (xI x) = some (xH (xp G 33 29 x) K) := by rcases hx with rfl | rfl <;> exact rfl
theorem gf_33_30 : am_getf (xH G K) 8 30 33 = some (xI (xg G 33 30)) := by rw [xI_g]; exact rfl
theorem pf_33_30 : am_putf (xH G K) 8 30 0 33 (xI x) = some (xH (xp G 33 30 x) K) := rfl
theorem gf_33_31 : am_getf (xH G K) 8 31 33 = some (.ref 55) := rfl
theorem gf_33_32 : am_getf (xH G K) 8 32 33 = some (.ref 56) := rfl
theorem gf_33_33 : am_getf (xH G K) 8 33 33 = some (.ref 57) := rfl
theorem gf_33_34 : am_getf (xH G K) 8 34 33 = some (xI (xg G 33 34)) := by rw [xI_g]; exact rfl
theorem pf_33_34 (hx : xbo x) : am_putf (xH G K) 8 34 2 33 (xI x) = some (xH (xp G 33 34 x) K) := by rcases hx with rfl | rfl <;> exact rfl
theorem gf_33_35 : am_getf (xH G K) 8 35 33 = some (.ref 58) := rfl
theorem al_34 (h0 : 0 ≤ j) (h1 : j < 20) : am_iald (xZ sc) (xH G K) 34 (Int32.ofInt j) = some (Int32.ofInt (xg G 34 j)) := xa_iald (n := 20) (f := G 34) rfl (by decide) h0 h1
theorem as_34 (h0 : 0 ≤ j) (h1 : j < 20) : am_ast (xH G K) .int 34 (Int32.ofInt j) (Int32.ofInt x) = some (xH (xp G 34 j x) K) := xa_ast (n := 20) (f := G 34) rfl (by decide) rfl h0 h1
theorem al_35 (h0 : 0 ≤ j) (h1 : j < 20) : am_iald (xZ sc) (xH G K) 35 (Int32.ofInt j) = some (Int32.ofInt (xg G 35 j)) := xa_iald (n := 20) (f := G 35) rfl (by decide) h0 h1
theorem as_35 (h0 : 0 ≤ j) (h1 : j < 20) : am_ast (xH G K) .int 35 (Int32.ofInt j) (Int32.ofInt x) = some (xH (xp G 35 j x) K) := xa_ast (n := 20) (f := G 35) rfl (by decide) rfl h0 h1
theorem al_36 (h0 : 0 ≤ j) (h1 : j < 20) : am_iald (xZ sc) (xH G K) 36 (Int32.ofInt j) = some (Int32.ofInt (xg G 36 j)) := xa_iald (n := 20) (f := G 36) rfl (by decide) h0 h1
theorem as_36 (h0 : 0 ≤ j) (h1 : j < 20) : am_ast (xH G K) .int 36 (Int32.ofInt j) (Int32.ofInt x) = some (xH (xp G 36 j x) K) := xa_ast (n := 20) (f := G 36) rfl (by decide) rfl h0 h1
theorem al_37 (h0 : 0 ≤ j) (h1 : j < 20) : am_iald (xZ sc) (xH G K) 37 (Int32.ofInt j) = some (Int32.ofInt (xg G 37 j)) := xa_iald (n := 20) (f := G 37) rfl (by decide) h0 h1
theorem as_37 (h0 : 0 ≤ j) (h1 : j < 20) : am_ast (xH G K) .int 37 (Int32.ofInt j) (Int32.ofInt x) = some (xH (xp G 37 j x) K) := xa_ast (n := 20) (f := G 37) rfl (by decide) rfl h0 h1
theorem al_38 (h0 : 0 ≤ j) (h1 : j < 20) : am_iald (xZ sc) (xH G K) 38 (Int32.ofInt j) = some (Int32.ofInt (xg G 38 j)) := xa_iald (n := 20) (f := G 38) rfl (by decide) h0 h1
theorem as_38 (h0 : 0 ≤ j) (h1 : j < 20) : am_ast (xH G K) .int 38 (Int32.ofInt j) (Int32.ofInt x) = some (xH (xp G 38 j x) K) := xa_ast (n := 20) (f := G 38) rfl (by decide) rfl h0 h1
theorem al_39 (h0 : 0 ≤ j) (h1 : j < 20) : am_iald (xZ sc) (xH G K) 39 (Int32.ofInt j) = some (Int32.ofInt (xg G 39 j)) := xa_iald (n := 20) (f := G 39) rfl (by decide) h0 h1
theorem as_39 (h0 : 0 ≤ j) (h1 : j < 20) : am_ast (xH G K) .int 39 (Int32.ofInt j) (Int32.ofInt x) = some (xH (xp G 39 j x) K) := xa_ast (n := 20) (f := G 39) rfl (by decide) rfl h0 h1
theorem al_40 (h0 : 0 ≤ j) (h1 : j < 36) : am_iald (xZ sc) (xH G K) 40 (Int32.ofInt j) = some (Int32.ofInt (xg G 40 j)) := xa_iald (n := 36) (f := G 40) rfl (by decide) h0 h1
theorem as_40 (h0 : 0 ≤ j) (h1 : j < 36) : am_ast (xH G K) .int 40 (Int32.ofInt j) (Int32.ofInt x) = some (xH (xp G 40 j x) K) := xa_ast (n := 36) (f := G 40) rfl (by decide) rfl h0 h1
theorem al_41 (h0 : 0 ≤ j) (h1 : j < 36) : am_iald (xZ sc) (xH G K) 41 (Int32.ofInt j) = some (Int32.ofInt (xg G 41 j)) := xa_iald (n := 36) (f := G 41) rfl (by decide) h0 h1
theorem as_41 (h0 : 0 ≤ j) (h1 : j < 36) : am_ast (xH G K) .int 41 (Int32.ofInt j) (Int32.ofInt x) = some (xH (xp G 41 j x) K) := xa_ast (n := 36) (f := G 41) rfl (by decide) rfl h0 h1
theorem al_42 (h0 : 0 ≤ j) (h1 : j < 108) : am_iald (xZ sc) (xH G K) 42 (Int32.ofInt j) = some (Int32.ofInt (xg G 42 j)) := xa_iald (n := 108) (f := G 42) rfl (by decide) h0 h1
theorem as_42 (h0 : 0 ≤ j) (h1 : j < 108) : am_ast (xH G K) .int 42 (Int32.ofInt j) (Int32.ofInt x) = some (xH (xp G 42 j x) K) := xa_ast (n := 108) (f := G 42) rfl (by decide) rfl h0 h1
theorem al_43 (h0 : 0 ≤ j) (h1 : j < 36) : am_lald (xH G K) 43 (Int32.ofInt j) = some (Int64.ofInt (xgl K 43 j)) := xa_lald (n := 36) (f := K 43) rfl (by decide) h0 h1
theorem as_43 (h0 : 0 ≤ j) (h1 : j < 36) : am_last (xH G K) 43 (Int32.ofInt j) (Int64.ofInt x) = some (xH G (xpl K 43 j x)) := xa_last (n := 36) (f := K 43) rfl (by decide) rfl h0 h1
theorem al_44 (h0 : 0 ≤ j) (h1 : j < 36) : am_iald (xZ sc) (xH G K) 44 (Int32.ofInt j) = some (Int32.ofInt (xg G 44 j)) := xa_iald (n := 36) (f := G 44) rfl (by decide) h0 h1
theorem as_44 (h0 : 0 ≤ j) (h1 : j < 36) : am_ast (xH G K) .int 44 (Int32.ofInt j) (Int32.ofInt x) = some (xH (xp G 44 j x) K) := xa_ast (n := 36) (f := G 44) rfl (by decide) rfl h0 h1
theorem al_45 (h0 : 0 ≤ j) (h1 : j < 36) : am_ald (xH G K) .boolean 45 (Int32.ofInt j) = some (Int32.ofInt (xg G 45 j)) := xa_ald (n := 36) (f := G 45) rfl (by decide) h0 h1
theorem as_45 (h0 : 0 ≤ j) (h1 : j < 36) (hx : xbo x) : am_ast (xH G K) .boolean 45 (Int32.ofInt j) (vp_nar .boolean (Int32.ofInt x)) = some (xH (xp G 45 j x) K) := by rw [xnar_b hx]; exact xa_ast (n := 36) (f := G 45) rfl (by decide) rfl h0 h1
theorem al_46 (h0 : 0 ≤ j) (h1 : j < 36) : am_ald (xH G K) .boolean 46 (Int32.ofInt j) = some (Int32.ofInt (xg G 46 j)) := xa_ald (n := 36) (f := G 46) rfl (by decide) h0 h1
theorem as_46 (h0 : 0 ≤ j) (h1 : j < 36) (hx : xbo x) : am_ast (xH G K) .boolean 46 (Int32.ofInt j) (vp_nar .boolean (Int32.ofInt x)) = some (xH (xp G 46 j x) K) := by rw [xnar_b hx]; exact xa_ast (n := 36) (f := G 46) rfl (by decide) rfl h0 h1
theorem al_47 (h0 : 0 ≤ j) (h1 : j < 36) : am_iald (xZ sc) (xH G K) 47 (Int32.ofInt j) = some (Int32.ofInt (xg G 47 j)) := xa_iald (n := 36) (f := G 47) rfl (by decide) h0 h1
theorem as_47 (h0 : 0 ≤ j) (h1 : j < 36) : am_ast (xH G K) .int 47 (Int32.ofInt j) (Int32.ofInt x) = some (xH (xp G 47 j x) K) := xa_ast (n := 36) (f := G 47) rfl (by decide) rfl h0 h1
theorem al_48 (h0 : 0 ≤ j) (h1 : j < 36) : am_iald (xZ sc) (xH G K) 48 (Int32.ofInt j) = some (Int32.ofInt (xg G 48 j)) := xa_iald (n := 36) (f := G 48) rfl (by decide) h0 h1
theorem as_48 (h0 : 0 ≤ j) (h1 : j < 36) : am_ast (xH G K) .int 48 (Int32.ofInt j) (Int32.ofInt x) = some (xH (xp G 48 j x) K) := xa_ast (n := 36) (f := G 48) rfl (by decide) rfl h0 h1
theorem al_49 (h0 : 0 ≤ j) (h1 : j < 36) : am_iald (xZ sc) (xH G K) 49 (Int32.ofInt j) = some (Int32.ofInt (xg G 49 j)) := xa_iald (n := 36) (f := G 49) rfl (by decide) h0 h1
theorem as_49 (h0 : 0 ≤ j) (h1 : j < 36) : am_ast (xH G K) .int 49 (Int32.ofInt j) (Int32.ofInt x) = some (xH (xp G 49 j x) K) := xa_ast (n := 36) (f := G 49) rfl (by decide) rfl h0 h1
theorem al_50 (h0 : 0 ≤ j) (h1 : j < 36) : am_ald (xH G K) .boolean 50 (Int32.ofInt j) = some (Int32.ofInt (xg G 50 j)) := xa_ald (n := 36) (f := G 50) rfl (by decide) h0 h1
theorem as_50 (h0 : 0 ≤ j) (h1 : j < 36) (hx : xbo x) : am_ast (xH G K) .boolean 50 (Int32.ofInt j) (vp_nar .boolean (Int32.ofInt x)) = some (xH (xp G 50 j x) K) := by rw [xnar_b hx]; exact xa_ast (n := 36) (f := G 50) rfl (by decide) rfl h0 h1
theorem al_51 (h0 : 0 ≤ j) (h1 : j < 36) : am_ald (xH G K) .boolean 51 (Int32.ofInt j) = some (Int32.ofInt (xg G 51 j)) := xa_ald (n := 36) (f := G 51) rfl (by decide) h0 h1
theorem as_51 (h0 : 0 ≤ j) (h1 : j < 36) (hx : xbo x) : am_ast (xH G K) .boolean 51 (Int32.ofInt j) (vp_nar .boolean (Int32.ofInt x)) = some (xH (xp G 51 j x) K) := by rw [xnar_b hx]; exact xa_ast (n := 36) (f := G 51) rfl (by decide) rfl h0 h1
theorem al_52 (h0 : 0 ≤ j) (h1 : j < 36) : am_iald (xZ sc) (xH G K) 52 (Int32.ofInt j) = some (Int32.ofInt (xg G 52 j)) := xa_iald (n := 36) (f := G 52) rfl (by decide) h0 h1
theorem as_52 (h0 : 0 ≤ j) (h1 : j < 36) : am_ast (xH G K) .int 52 (Int32.ofInt j) (Int32.ofInt x) = some (xH (xp G 52 j x) K) := xa_ast (n := 36) (f := G 52) rfl (by decide) rfl h0 h1
theorem al_53 (h0 : 0 ≤ j) (h1 : j < 36) : am_iald (xZ sc) (xH G K) 53 (Int32.ofInt j) = some (Int32.ofInt (xg G 53 j)) := xa_iald (n := 36) (f := G 53) rfl (by decide) h0 h1
theorem as_53 (h0 : 0 ≤ j) (h1 : j < 36) : am_ast (xH G K) .int 53 (Int32.ofInt j) (Int32.ofInt x) = some (xH (xp G 53 j x) K) := xa_ast (n := 36) (f := G 53) rfl (by decide) rfl h0 h1
theorem al_54 (h0 : 0 ≤ j) (h1 : j < 36) : am_lald (xH G K) 54 (Int32.ofInt j) = some (Int64.ofInt (xgl K 54 j)) := xa_lald (n := 36) (f := K 54) rfl (by decide) h0 h1
theorem as_54 (h0 : 0 ≤ j) (h1 : j < 36) : am_last (xH G K) 54 (Int32.ofInt j) (Int64.ofInt x) = some (xH G (xpl K 54 j x)) := xa_last (n := 36) (f := K 54) rfl (by decide) rfl h0 h1
theorem al_55 (h0 : 0 ≤ j) (h1 : j < 6) : am_ald (xH G K) .boolean 55 (Int32.ofInt j) = some (Int32.ofInt (xg G 55 j)) := xa_ald (n := 6) (f := G 55) rfl (by decide) h0 h1
theorem as_55 (h0 : 0 ≤ j) (h1 : j < 6) (hx : xbo x) : am_ast (xH G K) .boolean 55 (Int32.ofInt j) (vp_nar .boolean (Int32.ofInt x)) = some (xH (xp G 55 j x) K) := by rw [xnar_b hx]; exact xa_ast (n := 6) (f := G 55) rfl (by decide) rfl h0 h1
theorem al_56 (h0 : 0 ≤ j) (h1 : j < 6) : am_iald (xZ sc) (xH G K) 56 (Int32.ofInt j) = some (Int32.ofInt (xg G 56 j)) := xa_iald (n := 6) (f := G 56) rfl (by decide) h0 h1
theorem as_56 (h0 : 0 ≤ j) (h1 : j < 6) : am_ast (xH G K) .int 56 (Int32.ofInt j) (Int32.ofInt x) = some (xH (xp G 56 j x) K) := xa_ast (n := 6) (f := G 56) rfl (by decide) rfl h0 h1
theorem al_57 (h0 : 0 ≤ j) (h1 : j < 6) : am_iald (xZ sc) (xH G K) 57 (Int32.ofInt j) = some (Int32.ofInt (xg G 57 j)) := xa_iald (n := 6) (f := G 57) rfl (by decide) h0 h1
theorem as_57 (h0 : 0 ≤ j) (h1 : j < 6) : am_ast (xH G K) .int 57 (Int32.ofInt j) (Int32.ofInt x) = some (xH (xp G 57 j x) K) := xa_ast (n := 6) (f := G 57) rfl (by decide) rfl h0 h1
theorem al_58 (h0 : 0 ≤ j) (h1 : j < 36) : am_iald (xZ sc) (xH G K) 58 (Int32.ofInt j) = some (Int32.ofInt (xg G 58 j)) := xa_iald (n := 36) (f := G 58) rfl (by decide) h0 h1
theorem as_58 (h0 : 0 ≤ j) (h1 : j < 36) : am_ast (xH G K) .int 58 (Int32.ofInt j) (Int32.ofInt x) = some (xH (xp G 58 j x) K) := xa_ast (n := 36) (f := G 58) rfl (by decide) rfl h0 h1
end XHL
