/-! the walk: its loop -/
def mWs (G : xG) : List (Int × Int) → Prop
  | [] => True
  | e :: W => xg G 52 (W.length : Int) = e.1 ∧ xg G 53 (W.length : Int) = e.2 ∧ mWs G W
theorem mWs_e {G G' : xG} : ∀ W : List (Int × Int), (∀ (a : Nat) (j : Int), (a = 52 ∨ a = 53) → 0 ≤ j → j < (W.length : Int) → xg G' a j = xg G a j) → mWs G W → mWs G' W
  | [], _, _ => trivial
  | e :: W, he, h => by
    simp only [List.length_cons, Int.natCast_add, Int.cast_ofNat_Int] at he
    exact ⟨(he 52 _ (by omega) (by omega) (by omega)).trans h.1, (he 53 _ (by omega) (by omega) (by omega)).trans h.2.1, mWs_e W (fun a j ha h0 h1 => he a j ha h0 (by omega)) h.2.2⟩
def um (G : xG) : Nat → Nat
  | 0 => 0
  | n + 1 => um G n + (if xg G 51 (n : Int) = 0 then 1 else 0)
theorem um_le {G : xG} : ∀ n : Nat, um G n ≤ n
  | 0 => Nat.le_refl _
  | n + 1 => by
    have := um_le (G := G) n
    simp only [um]
    split <;> omega
theorem um_eq {G X : xG} : ∀ n : Nat, (∀ j, 0 ≤ j → j < (n : Int) → xg X 51 j = xg G 51 j) → um X n = um G n
  | 0, _ => rfl
  | n + 1, h => by
    simp only [um]
    rw [um_eq n (fun j h0 h1 => h j h0 (by omega)), h n (by omega) (by omega)]
theorem um_set {G X : xG} {a : Int} (a0 : 0 ≤ a) (hz : xg G 51 a = 0) (ho : xg X 51 a = 1) (h : ∀ j, 0 ≤ j → ¬ j = a → xg X 51 j = xg G 51 j) : ∀ n : Nat, a < n → um X n + 1 = um G n
  | 0, hn => absurd hn (by omega)
  | n + 1, hn => by
    simp only [um]
    by_cases e : a = (n : Int)
    · subst e
      rw [hz, ho, um_eq n (fun j h0 h1 => h j h0 (by omega))]
      simp
    · have := um_set a0 hz ho h n (by omega)
      rw [h n (by omega) (by omega)]
      omega
/-- nodes grow downwards, places are in order -/
def srt (A : aG) : Int → List (Int × Int) → Prop
  | _, [] => True
  | lo, e :: W => lo < e.1 ∧ e.1 < A.1 ∧ 0 ≤ e.2 ∧ e.2 ≤ xar (A.2 e.1).1 ∧ srt A e.1 W
theorem srt_len {A : aG} (hA : A.1 ≤ 36) : ∀ (W : List (Int × Int)) (lo : Int), srt A lo W → lo < 36 → lo + (W.length : Int) < 36
  | [], lo, _, h => by simpa using h
  | e :: W, lo, h, hl => by
    have := srt_len hA W e.1 h.2.2.2.2 (by have := h.2.1; omega)
    simp only [List.length_cons, Int.natCast_add, Int.cast_ofNat_Int]
    have := h.1
    omega
def wsm (A : aG) : List (Int × Int) → Int
  | [] => 0
  | e :: W => (xar (A.2 e.1).1 - e.2 + 1) + wsm A W
theorem wsm_nn {A : aG} : ∀ (W : List (Int × Int)) (lo : Int), srt A lo W → 0 ≤ wsm A W
  | [], _, _ => Int.le_refl _
  | e :: W, lo, h => by
    have := wsm_nn W e.1 h.2.2.2.2
    have := h.2.2.2.1
    simp only [wsm]
    omega
theorem srt_lo {A : aG} {lo lo' : Int} : ∀ W : List (Int × Int), srt A lo W → lo' ≤ lo → srt A lo' W
  | [], _, _ => trivial
  | e :: W, h, hl => ⟨by have := h.1; omega, h.2⟩
def mFx (G G' : xG) : Prop := ∀ (a : Nat) (j : Int), ¬ (51 ≤ a ∧ a ≤ 53) → xg G' a j = xg G a j
theorem mFx_rfl {G : xG} : mFx G G := fun _ _ _ => rfl
theorem mFx_tr {A B C : xG} (h : mFx A B) (g : mFx B C) : mFx A C := fun a j h1 => (g a j h1).trans (h a j h1)
theorem mFx_c {A B : xG} {c : Nat} {i x : Int} (h : mFx A B) (hc : 51 ≤ c ∧ c ≤ 53) : mFx A (xp B c i x) := fun a j h1 => by
  rw [xg_cell (by omega)]
  exact h a j h1
def wPs (G : xG) (D a j : Int) : xG := xp (xp (xp (xp G 53 D (j + 1)) 51 a 1) 52 (D + 1) a) 53 (D + 1) 0
theorem mWs_push {G : xG} {W : List (Int × Int)} {n j a : Int} (h : mWs G ((n, j) :: W)) (ha : xin a) (hj : xin (j + 1)) : mWs (wPs G (W.length : Int) a j) ((a, 0) :: (n, j + 1) :: W) := by
  unfold wPs
  refine ⟨?_, ?_, ?_, ?_, ?_⟩
  · simp only [List.length_cons, Int.natCast_add, Int.cast_ofNat_Int]
    rw [xg_cell (by decide), xg_self ha]
  · simp only [List.length_cons, Int.natCast_add, Int.cast_ofNat_Int]
    rw [xg_self xin_0]
  · rw [xg_cell (by decide), xg_idx (by omega) (by omega) (by omega), xg_cell (by decide), xg_cell (by decide)]
    exact h.1
  · rw [xg_idx (by omega) (by omega) (by omega), xg_cell (by decide), xg_cell (by decide), xg_self hj]
  · refine mWs_e W (fun b i hb i0 i1 => ?_) h.2.2
    rcases hb with rfl | rfl
    · rw [xg_cell (by decide), xg_idx (by omega) (by omega) (by omega), xg_cell (by decide), xg_cell (by decide)]
    · rw [xg_idx (by omega) (by omega) (by omega), xg_cell (by decide), xg_cell (by decide), xg_idx (by omega) (by omega) (by omega)]
theorem mWs_next {G : xG} {W : List (Int × Int)} {n j : Int} (h : mWs G ((n, j) :: W)) (hj : xin (j + 1)) : mWs (xp G 53 (W.length : Int) (j + 1)) ((n, j + 1) :: W) := by
  refine ⟨?_, xg_self hj, ?_⟩
  · rw [xg_cell (by decide)]; exact h.1
  · refine mWs_e W (fun b i hb i0 i1 => ?_) h.2.2
    rcases hb with rfl | rfl
    · rw [xg_cell (by decide)]
    · rw [xg_idx (by omega) (by omega) (by omega)]
section SP
variable {sc : Nat × (Nat → Int32)} {d : Nat} {Q : Option Value → am_H → Prop} {G : xG} {K : xK} {h : am_H}
theorem lw_end {A : aG} {W : List (Int × Int)} {n j s D : Int} {u1 : Option Value} (hR : mRep G K A) (hA : aOk A) (hw : mWs G ((n, j) :: W)) (n0 : 0 ≤ n) (n1 : n < A.1) (hj : j = xar (A.2 n).1) (hD : D = (W.length : Int)) (hD6 : D < 36) (s0 : 0 ≤ s) (s1 : s < 1000) : xw sc (d + 1) Mm_walk cm_walk_39 [some (.ref 33), u1, some (xI (D + 1)), some (xI s), none, none, none] [] (xH G K) Q ↔ (if 0 < xg G 48 n then Q (some (xI n)) (xH G K) else xw sc (d + 1) Mm_walk cm_walk_39 [some (.ref 33), none, some (xI D), some (xI (s + 1)), none, none, none] [] (xH G K) Q) := by
  have w1 : xg G 52 D = n := by rw [hD]; exact hw.1
  have w2 : xg G 53 D = j := by rw [hD]; exact hw.2.1
  have hn := hA.2.1
  obtain ⟨e1, e2, e3, e4, e5, e6⟩ := hR.2 n n0 n1
  have q := hA.2.2 n n0 n1
  have q0 := q.1
  have q1 := q.2.1
  have D0 : 0 ≤ D := by omega
  have ed : D + 1 - 1 = D := by omega
  have ed2 : D + 1 + -1 = D := by omega
  have c1 : ¬ 1000 ≤ s := by omega
  have c2 : ¬ D + 1 ≤ 0 := by omega
  have har := fun (Q : Option Value → am_H → Prop) => sm_arity (sc := sc) (d := d) (h := xH G K) (Q := Q) (k := (A.2 n).1) q0 (by omega)
  rw [rm_walk_39]
  subst hj
  by_cases hb : 0 < xg G 48 n
  · rw [if_pos hb]
    have hb' : ¬ xg G 48 n ≤ 0 := by omega
    simp (contextual := true) (disch := first | assumption | exact xin_g _ _ _ | exact xin_ar _ | exact xin_sc _ _ | exact xin_cmp | exact xin_and | exact xin_or | exact xinl_g _ _ _ | omega | exact xin_mk (by omega) (by omega) | exact xinl_mk (by omega) (by omega) | exact xbo_0 | exact xbo_1 | exact xin_sl | exact xin_fa | exact xbo_ad | exact xin_bo xbo_ad | exact xin_mb | exact xin_A | exact xin_op | ((repeat refine gN_q ?_ (by omega) (by omega)); assumption)) only [rm_walk_0, rm_walk_1, rm_walk_2, rm_walk_3, rm_walk_5, rm_walk_8, rm_walk_9, rm_walk_12, rm_walk_13, rm_walk_14, rm_walk_15, rm_walk_18, rm_walk_21, rm_walk_22, rm_walk_23, rm_walk_24, rm_walk_27, rm_walk_28, rm_walk_29, rm_walk_30, rm_walk_31, rm_walk_34, rm_walk_35, rm_walk_36, rm_walk_37, rm_walk_38, rm_walk_40, rm_walk_43, rm_walk_46, rm_walk_47, rm_walk_50, rm_walk_51, rm_walk_54, rm_walk_55, rm_walk_56, rm_walk_57, rm_walk_58, rm_walk_60, rm_walk_61, rm_walk_64, rm_walk_65, rm_walk_66, rm_walk_67, rm_walk_68, rm_walk_70, rm_walk_72, rm_walk_73, rm_walk_76, rm_walk_78, rm_walk_79, rm_walk_82, rm_walk_85, rm_walk_86, rm_walk_89, rm_walk_91, rm_walk_92, rm_walk_95, rm_walk_97, rm_walk_98, rm_walk_101, rm_walk_104, rm_walk_105, rm_walk_108, rm_walk_109, rm_walk_110, rm_walk_111, rm_walk_112, rm_walk_113, rm_walk_114, rm_walk_115, rm_walk_116, rm_walk_117, rm_walk_120, rm_walk_121, rm_walk_123, rm_walk_124, rm_walk_126, rm_walk_127, rm_walk_128, rm_walk_130, rm_walk_131, rm_walk_134, rm_walk_136, rm_walk_137, rm_walk_140, rm_walk_141, rm_walk_144, rm_walk_146, rm_walk_147, rm_walk_148, rm_walk_149, rm_walk_152, rm_walk_153, rm_walk_155, rm_walk_156, rm_walk_157, rm_walk_160, rm_walk_161, rm_walk_162, rm_walk_163, rm_walk_166, rm_walk_169, rm_walk_172, rm_walk_173, ↓har, xg_cell, Option.toList_some, Option.toList_none, List.singleton_append, List.append_nil, List.nil_append, List.cons_append, false_and, if_false, if_true, Int.reduceAdd, Int.reduceSub, Int.reduceMul, Int.reduceNeg, Int.reduceLE, Int.reduceLT, Int.reduceEq, false_implies, true_implies, not_true_eq_false, not_false_eq_true, and_true, true_and, xar_0, xar_1, xar_2, xar_3, xar_4, xar_5, xar_6, xar_7, xar_8, xar_9, xar_10, xar_11, xar_12, c1, c2, ed, w1, w2, e1, hb']
  · rw [if_neg hb]
    have hb' : xg G 48 n ≤ 0 := by omega
    simp (contextual := true) (disch := first | assumption | exact xin_g _ _ _ | exact xin_ar _ | exact xin_sc _ _ | exact xin_cmp | exact xin_and | exact xin_or | exact xinl_g _ _ _ | omega | exact xin_mk (by omega) (by omega) | exact xinl_mk (by omega) (by omega) | exact xbo_0 | exact xbo_1 | exact xin_sl | exact xin_fa | exact xbo_ad | exact xin_bo xbo_ad | exact xin_mb | exact xin_A | exact xin_op | ((repeat refine gN_q ?_ (by omega) (by omega)); assumption)) only [rm_walk_0, rm_walk_1, rm_walk_2, rm_walk_3, rm_walk_5, rm_walk_8, rm_walk_9, rm_walk_12, rm_walk_13, rm_walk_14, rm_walk_15, rm_walk_18, rm_walk_21, rm_walk_22, rm_walk_23, rm_walk_24, rm_walk_27, rm_walk_28, rm_walk_29, rm_walk_30, rm_walk_31, rm_walk_34, rm_walk_35, rm_walk_36, rm_walk_37, rm_walk_38, rm_walk_40, rm_walk_43, rm_walk_46, rm_walk_47, rm_walk_50, rm_walk_51, rm_walk_54, rm_walk_55, rm_walk_56, rm_walk_57, rm_walk_58, rm_walk_60, rm_walk_61, rm_walk_64, rm_walk_65, rm_walk_66, rm_walk_67, rm_walk_68, rm_walk_70, rm_walk_72, rm_walk_73, rm_walk_76, rm_walk_78, rm_walk_79, rm_walk_82, rm_walk_85, rm_walk_86, rm_walk_89, rm_walk_91, rm_walk_92, rm_walk_95, rm_walk_97, rm_walk_98, rm_walk_101, rm_walk_104, rm_walk_105, rm_walk_108, rm_walk_109, rm_walk_110, rm_walk_111, rm_walk_112, rm_walk_113, rm_walk_114, rm_walk_115, rm_walk_116, rm_walk_117, rm_walk_120, rm_walk_121, rm_walk_123, rm_walk_124, rm_walk_126, rm_walk_127, rm_walk_128, rm_walk_130, rm_walk_131, rm_walk_134, rm_walk_136, rm_walk_137, rm_walk_140, rm_walk_141, rm_walk_144, rm_walk_146, rm_walk_147, rm_walk_148, rm_walk_149, rm_walk_152, rm_walk_153, rm_walk_155, rm_walk_156, rm_walk_157, rm_walk_160, rm_walk_161, rm_walk_162, rm_walk_163, rm_walk_166, rm_walk_169, rm_walk_172, rm_walk_173, ↓har, xg_cell, Option.toList_some, Option.toList_none, List.singleton_append, List.append_nil, List.nil_append, List.cons_append, false_and, if_false, if_true, Int.reduceAdd, Int.reduceSub, Int.reduceMul, Int.reduceNeg, Int.reduceLE, Int.reduceLT, Int.reduceEq, false_implies, true_implies, not_true_eq_false, not_false_eq_true, and_true, true_and, xar_0, xar_1, xar_2, xar_3, xar_4, xar_5, xar_6, xar_7, xar_8, xar_9, xar_10, xar_11, xar_12, c1, c2, ed, ed2, w1, w2, e1, hb']
theorem lw_go {A : aG} {W : List (Int × Int)} {n j s D : Int} {u1 : Option Value} (hR : mRep G K A) (hA : aOk A) (hw : mWs G ((n, j) :: W)) (n0 : 0 ≤ n) (n1 : n < A.1) (j0 : 0 ≤ j) (hj : j < xar (A.2 n).1) (hD : D = (W.length : Int)) (hD6 : D < 35) (s0 : 0 ≤ s) (s1 : s < 1000) : xw sc (d + 1) Mm_walk cm_walk_39 [some (.ref 33), u1, some (xI (D + 1)), some (xI s), none, none, none] [] (xH G K) Q ↔ (if xg G 51 (aAg A n j) = 0 then xw sc (d + 1) Mm_walk cm_walk_39 [some (.ref 33), none, some (xI (D + 1 + 1)), some (xI (s + 1)), none, none, none] [] (xH (wPs G D (aAg A n j) j) K) Q else xw sc (d + 1) Mm_walk cm_walk_39 [some (.ref 33), none, some (xI (D + 1)), some (xI (s + 1)), none, none, none] [] (xH (xp G 53 D (j + 1)) K) Q) := by
  have w1 : xg G 52 D = n := by rw [hD]; exact hw.1
  have w2 : xg G 53 D = j := by rw [hD]; exact hw.2.1
  have hn := hA.2.1
  obtain ⟨e1, e2, e3, e4, e5, e6⟩ := hR.2 n n0 n1
  have q := hA.2.2 n n0 n1
  have q0 := q.1
  have q1 := q.2.1
  have e := par_xar q0 (show (A.2 n).1 ≤ 12 by omega)
  have e3' := par_3 (k := (A.2 n).1)
  obtain ⟨a0, a1⟩ := aAg_r hA n0 n1 j0 hj
  have ea : xg G 42 (3 * n + j) = aAg A n j := by
    unfold aAg
    rcases (show j = 0 ∨ j = 1 ∨ j = 2 by omega) with rfl | rfl | rfl
    · rw [Int.add_zero]; exact e3
    · exact e4
    · exact e5
  generalize aAg A n j = a at *
  have D0 : 0 ≤ D := by omega
  have ed : D + 1 - 1 = D := by omega
  have c1 : ¬ 1000 ≤ s := by omega
  have c2 : ¬ D + 1 ≤ 0 := by omega
  have c3 : ¬ j = xar (A.2 n).1 := by omega
  have xj : xin j := ⟨by omega, by omega⟩
  have har := fun (Q : Option Value → am_H → Prop) => sm_arity (sc := sc) (d := d) (h := xH G K) (Q := Q) (k := (A.2 n).1) q0 (by omega)
  have xar' : xin (xar (A.2 n).1) := xin_ar _
  rw [rm_walk_39]
  by_cases hb : xg G 51 a = 0
  · rw [if_pos hb]
    simp (contextual := true) (disch := first | assumption | exact xin_g _ _ _ | exact xin_ar _ | exact xin_sc _ _ | exact xin_cmp | exact xin_and | exact xin_or | exact xinl_g _ _ _ | omega | exact xin_mk (by omega) (by omega) | exact xinl_mk (by omega) (by omega) | exact xbo_0 | exact xbo_1 | exact xin_sl | exact xin_fa | exact xbo_ad | exact xin_bo xbo_ad | exact xin_mb | exact xin_A | exact xin_op | ((repeat refine gN_q ?_ (by omega) (by omega)); assumption)) only [rm_walk_0, rm_walk_1, rm_walk_2, rm_walk_3, rm_walk_5, rm_walk_8, rm_walk_9, rm_walk_12, rm_walk_13, rm_walk_14, rm_walk_15, rm_walk_18, rm_walk_21, rm_walk_22, rm_walk_23, rm_walk_24, rm_walk_27, rm_walk_28, rm_walk_29, rm_walk_30, rm_walk_31, rm_walk_34, rm_walk_35, rm_walk_36, rm_walk_37, rm_walk_38, rm_walk_40, rm_walk_43, rm_walk_46, rm_walk_47, rm_walk_50, rm_walk_51, rm_walk_54, rm_walk_55, rm_walk_56, rm_walk_57, rm_walk_58, rm_walk_60, rm_walk_61, rm_walk_64, rm_walk_65, rm_walk_66, rm_walk_67, rm_walk_68, rm_walk_70, rm_walk_72, rm_walk_73, rm_walk_76, rm_walk_78, rm_walk_79, rm_walk_82, rm_walk_85, rm_walk_86, rm_walk_89, rm_walk_91, rm_walk_92, rm_walk_95, rm_walk_97, rm_walk_98, rm_walk_101, rm_walk_104, rm_walk_105, rm_walk_108, rm_walk_109, rm_walk_110, rm_walk_111, rm_walk_112, rm_walk_113, rm_walk_114, rm_walk_115, rm_walk_116, rm_walk_117, rm_walk_120, rm_walk_121, rm_walk_123, rm_walk_124, rm_walk_126, rm_walk_127, rm_walk_128, rm_walk_130, rm_walk_131, rm_walk_134, rm_walk_136, rm_walk_137, rm_walk_140, rm_walk_141, rm_walk_144, rm_walk_146, rm_walk_147, rm_walk_148, rm_walk_149, rm_walk_152, rm_walk_153, rm_walk_155, rm_walk_156, rm_walk_157, rm_walk_160, rm_walk_161, rm_walk_162, rm_walk_163, rm_walk_166, rm_walk_169, rm_walk_172, rm_walk_173, ↓har, xg_cell, Option.toList_some, Option.toList_none, List.singleton_append, List.append_nil, List.nil_append, List.cons_append, false_and, if_false, if_true, Int.reduceAdd, Int.reduceSub, Int.reduceMul, Int.reduceNeg, Int.reduceLE, Int.reduceLT, Int.reduceEq, false_implies, true_implies, not_true_eq_false, not_false_eq_true, and_true, true_and, xar_0, xar_1, xar_2, xar_3, xar_4, xar_5, xar_6, xar_7, xar_8, xar_9, xar_10, xar_11, xar_12, c1, c2, c3, ed, w1, w2, e1, ea, hb, wPs]
  · rw [if_neg hb]
    simp (contextual := true) (disch := first | assumption | exact xin_g _ _ _ | exact xin_ar _ | exact xin_sc _ _ | exact xin_cmp | exact xin_and | exact xin_or | exact xinl_g _ _ _ | omega | exact xin_mk (by omega) (by omega) | exact xinl_mk (by omega) (by omega) | exact xbo_0 | exact xbo_1 | exact xin_sl | exact xin_fa | exact xbo_ad | exact xin_bo xbo_ad | exact xin_mb | exact xin_A | exact xin_op | ((repeat refine gN_q ?_ (by omega) (by omega)); assumption)) only [rm_walk_0, rm_walk_1, rm_walk_2, rm_walk_3, rm_walk_5, rm_walk_8, rm_walk_9, rm_walk_12, rm_walk_13, rm_walk_14, rm_walk_15, rm_walk_18, rm_walk_21, rm_walk_22, rm_walk_23, rm_walk_24, rm_walk_27, rm_walk_28, rm_walk_29, rm_walk_30, rm_walk_31, rm_walk_34, rm_walk_35, rm_walk_36, rm_walk_37, rm_walk_38, rm_walk_40, rm_walk_43, rm_walk_46, rm_walk_47, rm_walk_50, rm_walk_51, rm_walk_54, rm_walk_55, rm_walk_56, rm_walk_57, rm_walk_58, rm_walk_60, rm_walk_61, rm_walk_64, rm_walk_65, rm_walk_66, rm_walk_67, rm_walk_68, rm_walk_70, rm_walk_72, rm_walk_73, rm_walk_76, rm_walk_78, rm_walk_79, rm_walk_82, rm_walk_85, rm_walk_86, rm_walk_89, rm_walk_91, rm_walk_92, rm_walk_95, rm_walk_97, rm_walk_98, rm_walk_101, rm_walk_104, rm_walk_105, rm_walk_108, rm_walk_109, rm_walk_110, rm_walk_111, rm_walk_112, rm_walk_113, rm_walk_114, rm_walk_115, rm_walk_116, rm_walk_117, rm_walk_120, rm_walk_121, rm_walk_123, rm_walk_124, rm_walk_126, rm_walk_127, rm_walk_128, rm_walk_130, rm_walk_131, rm_walk_134, rm_walk_136, rm_walk_137, rm_walk_140, rm_walk_141, rm_walk_144, rm_walk_146, rm_walk_147, rm_walk_148, rm_walk_149, rm_walk_152, rm_walk_153, rm_walk_155, rm_walk_156, rm_walk_157, rm_walk_160, rm_walk_161, rm_walk_162, rm_walk_163, rm_walk_166, rm_walk_169, rm_walk_172, rm_walk_173, ↓har, xg_cell, Option.toList_some, Option.toList_none, List.singleton_append, List.append_nil, List.nil_append, List.cons_append, false_and, if_false, if_true, Int.reduceAdd, Int.reduceSub, Int.reduceMul, Int.reduceNeg, Int.reduceLE, Int.reduceLT, Int.reduceEq, false_implies, true_implies, not_true_eq_false, not_false_eq_true, and_true, true_and, xar_0, xar_1, xar_2, xar_3, xar_4, xar_5, xar_6, xar_7, xar_8, xar_9, xar_10, xar_11, xar_12, c1, c2, c3, ed, w1, w2, e1, ea, hb]
end SP
