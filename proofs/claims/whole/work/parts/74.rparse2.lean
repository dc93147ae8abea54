/-! the reference's parser: the line -/
/-- n signs of the reference's line from k on -/
def mLn (G : xG) : Nat → Int → List Int
  | 0, _ => []
  | n + 1, k => xg G 34 k :: mLn G n (k + 1)
def rpar : rS → List Int → Int → Int × pL
  | s, [], k => if s.1 = 0 ∨ s.1 = 3 ∨ s.1 = 5 then (k, []) else if (runw true s.2.2.2.1 s.2.2.2.2).1 = [] then (-1, (runw true s.2.2.2.1 s.2.2.2.2).2) else (k, [])
  | s, c :: w, k => match racc s c with
    | some s' => rpar s' w (k + 1)
    | none => (k, [])
theorem rpar_app : ∀ (w r : List Int) (s s' : rS) (k : Int), rw' s w = some s' → rpar s (w ++ r) k = rpar s' r (k + w.length)
  | [], r, s, s', k, h => by cases h; simp
  | c :: w, r, s, s', k, h => by
    simp only [List.cons_append, rw', rpar] at h ⊢
    split at h
    · rename_i s1 hs
      simp only [hs]
      rw [rpar_app w r s1 s' (k + 1) h]
      simp only [List.length_cons, Int.natCast_add, Int.cast_ofNat_Int]
      rw [show k + 1 + (w.length : Int) = k + ((w.length : Int) + 1) by omega]
    · cases h
theorem rpar_stk {s : rS} {r : List Int} {k : Int} (h : rstk s r) : rpar s r k = (k, []) := by
  cases r with
  | nil =>
    simp only [rstk] at h
    simp only [rpar]
    by_cases hm : s.1 = 0 ∨ s.1 = 3 ∨ s.1 = 5
    · rw [if_pos hm]
    · rw [if_neg hm]
      rcases h with h | h | h | ⟨h, h2⟩
      · omega
      · omega
      · omega
      · rw [if_neg h2]
  | cons c r =>
    have h : racc s c = none := h
    simp only [rpar, h]
/-- the class's parser and the reference's say the same of a line -/
theorem rpar_line (r : List Int) (hr : r.length ≤ 20) (dg : Int) (na : Nat) :
    (((pE (pF 21) (r, false, [])).2.1 = false ∧ (pE (pF 21) (r, false, [])).1 = [] ∧ rpar (0, dg, na, [], []) r 0 = (-1, (pE (pF 21) (r, false, [])).2.2) ∧ pwf 1 (pE (pF 21) (r, false, [])).2.2 ∧ (pE (pF 21) (r, false, [])).2.2.length ≤ r.length) ∨
     (((pE (pF 21) (r, false, [])).2.1 = true ∨ ¬ (pE (pF 21) (r, false, [])).1 = []) ∧ (pE (pF 21) (r, false, [])).1.length ≤ r.length ∧ (rpar (0, dg, na, [], []) r 0).1 = (r.length : Int) - ((pE (pF 21) (r, false, [])).1.length : Int))) := by
  obtain ⟨w, r', q1, q2, q3, q4⟩ := pLine r hr
  generalize pE (pF 21) (r, false, []) = s at q2 q3 q4
  have hC : ¬ rtop [] = 42 ∧ ¬ rtop [] = 126 ∧ ¬ rtop [] = 43 ∧ ¬ rtop [] = 45 := by decide
  have hlen : r.length = w.length + r'.length := by rw [q1]; simp
  cases hb : s.2.1 with
  | true =>
    right
    obtain ⟨ρ, a1, a2⟩ := q4 hb [] [] hC dg na
    refine ⟨Or.inl rfl, by rw [q2]; omega, ?_⟩
    rw [q1, rpar_app w r' _ _ 0 a1, rpar_stk a2, q2]
    simp
  | false =>
    obtain ⟨F, b1, b2, b3, b4, b5, b6⟩ := q3 hb
    obtain ⟨ρ, a1, a2, a3⟩ := b6 [] [] hC dg na
    have hF : s.2.2 = F := b1 (by simp; omega)
    have a3 : runw true ρ.2.2.2.1 ρ.2.2.2.2 = ([], F) := a3
    cases r' with
    | nil =>
      left
      refine ⟨rfl, q2, ?_, by rw [hF]; exact b4, by rw [hF]; omega⟩
      rw [q1, rpar_app w [] _ _ 0 a1, hF]
      have hm : ¬ (ρ.1 = 0 ∨ ρ.1 = 3 ∨ ρ.1 = 5) := by
        rcases a2 with h | ⟨h, -⟩ | ⟨h, -⟩ <;> omega
      simp only [rpar]
      rw [if_neg hm, a3, if_pos rfl]
    | cons c r2 =>
      right
      refine ⟨Or.inr (by rw [q2]; simp), by rw [q2]; omega, ?_⟩
      have hn : racc ρ c = none := by
        cases hd : pdg c with
        | true => exact racc_dig a2 hd
        | false =>
          rw [racc_fol a2 hd]
          have b5 : ¬ c = 42 ∧ ¬ c = 43 ∧ ¬ c = 45 := b5
          unfold rfol
          rw [if_neg (by omega)]
          split
          · rw [a3]; rfl
          · rfl
      rw [q1, rpar_app w (c :: r2) _ _ 0 a1, q2]
      simp only [rpar, hn]
      simp
section SP
variable {sc : Nat × (Nat → Int32)} {d : Nat} {Q : Option Value → am_H → Prop} {G : xG} {K : xK} {h : am_H}
theorem mLn_fr {G G' : xG} (h : mFr G G') : ∀ (n : Nat) (k : Int), 0 ≤ k → mLn G' n k = mLn G n k
  | 0, k, _ => rfl
  | n + 1, k, h0 => by
    simp only [mLn]
    rw [mLn_fr h n (k + 1) (by omega), h 34 k h0 (by omega) (by omega) (by omega) (by omega) (by omega)]
/-- the line is in order, in the reference's cells -/
def mLi (G : xG) : Prop := 0 ≤ xg G 33 1 ∧ xg G 33 1 ≤ 20 ∧ ∀ i, 0 ≤ i → i < xg G 33 1 → 0 ≤ xg G 34 i ∧ xg G 34 i < 65536
theorem mLi_fr {G G' : xG} (h : mFr G G') (g : mLi G) : mLi G' := by
  have e1 : xg G' 33 1 = xg G 33 1 := h 33 1 (by omega) (by omega) (by omega) (by omega) (by omega) (by omega)
  unfold mLi
  rw [e1]
  refine ⟨g.1, g.2.1, fun i h0 h1 => ?_⟩
  rw [h 34 i h0 (by omega) (by omega) (by omega) (by omega) (by omega)]
  exact g.2.2 i h0 h1
theorem lm_parse : ∀ (n : Nat) (k : Int) (G : xG) (s : rS), mPr G s → mLi G → 0 ≤ k → k + n = xg G 33 1 → s.2.2.2.1.length + s.2.2.2.2.length ≤ k.toNat → ∃ G' : xG, (∀ Q : Option Value → am_H → Prop, xw sc (d + 5) Mm_parse cm_parse_17 [some (.ref 33), some (xI k)] [] (xH G K) Q ↔ Q (some (xI (rpar s (mLn G n k) k).1)) (xH G' K)) ∧ mFr G G' ∧ ((rpar s (mLn G n k) k).1 = -1 → xg G' 33 8 = ((rpar s (mLn G n k) k).2.length : Int) ∧ mOp G' (rpar s (mLn G n k) k).2) := by
  intro n
  induction n with
  | zero =>
    intro k G s hP hL k0 hk hl
    obtain ⟨m, dg, na, T, O⟩ := s
    obtain ⟨h1, h2, h3⟩ := hP
    have h1 : xg G 33 2 = m := h1
    have h3 : mPo G T O := h3
    have hmx : xin m := by rw [← h1]; exact xin_g _ _ _
    obtain ⟨l0, l1, l2⟩ := hL
    have hge : xg G 33 1 ≤ k := by omega
    have hek : k = xg G 33 1 := by omega
    have hl : T.length + O.length ≤ k.toNat := hl
    show ∃ G' : xG, _
    simp only [mLn, rpar]
    by_cases hm : m = 0 ∨ m = 3 ∨ m = 5
    · rw [if_pos hm]
      refine ⟨G, fun Q => ?_, mFr_rfl, fun q => ?_⟩
      · rw [rm_parse_17]
        rcases hm with hm | hm | hm <;> rw [hm] at h1 <;> simp (contextual := true) (disch := first | assumption | exact xin_g _ _ _ | exact xin_ar _ | exact xin_sc _ _ | exact xin_cmp | exact xin_and | exact xin_or | exact xinl_g _ _ _ | omega | exact xin_mk (by omega) (by omega) | exact xinl_mk (by omega) (by omega) | exact xbo_0 | exact xbo_1 | exact xin_sl | exact xin_fa | exact xbo_ad | exact xin_bo xbo_ad | exact xin_mb | exact xin_A | exact xin_op | ((repeat refine gN_q ?_ (by omega) (by omega)); assumption)) only [rm_parse_0, rm_parse_1, rm_parse_2, rm_parse_5, rm_parse_6, rm_parse_7, rm_parse_10, rm_parse_11, rm_parse_12, rm_parse_15, rm_parse_16, rm_parse_18, rm_parse_19, rm_parse_22, rm_parse_25, rm_parse_26, rm_parse_27, rm_parse_30, rm_parse_31, rm_parse_32, rm_parse_35, rm_parse_38, rm_parse_39, rm_parse_40, rm_parse_43, rm_parse_46, rm_parse_47, rm_parse_50, rm_parse_53, rm_parse_54, rm_parse_57, rm_parse_58, rm_parse_61, rm_parse_62, rm_parse_65, rm_parse_66, rm_parse_69, rm_parse_70, rm_parse_73, rm_parse_74, rm_parse_75, rm_parse_76, rm_parse_79, rm_parse_80, rm_parse_83, rm_parse_86, rm_parse_87, rm_parse_90, rm_parse_93, rm_parse_94, xg_cell, Option.toList_some, Option.toList_none, List.singleton_append, List.append_nil, List.nil_append, List.cons_append, false_and, if_false, if_true, Int.reduceAdd, Int.reduceSub, Int.reduceMul, Int.reduceNeg, Int.reduceLE, Int.reduceLT, Int.reduceEq, false_implies, true_implies, not_true_eq_false, not_false_eq_true, and_true, true_and, xar_0, xar_1, xar_2, xar_3, xar_4, xar_5, xar_6, xar_7, xar_8, xar_9, xar_10, xar_11, xar_12, hge, h1] <;> rw [hek]
      · exact absurd (show k = -1 from q) (by omega)
    · rw [if_neg hm]
      have m0 : ¬ m = 0 := fun q => hm (Or.inl q)
      have m3 : ¬ m = 3 := fun q => hm (Or.inr (Or.inl q))
      have m5 : ¬ m = 5 := fun q => hm (Or.inr (Or.inr q))
      obtain ⟨G1, r1, r2, r3⟩ := sm_unw (sc := sc) (d := d + 3) (K := K) (b := 1) true (by simp) h3 (by omega)
      have e1 : xg G1 33 1 = xg G 33 1 := r3.1 33 1 (by omega) (by omega) (by omega) (by omega) (by omega) (by omega)
      have hrl := runw_len (all := true) T O
      generalize runw true T O = X at r2 hrl ⊢
      obtain ⟨T1, O1⟩ := X
      have r2 : mPo G1 T1 O1 := r2
      cases T1 with
      | nil =>
        have h0 : xg G1 33 5 ≤ 0 := by rw [r2.1]; simp
        rw [if_pos rfl]
        refine ⟨G1, fun Q => ?_, r3.1, fun _ => ⟨r2.2.1, r2.2.2.2⟩⟩
        rw [rm_parse_17]
        simp (contextual := true) (disch := first | assumption | exact xin_g _ _ _ | exact xin_ar _ | exact xin_sc _ _ | exact xin_cmp | exact xin_and | exact xin_or | exact xinl_g _ _ _ | omega | exact xin_mk (by omega) (by omega) | exact xinl_mk (by omega) (by omega) | exact xbo_0 | exact xbo_1 | exact xin_sl | exact xin_fa | exact xbo_ad | exact xin_bo xbo_ad | exact xin_mb | exact xin_A | exact xin_op | ((repeat refine gN_q ?_ (by omega) (by omega)); assumption)) only [rm_parse_0, rm_parse_1, rm_parse_2, rm_parse_5, rm_parse_6, rm_parse_7, rm_parse_10, rm_parse_11, rm_parse_12, rm_parse_15, rm_parse_16, rm_parse_18, rm_parse_19, rm_parse_22, rm_parse_25, rm_parse_26, rm_parse_27, rm_parse_30, rm_parse_31, rm_parse_32, rm_parse_35, rm_parse_38, rm_parse_39, rm_parse_40, rm_parse_43, rm_parse_46, rm_parse_47, rm_parse_50, rm_parse_53, rm_parse_54, rm_parse_57, rm_parse_58, rm_parse_61, rm_parse_62, rm_parse_65, rm_parse_66, rm_parse_69, rm_parse_70, rm_parse_73, rm_parse_74, rm_parse_75, rm_parse_76, rm_parse_79, rm_parse_80, rm_parse_83, rm_parse_86, rm_parse_87, rm_parse_90, rm_parse_93, rm_parse_94, ↓r1, xg_cell, Option.toList_some, Option.toList_none, List.singleton_append, List.append_nil, List.nil_append, List.cons_append, false_and, if_false, if_true, Int.reduceAdd, Int.reduceSub, Int.reduceMul, Int.reduceNeg, Int.reduceLE, Int.reduceLT, Int.reduceEq, false_implies, true_implies, not_true_eq_false, not_false_eq_true, and_true, true_and, xar_0, xar_1, xar_2, xar_3, xar_4, xar_5, xar_6, xar_7, xar_8, xar_9, xar_10, xar_11, xar_12, hge, h1, m0, m3, m5, h0]
      | cons t T1 =>
        have h0 : ¬ xg G1 33 5 ≤ 0 := by rw [r2.1]; simp only [List.length_cons]; omega
        rw [if_neg (by simp)]
        refine ⟨G1, fun Q => ?_, r3.1, fun q => ?_⟩
        · rw [rm_parse_17]
          simp (contextual := true) (disch := first | assumption | exact xin_g _ _ _ | exact xin_ar _ | exact xin_sc _ _ | exact xin_cmp | exact xin_and | exact xin_or | exact xinl_g _ _ _ | omega | exact xin_mk (by omega) (by omega) | exact xinl_mk (by omega) (by omega) | exact xbo_0 | exact xbo_1 | exact xin_sl | exact xin_fa | exact xbo_ad | exact xin_bo xbo_ad | exact xin_mb | exact xin_A | exact xin_op | ((repeat refine gN_q ?_ (by omega) (by omega)); assumption)) only [rm_parse_0, rm_parse_1, rm_parse_2, rm_parse_5, rm_parse_6, rm_parse_7, rm_parse_10, rm_parse_11, rm_parse_12, rm_parse_15, rm_parse_16, rm_parse_18, rm_parse_19, rm_parse_22, rm_parse_25, rm_parse_26, rm_parse_27, rm_parse_30, rm_parse_31, rm_parse_32, rm_parse_35, rm_parse_38, rm_parse_39, rm_parse_40, rm_parse_43, rm_parse_46, rm_parse_47, rm_parse_50, rm_parse_53, rm_parse_54, rm_parse_57, rm_parse_58, rm_parse_61, rm_parse_62, rm_parse_65, rm_parse_66, rm_parse_69, rm_parse_70, rm_parse_73, rm_parse_74, rm_parse_75, rm_parse_76, rm_parse_79, rm_parse_80, rm_parse_83, rm_parse_86, rm_parse_87, rm_parse_90, rm_parse_93, rm_parse_94, ↓r1, xg_cell, Option.toList_some, Option.toList_none, List.singleton_append, List.append_nil, List.nil_append, List.cons_append, false_and, if_false, if_true, Int.reduceAdd, Int.reduceSub, Int.reduceMul, Int.reduceNeg, Int.reduceLE, Int.reduceLT, Int.reduceEq, false_implies, true_implies, not_true_eq_false, not_false_eq_true, and_true, true_and, xar_0, xar_1, xar_2, xar_3, xar_4, xar_5, xar_6, xar_7, xar_8, xar_9, xar_10, xar_11, xar_12, hge, h1, m0, m3, m5, h0]
          rw [e1, hek]
        · exact absurd (show k = -1 from q) (by omega)
  | succ n ih =>
    intro k G s hP hL k0 hk hl
    have hL' := hL
    obtain ⟨l0, l1, l2⟩ := hL
    have hlt : ¬ xg G 33 1 ≤ k := by omega
    obtain ⟨c0, c1⟩ := l2 k k0 (by omega)
    have hls : s.2.2.2.1.length + s.2.2.2.2.length < 20 := by omega
    obtain ⟨G1, b, r1, r2, r3, r4⟩ := sm_accept (sc := sc) (d := d) (K := K) (m := s.1) (dg := s.2.1) (na := s.2.2.1) (T := s.2.2.2.1) (O := s.2.2.2.2) (c := xg G 34 k) hP hls c0 c1
    have e1 : xg G1 33 1 = xg G 33 1 := r2 33 1 (by omega) (by omega) (by omega) (by omega) (by omega) (by omega)
    show ∃ G' : xG, _
    simp only [mLn, rpar]
    cases ho : racc s (xg G 34 k) with
    | none =>
      have hb : b = 0 := r4 ho
      subst hb
      refine ⟨G1, fun Q => ?_, r2, fun q => ?_⟩
      · rw [rm_parse_17]
        simp (contextual := true) (disch := first | assumption | exact xin_g _ _ _ | exact xin_ar _ | exact xin_sc _ _ | exact xin_cmp | exact xin_and | exact xin_or | exact xinl_g _ _ _ | omega | exact xin_mk (by omega) (by omega) | exact xinl_mk (by omega) (by omega) | exact xbo_0 | exact xbo_1 | exact xin_sl | exact xin_fa | exact xbo_ad | exact xin_bo xbo_ad | exact xin_mb | exact xin_A | exact xin_op | ((repeat refine gN_q ?_ (by omega) (by omega)); assumption)) only [rm_parse_0, rm_parse_1, rm_parse_2, rm_parse_5, rm_parse_6, rm_parse_7, rm_parse_10, rm_parse_11, rm_parse_12, rm_parse_15, rm_parse_16, rm_parse_18, rm_parse_19, rm_parse_22, rm_parse_25, rm_parse_26, rm_parse_27, rm_parse_30, rm_parse_31, rm_parse_32, rm_parse_35, rm_parse_38, rm_parse_39, rm_parse_40, rm_parse_43, rm_parse_46, rm_parse_47, rm_parse_50, rm_parse_53, rm_parse_54, rm_parse_57, rm_parse_58, rm_parse_61, rm_parse_62, rm_parse_65, rm_parse_66, rm_parse_69, rm_parse_70, rm_parse_73, rm_parse_74, rm_parse_75, rm_parse_76, rm_parse_79, rm_parse_80, rm_parse_83, rm_parse_86, rm_parse_87, rm_parse_90, rm_parse_93, rm_parse_94, ↓r1, xg_cell, Option.toList_some, Option.toList_none, List.singleton_append, List.append_nil, List.nil_append, List.cons_append, false_and, if_false, if_true, Int.reduceAdd, Int.reduceSub, Int.reduceMul, Int.reduceNeg, Int.reduceLE, Int.reduceLT, Int.reduceEq, false_implies, true_implies, not_true_eq_false, not_false_eq_true, and_true, true_and, xar_0, xar_1, xar_2, xar_3, xar_4, xar_5, xar_6, xar_7, xar_8, xar_9, xar_10, xar_11, xar_12, hlt]
      · exact absurd (show k = -1 from q) (by omega)
    | some s' =>
      obtain ⟨hb, hP'⟩ := r3 s' ho
      subst hb
      have hle := racc_len ho
      obtain ⟨G2, t1, t2, t3⟩ := ih (k + 1) G1 s' hP' (mLi_fr r2 hL') (by omega) (by omega) (by omega)
      rw [mLn_fr r2 n (k + 1) (by omega)] at t1 t3
      refine ⟨G2, fun Q => ?_, mFr_tr r2 t2, t3⟩
      rw [rm_parse_17]
      simp (contextual := true) (disch := first | assumption | exact xin_g _ _ _ | exact xin_ar _ | exact xin_sc _ _ | exact xin_cmp | exact xin_and | exact xin_or | exact xinl_g _ _ _ | omega | exact xin_mk (by omega) (by omega) | exact xinl_mk (by omega) (by omega) | exact xbo_0 | exact xbo_1 | exact xin_sl | exact xin_fa | exact xbo_ad | exact xin_bo xbo_ad | exact xin_mb | exact xin_A | exact xin_op | ((repeat refine gN_q ?_ (by omega) (by omega)); assumption)) only [rm_parse_0, rm_parse_1, rm_parse_2, rm_parse_5, rm_parse_6, rm_parse_7, rm_parse_10, rm_parse_11, rm_parse_12, rm_parse_15, rm_parse_16, rm_parse_18, rm_parse_19, rm_parse_22, rm_parse_25, rm_parse_26, rm_parse_27, rm_parse_30, rm_parse_31, rm_parse_32, rm_parse_35, rm_parse_38, rm_parse_39, rm_parse_40, rm_parse_43, rm_parse_46, rm_parse_47, rm_parse_50, rm_parse_53, rm_parse_54, rm_parse_57, rm_parse_58, rm_parse_61, rm_parse_62, rm_parse_65, rm_parse_66, rm_parse_69, rm_parse_70, rm_parse_73, rm_parse_74, rm_parse_75, rm_parse_76, rm_parse_79, rm_parse_80, rm_parse_83, rm_parse_86, rm_parse_87, rm_parse_90, rm_parse_93, rm_parse_94, ↓r1, xg_cell, Option.toList_some, Option.toList_none, List.singleton_append, List.append_nil, List.nil_append, List.cons_append, false_and, if_false, if_true, Int.reduceAdd, Int.reduceSub, Int.reduceMul, Int.reduceNeg, Int.reduceLE, Int.reduceLT, Int.reduceEq, false_implies, true_implies, not_true_eq_false, not_false_eq_true, and_true, true_and, xar_0, xar_1, xar_2, xar_3, xar_4, xar_5, xar_6, xar_7, xar_8, xar_9, xar_10, xar_11, xar_12, hlt, t1]
/-- the line, as a list -/
def mLs (G : xG) : List Int := mLn G (xg G 33 1).toNat 0
theorem sm_parse (hL : mLi G) : ∃ (G' : xG) (dg : Int) (na : Nat), (∀ Q : Option Value → am_H → Prop, xc sc (d + 5) Mm_parse [.ref 33] (xH G K) Q ↔ Q (some (xI (rpar (0, dg, na, [], []) (mLs G) 0).1)) (xH G' K)) ∧ mFr G G' ∧ ((rpar (0, dg, na, [], []) (mLs G) 0).1 = -1 → xg G' 33 8 = ((rpar (0, dg, na, [], []) (mLs G) 0).2.length : Int) ∧ mOp G' (rpar (0, dg, na, [], []) (mLs G) 0).2) := by
  have hF : mFr G (xp (xp (xp G 33 2 0) 33 5 0) 33 8 0) := mFr_f (mFr_f (mFr_f mFr_rfl (by omega)) (by omega)) (by omega)
  have hP : mPr (xp (xp (xp G 33 2 0) 33 5 0) 33 8 0) (0, xg G 33 3, 0, [], []) := by
    refine ⟨?_, fun q => noD (m := 0) (by decide) q, ?_, ?_, trivial, ?_⟩
    · rw [xg_idx (by omega) (by omega) (by omega), xg_idx (by omega) (by omega) (by omega), xg_self xin_0]
    · rw [xg_idx (by omega) (by omega) (by omega), xg_self xin_0]; rfl
    · rw [xg_self xin_0]; rfl
    · intro i q hq
      simp at hq
  have e1 : xg (xp (xp (xp G 33 2 0) 33 5 0) 33 8 0) 33 1 = xg G 33 1 := hF 33 1 (by omega) (by omega) (by omega) (by omega) (by omega) (by omega)
  obtain ⟨G', r1, r2, r3⟩ := lm_parse (sc := sc) (d := d) (K := K) (xg G 33 1).toNat 0 _ _ hP (mLi_fr hF hL) (by omega) (by rw [e1]; have := hL.1; omega) (by simp)
  rw [mLn_fr hF _ _ (by omega)] at r1 r3
  refine ⟨G', xg G 33 3, 0, fun Q => ?_, mFr_tr hF r2, r3⟩
  rw [em_parse]
  have r1 := r1 Q
  simp (contextual := true) (disch := first | assumption | exact xin_g _ _ _ | exact xin_ar _ | exact xin_sc _ _ | exact xin_cmp | exact xin_and | exact xin_or | exact xinl_g _ _ _ | omega | exact xin_mk (by omega) (by omega) | exact xinl_mk (by omega) (by omega) | exact xbo_0 | exact xbo_1 | exact xin_sl | exact xin_fa | exact xbo_ad | exact xin_bo xbo_ad | exact xin_mb | exact xin_A | exact xin_op | ((repeat refine gN_q ?_ (by omega) (by omega)); assumption)) only [rm_parse_0, rm_parse_1, rm_parse_2, rm_parse_5, rm_parse_6, rm_parse_7, rm_parse_10, rm_parse_11, rm_parse_12, rm_parse_15, rm_parse_16, xg_cell, Option.toList_some, Option.toList_none, List.singleton_append, List.append_nil, List.nil_append, List.cons_append, false_and, if_false, if_true, Int.reduceAdd, Int.reduceSub, Int.reduceMul, Int.reduceNeg, Int.reduceLE, Int.reduceLT, Int.reduceEq, false_implies, true_implies, not_true_eq_false, not_false_eq_true, and_true, true_and, xar_0, xar_1, xar_2, xar_3, xar_4, xar_5, xar_6, xar_7, xar_8, xar_9, xar_10, xar_11, xar_12]
  exact r1
end SP
