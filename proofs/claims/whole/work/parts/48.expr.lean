/-! the class's parser: digits, letters, and the group that calls itself -/
def gLet (c : Int) (G : xG) : xG := if 117 ≤ c ∧ c ≤ 122 then gAdd (gAdv G) 1 c else if 112 ≤ c ∧ c ≤ 114 then gAdd (gAdv G) 2 c else gBrk G
def gTl (f : xG → xG) : Nat → xG → xG
  | 0, G => G
  | i + 1, G => if gAh G = 42 then gTl f i (gAdd (f (gAdv G)) 6 0) else G
def gT (f : xG → xG) (G : xG) : xG := gTl f 20 (f G)
def gEl (f : xG → xG) : Nat → xG → xG
  | 0, G => G
  | i + 1, G => if gAh G = 43 ∨ gAh G = 45 then gEl f i (gAdd (gT f (gAdv G)) (if gAh G = 43 then 3 else 4) 0) else G
def gE (f : xG → xG) (G : xG) : xG := gEl f 20 (gT f G)
def gAl (e : xG → xG) : Nat → xG → xG
  | 0, G => G
  | n + 1, G => gAl e n (e (gX 44 G))
def gPA (e : xG → xG) (c : Int) (G : xG) : xG := gAdd (gX 41 (gAl e (pcm c) (e (gX 40 G)))) (pfn c) 0
def gHs (G : xG) : xG := xp (gAdv G) 8 3 (if pdg (gAh (gAdv G)) = true then 0 else 1)
def gF : Nat → xG → xG
  | 0, G => gBrk G
  | n + 1, G =>
    if gAh G = 45 then gAdd (gF n (gAdv G)) 5 0
    else if gAh G = 40 then gX 41 (gE (gF n) (gAdv G))
    else if gAh G = 35 then gAdd (gDg 2 0 (gHs G)).2 12 (gDg 2 0 (gHs G)).1
    else if pdg (gAh G) = true then gAdd (gDg 3 0 G).2 0 (gDg 3 0 G).1
    else if ¬ pfn (gAh G) = -1 then gPA (gE (gF n)) (gAh G) (gAdv G)
    else gLet (gAh G) G
theorem okP_let {G : xG} (h : okP G) : okP (gLet (gAh G) G) := by
  unfold gLet
  split
  · exact okP_add (okP_adv h (by omega))
  · split
    · exact okP_add (okP_adv h (by omega))
    · exact okP_brk h
theorem okP_Tl {f : xG → xG} (hf : ∀ G, okP G → okP (f G)) : ∀ (i : Nat) (G : xG), okP G → okP (gTl f i G)
  | 0, G, h => h
  | i + 1, G, h => by
    unfold gTl
    split
    · rename_i hc
      exact okP_Tl hf i _ (okP_add (hf _ (okP_adv h (by omega))))
    · exact h
theorem okP_T {f : xG → xG} (hf : ∀ G, okP G → okP (f G)) (G : xG) (h : okP G) : okP (gT f G) := okP_Tl hf 20 _ (hf G h)
theorem okP_El {f : xG → xG} (hf : ∀ G, okP G → okP (f G)) : ∀ (i : Nat) (G : xG), okP G → okP (gEl f i G)
  | 0, G, h => h
  | i + 1, G, h => by
    unfold gEl
    split
    · rename_i hc
      exact okP_El hf i _ (okP_add (okP_T hf _ (okP_adv h (by omega))))
    · exact h
theorem okP_E {f : xG → xG} (hf : ∀ G, okP G → okP (f G)) (G : xG) (h : okP G) : okP (gE f G) := okP_El hf 20 _ (okP_T hf G h)
theorem okP_Al {e : xG → xG} (he : ∀ G, okP G → okP (e G)) : ∀ (n : Nat) (G : xG), okP G → okP (gAl e n G)
  | 0, G, h => h
  | n + 1, G, h => okP_Al he n _ (he _ (okP_X (by decide) h))
theorem okP_PA {e : xG → xG} (he : ∀ G, okP G → okP (e G)) {c : Int} (G : xG) (h : okP G) : okP (gPA e c G) := okP_add (okP_X (by decide) (okP_Al he _ _ (he _ (okP_X (by decide) h))))
theorem okP_Hs {G : xG} (h : okP G) (hc : ¬ gAh G = 0) : okP (gHs G) := okP_brk (okP_adv h hc)
theorem okP_F : ∀ (n : Nat) (G : xG), okP G → okP (gF n G)
  | 0, G, h => okP_brk h
  | n + 1, G, h => by
    unfold gF
    split
    · exact okP_add (okP_F n _ (okP_adv h (by omega)))
    · split
      · exact okP_X (by decide) (okP_E (okP_F n) _ (okP_adv h (by omega)))
      · split
        · exact okP_add (okP_dg _ _ _ (okP_Hs h (by omega)))
        · split
          · exact okP_add (okP_dg _ _ _ h)
          · split
            · rename_i hq
              refine okP_PA (okP_E (okP_F n)) _ (okP_adv h (fun z => hq ?_))
              rw [z]; decide
            · exact okP_let h
section SP
variable {sc : Nat × (Nat → Int32)} {d : Nat} {Q : Option Value → am_H → Prop} {G : xG} {K : xK} {h : am_H}
theorem lR_digits {m : Int} (hm : m ≤ 3) : ∀ (n : Nat) (i v : Int) (G : xG), okP G → 0 ≤ i → i + n = m → (xw sc (d + 1) MR_parseDigits cR_parseDigits_4 [some (.ref 8), some (xI m), some (xI v), some (xI i)] [] (xH G K) Q ↔ Q (some (xI (gDg n v G).1)) (xH (gDg n v G).2 K)) := by
  intro n
  induction n with
  | zero =>
    intro i v G hP h0 h1
    rw [rR_parseDigits_4]
    simp (contextual := true) (disch := first | assumption | exact xin_g _ _ _ | exact xin_ar _ | exact xin_sc _ _ | exact xin_cmp | exact xin_and | exact xin_or | exact xinl_g _ _ _ | omega | exact xin_mk (by omega) (by omega) | exact xinl_mk (by omega) (by omega) | exact xbo_0 | exact xbo_1 | exact xin_sl | exact xin_fa | exact xbo_ad | exact xin_bo xbo_ad | exact xin_mb | exact xin_A | exact xin_op | ((repeat refine gN_q ?_ (by omega) (by omega)); assumption)) only [rR_parseDigits_0, rR_parseDigits_1, rR_parseDigits_2, rR_parseDigits_3, rR_parseDigits_5, rR_parseDigits_6, rR_parseDigits_9, rR_parseDigits_10, rR_parseDigits_13, rR_parseDigits_16, rR_parseDigits_19, rR_parseDigits_21, rR_parseDigits_22, rR_parseDigits_23, rR_parseDigits_24, rR_parseDigits_27, rR_parseDigits_29, rR_parseDigits_30, rR_parseDigits_31, rR_parseDigits_32, rR_parseDigits_33, rR_parseDigits_34, rR_parseDigits_37, rR_parseDigits_38, rR_parseDigits_39, rR_parseDigits_42, rR_parseDigits_45, rR_parseDigits_48, rR_parseDigits_49, ↓sR_ahead, ↓sR_isDigit, xg_cell, Option.toList_some, Option.toList_none, List.singleton_append, List.append_nil, List.nil_append, List.cons_append, false_and, if_false, if_true, Int.reduceAdd, Int.reduceSub, Int.reduceMul, Int.reduceNeg, Int.reduceLE, Int.reduceLT, Int.reduceEq, false_implies, true_implies, not_true_eq_false, not_false_eq_true, and_true, true_and, xar_0, xar_1, xar_2, xar_3, xar_4, xar_5, xar_6, xar_7, xar_8, xar_9, xar_10, xar_11, xar_12, gDg]
    grind
  | succ n ih =>
    intro i v G hP h0 h1
    have hlt : ¬ m ≤ i := by omega
    obtain ⟨a0, a1⟩ := okP_ah hP
    rw [rR_parseDigits_4]
    by_cases hd : pdg (gAh G) = true
    · have ih' := ih (i + 1) (10 * v + (gAh G - 48)) (gAdv G) (okP_adv hP (pdg_nz hd).1) (by omega) (by omega)
      have e1 : gDg (n + 1) v G = gDg n (10 * v + (gAh G - 48)) (gAdv G) := by
        show (if pdg (gAh G) = true then _ else _) = _
        rw [if_pos hd]
      rw [e1]
      change xw sc (d + 1) MR_parseDigits cR_parseDigits_4 [some (.ref 8), some (xI m), some (xI (10 * v + (gAh G - 48))), some (xI (i + 1))] [] (xH (xp G 8 2 (xg G 8 2 + 1)) K) Q ↔ _ at ih'
      simp (contextual := true) (disch := first | assumption | exact xin_g _ _ _ | exact xin_ar _ | exact xin_sc _ _ | exact xin_cmp | exact xin_and | exact xin_or | exact xinl_g _ _ _ | omega | exact xin_mk (by omega) (by omega) | exact xinl_mk (by omega) (by omega) | exact xbo_0 | exact xbo_1 | exact xin_sl | exact xin_fa | exact xbo_ad | exact xin_bo xbo_ad | exact xin_mb | exact xin_A | exact xin_op | ((repeat refine gN_q ?_ (by omega) (by omega)); assumption)) only [rR_parseDigits_0, rR_parseDigits_1, rR_parseDigits_2, rR_parseDigits_3, rR_parseDigits_5, rR_parseDigits_6, rR_parseDigits_9, rR_parseDigits_10, rR_parseDigits_13, rR_parseDigits_16, rR_parseDigits_19, rR_parseDigits_21, rR_parseDigits_22, rR_parseDigits_23, rR_parseDigits_24, rR_parseDigits_27, rR_parseDigits_29, rR_parseDigits_30, rR_parseDigits_31, rR_parseDigits_32, rR_parseDigits_33, rR_parseDigits_34, rR_parseDigits_37, rR_parseDigits_38, rR_parseDigits_39, rR_parseDigits_42, rR_parseDigits_45, rR_parseDigits_48, rR_parseDigits_49, ↓sR_ahead, ↓sR_isDigit, xg_cell, Option.toList_some, Option.toList_none, List.singleton_append, List.append_nil, List.nil_append, List.cons_append, false_and, if_false, if_true, Int.reduceAdd, Int.reduceSub, Int.reduceMul, Int.reduceNeg, Int.reduceLE, Int.reduceLT, Int.reduceEq, false_implies, true_implies, not_true_eq_false, not_false_eq_true, and_true, true_and, xar_0, xar_1, xar_2, xar_3, xar_4, xar_5, xar_6, xar_7, xar_8, xar_9, xar_10, xar_11, xar_12, hlt, hd, ih']
    · have e1 : gDg (n + 1) v G = (v, G) := by
        show (if pdg (gAh G) = true then _ else _) = _
        rw [if_neg hd]
      rw [e1]
      simp (contextual := true) (disch := first | assumption | exact xin_g _ _ _ | exact xin_ar _ | exact xin_sc _ _ | exact xin_cmp | exact xin_and | exact xin_or | exact xinl_g _ _ _ | omega | exact xin_mk (by omega) (by omega) | exact xinl_mk (by omega) (by omega) | exact xbo_0 | exact xbo_1 | exact xin_sl | exact xin_fa | exact xbo_ad | exact xin_bo xbo_ad | exact xin_mb | exact xin_A | exact xin_op | ((repeat refine gN_q ?_ (by omega) (by omega)); assumption)) only [rR_parseDigits_0, rR_parseDigits_1, rR_parseDigits_2, rR_parseDigits_3, rR_parseDigits_5, rR_parseDigits_6, rR_parseDigits_9, rR_parseDigits_10, rR_parseDigits_13, rR_parseDigits_16, rR_parseDigits_19, rR_parseDigits_21, rR_parseDigits_22, rR_parseDigits_23, rR_parseDigits_24, rR_parseDigits_27, rR_parseDigits_29, rR_parseDigits_30, rR_parseDigits_31, rR_parseDigits_32, rR_parseDigits_33, rR_parseDigits_34, rR_parseDigits_37, rR_parseDigits_38, rR_parseDigits_39, rR_parseDigits_42, rR_parseDigits_45, rR_parseDigits_48, rR_parseDigits_49, ↓sR_ahead, ↓sR_isDigit, xg_cell, Option.toList_some, Option.toList_none, List.singleton_append, List.append_nil, List.nil_append, List.cons_append, false_and, if_false, if_true, Int.reduceAdd, Int.reduceSub, Int.reduceMul, Int.reduceNeg, Int.reduceLE, Int.reduceLT, Int.reduceEq, false_implies, true_implies, not_true_eq_false, not_false_eq_true, and_true, true_and, xar_0, xar_1, xar_2, xar_3, xar_4, xar_5, xar_6, xar_7, xar_8, xar_9, xar_10, xar_11, xar_12, hlt, hd, Bool.false_eq_true]
theorem sR_parseDigits {n : Nat} (hm : n ≤ 3) (hP : okP G) : xc sc (d + 1) MR_parseDigits [.ref 8, xI n] (xH G K) Q ↔ Q (some (xI (gDg n 0 G).1)) (xH (gDg n 0 G).2 K) := by
  rw [eR_parseDigits]
  simp (contextual := true) (disch := first | assumption | exact xin_g _ _ _ | exact xin_ar _ | exact xin_sc _ _ | exact xin_cmp | exact xin_and | exact xin_or | exact xinl_g _ _ _ | omega | exact xin_mk (by omega) (by omega) | exact xinl_mk (by omega) (by omega) | exact xbo_0 | exact xbo_1 | exact xin_sl | exact xin_fa | exact xbo_ad | exact xin_bo xbo_ad | exact xin_mb | exact xin_A | exact xin_op | ((repeat refine gN_q ?_ (by omega) (by omega)); assumption)) only [rR_parseDigits_0, rR_parseDigits_1, rR_parseDigits_2, rR_parseDigits_3]
  exact lR_digits (m := n) (by omega) n 0 0 G hP (by omega) (by omega)
theorem sR_parseLetter (hP : okP G) : xc sc (d + 1) MR_parseLetter [.ref 8, xI (gAh G)] (xH G K) Q ↔ Q none (xH (gLet (gAh G) G) K) := by
  rw [eR_parseLetter]
  obtain ⟨a0, a1⟩ := okP_ah hP
  have hA : ¬ gAh G = 0 → okP (xp G 8 2 (xg G 8 2 + 1)) := okP_adv hP
  by_cases h1 : 117 ≤ gAh G ∧ gAh G ≤ 122
  · have hA' := hA (by omega)
    simp (contextual := true) (disch := first | assumption | exact xin_g _ _ _ | exact xin_ar _ | exact xin_sc _ _ | exact xin_cmp | exact xin_and | exact xin_or | exact xinl_g _ _ _ | omega | exact xin_mk (by omega) (by omega) | exact xinl_mk (by omega) (by omega) | exact xbo_0 | exact xbo_1 | exact xin_sl | exact xin_fa | exact xbo_ad | exact xin_bo xbo_ad | exact xin_mb | exact xin_A | exact xin_op | ((repeat refine gN_q ?_ (by omega) (by omega)); assumption)) only [rR_parseLetter_0, rR_parseLetter_1, rR_parseLetter_3, rR_parseLetter_6, rR_parseLetter_7, rR_parseLetter_9, rR_parseLetter_12, rR_parseLetter_13, rR_parseLetter_14, rR_parseLetter_17, rR_parseLetter_18, rR_parseLetter_19, rR_parseLetter_22, rR_parseLetter_23, rR_parseLetter_26, rR_parseLetter_27, rR_parseLetter_28, rR_parseLetter_31, rR_parseLetter_34, rR_parseLetter_35, rR_parseLetter_37, rR_parseLetter_40, rR_parseLetter_41, rR_parseLetter_43, rR_parseLetter_46, rR_parseLetter_47, rR_parseLetter_48, rR_parseLetter_51, rR_parseLetter_52, rR_parseLetter_53, rR_parseLetter_56, rR_parseLetter_57, rR_parseLetter_60, rR_parseLetter_61, rR_parseLetter_62, rR_parseLetter_65, rR_parseLetter_68, rR_parseLetter_69, rR_parseLetter_70, rR_parseLetter_73, ↓sS_addP, xg_cell, Option.toList_some, Option.toList_none, List.singleton_append, List.append_nil, List.nil_append, List.cons_append, false_and, if_false, if_true, Int.reduceAdd, Int.reduceSub, Int.reduceMul, Int.reduceNeg, Int.reduceLE, Int.reduceLT, Int.reduceEq, false_implies, true_implies, not_true_eq_false, not_false_eq_true, and_true, true_and, xar_0, xar_1, xar_2, xar_3, xar_4, xar_5, xar_6, xar_7, xar_8, xar_9, xar_10, xar_11, xar_12, gLet, gAdv, gBrk, h1]
    grind
  · by_cases h2 : 112 ≤ gAh G ∧ gAh G ≤ 114
    · have hA' := hA (by omega)
      simp (contextual := true) (disch := first | assumption | exact xin_g _ _ _ | exact xin_ar _ | exact xin_sc _ _ | exact xin_cmp | exact xin_and | exact xin_or | exact xinl_g _ _ _ | omega | exact xin_mk (by omega) (by omega) | exact xinl_mk (by omega) (by omega) | exact xbo_0 | exact xbo_1 | exact xin_sl | exact xin_fa | exact xbo_ad | exact xin_bo xbo_ad | exact xin_mb | exact xin_A | exact xin_op | ((repeat refine gN_q ?_ (by omega) (by omega)); assumption)) only [rR_parseLetter_0, rR_parseLetter_1, rR_parseLetter_3, rR_parseLetter_6, rR_parseLetter_7, rR_parseLetter_9, rR_parseLetter_12, rR_parseLetter_13, rR_parseLetter_14, rR_parseLetter_17, rR_parseLetter_18, rR_parseLetter_19, rR_parseLetter_22, rR_parseLetter_23, rR_parseLetter_26, rR_parseLetter_27, rR_parseLetter_28, rR_parseLetter_31, rR_parseLetter_34, rR_parseLetter_35, rR_parseLetter_37, rR_parseLetter_40, rR_parseLetter_41, rR_parseLetter_43, rR_parseLetter_46, rR_parseLetter_47, rR_parseLetter_48, rR_parseLetter_51, rR_parseLetter_52, rR_parseLetter_53, rR_parseLetter_56, rR_parseLetter_57, rR_parseLetter_60, rR_parseLetter_61, rR_parseLetter_62, rR_parseLetter_65, rR_parseLetter_68, rR_parseLetter_69, rR_parseLetter_70, rR_parseLetter_73, ↓sS_addP, xg_cell, Option.toList_some, Option.toList_none, List.singleton_append, List.append_nil, List.nil_append, List.cons_append, false_and, if_false, if_true, Int.reduceAdd, Int.reduceSub, Int.reduceMul, Int.reduceNeg, Int.reduceLE, Int.reduceLT, Int.reduceEq, false_implies, true_implies, not_true_eq_false, not_false_eq_true, and_true, true_and, xar_0, xar_1, xar_2, xar_3, xar_4, xar_5, xar_6, xar_7, xar_8, xar_9, xar_10, xar_11, xar_12, gLet, gAdv, gBrk, h1, h2]
      grind
    · simp (contextual := true) (disch := first | assumption | exact xin_g _ _ _ | exact xin_ar _ | exact xin_sc _ _ | exact xin_cmp | exact xin_and | exact xin_or | exact xinl_g _ _ _ | omega | exact xin_mk (by omega) (by omega) | exact xinl_mk (by omega) (by omega) | exact xbo_0 | exact xbo_1 | exact xin_sl | exact xin_fa | exact xbo_ad | exact xin_bo xbo_ad | exact xin_mb | exact xin_A | exact xin_op | ((repeat refine gN_q ?_ (by omega) (by omega)); assumption)) only [rR_parseLetter_0, rR_parseLetter_1, rR_parseLetter_3, rR_parseLetter_6, rR_parseLetter_7, rR_parseLetter_9, rR_parseLetter_12, rR_parseLetter_13, rR_parseLetter_14, rR_parseLetter_17, rR_parseLetter_18, rR_parseLetter_19, rR_parseLetter_22, rR_parseLetter_23, rR_parseLetter_26, rR_parseLetter_27, rR_parseLetter_28, rR_parseLetter_31, rR_parseLetter_34, rR_parseLetter_35, rR_parseLetter_37, rR_parseLetter_40, rR_parseLetter_41, rR_parseLetter_43, rR_parseLetter_46, rR_parseLetter_47, rR_parseLetter_48, rR_parseLetter_51, rR_parseLetter_52, rR_parseLetter_53, rR_parseLetter_56, rR_parseLetter_57, rR_parseLetter_60, rR_parseLetter_61, rR_parseLetter_62, rR_parseLetter_65, rR_parseLetter_68, rR_parseLetter_69, rR_parseLetter_70, rR_parseLetter_73, ↓sS_addP, xg_cell, Option.toList_some, Option.toList_none, List.singleton_append, List.append_nil, List.nil_append, List.cons_append, false_and, if_false, if_true, Int.reduceAdd, Int.reduceSub, Int.reduceMul, Int.reduceNeg, Int.reduceLE, Int.reduceLT, Int.reduceEq, false_implies, true_implies, not_true_eq_false, not_false_eq_true, and_true, true_and, xar_0, xar_1, xar_2, xar_3, xar_4, xar_5, xar_6, xar_7, xar_8, xar_9, xar_10, xar_11, xar_12, gLet, gAdv, gBrk, h1, h2]
      grind
end SP
