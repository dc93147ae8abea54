/-! the reference's parser: accept, parse -/
theorem racc_len {s s' : rS} {c : Int} (h : racc s c = some s') : s'.2.2.2.1.length + s'.2.2.2.2.length ≤ s.2.2.2.1.length + s.2.2.2.2.length + 1 := by
  obtain ⟨m, dg, na, T, O⟩ := s
  unfold racc at h
  simp only at h ⊢
  by_cases h5 : m = 5
  · rw [if_pos h5] at h
    split at h
    · cases h; simp
    · cases h
  · rw [if_neg h5] at h
    by_cases h3 : m = 3
    · rw [if_pos h3] at h
      split at h
      · cases h
        have := ropd_len (T := T) (O := O) (k := 12) (v := c - 48)
        simp only at this ⊢
        omega
      · cases h
    · rw [if_neg h3] at h
      by_cases h2 : pdg c = true ∧ (m = 2 ∨ m = 4)
      · rw [if_pos h2] at h
        by_cases hle : dg + 1 ≤ (if m = 2 then 3 else 2)
        · rw [if_pos hle] at h
          cases h
          simp only [pmod_len]
          omega
        · rw [if_neg hle] at h
          cases h
      · rw [if_neg h2] at h
        by_cases h0 : m = 0
        · rw [if_pos h0] at h
          unfold rbeg at h
          simp only at h
          split at h
          · cases h
            have := ropd_len (T := T) (O := O) (k := 0) (v := c - 48)
            simp only at this ⊢
            omega
          · split at h
            · cases h
              have := ropd_len (T := T) (O := O) (k := if 117 ≤ c then 1 else 2) (v := c)
              simp only at this ⊢
              omega
            · split at h
              · cases h; simp
              · split at h
                · cases h; simp; omega
                · split at h
                  · cases h; simp; omega
                  · cases h
        · rw [if_neg h0] at h
          unfold rfol at h
          simp only at h
          split at h
          · cases h
            have := runw_len (all := decide (¬ c = 42)) T O
            simp only [List.length_cons]
            omega
          · split at h
            · have hr := runw_len (all := true) T O
              generalize runw true T O = X at h hr
              obtain ⟨T1, O1⟩ := X
              cases T1 with
              | nil => cases h
              | cons t T1 =>
                obtain ⟨b, k⟩ := t
                simp only [rcl] at h
                simp only [List.length_cons] at hr
                split at h
                · split at h
                  · cases h; simp only [List.length_cons]; omega
                  · cases h
                    rw [rneg_len]
                    split
                    · omega
                    · simp only [List.length_append, List.length_cons, List.length_nil]; omega
                · cases h
            · cases h
section SP
variable {sc : Nat × (Nat → Int32)} {d : Nat} {Q : Option Value → am_H → Prop} {G : xG} {K : xK} {h : am_H}
theorem sm_accept {m dg c : Int} {na : Nat} {T O : pL} (hP : mPr G (m, dg, na, T, O)) (hl : T.length + O.length < 20) (c0 : 0 ≤ c) (c1 : c < 65536) : mStp sc (d + 4) Mm_accept K G c (racc (m, dg, na, T, O) c) := by
  have hP' := hP
  obtain ⟨h1, h2, h3⟩ := hP'
  have h1 : xg G 33 2 = m := h1
  have h3 : mPo G T O := h3
  have h2 : (m = 2 ∨ m = 4) → mDg G dg na O := h2
  have hcx : xin c := ⟨by omega, by omega⟩
  have hmx : xin m := by rw [← h1]; exact xin_g _ _ _
  have hdg : ∀ (e : Nat) (L : List (Option Value)) (Q : Option Value → am_H → Prop), (xw sc (d + 4) Mm_accept cm_accept_0 [some (.ref 33), some (xI c), none] [] (xH G K) Q ↔ xw sc (d + 4) Mm_accept cm_accept_18 [some (.ref 33), some (xI c), some (xI (if pdg c = true then 1 else 0))] [] (xH G K) Q) := by
    intro e L Q
    have e1 : pdg c = true ↔ 48 ≤ c ∧ c ≤ 57 := by simp only [pdg, Bool.and_eq_true, decide_eq_true_eq]
    by_cases a1 : c < 48
    · rw [if_neg (by rw [e1]; omega)]
      simp (contextual := true) (disch := first | assumption | exact xin_g _ _ _ | exact xin_ar _ | exact xin_sc _ _ | exact xin_cmp | exact xin_and | exact xin_or | exact xinl_g _ _ _ | omega | exact xin_mk (by omega) (by omega) | exact xinl_mk (by omega) (by omega) | exact xbo_0 | exact xbo_1 | exact xin_sl | exact xin_fa | exact xbo_ad | exact xin_bo xbo_ad | exact xin_mb | exact xin_A | exact xin_op | ((repeat refine gN_q ?_ (by omega) (by omega)); assumption)) only [rm_accept_0, rm_accept_1, rm_accept_3, rm_accept_6, rm_accept_7, rm_accept_9, rm_accept_12, rm_accept_13, rm_accept_16, rm_accept_17, xg_cell, Option.toList_some, Option.toList_none, List.singleton_append, List.append_nil, List.nil_append, List.cons_append, false_and, if_false, if_true, Int.reduceAdd, Int.reduceSub, Int.reduceMul, Int.reduceNeg, Int.reduceLE, Int.reduceLT, Int.reduceEq, false_implies, true_implies, not_true_eq_false, not_false_eq_true, and_true, true_and, xar_0, xar_1, xar_2, xar_3, xar_4, xar_5, xar_6, xar_7, xar_8, xar_9, xar_10, xar_11, xar_12, a1]
    · by_cases a2 : 57 < c
      · rw [if_neg (by rw [e1]; omega)]
        simp (contextual := true) (disch := first | assumption | exact xin_g _ _ _ | exact xin_ar _ | exact xin_sc _ _ | exact xin_cmp | exact xin_and | exact xin_or | exact xinl_g _ _ _ | omega | exact xin_mk (by omega) (by omega) | exact xinl_mk (by omega) (by omega) | exact xbo_0 | exact xbo_1 | exact xin_sl | exact xin_fa | exact xbo_ad | exact xin_bo xbo_ad | exact xin_mb | exact xin_A | exact xin_op | ((repeat refine gN_q ?_ (by omega) (by omega)); assumption)) only [rm_accept_0, rm_accept_1, rm_accept_3, rm_accept_6, rm_accept_7, rm_accept_9, rm_accept_12, rm_accept_13, rm_accept_16, rm_accept_17, xg_cell, Option.toList_some, Option.toList_none, List.singleton_append, List.append_nil, List.nil_append, List.cons_append, false_and, if_false, if_true, Int.reduceAdd, Int.reduceSub, Int.reduceMul, Int.reduceNeg, Int.reduceLE, Int.reduceLT, Int.reduceEq, false_implies, true_implies, not_true_eq_false, not_false_eq_true, and_true, true_and, xar_0, xar_1, xar_2, xar_3, xar_4, xar_5, xar_6, xar_7, xar_8, xar_9, xar_10, xar_11, xar_12, a1, a2]
      · rw [if_pos (by rw [e1]; omega)]
        simp (contextual := true) (disch := first | assumption | exact xin_g _ _ _ | exact xin_ar _ | exact xin_sc _ _ | exact xin_cmp | exact xin_and | exact xin_or | exact xinl_g _ _ _ | omega | exact xin_mk (by omega) (by omega) | exact xinl_mk (by omega) (by omega) | exact xbo_0 | exact xbo_1 | exact xin_sl | exact xin_fa | exact xbo_ad | exact xin_bo xbo_ad | exact xin_mb | exact xin_A | exact xin_op | ((repeat refine gN_q ?_ (by omega) (by omega)); assumption)) only [rm_accept_0, rm_accept_1, rm_accept_3, rm_accept_6, rm_accept_7, rm_accept_9, rm_accept_12, rm_accept_13, rm_accept_16, rm_accept_17, xg_cell, Option.toList_some, Option.toList_none, List.singleton_append, List.append_nil, List.nil_append, List.cons_append, false_and, if_false, if_true, Int.reduceAdd, Int.reduceSub, Int.reduceMul, Int.reduceNeg, Int.reduceLE, Int.reduceLT, Int.reduceEq, false_implies, true_implies, not_true_eq_false, not_false_eq_true, and_true, true_and, xar_0, xar_1, xar_2, xar_3, xar_4, xar_5, xar_6, xar_7, xar_8, xar_9, xar_10, xar_11, xar_12, a1, a2]
  have hdg := fun (Q : Option Value → am_H → Prop) => hdg 0 [] Q
  have hdb : xbo (if pdg c = true then 1 else 0) := by
    split
    · exact Or.inr rfl
    · exact Or.inl rfl
  have hdx := xin_bo hdb
  unfold racc
  simp only
  by_cases k5 : m = 5
  · rw [if_pos k5]
    rw [k5] at h1
    by_cases k40 : c = 40
    · rw [if_pos k40]
      refine ⟨xp G 33 2 0, 1, fun Q => ?_, mFr_f mFr_rfl (by omega), fun s' hs => ⟨rfl, ?_⟩, fun q => by cases q⟩
      · rw [em_accept, hdg]
        simp (contextual := true) (disch := first | assumption | exact xin_g _ _ _ | exact xin_ar _ | exact xin_sc _ _ | exact xin_cmp | exact xin_and | exact xin_or | exact xinl_g _ _ _ | omega | exact xin_mk (by omega) (by omega) | exact xinl_mk (by omega) (by omega) | exact xbo_0 | exact xbo_1 | exact xin_sl | exact xin_fa | exact xbo_ad | exact xin_bo xbo_ad | exact xin_mb | exact xin_A | exact xin_op | ((repeat refine gN_q ?_ (by omega) (by omega)); assumption)) only [rm_accept_18, rm_accept_19, rm_accept_22, rm_accept_23, rm_accept_26, rm_accept_27, rm_accept_28, rm_accept_31, rm_accept_32, rm_accept_34, rm_accept_37, rm_accept_38, rm_accept_41, rm_accept_42, xg_cell, Option.toList_some, Option.toList_none, List.singleton_append, List.append_nil, List.nil_append, List.cons_append, false_and, if_false, if_true, Int.reduceAdd, Int.reduceSub, Int.reduceMul, Int.reduceNeg, Int.reduceLE, Int.reduceLT, Int.reduceEq, false_implies, true_implies, not_true_eq_false, not_false_eq_true, and_true, true_and, xar_0, xar_1, xar_2, xar_3, xar_4, xar_5, xar_6, xar_7, xar_8, xar_9, xar_10, xar_11, xar_12, h1, k40]
      · cases hs
        exact ⟨xg_self xin_0, fun q => noD (m := 0) (by decide) q, mPo_f h3 (by omega)⟩
    · rw [if_neg k40]
      refine ⟨xp G 33 2 0, 0, fun Q => ?_, mFr_f mFr_rfl (by omega), fun s' hs => (by cases hs), fun _ => rfl⟩
      rw [em_accept, hdg]
      simp (contextual := true) (disch := first | assumption | exact xin_g _ _ _ | exact xin_ar _ | exact xin_sc _ _ | exact xin_cmp | exact xin_and | exact xin_or | exact xinl_g _ _ _ | omega | exact xin_mk (by omega) (by omega) | exact xinl_mk (by omega) (by omega) | exact xbo_0 | exact xbo_1 | exact xin_sl | exact xin_fa | exact xbo_ad | exact xin_bo xbo_ad | exact xin_mb | exact xin_A | exact xin_op | ((repeat refine gN_q ?_ (by omega) (by omega)); assumption)) only [rm_accept_18, rm_accept_19, rm_accept_22, rm_accept_23, rm_accept_26, rm_accept_27, rm_accept_28, rm_accept_31, rm_accept_32, rm_accept_34, rm_accept_37, rm_accept_38, rm_accept_41, rm_accept_42, xg_cell, Option.toList_some, Option.toList_none, List.singleton_append, List.append_nil, List.nil_append, List.cons_append, false_and, if_false, if_true, Int.reduceAdd, Int.reduceSub, Int.reduceMul, Int.reduceNeg, Int.reduceLE, Int.reduceLT, Int.reduceEq, false_implies, true_implies, not_true_eq_false, not_false_eq_true, and_true, true_and, xar_0, xar_1, xar_2, xar_3, xar_4, xar_5, xar_6, xar_7, xar_8, xar_9, xar_10, xar_11, xar_12, h1, k40]
  · rw [if_neg k5]
    by_cases k3 : m = 3
    · rw [if_pos k3]
      rw [k3] at h1
      obtain ⟨G1, r1, r2, r3, r4, r5, r6⟩ := sm_operand (sc := sc) (d := d + 1) (K := K) (k := 12) (v := c - 48) h3 ⟨by decide, by decide⟩ ⟨by omega, by omega⟩ hl
      refine ⟨xp (xp G1 33 3 1) 33 2 4, if pdg c = true then 1 else 0, fun Q => ?_, mFr_f (mFr_f r3 (by omega)) (by omega), fun s' hs => ?_, fun q => ?_⟩
      · rw [em_accept, hdg]
        simp (contextual := true) (disch := first | assumption | exact xin_g _ _ _ | exact xin_ar _ | exact xin_sc _ _ | exact xin_cmp | exact xin_and | exact xin_or | exact xinl_g _ _ _ | omega | exact xin_mk (by omega) (by omega) | exact xinl_mk (by omega) (by omega) | exact xbo_0 | exact xbo_1 | exact xin_sl | exact xin_fa | exact xbo_ad | exact xin_bo xbo_ad | exact xin_mb | exact xin_A | exact xin_op | ((repeat refine gN_q ?_ (by omega) (by omega)); assumption)) only [rm_accept_18, rm_accept_19, rm_accept_22, rm_accept_23, rm_accept_26, rm_accept_27, rm_accept_28, rm_accept_31, rm_accept_32, rm_accept_34, rm_accept_37, rm_accept_38, rm_accept_41, rm_accept_42, rm_accept_43, rm_accept_44, rm_accept_47, rm_accept_48, rm_accept_51, rm_accept_52, rm_accept_54, rm_accept_55, rm_accept_57, rm_accept_58, rm_accept_61, rm_accept_62, rm_accept_63, rm_accept_66, rm_accept_67, rm_accept_68, rm_accept_71, rm_accept_72, ↓r1, xg_cell, Option.toList_some, Option.toList_none, List.singleton_append, List.append_nil, List.nil_append, List.cons_append, false_and, if_false, if_true, Int.reduceAdd, Int.reduceSub, Int.reduceMul, Int.reduceNeg, Int.reduceLE, Int.reduceLT, Int.reduceEq, false_implies, true_implies, not_true_eq_false, not_false_eq_true, and_true, true_and, xar_0, xar_1, xar_2, xar_3, xar_4, xar_5, xar_6, xar_7, xar_8, xar_9, xar_10, xar_11, xar_12, h1]
      · by_cases hd : pdg c = true
        · rw [if_pos hd] at hs ⊢
          cases hs
          obtain ⟨z0, z1, z2⟩ := pdg_nz hd
          refine ⟨rfl, xg_self ⟨by decide, by decide⟩, fun _ => ⟨?_, ?_, Int.le_refl 1, show (1 : Int) ≤ 3 by decide, (12, c - 48), ropd_at, by show 0 ≤ c - 48; omega, fun _ => by show c - 48 < 10; omega, fun _ => by show c - 48 < 100; omega, by show c - 48 < 1000; omega⟩, mPo_f (mPo_f r2 (by omega)) (by omega)⟩
          · rw [xg_idx (by omega) (by omega) (by omega), xg_self ⟨by decide, by decide⟩]
          · rw [xg_idx (by omega) (by omega) (by omega), xg_idx (by omega) (by omega) (by omega)]; exact r6
        · rw [if_neg hd] at hs
          cases hs
      · by_cases hd : pdg c = true
        · rw [if_pos hd] at q
          cases q
        · rw [if_neg hd]
    · rw [if_neg k3]
      by_cases k2 : pdg c = true ∧ (m = 2 ∨ m = 4)
      · rw [if_pos k2]
        obtain ⟨g1, g2, g3, g4, q, g5, g6, g7, g8, g9⟩ := h2 k2.2
        obtain ⟨z0, z1, z2⟩ := pdg_nz k2.1
        have hna : na < O.length := by
          rcases Nat.lt_or_ge na O.length with z | z
          · exact z
          · rw [List.getElem?_eq_none z] at g5; cases g5
        have g5' := h3.2.2.2 na q g5
        have hx : xin (q.2 * 10 + c - 48) := ⟨by omega, by omega⟩
        have w38 : xg G 38 (xg G 33 4) = q.2 := by rw [g2]; exact g5'.2
        have w0 : 0 ≤ xg G 33 4 := by omega
        have w1 : xg G 33 4 < 20 := by omega
        rw [if_pos k2.1] at hdg
        have hmm : m = 2 ∨ m = 4 := k2.2
        have e3 : xg (xp G 38 (xg G 33 4) (q.2 * 10 + c - 48)) 33 3 = dg := by rw [xg_cell (by decide)]; exact g1
        have e4 : xg (xp (xp G 38 (xg G 33 4) (q.2 * 10 + c - 48)) 33 3 (dg + 1)) 33 3 = dg + 1 := xg_self ⟨by omega, by omega⟩
        have e5 : xg (xp (xp G 38 (xg G 33 4) (q.2 * 10 + c - 48)) 33 3 (dg + 1)) 33 2 = m := by rw [xg_idx (by omega) (by omega) (by omega), xg_cell (by decide)]; exact h1
        refine ⟨xp (xp G 38 (xg G 33 4) (q.2 * 10 + c - 48)) 33 3 (dg + 1), if dg + 1 ≤ (if m = 2 then 3 else 2) then 1 else 0, fun Q => ?_, mFr_f (mFr_c mFr_rfl (by omega)) (by omega), fun s' hs => ?_, fun hn => ?_⟩
        · rw [em_accept, hdg]
          rcases hmm with hmm | hmm
          · have e6 : (if dg + 1 ≤ (if m = 2 then (3 : Int) else 2) then (1 : Int) else 0) = if dg + 1 ≤ 3 then 1 else 0 := by rw [if_pos hmm]
            rw [e6]
            rw [hmm] at h1 e5
            by_cases hle : dg + 1 ≤ 3
            · rw [if_pos hle]
              have hle' : ¬ 3 < dg + 1 := by omega
              simp (contextual := true) (disch := first | assumption | exact xin_g _ _ _ | exact xin_ar _ | exact xin_sc _ _ | exact xin_cmp | exact xin_and | exact xin_or | exact xinl_g _ _ _ | omega | exact xin_mk (by omega) (by omega) | exact xinl_mk (by omega) (by omega) | exact xbo_0 | exact xbo_1 | exact xin_sl | exact xin_fa | exact xbo_ad | exact xin_bo xbo_ad | exact xin_mb | exact xin_A | exact xin_op | ((repeat refine gN_q ?_ (by omega) (by omega)); assumption)) only [rm_accept_18, rm_accept_19, rm_accept_22, rm_accept_23, rm_accept_26, rm_accept_27, rm_accept_28, rm_accept_31, rm_accept_32, rm_accept_34, rm_accept_37, rm_accept_38, rm_accept_41, rm_accept_42, rm_accept_43, rm_accept_44, rm_accept_47, rm_accept_48, rm_accept_51, rm_accept_52, rm_accept_54, rm_accept_55, rm_accept_57, rm_accept_58, rm_accept_61, rm_accept_62, rm_accept_63, rm_accept_66, rm_accept_67, rm_accept_68, rm_accept_71, rm_accept_72, rm_accept_73, rm_accept_74, rm_accept_77, rm_accept_78, rm_accept_81, rm_accept_82, rm_accept_85, rm_accept_86, rm_accept_89, rm_accept_90, rm_accept_93, rm_accept_94, rm_accept_97, rm_accept_98, rm_accept_101, rm_accept_102, rm_accept_105, rm_accept_106, rm_accept_109, rm_accept_110, rm_accept_112, rm_accept_113, rm_accept_114, rm_accept_115, rm_accept_117, rm_accept_118, rm_accept_119, rm_accept_120, rm_accept_121, rm_accept_124, rm_accept_125, rm_accept_126, rm_accept_129, rm_accept_130, rm_accept_133, rm_accept_134, rm_accept_137, rm_accept_138, rm_accept_141, rm_accept_142, rm_accept_145, rm_accept_146, rm_accept_149, rm_accept_150, rm_accept_153, rm_accept_154, xg_cell, Option.toList_some, Option.toList_none, List.singleton_append, List.append_nil, List.nil_append, List.cons_append, false_and, if_false, if_true, Int.reduceAdd, Int.reduceSub, Int.reduceMul, Int.reduceNeg, Int.reduceLE, Int.reduceLT, Int.reduceEq, false_implies, true_implies, not_true_eq_false, not_false_eq_true, and_true, true_and, xar_0, xar_1, xar_2, xar_3, xar_4, xar_5, xar_6, xar_7, xar_8, xar_9, xar_10, xar_11, xar_12, h1, g1, w38, e3, e4, e5, hle']
            · rw [if_neg hle]
              have hle' : 3 < dg + 1 := by omega
              simp (contextual := true) (disch := first | assumption | exact xin_g _ _ _ | exact xin_ar _ | exact xin_sc _ _ | exact xin_cmp | exact xin_and | exact xin_or | exact xinl_g _ _ _ | omega | exact xin_mk (by omega) (by omega) | exact xinl_mk (by omega) (by omega) | exact xbo_0 | exact xbo_1 | exact xin_sl | exact xin_fa | exact xbo_ad | exact xin_bo xbo_ad | exact xin_mb | exact xin_A | exact xin_op | ((repeat refine gN_q ?_ (by omega) (by omega)); assumption)) only [rm_accept_18, rm_accept_19, rm_accept_22, rm_accept_23, rm_accept_26, rm_accept_27, rm_accept_28, rm_accept_31, rm_accept_32, rm_accept_34, rm_accept_37, rm_accept_38, rm_accept_41, rm_accept_42, rm_accept_43, rm_accept_44, rm_accept_47, rm_accept_48, rm_accept_51, rm_accept_52, rm_accept_54, rm_accept_55, rm_accept_57, rm_accept_58, rm_accept_61, rm_accept_62, rm_accept_63, rm_accept_66, rm_accept_67, rm_accept_68, rm_accept_71, rm_accept_72, rm_accept_73, rm_accept_74, rm_accept_77, rm_accept_78, rm_accept_81, rm_accept_82, rm_accept_85, rm_accept_86, rm_accept_89, rm_accept_90, rm_accept_93, rm_accept_94, rm_accept_97, rm_accept_98, rm_accept_101, rm_accept_102, rm_accept_105, rm_accept_106, rm_accept_109, rm_accept_110, rm_accept_112, rm_accept_113, rm_accept_114, rm_accept_115, rm_accept_117, rm_accept_118, rm_accept_119, rm_accept_120, rm_accept_121, rm_accept_124, rm_accept_125, rm_accept_126, rm_accept_129, rm_accept_130, rm_accept_133, rm_accept_134, rm_accept_137, rm_accept_138, rm_accept_141, rm_accept_142, rm_accept_145, rm_accept_146, rm_accept_149, rm_accept_150, rm_accept_153, rm_accept_154, xg_cell, Option.toList_some, Option.toList_none, List.singleton_append, List.append_nil, List.nil_append, List.cons_append, false_and, if_false, if_true, Int.reduceAdd, Int.reduceSub, Int.reduceMul, Int.reduceNeg, Int.reduceLE, Int.reduceLT, Int.reduceEq, false_implies, true_implies, not_true_eq_false, not_false_eq_true, and_true, true_and, xar_0, xar_1, xar_2, xar_3, xar_4, xar_5, xar_6, xar_7, xar_8, xar_9, xar_10, xar_11, xar_12, h1, g1, w38, e3, e4, e5, hle']
          · have e6 : (if dg + 1 ≤ (if m = 2 then (3 : Int) else 2) then (1 : Int) else 0) = if dg + 1 ≤ 2 then 1 else 0 := by rw [if_neg (show ¬ m = 2 by omega)]
            rw [e6]
            rw [hmm] at h1 e5
            by_cases hle : dg + 1 ≤ 2
            · rw [if_pos hle]
              have hle' : ¬ 2 < dg + 1 := by omega
              simp (contextual := true) (disch := first | assumption | exact xin_g _ _ _ | exact xin_ar _ | exact xin_sc _ _ | exact xin_cmp | exact xin_and | exact xin_or | exact xinl_g _ _ _ | omega | exact xin_mk (by omega) (by omega) | exact xinl_mk (by omega) (by omega) | exact xbo_0 | exact xbo_1 | exact xin_sl | exact xin_fa | exact xbo_ad | exact xin_bo xbo_ad | exact xin_mb | exact xin_A | exact xin_op | ((repeat refine gN_q ?_ (by omega) (by omega)); assumption)) only [rm_accept_18, rm_accept_19, rm_accept_22, rm_accept_23, rm_accept_26, rm_accept_27, rm_accept_28, rm_accept_31, rm_accept_32, rm_accept_34, rm_accept_37, rm_accept_38, rm_accept_41, rm_accept_42, rm_accept_43, rm_accept_44, rm_accept_47, rm_accept_48, rm_accept_51, rm_accept_52, rm_accept_54, rm_accept_55, rm_accept_57, rm_accept_58, rm_accept_61, rm_accept_62, rm_accept_63, rm_accept_66, rm_accept_67, rm_accept_68, rm_accept_71, rm_accept_72, rm_accept_73, rm_accept_74, rm_accept_77, rm_accept_78, rm_accept_81, rm_accept_82, rm_accept_85, rm_accept_86, rm_accept_89, rm_accept_90, rm_accept_93, rm_accept_94, rm_accept_97, rm_accept_98, rm_accept_101, rm_accept_102, rm_accept_105, rm_accept_106, rm_accept_109, rm_accept_110, rm_accept_112, rm_accept_113, rm_accept_114, rm_accept_115, rm_accept_117, rm_accept_118, rm_accept_119, rm_accept_120, rm_accept_121, rm_accept_124, rm_accept_125, rm_accept_126, rm_accept_129, rm_accept_130, rm_accept_133, rm_accept_134, rm_accept_137, rm_accept_138, rm_accept_141, rm_accept_142, rm_accept_145, rm_accept_146, rm_accept_149, rm_accept_150, rm_accept_153, rm_accept_154, xg_cell, Option.toList_some, Option.toList_none, List.singleton_append, List.append_nil, List.nil_append, List.cons_append, false_and, if_false, if_true, Int.reduceAdd, Int.reduceSub, Int.reduceMul, Int.reduceNeg, Int.reduceLE, Int.reduceLT, Int.reduceEq, false_implies, true_implies, not_true_eq_false, not_false_eq_true, and_true, true_and, xar_0, xar_1, xar_2, xar_3, xar_4, xar_5, xar_6, xar_7, xar_8, xar_9, xar_10, xar_11, xar_12, h1, g1, w38, e3, e4, e5, hle']
            · rw [if_neg hle]
              have hle' : 2 < dg + 1 := by omega
              simp (contextual := true) (disch := first | assumption | exact xin_g _ _ _ | exact xin_ar _ | exact xin_sc _ _ | exact xin_cmp | exact xin_and | exact xin_or | exact xinl_g _ _ _ | omega | exact xin_mk (by omega) (by omega) | exact xinl_mk (by omega) (by omega) | exact xbo_0 | exact xbo_1 | exact xin_sl | exact xin_fa | exact xbo_ad | exact xin_bo xbo_ad | exact xin_mb | exact xin_A | exact xin_op | ((repeat refine gN_q ?_ (by omega) (by omega)); assumption)) only [rm_accept_18, rm_accept_19, rm_accept_22, rm_accept_23, rm_accept_26, rm_accept_27, rm_accept_28, rm_accept_31, rm_accept_32, rm_accept_34, rm_accept_37, rm_accept_38, rm_accept_41, rm_accept_42, rm_accept_43, rm_accept_44, rm_accept_47, rm_accept_48, rm_accept_51, rm_accept_52, rm_accept_54, rm_accept_55, rm_accept_57, rm_accept_58, rm_accept_61, rm_accept_62, rm_accept_63, rm_accept_66, rm_accept_67, rm_accept_68, rm_accept_71, rm_accept_72, rm_accept_73, rm_accept_74, rm_accept_77, rm_accept_78, rm_accept_81, rm_accept_82, rm_accept_85, rm_accept_86, rm_accept_89, rm_accept_90, rm_accept_93, rm_accept_94, rm_accept_97, rm_accept_98, rm_accept_101, rm_accept_102, rm_accept_105, rm_accept_106, rm_accept_109, rm_accept_110, rm_accept_112, rm_accept_113, rm_accept_114, rm_accept_115, rm_accept_117, rm_accept_118, rm_accept_119, rm_accept_120, rm_accept_121, rm_accept_124, rm_accept_125, rm_accept_126, rm_accept_129, rm_accept_130, rm_accept_133, rm_accept_134, rm_accept_137, rm_accept_138, rm_accept_141, rm_accept_142, rm_accept_145, rm_accept_146, rm_accept_149, rm_accept_150, rm_accept_153, rm_accept_154, xg_cell, Option.toList_some, Option.toList_none, List.singleton_append, List.append_nil, List.nil_append, List.cons_append, false_and, if_false, if_true, Int.reduceAdd, Int.reduceSub, Int.reduceMul, Int.reduceNeg, Int.reduceLE, Int.reduceLT, Int.reduceEq, false_implies, true_implies, not_true_eq_false, not_false_eq_true, and_true, true_and, xar_0, xar_1, xar_2, xar_3, xar_4, xar_5, xar_6, xar_7, xar_8, xar_9, xar_10, xar_11, xar_12, h1, g1, w38, e3, e4, e5, hle']
        · have hO := mOp_mod (c := c) h3.2.2.2 g5 hx
          rw [g2] at e4 e5 ⊢
          by_cases hle : dg + 1 ≤ (if m = 2 then 3 else 2)
          · rw [if_pos hle] at hs ⊢
            cases hs
            have hle3 : dg + 1 ≤ 3 := by split at hle <;> omega
            refine ⟨rfl, e5, fun _ => ⟨e4, ?_, ?_, ?_, (q.1, q.2 * 10 + c - 48), ?_, ?_, ?_, ?_, ?_⟩, ?_, ?_, ?_, ?_⟩
            · rw [xg_idx (by omega) (by omega) (by omega), xg_cell (by decide)]; exact g2
            · show 1 ≤ dg + 1; omega
            · exact hle3
            · show (pmod O na c)[na]? = _
              rw [pmod_at, if_pos rfl, g5]; rfl
            · show 0 ≤ q.2 * 10 + c - 48; omega
            · show dg + 1 = 1 → _; omega
            · show dg + 1 = 2 → q.2 * 10 + c - 48 < 100
              intro z
              have := g7 (by omega)
              omega
            · show q.2 * 10 + c - 48 < 1000
              have : q.2 < 100 := by
                by_cases z : dg = 1
                · have := g7 z; omega
                · exact g8 (by omega)
              omega
            · rw [xg_idx (by omega) (by omega) (by omega), xg_cell (by decide)]; exact h3.1
            · rw [xg_idx (by omega) (by omega) (by omega), xg_cell (by decide)]
              show _ = ((pmod O na c).length : Int)
              rw [pmod_len]; exact h3.2.1
            · exact mTp_c (by decide) (by decide) _ (mTp_c (by decide) (by decide) _ h3.2.2.1)
            · exact mOp_c (by decide) (by decide) hO
          · rw [if_neg hle] at hs
            cases hs
        · by_cases hle : dg + 1 ≤ (if m = 2 then 3 else 2)
          · rw [if_pos hle] at hn
            cases hn
          · rw [if_neg hle]
      · rw [if_neg k2]
        have hs155 : ∀ Q : Option Value → am_H → Prop, xw sc (d + 4) Mm_accept cm_accept_0 [some (.ref 33), some (xI c), none] [] (xH G K) Q ↔ ∃ u : Option Value, xw sc (d + 4) Mm_accept cm_accept_155 [some (.ref 33), some (xI c), u] [] (xH G K) Q := by
          intro Q
          rw [hdg]
          by_cases hd : pdg c = true
          · have m2 : ¬ m = 2 := fun q => k2 ⟨hd, Or.inl q⟩
            have m4 : ¬ m = 4 := fun q => k2 ⟨hd, Or.inr q⟩
            rw [if_pos hd]
            simp (contextual := true) (disch := first | assumption | exact xin_g _ _ _ | exact xin_ar _ | exact xin_sc _ _ | exact xin_cmp | exact xin_and | exact xin_or | exact xinl_g _ _ _ | omega | exact xin_mk (by omega) (by omega) | exact xinl_mk (by omega) (by omega) | exact xbo_0 | exact xbo_1 | exact xin_sl | exact xin_fa | exact xbo_ad | exact xin_bo xbo_ad | exact xin_mb | exact xin_A | exact xin_op | ((repeat refine gN_q ?_ (by omega) (by omega)); assumption)) only [rm_accept_18, rm_accept_19, rm_accept_22, rm_accept_23, rm_accept_26, rm_accept_27, rm_accept_28, rm_accept_31, rm_accept_32, rm_accept_34, rm_accept_37, rm_accept_38, rm_accept_41, rm_accept_42, rm_accept_43, rm_accept_44, rm_accept_47, rm_accept_48, rm_accept_51, rm_accept_52, rm_accept_54, rm_accept_55, rm_accept_57, rm_accept_58, rm_accept_61, rm_accept_62, rm_accept_63, rm_accept_66, rm_accept_67, rm_accept_68, rm_accept_71, rm_accept_72, rm_accept_73, rm_accept_74, rm_accept_77, rm_accept_78, rm_accept_81, rm_accept_82, rm_accept_85, rm_accept_86, rm_accept_89, rm_accept_90, xg_cell, Option.toList_some, Option.toList_none, List.singleton_append, List.append_nil, List.nil_append, List.cons_append, false_and, if_false, if_true, Int.reduceAdd, Int.reduceSub, Int.reduceMul, Int.reduceNeg, Int.reduceLE, Int.reduceLT, Int.reduceEq, false_implies, true_implies, not_true_eq_false, not_false_eq_true, and_true, true_and, xar_0, xar_1, xar_2, xar_3, xar_4, xar_5, xar_6, xar_7, xar_8, xar_9, xar_10, xar_11, xar_12, h1, k5, k3, m2, m4, rm_accept_155, exists_const]
          · rw [if_neg hd]
            simp (contextual := true) (disch := first | assumption | exact xin_g _ _ _ | exact xin_ar _ | exact xin_sc _ _ | exact xin_cmp | exact xin_and | exact xin_or | exact xinl_g _ _ _ | omega | exact xin_mk (by omega) (by omega) | exact xinl_mk (by omega) (by omega) | exact xbo_0 | exact xbo_1 | exact xin_sl | exact xin_fa | exact xbo_ad | exact xin_bo xbo_ad | exact xin_mb | exact xin_A | exact xin_op | ((repeat refine gN_q ?_ (by omega) (by omega)); assumption)) only [rm_accept_18, rm_accept_19, rm_accept_22, rm_accept_23, rm_accept_26, rm_accept_27, rm_accept_28, rm_accept_31, rm_accept_32, rm_accept_34, rm_accept_37, rm_accept_38, rm_accept_41, rm_accept_42, rm_accept_43, rm_accept_44, rm_accept_47, rm_accept_48, rm_accept_51, rm_accept_52, rm_accept_54, rm_accept_55, rm_accept_57, rm_accept_58, rm_accept_61, rm_accept_62, rm_accept_63, rm_accept_66, rm_accept_67, rm_accept_68, rm_accept_71, rm_accept_72, rm_accept_73, rm_accept_74, rm_accept_77, rm_accept_78, rm_accept_81, rm_accept_82, rm_accept_85, rm_accept_86, rm_accept_89, rm_accept_90, xg_cell, Option.toList_some, Option.toList_none, List.singleton_append, List.append_nil, List.nil_append, List.cons_append, false_and, if_false, if_true, Int.reduceAdd, Int.reduceSub, Int.reduceMul, Int.reduceNeg, Int.reduceLE, Int.reduceLT, Int.reduceEq, false_implies, true_implies, not_true_eq_false, not_false_eq_true, and_true, true_and, xar_0, xar_1, xar_2, xar_3, xar_4, xar_5, xar_6, xar_7, xar_8, xar_9, xar_10, xar_11, xar_12, h1, k5, k3, rm_accept_155, exists_const]
        by_cases k0 : m = 0
        · rw [if_pos k0]
          subst k0
          obtain ⟨G', b, r1, r2, r3, r4⟩ := sm_begin (sc := sc) (d := d) (K := K) hP hl c0 c1
          have hb : xbo b := by
            cases ho : rbeg (0, dg, na, T, O) c with
            | none => exact Or.inl (r4 ho)
            | some s' => exact Or.inr (r3 s' ho).1
          refine ⟨G', b, fun Q => ?_, r2, r3, r4⟩
          rw [em_accept, hs155]
          simp (contextual := true) (disch := first | assumption | exact xin_g _ _ _ | exact xin_ar _ | exact xin_sc _ _ | exact xin_cmp | exact xin_and | exact xin_or | exact xinl_g _ _ _ | omega | exact xin_mk (by omega) (by omega) | exact xinl_mk (by omega) (by omega) | exact xbo_0 | exact xbo_1 | exact xin_sl | exact xin_fa | exact xbo_ad | exact xin_bo xbo_ad | exact xin_mb | exact xin_A | exact xin_op | ((repeat refine gN_q ?_ (by omega) (by omega)); assumption)) only [rm_accept_155, rm_accept_156, rm_accept_159, rm_accept_162, rm_accept_163, rm_accept_164, rm_accept_167, rm_accept_170, rm_accept_171, rm_accept_172, rm_accept_175, ↓r1, xg_cell, Option.toList_some, Option.toList_none, List.singleton_append, List.append_nil, List.nil_append, List.cons_append, false_and, if_false, if_true, Int.reduceAdd, Int.reduceSub, Int.reduceMul, Int.reduceNeg, Int.reduceLE, Int.reduceLT, Int.reduceEq, false_implies, true_implies, not_true_eq_false, not_false_eq_true, and_true, true_and, xar_0, xar_1, xar_2, xar_3, xar_4, xar_5, xar_6, xar_7, xar_8, xar_9, xar_10, xar_11, xar_12, h1, exists_const]
        · rw [if_neg k0]
          obtain ⟨G', b, r1, r2, r3, r4⟩ := sm_follow (sc := sc) (d := d + 1) (K := K) (m := m) (dg := dg) (na := na) h3 hl c0 c1
          have hb : xbo b := by
            cases ho : rfol (m, dg, na, T, O) c with
            | none => exact Or.inl (r4 ho)
            | some s' => exact Or.inr (r3 s' ho).1
          refine ⟨G', b, fun Q => ?_, r2, r3, r4⟩
          rw [em_accept, hs155]
          simp (contextual := true) (disch := first | assumption | exact xin_g _ _ _ | exact xin_ar _ | exact xin_sc _ _ | exact xin_cmp | exact xin_and | exact xin_or | exact xinl_g _ _ _ | omega | exact xin_mk (by omega) (by omega) | exact xinl_mk (by omega) (by omega) | exact xbo_0 | exact xbo_1 | exact xin_sl | exact xin_fa | exact xbo_ad | exact xin_bo xbo_ad | exact xin_mb | exact xin_A | exact xin_op | ((repeat refine gN_q ?_ (by omega) (by omega)); assumption)) only [rm_accept_155, rm_accept_156, rm_accept_159, rm_accept_162, rm_accept_163, rm_accept_164, rm_accept_167, rm_accept_170, rm_accept_171, rm_accept_172, rm_accept_175, ↓r1, xg_cell, Option.toList_some, Option.toList_none, List.singleton_append, List.append_nil, List.nil_append, List.cons_append, false_and, if_false, if_true, Int.reduceAdd, Int.reduceSub, Int.reduceMul, Int.reduceNeg, Int.reduceLE, Int.reduceLT, Int.reduceEq, false_implies, true_implies, not_true_eq_false, not_false_eq_true, and_true, true_and, xar_0, xar_1, xar_2, xar_3, xar_4, xar_5, xar_6, xar_7, xar_8, xar_9, xar_10, xar_11, xar_12, h1, k0, exists_const]
end SP
