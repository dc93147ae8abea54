/-! the walk finds the culprit -/
theorem mRep_x {G G' : xG} {K : xK} {A : aG} (hR : mRep G K A) (h : mFx G G') : mRep G' K A := by
  refine ⟨by rw [h 33 12 (by decide)]; exact hR.1, fun j j0 j1 => ?_⟩
  rw [h 40 j (by decide), h 41 j (by decide), h 42 _ (by decide), h 42 _ (by decide), h 42 _ (by decide)]
  exact hR.2 j j0 j1
theorem mFx_ps {G : xG} {D a j : Int} : mFx G (wPs G D a j) := mFx_c (mFx_c (mFx_c (mFx_c mFx_rfl (by decide)) (by decide)) (by decide)) (by decide)
theorem wPs_51 {G : xG} {D a j : Int} (a0 : 0 ≤ a) : xg (wPs G D a j) 51 a = 1 ∧ ∀ x, 0 ≤ x → ¬ x = a → xg (wPs G D a j) 51 x = xg G 51 x := by
  unfold wPs
  refine ⟨?_, fun x x0 hx => ?_⟩
  · rw [xg_cell (by decide), xg_cell (by decide), xg_self ⟨by decide, by decide⟩]
  · rw [xg_cell (by decide), xg_cell (by decide), xg_idx a0 x0 hx, xg_cell (by decide)]
section SP
variable {sc : Nat × (Nat → Int32)} {d : Nat} {K : xK}
/-- G0: the cells as work left them; C, B, U the class's -/
theorem lw_main {A : aG} {G0 : xG} {R : Int} (hA : aOk A) (hR0 : mRep G0 K A) (hL : aLs A (xg G0 14) (xg G0 15) (xg G0 16) (xg G0 17)) (hB : ∀ j, 0 ≤ j → j < A.1 → xg G0 48 j = xg G0 16 j) : ∀ (f : Nat) (G : xG) (Kn : List (Int × Int)) (m i : Int) (rest : List (Int × Int)) (s : Int) (u1 : Option Value), mFx G0 G → srt A (-1) (Kn ++ (m, i) :: rest) → (∀ e, e ∈ Kn → ¬ xg G0 15 e.1 = 4) → xg G0 15 m = 4 → xg G0 17 m = R → (∀ p, 0 ≤ p → p < i → ¬ xg G0 15 (aAg A m p) = 4) → (∀ x, 0 ≤ x → x < A.1 → ¬ xg G 51 x = 0 → ¬ xg G0 15 x = 4 ∨ m ≤ x) → mWs G (Kn ++ (m, i) :: rest) → 4 * (um G 36 : Int) + wsm A (Kn ++ (m, i) :: rest) ≤ f → 0 ≤ s → s + f ≤ 1000 → ∃ G' : xG, (∀ Q : Option Value → am_H → Prop, xw sc (d + 1) Mm_walk cm_walk_39 [some (.ref 33), u1, some (xI ((Kn ++ (m, i) :: rest).length : Int)), some (xI s), none, none, none] [] (xH G K) Q ↔ Q (some (xI R)) (xH G' K)) ∧ mFx G0 G' := by
  have hA6 := hA.2.1
  intro f
  induction f with
  | zero =>
    intro G Kn m i rest s u1 hF hS hK hm hU hP hM hW hf s0 s1
    exfalso
    have h1 : 1 ≤ wsm A (Kn ++ (m, i) :: rest) := by
      cases Kn with
      | nil =>
        have := wsm_nn rest m hS.2.2.2.2
        have := hS.2.2.2.1
        simp only [List.nil_append, wsm]
        simp only at this
        omega
      | cons e Kn =>
        have h2 : srt A (-1) (e :: (Kn ++ (m, i) :: rest)) := hS
        have := wsm_nn _ _ h2.2.2.2.2
        have := h2.2.2.2.1
        simp only [List.cons_append, wsm]
        omega
    omega
  | succ f ih =>
    intro G Kn m i rest s u1 hF hS hK hm hU hP hM hW hf s0 s1
    have hR := mRep_x hR0 hF
    have e48 : ∀ n, 0 ≤ n → n < A.1 → xg G 48 n = xg G0 16 n := fun n n0 n1 => by rw [hF 48 n (by decide)]; exact hB n n0 n1
    cases Kn with
    | cons e Kn =>
      obtain ⟨n, j⟩ := e
      have hS' : srt A (-1) ((n, j) :: (Kn ++ (m, i) :: rest)) := hS
      obtain ⟨n0, n1, j0, j1, hS2⟩ := hS'
      have n0 : -1 < n := n0
      have n1 : n < A.1 := n1
      have j0 : 0 ≤ j := j0
      have j1 : j ≤ xar (A.2 n).1 := j1
      have hkn : ¬ xg G0 15 n = 4 := hK (n, j) (List.mem_cons_self ..)
      have hW' : mWs G ((n, j) :: (Kn ++ (m, i) :: rest)) := hW
      have hlen := srt_len hA6 _ _ hS2 (show n < 36 by omega)
      have hel : (((n, j) :: Kn ++ (m, i) :: rest).length : Int) = ((Kn ++ (m, i) :: rest).length : Int) + 1 := by simp
      have hf' : 4 * (um G 36 : Int) + ((xar (A.2 n).1 - j + 1) + wsm A (Kn ++ (m, i) :: rest)) ≤ ((f + 1 : Nat) : Int) := hf
      rw [hel]
      by_cases hj : j = xar (A.2 n).1
      · have hb : ¬ 0 < xg G 48 n := by rw [e48 n (by omega) n1, kn_b hA hL (by omega) n1 hkn]; decide
        obtain ⟨G', g1, g2⟩ := ih G Kn m i rest (s + 1) none hF (srt_lo _ hS2 (by omega)) (fun e he => hK e (List.mem_cons_of_mem _ he)) hm hU hP hM hW'.2.2 (by omega) (by omega) (by omega)
        refine ⟨G', fun Q => ?_, g2⟩
        rw [lw_end hR hA hW' (by omega) n1 hj rfl (by omega) s0 (by omega), if_neg hb]
        exact g1 Q
      · obtain ⟨a0, a1⟩ := aAg_r hA (show 0 ≤ n by omega) n1 j0 (by omega)
        have hka := kn_arg hA hL (show 0 ≤ n by omega) n1 hkn j0 (show j < xar (A.2 n).1 by omega)
        have hgo := fun (Q : Option Value → am_H → Prop) => lw_go (sc := sc) (d := d) (Q := Q) (u1 := u1) (s := s) (D := ((Kn ++ (m, i) :: rest).length : Int)) hR hA hW' (by omega) n1 j0 (by omega) rfl (by omega) s0 (by omega)
        generalize aAg A n j = a at *
        have xj : xin (j + 1) := by
          have := xin_ar (A.2 n).1
          exact ⟨by omega, by have := this.2; omega⟩
        by_cases hb : xg G 51 a = 0
        · simp only [if_pos hb] at hgo
          obtain ⟨m1, m2⟩ := wPs_51 (G := G) (D := ((Kn ++ (m, i) :: rest).length : Int)) (j := j) a0
          have hum := um_set a0 hb m1 m2 36 (by omega)
          have ha4 : xar (A.2 a).1 ≤ 3 := by
            have q := hA.2.2 a a0 (by omega)
            have e := par_xar q.1 (show (A.2 a).1 ≤ 12 by have := q.2.1; omega)
            have e3 := par_3 (k := (A.2 a).1)
            omega
          have har0 : 0 ≤ xar (A.2 a).1 := by
            have q := hA.2.2 a a0 (by omega)
            have e := par_xar q.1 (show (A.2 a).1 ≤ 12 by have := q.2.1; omega)
            omega
          obtain ⟨G', g1, g2⟩ := ih (wPs G ((Kn ++ (m, i) :: rest).length : Int) a j) ((a, 0) :: (n, j + 1) :: Kn) m i rest (s + 1) none (mFx_tr hF mFx_ps) (show srt A (-1) ((a, 0) :: (n, j + 1) :: (Kn ++ (m, i) :: rest)) from ⟨by show -1 < a; omega, by show a < A.1; omega, Int.le_refl _, har0, a1, n1, by show 0 ≤ j + 1; omega, by show j + 1 ≤ xar (A.2 n).1; omega, hS2⟩) (fun e he => by
            rw [List.mem_cons, List.mem_cons] at he
            rcases he with rfl | rfl | he
            · exact hka
            · exact hkn
            · exact hK e (List.mem_cons_of_mem _ he)) hm hU hP (fun x x0 x1 hx => by
            by_cases hxa : x = a
            · subst hxa; exact Or.inl hka
            · rw [m2 x x0 hxa] at hx; exact hM x x0 x1 hx) (mWs_push hW' ⟨by omega, by omega⟩ xj) (by
            show 4 * (um (wPs G ((Kn ++ (m, i) :: rest).length : Int) a j) 36 : Int) + ((xar (A.2 a).1 - 0 + 1) + ((xar (A.2 n).1 - (j + 1) + 1) + wsm A (Kn ++ (m, i) :: rest))) ≤ f
            omega) (by omega) (by omega)
          refine ⟨G', fun Q => ?_, g2⟩
          rw [hgo]
          have e1 : (((a, 0) :: (n, j + 1) :: Kn ++ (m, i) :: rest).length : Int) = ((Kn ++ (m, i) :: rest).length : Int) + 1 + 1 := by simp
          have g1 := g1 Q
          rw [e1] at g1
          exact g1
        · simp only [if_neg hb] at hgo
          have e51 : ∀ x, xg (xp G 53 ((Kn ++ (m, i) :: rest).length : Int) (j + 1)) 51 x = xg G 51 x := fun x => xg_cell (by decide)
          have hum : um (xp G 53 ((Kn ++ (m, i) :: rest).length : Int) (j + 1)) 36 = um G 36 := um_eq 36 (fun x _ _ => e51 x)
          obtain ⟨G', g1, g2⟩ := ih (xp G 53 ((Kn ++ (m, i) :: rest).length : Int) (j + 1)) ((n, j + 1) :: Kn) m i rest (s + 1) none (mFx_c hF (by decide)) (show srt A (-1) ((n, j + 1) :: (Kn ++ (m, i) :: rest)) from ⟨n0, n1, by show 0 ≤ j + 1; omega, by show j + 1 ≤ xar (A.2 n).1; omega, hS2⟩) (fun e he => by
            rw [List.mem_cons] at he
            rcases he with rfl | he
            · exact hkn
            · exact hK e (List.mem_cons_of_mem _ he)) hm hU hP (fun x x0 x1 hx => by rw [e51] at hx; exact hM x x0 x1 hx) (mWs_next hW' xj) (by
            rw [hum]
            show 4 * (um G 36 : Int) + ((xar (A.2 n).1 - (j + 1) + 1) + wsm A (Kn ++ (m, i) :: rest)) ≤ f
            omega) (by omega) (by omega)
          refine ⟨G', fun Q => ?_, g2⟩
          rw [hgo]
          have e1 : (((n, j + 1) :: Kn ++ (m, i) :: rest).length : Int) = ((Kn ++ (m, i) :: rest).length : Int) + 1 := by simp
          have g1 := g1 Q
          rw [e1] at g1
          exact g1
    | nil =>
      obtain ⟨n0, n1, j0, j1, hS2⟩ := (show srt A (-1) ((m, i) :: rest) from hS)
      have n0 : -1 < m := n0
      have n1 : m < A.1 := n1
      have j0 : 0 ≤ i := j0
      have j1 : i ≤ xar (A.2 m).1 := j1
      have hW' : mWs G ((m, i) :: rest) := hW
      have hlen := srt_len hA6 _ _ hS2 (show m < 36 by omega)
      have hel : ((([] : List (Int × Int)) ++ (m, i) :: rest).length : Int) = (rest.length : Int) + 1 := by simp
      have hf' : 4 * (um G 36 : Int) + ((xar (A.2 m).1 - i + 1) + wsm A rest) ≤ ((f + 1 : Nat) : Int) := hf
      rw [hel]
      by_cases hj : i = xar (A.2 m).1
      · obtain ⟨t1, t2⟩ := un_top hA hL (show 0 ≤ m by omega) n1 hm (fun p p0 p1 => hP p p0 (by omega))
        have hb : 0 < xg G 48 m := by rw [e48 m (by omega) n1]; omega
        have hmR : m = R := t1.symm.trans hU
        refine ⟨G, fun Q => ?_, hF⟩
        rw [lw_end hR hA hW' (by omega) n1 hj rfl (by omega) s0 (by omega), if_pos hb, hmR]
      · obtain ⟨a0, a1⟩ := aAg_r hA (show 0 ≤ m by omega) n1 j0 (by omega)
        have hgo := fun (Q : Option Value → am_H → Prop) => lw_go (sc := sc) (d := d) (Q := Q) (u1 := u1) (s := s) (D := (rest.length : Int)) hR hA hW' (by omega) n1 j0 (by omega) rfl (by omega) s0 (by omega)
        have hfst := fun h4 => un_first hA hL (show 0 ≤ m by omega) n1 hm j0 (show i < xar (A.2 m).1 by omega) hP h4
        have hPn : ¬ xg G0 15 (aAg A m i) = 4 → ∀ p, 0 ≤ p → p < i + 1 → ¬ xg G0 15 (aAg A m p) = 4 := by
          intro hz p p0 p1
          by_cases hp : p = i
          · subst hp; exact hz
          · exact hP p p0 (by omega)
        generalize aAg A m i = a at *
        have xj : xin (i + 1) := by
          have := xin_ar (A.2 m).1
          exact ⟨by omega, by have := this.2; omega⟩
        by_cases hb : xg G 51 a = 0
        · simp only [if_pos hb] at hgo
          obtain ⟨m1, m2⟩ := wPs_51 (G := G) (D := (rest.length : Int)) (j := i) a0
          have hum := um_set a0 hb m1 m2 36 (by omega)
          have q := hA.2.2 a a0 (by omega)
          have e := par_xar q.1 (show (A.2 a).1 ≤ 12 by have := q.2.1; omega)
          have e3 := par_3 (k := (A.2 a).1)
          by_cases h4 : xg G0 15 a = 4
          · obtain ⟨G', g1, g2⟩ := ih (wPs G (rest.length : Int) a i) [] a 0 ((m, i + 1) :: rest) (s + 1) none (mFx_tr hF mFx_ps) (show srt A (-1) ((a, 0) :: (m, i + 1) :: rest) from ⟨by show -1 < a; omega, by show a < A.1; omega, Int.le_refl _, by show 0 ≤ xar (A.2 a).1; omega, a1, n1, by show 0 ≤ i + 1; omega, by show i + 1 ≤ xar (A.2 m).1; omega, hS2⟩) (fun e he => by simp at he) h4 ((hfst h4).symm.trans hU) (fun p p0 p1 => absurd p1 (by omega)) (fun x x0 x1 hx => by
              by_cases hxa : x = a
              · subst hxa; exact Or.inr (Int.le_refl _)
              · rw [m2 x x0 hxa] at hx
                rcases hM x x0 x1 hx with z | z
                · exact Or.inl z
                · exact Or.inr (by omega)) (mWs_push hW' ⟨by omega, by omega⟩ xj) (by
              show 4 * (um (wPs G (rest.length : Int) a i) 36 : Int) + ((xar (A.2 a).1 - 0 + 1) + ((xar (A.2 m).1 - (i + 1) + 1) + wsm A rest)) ≤ f
              omega) (by omega) (by omega)
            refine ⟨G', fun Q => ?_, g2⟩
            rw [hgo]
            have e1 : ((([] : List (Int × Int)) ++ (a, 0) :: (m, i + 1) :: rest).length : Int) = (rest.length : Int) + 1 + 1 := by simp
            have g1 := g1 Q
            rw [e1] at g1
            exact g1
          · obtain ⟨G', g1, g2⟩ := ih (wPs G (rest.length : Int) a i) [(a, 0)] m (i + 1) rest (s + 1) none (mFx_tr hF mFx_ps) (show srt A (-1) ((a, 0) :: (m, i + 1) :: rest) from ⟨by show -1 < a; omega, by show a < A.1; omega, Int.le_refl _, by show 0 ≤ xar (A.2 a).1; omega, a1, n1, by show 0 ≤ i + 1; omega, by show i + 1 ≤ xar (A.2 m).1; omega, hS2⟩) (fun e he => by
              simp only [List.mem_singleton] at he
              subst he; exact h4) hm hU (hPn h4) (fun x x0 x1 hx => by
              by_cases hxa : x = a
              · subst hxa; exact Or.inl h4
              · rw [m2 x x0 hxa] at hx; exact hM x x0 x1 hx) (mWs_push hW' ⟨by omega, by omega⟩ xj) (by
              show 4 * (um (wPs G (rest.length : Int) a i) 36 : Int) + ((xar (A.2 a).1 - 0 + 1) + ((xar (A.2 m).1 - (i + 1) + 1) + wsm A rest)) ≤ f
              omega) (by omega) (by omega)
            refine ⟨G', fun Q => ?_, g2⟩
            rw [hgo]
            have e1 : (([(a, 0)] ++ (m, i + 1) :: rest).length : Int) = (rest.length : Int) + 1 + 1 := by simp
            have g1 := g1 Q
            rw [e1] at g1
            exact g1
        · simp only [if_neg hb] at hgo
          have h4 : ¬ xg G0 15 a = 4 := by
            rcases hM a a0 (by omega) hb with z | z
            · exact z
            · omega
          have e51 : ∀ x, xg (xp G 53 (rest.length : Int) (i + 1)) 51 x = xg G 51 x := fun x => xg_cell (by decide)
          have hum : um (xp G 53 (rest.length : Int) (i + 1)) 36 = um G 36 := um_eq 36 (fun x _ _ => e51 x)
          obtain ⟨G', g1, g2⟩ := ih (xp G 53 (rest.length : Int) (i + 1)) [] m (i + 1) rest (s + 1) none (mFx_c hF (by decide)) (show srt A (-1) ((m, i + 1) :: rest) from ⟨n0, n1, by show 0 ≤ i + 1; omega, by show i + 1 ≤ xar (A.2 m).1; omega, hS2⟩) (fun e he => by simp at he) hm hU (hPn h4) (fun x x0 x1 hx => by rw [e51] at hx; exact hM x x0 x1 hx) (mWs_next hW' xj) (by
            rw [hum]
            show 4 * (um G 36 : Int) + ((xar (A.2 m).1 - (i + 1) + 1) + wsm A rest) ≤ f
            omega) (by omega) (by omega)
          refine ⟨G', fun Q => ?_, g2⟩
          rw [hgo]
          have e1 : ((([] : List (Int × Int)) ++ (m, i + 1) :: rest).length : Int) = (rest.length : Int) + 1 := by simp
          have g1 := g1 Q
          rw [e1] at g1
          exact g1
theorem lw_clr {k : Int} : ∀ (n : Nat) (i : Int) (G : xG), 0 ≤ i → i + n = 36 → ∃ G' : xG, (∀ Q : Option Value → am_H → Prop, xw sc d Mm_walk cm_walk_2 [some (.ref 33), some (xI k), some (xI i), none, none, none, none] [] (xH G K) Q ↔ xw sc d Mm_walk cm_walk_21 [some (.ref 33), some (xI k), some (xI 36), none, none, none, none] [] (xH G' K) Q) ∧ (∀ j, 0 ≤ j → j < i → xg G' 51 j = xg G 51 j) ∧ (∀ j, i ≤ j → j < 36 → xg G' 51 j = 0) ∧ mFx G G' := by
  intro n
  induction n with
  | zero =>
    intro i G i0 i1
    have e : i = 36 := by omega
    subst e
    refine ⟨G, fun Q => ?_, fun _ _ _ => rfl, fun j h1 h2 => absurd h1 (by omega), mFx_rfl⟩
    rw [rm_walk_2]
    simp (contextual := true) (disch := first | assumption | exact xin_g _ _ _ | exact xin_ar _ | exact xin_sc _ _ | exact xin_cmp | exact xin_and | exact xin_or | exact xinl_g _ _ _ | omega | exact xin_mk (by omega) (by omega) | exact xinl_mk (by omega) (by omega) | exact xbo_0 | exact xbo_1 | exact xin_sl | exact xin_fa | exact xbo_ad | exact xin_bo xbo_ad | exact xin_mb | exact xin_A | exact xin_op | ((repeat refine gN_q ?_ (by omega) (by omega)); assumption)) only [rm_walk_3, rm_walk_5, rm_walk_8, rm_walk_9, rm_walk_12, rm_walk_13, rm_walk_14, rm_walk_15, rm_walk_18, xg_cell, Option.toList_some, Option.toList_none, List.singleton_append, List.append_nil, List.nil_append, List.cons_append, false_and, if_false, if_true, Int.reduceAdd, Int.reduceSub, Int.reduceMul, Int.reduceNeg, Int.reduceLE, Int.reduceLT, Int.reduceEq, false_implies, true_implies, not_true_eq_false, not_false_eq_true, and_true, true_and, xar_0, xar_1, xar_2, xar_3, xar_4, xar_5, xar_6, xar_7, xar_8, xar_9, xar_10, xar_11, xar_12]
  | succ n ih =>
    intro i G i0 i1
    obtain ⟨G', g1, g2, g3, g4⟩ := ih (i + 1) (xp G 51 i 0) (by omega) (by omega)
    refine ⟨G', fun Q => ?_, fun j h0 h1 => ?_, fun j h1 h2 => ?_, mFx_tr (mFx_c mFx_rfl (by decide)) g4⟩
    · rw [rm_walk_2]
      have hlt : ¬ 36 ≤ i := by omega
      have g1 := g1 Q
      simp (contextual := true) (disch := first | assumption | exact xin_g _ _ _ | exact xin_ar _ | exact xin_sc _ _ | exact xin_cmp | exact xin_and | exact xin_or | exact xinl_g _ _ _ | omega | exact xin_mk (by omega) (by omega) | exact xinl_mk (by omega) (by omega) | exact xbo_0 | exact xbo_1 | exact xin_sl | exact xin_fa | exact xbo_ad | exact xin_bo xbo_ad | exact xin_mb | exact xin_A | exact xin_op | ((repeat refine gN_q ?_ (by omega) (by omega)); assumption)) only [rm_walk_3, rm_walk_5, rm_walk_8, rm_walk_9, rm_walk_12, rm_walk_13, rm_walk_14, rm_walk_15, rm_walk_18, xg_cell, Option.toList_some, Option.toList_none, List.singleton_append, List.append_nil, List.nil_append, List.cons_append, false_and, if_false, if_true, Int.reduceAdd, Int.reduceSub, Int.reduceMul, Int.reduceNeg, Int.reduceLE, Int.reduceLT, Int.reduceEq, false_implies, true_implies, not_true_eq_false, not_false_eq_true, and_true, true_and, xar_0, xar_1, xar_2, xar_3, xar_4, xar_5, xar_6, xar_7, xar_8, xar_9, xar_10, xar_11, xar_12, hlt, g1]
    · rw [g2 j h0 (by omega), xg_idx i0 h0 (by omega)]
    · by_cases hj : j = i
      · subst hj
        rw [g2 j i0 (by omega), xg_self xin_0]
      · exact g3 j (by omega) h2
/-- the walk from an UNKNOWN node -/
theorem sm_walk {A : aG} {G : xG} {k : Int} (hR : mRep G K A) (hA : aOk A) (hC : cAt G A) (hD : mDn G A) (k0 : 0 ≤ k) (k1 : k < A.1) (h4 : xg G 47 k = 4) : ∃ G' : xG, (∀ Q : Option Value → am_H → Prop, xc sc (d + 1) Mm_walk [.ref 33, xI k] (xH G K) Q ↔ Q (some (xI (xg G 17 k))) (xH G' K)) ∧ mFx G G' := by
  have hn := hA.2.1
  obtain ⟨G1, g1, g2, g3, g4⟩ := lw_clr (sc := sc) (d := d + 1) (K := K) (k := k) 36 0 G (by decide) (by decide)
  have hx : xin k := ⟨by omega, by omega⟩
  have h15 : xg G 15 k = 4 := by rw [← (hD k k0 k1).2.1]; exact h4
  have q := hA.2.2 k k0 k1
  have e := par_xar q.1 (show (A.2 k).1 ≤ 12 by have := q.2.1; omega)
  have e3 := par_3 (k := (A.2 k).1)
  have hF : mFx G (xp (xp G1 52 0 k) 53 0 0) := mFx_c (mFx_c g4 (by decide)) (by decide)
  have e51 : ∀ j, xg (xp (xp G1 52 0 k) 53 0 0) 51 j = xg G1 51 j := fun j => by rw [xg_cell (by decide), xg_cell (by decide)]
  have hum := um_le (G := xp (xp G1 52 0 k) 53 0 0) 36
  obtain ⟨G', m1, m2⟩ := lw_main (sc := sc) (d := d) (K := K) (R := xg G 17 k) hA hR hC.1 (fun j j0 j1 => (hD j j0 j1).2.2.1) 148 (xp (xp G1 52 0 k) 53 0 0) [] k 0 [] 0 (some (xI k)) hF ⟨by show -1 < k; omega, k1, Int.le_refl _, by show 0 ≤ xar (A.2 k).1; omega, trivial⟩ (fun e he => by simp at he) h15 rfl (fun p p0 p1 => absurd p1 (by omega)) (fun x x0 x1 hx => by
    rw [e51, g3 x x0 (by omega)] at hx
    exact absurd rfl hx) ⟨by show xg _ 52 0 = k; rw [xg_cell (by decide), xg_self hx], xg_self xin_0, trivial⟩ (by
    show 4 * (um (xp (xp G1 52 0 k) 53 0 0) 36 : Int) + ((xar (A.2 k).1 - 0 + 1) + 0) ≤ ((148 : Nat) : Int)
    omega) (by decide) (by decide)
  refine ⟨G', fun Q => ?_, m2⟩
  rw [em_walk]
  have m1 : xw sc (d + 1) Mm_walk cm_walk_39 [some (.ref 33), some (xI k), some (xI 1), some (xI 0), none, none, none] [] (xH (xp (xp G1 52 0 k) 53 0 0) K) Q ↔ Q (some (xI (xg G 17 k))) (xH G' K) := m1 Q
  simp (contextual := true) (disch := first | assumption | exact xin_g _ _ _ | exact xin_ar _ | exact xin_sc _ _ | exact xin_cmp | exact xin_and | exact xin_or | exact xinl_g _ _ _ | omega | exact xin_mk (by omega) (by omega) | exact xinl_mk (by omega) (by omega) | exact xbo_0 | exact xbo_1 | exact xin_sl | exact xin_fa | exact xbo_ad | exact xin_bo xbo_ad | exact xin_mb | exact xin_A | exact xin_op | ((repeat refine gN_q ?_ (by omega) (by omega)); assumption)) only [rm_walk_0, rm_walk_1, xg_cell, Option.toList_some, Option.toList_none, List.singleton_append, List.append_nil, List.nil_append, List.cons_append, g1, rm_walk_21, rm_walk_22, rm_walk_23, rm_walk_24, rm_walk_27, rm_walk_28, rm_walk_29, rm_walk_30, rm_walk_31, rm_walk_34, rm_walk_35, rm_walk_36, rm_walk_37, rm_walk_38, m1]
end SP
