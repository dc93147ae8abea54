/-! THE LAW'S WALK OUT OF A RUN OF THE SMALL MACHINE -/
theorem am_K0 {s : State} {args : Array Value} (hts : ∀ w ∈ lw_tbl, w.before args s = true) : ∃ (cid : FieldType → ClassId) (D : va_G), va_K D amCl (am_ty cid) s := by
  have arr : ∀ ty : FieldType, Jvm.Cond.arrayClass ty ∈ amWS → ∃ cA : ClassId, ArrOfT s cA ty ∧ s.vm.findClass ("[" ++ ty.toString) = some cA := by
    intro ty hm
    obtain ⟨cA, kA, comp, h1, h2, h3⟩ := Cond.arrayClass_spec (hts _ (List.mem_filter.mp hm).1)
    exact ⟨cA, fun N z => ⟨(fun k h => by cases h), kA, h2, comp, h3⟩, h1⟩
  obtain ⟨cI, i1, i2⟩ := arr .int (amAW_ok _ (by simp [amAW]))
  obtain ⟨cJ, j1, j2⟩ := arr .long (amAW_ok _ (by simp [amAW]))
  obtain ⟨cZ, z1, z2⟩ := arr .boolean (amAW_ok _ (by simp [amAW]))
  obtain ⟨cC, c1, c2⟩ := arr .char (amAW_ok _ (by simp [amAW]))
  have cls : ∀ c : Nat, ∃ r : ClassId × (Nat → Nat), ∀ q, amCl[c]? = some q → u_Kn s q.1 q.2.1 q.2.2 r.1 r.2 := by
    intro c
    cases hq : amCl[c]? with
    | none => exact ⟨(cI, fun _ => 0), fun q h => by cases h⟩
    | some q =>
      obtain ⟨C, T, N⟩ := q
      obtain ⟨h1, h2, -⟩ := amCl_ok c C T N hq
      obtain ⟨cc, iS, hk⟩ := u_known (ws := lw_tbl) hts (fun w hw => (List.mem_filter.mp (h1 w hw)).1) (hts _ (List.mem_filter.mp h2).1)
      exact ⟨(cc, iS), fun q h => by cases h; exact hk⟩
  refine ⟨fun ty => match ty with
    | .long => cJ
    | .boolean => cZ
    | .char => cC
    | _ => cI, (fun c => (Classical.choose (cls c)).1, fun c => (Classical.choose (cls c)).2), fun c q h => Classical.choose_spec (cls c) q h, fun k q h => ?_⟩
  match k, h with
  | 0, h => cases h; exact ⟨i1, i2⟩
  | 1, h => cases h; exact ⟨j1, j2⟩
  | 2, h => cases h; exact ⟨z1, z2⟩
  | 3, h => cases h; exact ⟨c1, c2⟩
  | n + 4, h => exact absurd h (by simp [am_ty])
theorem am_ar0 {s : State} {args : Array Value} (hgv : (Jvm.Cond.and given_1 narrow_1).before args s = true) : ∃ t : Nat, (Term.static "ConeForms" "ARITY" "[I").eval args s none [] s = some (.ref t) ∧ va_T .int t 13 (fun j => .int (xarF j)) (fun x => s.heap.size ≤ x) s s.heap := by
  have hs := flat_of_before _ hgv
  refine va_Tof (by decide) (hs _ (by decide +kernel)) (va_eqt (z := 13) (hs _ (by decide +kernel))) (fun j hj => ?_) (fun a ha => by omega)
  match j, hj with
  | 0, _ => exact va_eqt (z := 0) (hs (.eq (.elem (.static "ConeForms" "ARITY" "[I") (.int 0)) (.int 0)) (by decide +kernel))
  | 1, _ => exact va_eqt (z := 0) (hs (.eq (.elem (.static "ConeForms" "ARITY" "[I") (.int 1)) (.int 0)) (by decide +kernel))
  | 2, _ => exact va_eqt (z := 0) (hs (.eq (.elem (.static "ConeForms" "ARITY" "[I") (.int 2)) (.int 0)) (by decide +kernel))
  | 3, _ => exact va_eqt (z := 2) (hs (.eq (.elem (.static "ConeForms" "ARITY" "[I") (.int 3)) (.int 2)) (by decide +kernel))
  | 4, _ => exact va_eqt (z := 2) (hs (.eq (.elem (.static "ConeForms" "ARITY" "[I") (.int 4)) (.int 2)) (by decide +kernel))
  | 5, _ => exact va_eqt (z := 1) (hs (.eq (.elem (.static "ConeForms" "ARITY" "[I") (.int 5)) (.int 1)) (by decide +kernel))
  | 6, _ => exact va_eqt (z := 2) (hs (.eq (.elem (.static "ConeForms" "ARITY" "[I") (.int 6)) (.int 2)) (by decide +kernel))
  | 7, _ => exact va_eqt (z := 2) (hs (.eq (.elem (.static "ConeForms" "ARITY" "[I") (.int 7)) (.int 2)) (by decide +kernel))
  | 8, _ => exact va_eqt (z := 2) (hs (.eq (.elem (.static "ConeForms" "ARITY" "[I") (.int 8)) (.int 2)) (by decide +kernel))
  | 9, _ => exact va_eqt (z := 1) (hs (.eq (.elem (.static "ConeForms" "ARITY" "[I") (.int 9)) (.int 1)) (by decide +kernel))
  | 10, _ => exact va_eqt (z := 1) (hs (.eq (.elem (.static "ConeForms" "ARITY" "[I") (.int 10)) (.int 1)) (by decide +kernel))
  | 11, _ => exact va_eqt (z := 3) (hs (.eq (.elem (.static "ConeForms" "ARITY" "[I") (.int 11)) (.int 3)) (by decide +kernel))
  | 12, _ => exact va_eqt (z := 0) (hs (.eq (.elem (.static "ConeForms" "ARITY" "[I") (.int 12)) (.int 0)) (by decide +kernel))
  | n + 13, h => omega
theorem am_isN_t {w : Jvm.Cond} (h : am_isN w = true) : w.onTables = true := by
  cases w <;> first | rfl | exact absurd h (by simp [am_isN])
set_option maxHeartbeats 4000000 in
theorem am_start {p : Program} {e : Env} {s : State} {m : MethodId} {below : List Frame} {meth : Method} {c : Code} (l : Launch) {b L : Nat} {xs : Nat → Int32} (C0 : lw_At p s m meth c b L xs) (hrun : am_wp amP (xZ (L, xs)) amDF 1000 MW_law cW_law_0 [some (.ref 0), none, none, none] [] [] (fun r h => r = some (.int 1) ∧ h.length ≤ 600000 ∧ am_siz h ≤ 7302250)) : W p l e room_1 s m #[Value.ref b] below meth c s.heap [] 0 0 (lw_Z below #[Value.ref b] s) (entryFrame m ([Value.ref b] : List Value).toArray 4) := by
  obtain ⟨n, r, h', er, rfl, hc, hsz⟩ := hrun
  obtain ⟨q1, q2, q3, q4, q5, q6, q7, q8, q9, q10⟩ := C0
  obtain ⟨cid, D, hK⟩ := am_K0 q6
  obtain ⟨t, ht, hT⟩ := am_ar0 q10
  have hA : ∀ a : Nat, a < s.heap.size → ¬ (s.heap.size ≤ a) := fun a ha => by omega
  have hX : va_T .int b L (fun j => .int (xs j)) (fun x => s.heap.size ≤ x) s s.heap := by
    obtain ⟨scr, h1, h2, h3, h4, h5⟩ := q7
    exact ⟨scr, h1, h2, h3, Nat.le_of_eq h4.symm, (by rw [h4]), h5, hA b q8⟩
  have hlay : (Cond.laysStatic "ConeForms" "ARITY" "[I").before #[Value.ref b] s = true := q6 _ (List.mem_append_right _ (by decide +kernel))
  have hini : (Cond.initialized "ConeForms").before #[Value.ref b] s = true := q6 _ (List.mem_append_right _ (by decide +kernel))
  have hwd : am_Wd (b, t) s.heap.size cid D amCl (xZ (L, xs)) amST amNW [] s := by
    refine ⟨rfl, fun k q h => (by cases h), hK, fun k n f hk hz => ?_, fun q hq => ?_, fun w hw => ?_⟩
    · match k, hk, hz with
      | 0, _, hz => cases hz; exact hX
      | 1, _, hz => cases hz; exact hT
      | k + 2, hk, _ => omega
    · simp only [amST, List.mem_cons, List.not_mem_nil, or_false] at hq
      subst hq
      exact ⟨by decide, va_Zref hlay hini ht hA⟩
    · obtain ⟨h1, h2⟩ := List.mem_filter.mp hw
      exact va_Nw.of (am_isN_t h2) (q6 w h1)
  have hCx : am_Cx amCl amWS amNW amST (xZ (L, xs)) MW_law p s m #[Value.ref b] meth c (b, t) s.heap.size cid D [] := ⟨q1, q2, q4, q5, fun h => absurd h (by decide), fun w hw => q6 w (List.mem_filter.mp hw).1, hwd⟩
  have hLH : am_LH (am_ad (b, t) s.heap.size) ((lg_sl ([Value.ref b] : List Value) ++ List.replicate (4 - (lg_sl ([Value.ref b] : List Value)).length) Slot.unset).toArray) 4 [some (.ref 0), none, none, none] := am_LH.entry (ad := am_ad (b, t) s.heap.size) (N := MW_law) (vs := [.ref 0]) (by decide)
  rw [lg_entry_eq]
  refine am_snd (Z := xZ (L, xs)) am_allOk n 1000 MW_law cW_law_0 [some (.ref 0), none, none, none] [] [] (some (.int 1)) h' er tW_law_ok (List.suffix_refl _) p l e room_1 s m #[Value.ref b] below meth c _ (b, t) s.heap.size cid D [] s.heap [] _ hCx (by decide) (by decide) (by show h'.length - 0 ≤ 600000; omega) (by show am_siz h' - 0 ≤ 7302250; omega) (Nat.le_refl _) (Nat.le_refl _) (fun k q h => (by cases h)) rfl va_S.rf hLH ?_ _ _ rfl
  intro pc i S H locs ls hdg hrt hP hz hS
  refine va_forget (fun q hq => hS.2.2 q hq) (W.widen (k := 600000) (n := 7302250) (by show h'.length - 0 ≤ 600000; omega) (by show am_siz h' - 0 ≤ 7302250; omega) ?_)
  unfold am_ret at hrt
  split at hrt
  · rename_i he
    exact absurd he (by decide)
  · split at hrt
    · cases hrt
      exact lw_ret q1 q2 q3 q9 hdg
    · cases hrt
  · rename_i he
    exact absurd he (by decide)
  · cases hrt
  · cases hrt
  · cases hrt
