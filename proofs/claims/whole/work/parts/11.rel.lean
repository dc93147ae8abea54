/-! From the small machine's lists to the machine's heap and frames. -/
def am_ad (z : Nat × Nat) (b : Nat) : Nat → Nat
  | 0 => z.1
  | 1 => z.2
  | k + 2 => b + k
def am_v (ad : Nat → Nat) : Value → Value
  | .ref k => .ref (ad k)
  | v => v
theorem am_v_cat (ad : Nat → Nat) (v : Value) : (am_v ad v).category = v.category := by cases v <;> rfl
def am_e (ad : Nat → Nat) (cid : FieldType → ClassId) : am_E → va_E
  | .inl (ty, a) => .inl (cid ty, a)
  | .inr (ci, fs) => .inr (ci, fs.map (am_v ad))
def am_w (ad : Nat → Nat) (cid : FieldType → ClassId) : Nat → am_H → va_W
  | _, [] => []
  | b, x :: r => (b, am_e ad cid x) :: am_w ad cid (b + 1) r
theorem am_w_get (ad : Nat → Nat) (cid : FieldType → ClassId) : ∀ (h : am_H) (b k : Nat), (am_w ad cid b h)[k]? = (h[k]?).map (fun x => (b + k, am_e ad cid x))
  | [], b, k => by simp [am_w]
  | x :: r, b, 0 => by simp [am_w]
  | x :: r, b, k + 1 => by
    simp only [am_w, List.getElem?_cons_succ]
    rw [am_w_get ad cid r (b + 1) k, show b + 1 + k = b + (k + 1) by omega]
theorem am_w_set (ad : Nat → Nat) (cid : FieldType → ClassId) : ∀ (h : am_H) (b k : Nat) (x : am_E), (am_w ad cid b h).set k (b + k, am_e ad cid x) = am_w ad cid b (h.set k x)
  | [], b, k, x => by simp [am_w]
  | y :: r, b, 0, x => by simp [am_w]
  | y :: r, b, k + 1, x => by
    simp only [am_w, List.set_cons_succ]
    rw [← am_w_set ad cid r (b + 1) k x, show b + 1 + k = b + (k + 1) by omega]
theorem am_w_push (ad : Nat → Nat) (cid : FieldType → ClassId) : ∀ (h : am_H) (b : Nat) (x : am_E), am_w ad cid b (h ++ [x]) = am_w ad cid b h ++ [(b + h.length, am_e ad cid x)]
  | [], b, x => by simp [am_w]
  | y :: r, b, x => by
    simp only [am_w, List.cons_append, List.length_cons]
    rw [am_w_push ad cid r (b + 1) x, show b + 1 + r.length = b + (r.length + 1) by omega]
theorem am_w_len (ad : Nat → Nat) (cid : FieldType → ClassId) : ∀ (h : am_H) (b : Nat), (am_w ad cid b h).length = h.length
  | [], b => rfl
  | x :: r, b => by
    simp only [am_w, List.length_cons]
    rw [am_w_len ad cid r (b + 1)]
theorem am_w_at {ad : Nat → Nat} {cid : FieldType → ClassId} {h : am_H} {b k : Nat} {x : am_E} (hk : h[k]? = some x) : (am_w ad cid b h)[k]? = some (b + k, am_e ad cid x) := by
  rw [am_w_get, hk]; rfl
theorem am_w_D {ad : Nat → Nat} {cid : FieldType → ClassId} {h : am_H} {b : Nat} : va_D (fun q => b ≤ q) (am_w ad cid b h) := by
  refine ⟨fun i j x y hi hj hxy => ?_, fun k q hk => ?_⟩
  · rw [am_w_get] at hi hj
    cases h1 : h[i]? with
    | none => rw [h1] at hi; cases hi
    | some u =>
      cases h2 : h[j]? with
      | none => rw [h2] at hj; cases hj
      | some w =>
        rw [h1] at hi
        rw [h2] at hj
        have e1 : (b + i, am_e ad cid u) = x := Option.some.inj hi
        have e2 : (b + j, am_e ad cid w) = y := Option.some.inj hj
        rw [← e1, ← e2] at hxy
        have : b + i = b + j := hxy
        omega
  · rw [am_w_get] at hk
    cases h1 : h[k]? with
    | none => rw [h1] at hk; cases hk
    | some u =>
      rw [h1] at hk
      have e1 : (b + k, am_e ad cid u) = q := Option.some.inj hk
      rw [← e1]
      exact Nat.le_add_right b k
/-- the size of the heap out of the cells -/
theorem am_w_low {D : va_G} {cl : List vw_C} {ad : Nat → Nat} {cid : FieldType → ClassId} {h : am_H} {b : Nat} {H : Heap} (hP : va_P D cl (am_w ad cid b h) H) (hb : b ≤ H.size) : b + h.length ≤ H.size := by
  cases hl : h.length with
  | zero => omega
  | succ n =>
    have hn : n < h.length := by omega
    have h1 := hP n _ (am_w_at (List.getElem?_eq_getElem hn))
    have h2 : b + n < H.size := h1.lt
    omega
def am_sz1 : am_E → Nat
  | .inl (_, n, _) => n
  | .inr (_, fs) => fs.length
def am_siz : am_H → Nat
  | [] => 0
  | x :: r => am_sz1 x + am_siz r
theorem am_siz_push : ∀ (h : am_H) (x : am_E), am_siz (h ++ [x]) = am_siz h + am_sz1 x
  | [], x => by simp [am_siz]
  | y :: r, x => by
    simp only [List.cons_append, am_siz]
    rw [am_siz_push r x]
    omega
theorem am_siz_set : ∀ (h : am_H) (k : Nat) (x y : am_E), h[k]? = some y → am_sz1 x = am_sz1 y → am_siz (h.set k x) = am_siz h
  | [], k, x, y, h1, _ => by simp at h1
  | u :: r, 0, x, y, h1, h2 => by
    have e1 : u = y := by simpa using h1
    simp only [List.set_cons_zero, am_siz]
    rw [h2, e1]
  | u :: r, k + 1, x, y, h1, h2 => by
    simp only [List.set_cons_succ, am_siz]
    rw [am_siz_set r k x y (by simpa using h1) h2]
/-! locals -/
def am_LH (ad : Nat → Nat) (ls : Array Slot) (nL : Nat) (L : am_L) : Prop := ls.size = nL ∧ lv_wf ls ∧ L.length = nL ∧ ∀ (i : Nat) (v : Value), am_loc L i = some v → ls[i]? = some (.val (am_v ad v))
theorem am_loc_lt {L : am_L} {i : Nat} {v : Value} (h : am_loc L i = some v) : i < L.length := by
  simp only [am_loc, am_nth_eq] at h
  cases hx : L[i]? with
  | none => rw [hx] at h; cases h
  | some w => exact (List.getElem?_eq_some_iff.mp hx).1
theorem am_loc_set_ne {L : am_L} {i j : Nat} {x : Option Value} (h : j ≠ i) : am_loc (L.set i x) j = am_loc L j := by
  simp only [am_loc, am_nth_eq, List.getElem?_set_ne (Ne.symm h)]
theorem am_loc_set_self {L : am_L} {i : Nat} {x : Option Value} {v : Value} (h : am_loc (L.set i x) i = some v) : x = some v := by
  have hl := am_loc_lt h
  rw [List.length_set] at hl
  simp only [am_loc, am_nth_eq] at h
  rw [List.getElem?_set_self hl] at h
  exact h
theorem am_unlong_len (L : am_L) (i : Nat) : (am_unlong L i).length = L.length := by
  cases i with
  | zero => rfl
  | succ i =>
    simp only [am_unlong]
    split
    · split
      · exact List.length_set
      · rfl
    · rfl
theorem am_unlong_loc {L : am_L} {i j : Nat} {w : Value} (h : am_loc (am_unlong L i) j = some w) : am_loc L j = some w ∧ ¬ (j + 1 = i ∧ w.category = 2) := by
  cases i with
  | zero => exact ⟨h, fun q => by omega⟩
  | succ i =>
    simp only [am_unlong] at h
    cases hv : am_loc L i with
    | none =>
      rw [hv] at h
      have h' : am_loc L j = some w := h
      refine ⟨h', fun q => ?_⟩
      have e1 : j = i := by omega
      rw [e1, hv] at h'
      cases h'
    | some v =>
      rw [hv] at h
      by_cases hc : v.category = 2
      · have h' : am_loc (L.set i none) j = some w := by
          simp only [hc, if_true] at h
          exact h
        by_cases hj : j = i
        · subst hj
          cases am_loc_set_self h'
        · rw [am_loc_set_ne hj] at h'
          exact ⟨h', fun q => hj (by omega)⟩
      · have h' : am_loc L j = some w := by
          simp only [hc, if_false] at h
          exact h
        refine ⟨h', fun q => ?_⟩
        have e1 : j = i := by omega
        rw [e1, hv] at h'
        cases h'
        exact hc q.2
theorem am_kill_len : ∀ (ks : List Nat) (L : am_L), (am_kill ks L).length = L.length
  | [], L => rfl
  | k :: ks, L => by
    show (am_kill ks (L.set k none)).length = _
    rw [am_kill_len ks, List.length_set]
theorem am_kill_loc : ∀ (ks : List Nat) (L : am_L) (j : Nat) (w : Value), am_loc (am_kill ks L) j = some w → am_loc L j = some w
  | [], L, j, w, h => h
  | k :: ks, L, j, w, h => by
    have h1 := am_kill_loc ks (L.set k none) j w h
    by_cases hj : j = k
    · subst hj
      cases am_loc_set_self h1
    · rwa [am_loc_set_ne hj] at h1
theorem am_LH.kill {ad : Nat → Nat} {ls : Array Slot} {nL : Nat} {L : am_L} (h : am_LH ad ls nL L) (ks : List Nat) : am_LH ad ls nL (am_kill ks L) :=
  ⟨h.1, h.2.1, (am_kill_len ks L).trans h.2.2.1, fun i v hv => h.2.2.2 i v (am_kill_loc ks L i v hv)⟩
def am_prs (ad : Nat → Nat) (L : am_L) : List (Nat × Value) := (List.range L.length).filterMap (fun i => (am_loc L i).map (fun v => (i, am_v ad v)))
theorem am_prs_mem {ad : Nat → Nat} {L : am_L} {q : Nat × Value} : q ∈ am_prs ad L ↔ ∃ v, am_loc L q.1 = some v ∧ q.2 = am_v ad v := by
  simp only [am_prs, List.mem_filterMap, List.mem_range]
  constructor
  · rintro ⟨i, hi, h⟩
    cases hv : am_loc L i with
    | none => rw [hv] at h; cases h
    | some v =>
      rw [hv] at h
      have e1 : (i, am_v ad v) = q := Option.some.inj h
      rw [← e1]
      exact ⟨v, hv, rfl⟩
  · rintro ⟨v, h1, h2⟩
    refine ⟨q.1, am_loc_lt h1, ?_⟩
    rw [h1]
    show some (q.1, am_v ad v) = some q
    rw [← h2]
theorem am_LH.has {ad : Nat → Nat} {ls : Array Slot} {nL : Nat} {L : am_L} (h : am_LH ad ls nL L) : lv_has ls nL (am_prs ad L) :=
  ⟨h.1, h.2.1, fun q hq => by
    obtain ⟨v, h1, h2⟩ := am_prs_mem.mp hq
    rw [h2]
    exact h.2.2.2 _ _ h1⟩
theorem am_LH.sto {ad : Nat → Nat} {ls ls' : Array Slot} {nL i : Nat} {L : am_L} {v : Value} (h : am_LH ad ls nL L) (h' : lv_has ls' nL ((i, am_v ad v) :: (am_prs ad L).filter (fun q => !(q.1 == i) && !(q.1 + 1 == i && q.2.category == 2)))) : am_LH ad ls' nL (am_sto L i v) := by
  refine ⟨h'.1, h'.2.1, ?_, fun j w hj => ?_⟩
  · rw [am_sto, List.length_set, am_unlong_len]
    exact h.2.2.1
  · by_cases hji : j = i
    · subst hji
      have e1 := Option.some.inj (am_loc_set_self hj)
      rw [← e1]
      exact h'.2.2 _ List.mem_cons_self
    · rw [am_sto, am_loc_set_ne hji] at hj
      obtain ⟨h1, h2⟩ := am_unlong_loc hj
      refine h'.2.2 (j, am_v ad w) (List.mem_cons_of_mem _ (List.mem_filter.mpr ⟨am_prs_mem.mpr ⟨w, h1, rfl⟩, ?_⟩))
      rw [Bool.and_eq_true]
      refine ⟨by simp [hji], ?_⟩
      simp only [am_v_cat]
      by_cases e1 : j + 1 = i
      · have e2 : ¬ w.category = 2 := fun q => h2 ⟨e1, q⟩
        simp [e1, e2]
      · simp [e1]
theorem am_LH.stl {ad : Nat → Nat} {ls ls' : Array Slot} {nL i : Nat} {L : am_L} {v : Value} (h : am_LH ad ls nL L) (h' : lv_has ls' nL ((i, am_v ad v) :: (am_prs ad L).filter (fun q => !(q.1 == i) && (!(q.1 == i + 1) && !(q.1 + 1 == i && q.2.category == 2))))) : am_LH ad ls' nL (am_stl L i v) := by
  refine ⟨h'.1, h'.2.1, ?_, fun j w hj => ?_⟩
  · rw [am_stl, List.length_set, List.length_set, am_unlong_len]
    exact h.2.2.1
  · by_cases hj1 : j = i + 1
    · subst hj1
      cases am_loc_set_self hj
    · rw [am_stl, am_loc_set_ne hj1] at hj
      by_cases hji : j = i
      · subst hji
        have e1 := Option.some.inj (am_loc_set_self hj)
        rw [← e1]
        exact h'.2.2 _ List.mem_cons_self
      · rw [am_loc_set_ne hji] at hj
        obtain ⟨h1, h2⟩ := am_unlong_loc hj
        refine h'.2.2 (j, am_v ad w) (List.mem_cons_of_mem _ (List.mem_filter.mpr ⟨am_prs_mem.mpr ⟨w, h1, rfl⟩, ?_⟩))
        rw [Bool.and_eq_true, Bool.and_eq_true]
        refine ⟨by simp [hji], by simp [hj1], ?_⟩
        simp only [am_v_cat]
        by_cases e1 : j + 1 = i
        · have e2 : ¬ w.category = 2 := fun q => h2 ⟨e1, q⟩
          simp [e1, e2]
        · simp [e1]
/-! a method's beginning -/
theorem am_exp_mem (ad : Nat → Nat) : ∀ (vs : List Value) (k i : Nat) (v : Value), am_loc (am_exp vs) i = some v → (k + i, am_v ad v) ∈ lv_args k (vs.map (am_v ad))
  | [], k, i, v, h => by
    have := am_loc_lt h
    simp [am_exp] at this
  | u :: r, k, i, v, h => by
    simp only [am_exp] at h
    simp only [List.map_cons, lv_args, am_v_cat]
    by_cases hc : u.category = 2
    · simp only [hc, if_true] at h ⊢
      match i, h with
      | 0, h =>
        have e1 : u = v := by simpa [am_loc, am_nth] using h
        rw [e1]
        exact List.mem_cons_self
      | 1, h =>
        have e1 : (none : Option Value) = some v := by simpa [am_loc, am_nth] using h
        cases e1
      | i + 2, h =>
        have h1 : am_loc (am_exp r) i = some v := by simpa [am_loc, am_nth] using h
        have h2 := am_exp_mem ad r (k + 2) i v h1
        rw [show k + (i + 2) = k + 2 + i by omega]
        exact List.mem_cons_of_mem _ h2
    · simp only [hc, if_false] at h ⊢
      match i, h with
      | 0, h =>
        have e1 : u = v := by simpa [am_loc, am_nth] using h
        rw [e1]
        exact List.mem_cons_self
      | i + 1, h =>
        have h1 : am_loc (am_exp r) i = some v := by simpa [am_loc, am_nth] using h
        have h2 := am_exp_mem ad r (k + 1) i v h1
        rw [show k + (i + 1) = k + 1 + i by omega]
        exact List.mem_cons_of_mem _ h2
theorem am_exp_len (ad : Nat → Nat) : ∀ (vs : List Value), (lg_sl (vs.map (am_v ad))).length = (am_exp vs).length
  | [] => rfl
  | u :: r => by
    have ih := am_exp_len ad r
    simp only [lg_sl] at ih
    simp only [List.map_cons, lg_sl, List.flatMap_cons, List.length_append, am_v_cat, am_exp]
    rw [ih]
    by_cases hc : u.category = 2
    · simp [hc]; omega
    · simp [hc]; omega
theorem am_LH.entry {ad : Nat → Nat} {N : am_M} {vs : List Value} (h : (am_exp vs).length ≤ am_nl N) : am_LH ad ((lg_sl (vs.map (am_v ad)) ++ List.replicate (am_nl N - (lg_sl (vs.map (am_v ad))).length) Slot.unset).toArray) (am_nl N) (am_ent N vs) := by
  have hl := lv_entry (vs.map (am_v ad)) (n := am_nl N) (by rw [am_exp_len]; exact h)
  refine ⟨hl.1, hl.2.1, ?_, fun i v hv => ?_⟩
  · simp only [am_ent, List.length_append, List.length_replicate]
    omega
  · have h1 : am_loc (am_exp vs) i = some v := by
      simp only [am_loc, am_ent, am_nth_eq] at hv ⊢
      by_cases hi : i < (am_exp vs).length
      · rwa [List.getElem?_append_left hi] at hv
      · rw [List.getElem?_append_right (by omega)] at hv
        cases hx : (List.replicate (am_nl N - (am_exp vs).length) (none : Option Value))[i - (am_exp vs).length]? with
        | none => rw [hx] at hv; cases hv
        | some w =>
          rw [hx] at hv
          have e1 := List.eq_of_mem_replicate (List.mem_of_getElem? hx)
          rw [e1] at hv
          cases hv
    have h2 := am_exp_mem ad vs 0 i v h1
    rw [Nat.zero_add] at h2
    exact hl.2.2 _ h2
/-! what stands beside the cells: arrays that are only read, static fields, the nest's words -/
def am_isN : Jvm.Cond → Bool
  | .fieldLinkNest _ _ _ _ _ _ => true
  | .methodLinkNest _ _ _ _ => true
  | _ => false
theorem am_nw {w : Jvm.Cond} (h : am_isN w = true) {s U : State} (hW : s.WarmedH U.vm) (hz : va_Nw w s) : va_Nw w U := by
  cases w <;> first | exact va_Nw.warmF hW hz | exact va_Nw.warmM hW hz | exact absurd h (by simp [am_isN])
def am_RO (z : Nat × Nat) (b : Nat) (Z : am_Z) (ST : List (String × String × String × Nat)) (NW : List Jvm.Cond) (U : State) (H : Heap) : Prop :=
  (∀ (k n : Nat) (f : Nat → Int32), k < 2 → am_nth Z k = some (n, f) → va_T .int (am_ad z b k) n (fun j => .int (f j)) (fun x => b ≤ x) U H) ∧ (∀ q ∈ ST, q.2.2.2 < 2 ∧ va_Z q.1 q.2.1 q.2.2.1 (.ref (am_ad z b q.2.2.2)) (fun x => b ≤ x) U H) ∧ ∀ w ∈ NW, va_Nw w U
theorem am_RO.moved {z : Nat × Nat} {b : Nat} {Z : am_Z} {ST : List (String × String × String × Nat)} {NW : List Jvm.Cond} {s U : State} {H0 H : Heap} (hN : ∀ w ∈ NW, am_isN w = true) (hW : s.WarmedH U.vm) (hk : ∀ q : Nat, q < b → H[q]? = H0[q]?) (h : am_RO z b Z ST NW s H0) : am_RO z b Z ST NW U H := by
  obtain ⟨h1, h2, h3⟩ := h
  refine ⟨fun k n f hk2 hz => ?_, fun q hq => ?_, fun w hw => am_nw (hN w hw) hW (h3 w hw)⟩
  · exact ((h1 k n f hk2 hz).moved hW.alike).kept (fun a _ ha => hk a (by omega))
  · obtain ⟨a1, a2⟩ := h2 q hq
    exact ⟨a1, (a2.moved hW.alike).kept (fun a _ ha => hk a (by omega))⟩
def am_ty (cid : FieldType → ClassId) : List (ClassId × FieldType) := [(cid .int, .int), (cid .long, .long), (cid .boolean, .boolean), (cid .char, .char)]
def am_Wd (z : Nat × Nat) (b : Nat) (cid : FieldType → ClassId) (D : va_G) (cl : List vw_C) (Z : am_Z) (ST : List (String × String × String × Nat)) (NW : List Jvm.Cond) (h : am_H) (U : State) : Prop :=
  U.heap.size = b + h.length ∧ va_P D cl (am_w (am_ad z b) cid b h) U.heap ∧ va_K D cl (am_ty cid) U ∧ am_RO z b Z ST NW U U.heap
