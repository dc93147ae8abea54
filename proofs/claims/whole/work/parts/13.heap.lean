/-! The steps that read and write cells. -/
def am_fl (WS NW : List Jvm.Cond) (own : String) (x : Nat) (f : String × String × String × Bool) : Prop := Jvm.Cond.fieldLink own x f.1 f.2.1 f.2.2.1 ∈ WS ∨ ∃ host, Jvm.Cond.fieldLinkNest own x f.1 f.2.1 f.2.2.1 host ∈ NW
def am_ml (WS NW : List Jvm.Cond) (own : String) (x : Nat) (y : MethodName) : Prop := Jvm.Cond.methodLink own x y ∈ WS ∨ ∃ host, Jvm.Cond.methodLinkNest own x y host ∈ NW
/-- of the objects' kinds: fields, names, types, what a new one holds -/
def am_clOk (cl : List vw_C) (WS : List Jvm.Cond) (DF : List (List Value)) : Prop := ∀ (ci : Nat) (C : String) (T : u_T) (N : Nat), cl[ci]? = some (C, T, N) → (∀ w ∈ u_ws C T N, w ∈ WS) ∧ Jvm.Cond.instantiable C N ∈ WS ∧ Jvm.Cond.initialized C ∈ WS ∧ (∀ a, a < N → ∀ b, b < N → a ≠ b → (T a).2.1 ≠ (T b).2.1) ∧ ∃ ty : Nat → FieldType, (∀ k, k < N → parseFieldDescriptor (T k).2.2.1 = some (ty k)) ∧ ∀ fs, DF[ci]? = some fs → fs.length = N ∧ (∀ j, j < N → defaultValue (ty j) = vp_V fs j) ∧ ∀ (ad : Nat → Nat), fs.map (am_v ad) = fs
def am_kh (cl : List vw_C) (WS NW : List Jvm.Cond) (ST : List (String × String × String × Nat)) (y : MethodName) (i : Instr) (aux : List Nat) : Prop := match i with
  | .getfield x => ∀ ci k tc, aux = [ci, k, tc] → ∃ C T N, cl[ci]? = some (C, T, N) ∧ k < N ∧ am_fl WS NW y.cls x (T k)
  | .putfield x => ∀ ci k tc, aux = [ci, k, tc] → ∃ C T N ty, cl[ci]? = some (C, T, N) ∧ k < N ∧ parseFieldDescriptor (T k).2.2.1 = some ty ∧ am_tc ty = tc ∧ (((T k).2.2.2 = false ∧ am_fl WS NW y.cls x (T k)) ∨ ((T k).2.2.2 = true ∧ y.name = "<init>" ∧ (T k).1 = y.cls ∧ Jvm.Cond.fieldLink y.cls x (T k).1 (T k).2.1 (T k).2.2.1 ∈ WS))
  | .getstatic x => ∀ k, aux = [k] → ∃ q ∈ ST, q.2.2.2 = k ∧ am_fl WS NW y.cls x (q.1, q.2.1, q.2.2.1, false)
  | .newarray t => Jvm.Cond.arrayClass (newarray.typeOf t) ∈ WS
  | .new x => ∀ ci, aux = [ci] → ∃ C T N, cl[ci]? = some (C, T, N) ∧ Jvm.Cond.classLink y.cls x C ∈ WS
  | _ => True
theorem am_fit_ok {ty : FieldType} {v : Value} (ad : Nat → Nat) (h : am_fit (am_tc ty) v = true) : narrow ty (am_v ad v) = am_v ad v ∧ fits ty (am_v ad v) = true := by
  cases ty <;> cases v <;> first
    | exact ⟨rfl, rfl⟩
    | (have h2 : _ ∨ _ := of_decide_eq_true h
       rcases h2 with rfl | rfl <;> exact ⟨rfl, rfl⟩)
    | (exact absurd h (by simp [am_fit, am_tc]))
theorem am_map_get {fs : List Value} {k : Nat} {v : Value} {ad : Nat → Nat} (h : fs[k]? = some v) : (fs.map (am_v ad))[k]? = some (am_v ad v) := by
  rw [List.getElem?_map, h]; rfl
theorem am_map_lt {fs : List Value} {k : Nat} {ad : Nat → Nat} (h : k < fs.length) : k < (fs.map (am_v ad)).length := by
  rw [List.length_map]; exact h
theorem am_in_vp {j : Int32} {n : Nat} (h : am_in j n = true) : vp_in j n := by
  have h2 : ¬ (j < 0 ∨ n ≤ j.toNatClampNeg) := of_decide_eq_true h
  exact h2
theorem am_cell_s {h : am_H} {a : Nat} {x : am_E} (e : am_cell h a = some x) : ∃ k, a = k + 2 ∧ h[k]? = some x := by
  match a, e with
  | 0, e => cases e
  | 1, e => cases e
  | k + 2, e => exact ⟨k, rfl, by rw [← am_nth_eq]; exact e⟩
theorem am_pushv_s {S S' : List Value} {h h' : am_H} {v : Option Value} (e : am_pushv S h v = some (S', h')) : ∃ w, v = some w ∧ S' = w :: S ∧ h' = h := by
  cases v with
  | none => cases e
  | some w => cases e; exact ⟨w, rfl, rfl, rfl⟩
theorem am_keep_s {S S' : List Value} {h' : am_H} {o : Option am_H} (e : am_keep S o = some (S', h')) : o = some h' ∧ S' = S := by
  cases o with
  | none => cases e
  | some w => cases e; exact ⟨rfl, rfl⟩
theorem am_getf_s {h : am_H} {ci k a : Nat} {v : Value} (e : am_getf h ci k a = some v) : ∃ j fs, a = j + 2 ∧ h[j]? = some (.inr (ci, fs)) ∧ fs[k]? = some v := by
  unfold am_getf at e
  split at e
  · rename_i ci' fs hc
    obtain ⟨j, h1, h2⟩ := am_cell_s hc
    split at e
    · rename_i hci
      subst hci
      exact ⟨j, fs, h1, h2, by rw [← am_nth_eq]; exact e⟩
    · cases e
  · cases e
theorem am_putf_s {h h' : am_H} {ci k tc a : Nat} {v : Value} (e : am_putf h ci k tc a v = some h') : ∃ j fs, a = j + 2 ∧ h[j]? = some (.inr (ci, fs)) ∧ k < fs.length ∧ am_fit tc v = true ∧ h' = h.set j (.inr (ci, fs.set k v)) := by
  unfold am_putf at e
  split at e
  · rename_i ci' fs hc
    obtain ⟨j, h1, h2⟩ := am_cell_s hc
    split at e
    · rename_i hci
      obtain ⟨hci, q1, q2⟩ := hci
      subst hci
      subst h1
      cases e
      exact ⟨j, fs, rfl, h2, q1, q2, rfl⟩
    · cases e
  · cases e
theorem am_ald_s {h : am_H} {ty : FieldType} {a : Nat} {j x : Int32} (e : am_ald h ty a j = some x) : ∃ k n f, a = k + 2 ∧ h[k]? = some (.inl (ty, n, .inl f)) ∧ vp_in j n ∧ x = f j.toNatClampNeg := by
  unfold am_ald at e
  split at e
  · rename_i ty' n f hc
    obtain ⟨k, h1, h2⟩ := am_cell_s hc
    split at e
    · rename_i q
      obtain ⟨q1, q2⟩ := q
      subst q1
      cases e
      exact ⟨k, n, f, h1, h2, am_in_vp q2, rfl⟩
    · cases e
  · cases e
theorem am_ast_s {h h' : am_H} {ty : FieldType} {a : Nat} {j x : Int32} (e : am_ast h ty a j x = some h') : ∃ k n f, a = k + 2 ∧ h[k]? = some (.inl (ty, n, .inl f)) ∧ vp_in j n ∧ h' = h.set k (.inl (ty, n, .inl (upd f j.toNatClampNeg x))) := by
  unfold am_ast at e
  split at e
  · rename_i ty' n f hc
    obtain ⟨k, h1, h2⟩ := am_cell_s hc
    split at e
    · rename_i q
      obtain ⟨q1, q2⟩ := q
      subst q1
      subst h1
      cases e
      exact ⟨k, n, f, rfl, h2, am_in_vp q2, rfl⟩
    · cases e
  · cases e
theorem am_lald_s {h : am_H} {a : Nat} {j : Int32} {x : Int64} (e : am_lald h a j = some x) : ∃ k n f, a = k + 2 ∧ h[k]? = some (.inl (.long, n, .inr (.inl f))) ∧ vp_in j n ∧ x = f j.toNatClampNeg := by
  unfold am_lald at e
  split at e
  · rename_i n f hc
    obtain ⟨k, h1, h2⟩ := am_cell_s hc
    split at e
    · rename_i q
      cases e
      exact ⟨k, n, f, h1, h2, am_in_vp q, rfl⟩
    · cases e
  · cases e
theorem am_last_s {h h' : am_H} {a : Nat} {j : Int32} {x : Int64} (e : am_last h a j x = some h') : ∃ k n f, a = k + 2 ∧ h[k]? = some (.inl (.long, n, .inr (.inl f))) ∧ vp_in j n ∧ h' = h.set k (.inl (.long, n, .inr (.inl (vp_updL f j.toNatClampNeg x)))) := by
  unfold am_last at e
  split at e
  · rename_i n f hc
    obtain ⟨k, h1, h2⟩ := am_cell_s hc
    split at e
    · rename_i q
      subst h1
      cases e
      exact ⟨k, n, f, rfl, h2, am_in_vp q, rfl⟩
    · cases e
  · cases e
theorem am_map_s {α β : Type} {o : Option α} {f : α → β} {y : β} (e : o.map f = some y) : ∃ x, o = some x ∧ y = f x := by
  cases o with
  | none => cases e
  | some x => cases e; exact ⟨x, rfl, rfl⟩
section AMH
variable {p : Program} {l : Launch} {e : Env} {R : Room} {s : State} {m : MethodId} {args : Array Value} {below : List Frame} {meth : Method} {c : Code} {H : Heap} {locs : List Loc} {Q : State → Prop}
variable {cc : ByteArray} {pc : Nat} {ls : Array Slot}
variable {z : Nat × Nat} {b : Nat} {cid : FieldType → ClassId} {D : va_G} {cl : List vw_C} {Z : am_Z} {ST : List (String × String × String × Nat)} {NW WS : List Jvm.Cond} {DF : List (List Value)} {y : MethodName}
/-- behind a write: the cells' count is as before -/
theorem am_done {g : JFrame} {h0 hh h' : am_H} {H1 : Heap} {locs1 : List Loc} (hs0 : s.heap.size = b + h0.length) (hle : h0.length ≤ hh.length) (e1 : h'.length = hh.length) (e2 : am_siz h' = am_siz hh) (hP1 : va_P D cl (am_w (am_ad z b) cid b h') H1) (hS1 : va_S (fun q => b ≤ q) s.heap H1 locs1)
    (kk : ∀ (H1 : Heap) (locs1 : List Loc), va_P D cl (am_w (am_ad z b) cid b h') H1 → H1.size = b + h'.length → va_S (fun q => b ≤ q) s.heap H1 locs1 → W p l e R s m args below meth c H1 locs1 (h'.length - h0.length) (am_siz h' - am_siz h0) Q g) : W p l e R s m args below meth c H1 locs1 (hh.length - h0.length) (am_siz hh - am_siz h0) Q g := by
  rw [← e1, ← e2]
  refine am_sz fun hsz => kk H1 locs1 hP1 ?_ hS1
  have h1 := am_w_low hP1 (by have := hS1.1; omega)
  omega
theorem am_arr_cls {ty : FieldType} {k : Nat} {cA : ClassId} (hK : va_K D cl (am_ty cid) s) (hk : (am_ty cid)[k]? = some (cid ty, ty)) (hA : va_RA s cA ty) (ho : ∀ C, ty ≠ .object C) : cA = cid ty := by
  have h1 := (hK.2 k _ hk).2
  cases ty with
  | object C => exact absurd rfl (ho C)
  | _ => exact Option.some.inj (hA.symm.trans h1)
set_option maxHeartbeats 8000000 in
theorem am_hp_W (hx : p.tables.exec = Jvm.exec) (hb : c.code = cc) (hts : ∀ w ∈ WS, w.before args s = true) (hown : s.vm.findClass y.cls = some m.cls) (hnm : y.name = "<init>" → meth.name = y.name) (hcl : am_clOk cl WS DF) {h0 hh h' : am_H} (hwd : am_Wd z b cid D cl Z ST NW h0 s) (hle : h0.length ≤ hh.length) (hls : am_siz h0 ≤ am_siz hh) {i : Instr} {aux : List Nat} {S S' : List Value} (hdg : decode cc pc = .ok (i, am_ln i)) (hk : am_kh cl WS NW ST y i aux) (hP : va_P D cl (am_w (am_ad z b) cid b hh) H) (hz : H.size = b + hh.length) (hS : va_S (fun q => b ≤ q) s.heap H locs) (hrc : h'.length - h0.length ≤ R.cells) (hrs : am_siz h' - am_siz h0 ≤ R.slots) (h : am_hp Z DF i aux S hh = some (S', h'))
    (kk : ∀ (H1 : Heap) (locs1 : List Loc), va_P D cl (am_w (am_ad z b) cid b h') H1 → H1.size = b + h'.length → va_S (fun q => b ≤ q) s.heap H1 locs1 → W p l e R s m args below meth c H1 locs1 (h'.length - h0.length) (am_siz h' - am_siz h0) Q (F0 m (pc + am_ln i) ls (S'.map (am_v (am_ad z b))))) :
    W p l e R s m args below meth c H locs (hh.length - h0.length) (am_siz hh - am_siz h0) Q (F0 m pc ls (S.map (am_v (am_ad z b)))) := by
  obtain ⟨hs0, hP0, hK, hR1, hR2, hR3⟩ := hwd
  have hD : va_D (fun q => b ≤ q) (am_w (am_ad z b) cid b hh) := am_w_D
  have hA : ∀ q, s.heap.size ≤ q → b ≤ q := fun q hq => by omega
  have wr : ∀ {j : Nat} {x y : am_E} {g : JFrame} {H1 : Heap} {locs1 : List Loc}, hh[j]? = some y → am_sz1 x = am_sz1 y → h' = hh.set j x → va_P D cl ((am_w (am_ad z b) cid b hh).set j (b + j, am_e (am_ad z b) cid x)) H1 → va_S (fun q => b ≤ q) s.heap H1 locs1 →
      (∀ (H1 : Heap) (locs1 : List Loc), va_P D cl (am_w (am_ad z b) cid b h') H1 → H1.size = b + h'.length → va_S (fun q => b ≤ q) s.heap H1 locs1 → W p l e R s m args below meth c H1 locs1 (h'.length - h0.length) (am_siz h' - am_siz h0) Q g) → W p l e R s m args below meth c H1 locs1 (hh.length - h0.length) (am_siz hh - am_siz h0) Q g := by
    intro j x y g H1 locs1 hj hsz e1 hP1 hS1 k2
    subst e1
    rw [am_w_set] at hP1
    exact am_done hs0 hle List.length_set (am_siz_set hh j x y hj hsz) hP1 hS1 k2
  cases i with
  | getfield x =>
    simp only [am_hp] at h
    split at h
    · obtain ⟨v, hv, rfl, rfl⟩ := am_pushv_s h
      obtain ⟨j, fs, rfl, hj, hfv⟩ := am_getf_s hv
      obtain ⟨C, T, N, hc, hkN, hl⟩ := hk _ _ _ rfl
      have hv' := am_map_get (ad := am_ad z b) hfv
      rcases hl with hl | ⟨host, hl⟩
      · exact va_get (D := D) (C := C) (T := T) (N := N) hx hb hts (hcl _ _ _ _ hc).1 hown hK hP j (am_w_at hj) hc _ hkN (hts _ hl) (fun _ h9 => h9) hv' hdg (kk H locs hP hz hS)
      · exact va_getN (D := D) (C := C) (T := T) (N := N) hx hb hts (hcl _ _ _ _ hc).1 hown hK hP j (am_w_at hj) hc _ hkN (va_Nw.use rfl (hR3 _ hl)) (fun _ h9 => h9) hv' hdg (kk H locs hP hz hS)
    · cases h
  | putfield x =>
    simp only [am_hp] at h
    split at h
    · rename_i ci k tc v a S0
      obtain ⟨hv, rfl⟩ := am_keep_s h
      obtain ⟨j, fs, rfl, hj, hlt, hft, hh'⟩ := am_putf_s hv
      obtain ⟨C, T, N, ty, hc, hkN, hd, rfl, hl⟩ := hk _ _ _ rfl
      obtain ⟨hn, hf⟩ := am_fit_ok (am_ad z b) hft
      obtain ⟨q1, q2, q3, q4, ty0, q5, q6⟩ := hcl _ _ _ _ hc
      have hlt' := am_map_lt (ad := am_ad z b) hlt
      have fin : ∀ (H1 : Heap) (locs1 : List Loc), va_P D cl ((am_w (am_ad z b) cid b hh).set j (b + j, .inr (ci, (fs.map (am_v (am_ad z b))).set k (am_v (am_ad z b) v)))) H1 → va_D (fun q => b ≤ q) ((am_w (am_ad z b) cid b hh).set j (b + j, .inr (ci, (fs.map (am_v (am_ad z b))).set k (am_v (am_ad z b) v)))) → va_S (fun q => b ≤ q) s.heap H1 locs1 → W p l e R s m args below meth c H1 locs1 (hh.length - h0.length) (am_siz hh - am_siz h0) Q (F0 m (pc + 3) ls (List.map (am_v (am_ad z b)) S')) :=
        fun H1 locs1 hP1 _ hS1 => wr hj (by simp [am_sz1]) hh' (by
          show va_P D cl ((am_w (am_ad z b) cid b hh).set j (b + j, .inr (ci, List.map (am_v (am_ad z b)) (fs.set k v)))) H1
          rw [List.map_set]
          exact hP1) hS1 kk
      rcases hl with ⟨hfin, hl | ⟨host, hl⟩⟩ | ⟨hfin, hin, hdecl, hl⟩
      · exact va_put (D := D) (C := C) (T := T) (N := N) hx hb hts q1 ty0 q5 q4 hown hK hP hD hS j (am_w_at hj) hc _ hkN (hts _ hl) (fun _ h9 => h9) hfin hd hn hf hlt' hdg fin
      · exact va_putN (D := D) (C := C) (T := T) (N := N) hx hb hts q1 ty0 q5 q4 hown hK hP hD hS j (am_w_at hj) hc _ hkN (va_Nw.use rfl (hR3 _ hl)) (fun _ h9 => h9) hfin hd hn hf hlt' hdg fin
      · exact va_putF (D := D) (C := C) (T := T) (N := N) hx hb hts q1 ty0 q5 q4 hown hK hP hD hS j (am_w_at hj) hc _ hkN (hts _ hl) (fun _ h9 => h9) hfin ((hnm hin).trans hin) hdecl hd hn hf hlt' hdg fin
    · cases h
  | getstatic x =>
    simp only [am_hp] at h
    split at h
    · cases h
      obtain ⟨q, hq, rfl, hl⟩ := hk _ rfl
      obtain ⟨a1, a2⟩ := hR2 q hq
      rcases hl with hl | ⟨host, hl⟩
      · exact va_gets hx hb a2 hS hown (hts _ hl) (fun _ h9 => h9) hdg (kk H locs hP hz hS)
      · exact va_getsN hx hb a2 hS hown (va_Nw.use rfl (hR3 _ hl)) (fun _ h9 => h9) hdg (kk H locs hP hz hS)
    · cases h
  | arraylength =>
    simp only [am_hp] at h
    split at h
    · rename_i a S0
      obtain ⟨v, hv, rfl, rfl⟩ := am_pushv_s h
      obtain ⟨n, hn, rfl⟩ := am_map_s hv
      match a, hn with
      | 0, hn =>
        obtain ⟨q, hq, rfl⟩ := am_map_s hn
        exact va_tlen hx hb (hR1 0 q.1 q.2 (by omega) hq) hS rfl hdg (kk H locs hP hz hS)
      | 1, hn =>
        obtain ⟨q, hq, rfl⟩ := am_map_s hn
        exact va_tlen hx hb (hR1 1 q.1 q.2 (by omega) hq) hS rfl hdg (kk H locs hP hz hS)
      | k + 2, hn => cases hn
    · cases h
  | iaload =>
    simp only [am_hp] at h
    split at h
    · rename_i j a S0
      obtain ⟨v, hv, rfl, rfl⟩ := am_pushv_s h
      obtain ⟨x, hn, rfl⟩ := am_map_s hv
      unfold am_iald at hn
      split at hn
      · rename_i n f hf
        split at hn
        · rename_i hin
          cases hn
          have hin' : vp_in j n := am_in_vp hin
          match a, hf with
          | 0, hf =>
            exact va_ti hx hb (hR1 0 n f (by omega) hf) hS hin' rfl hdg (kk H locs hP hz hS)
          | 1, hf =>
            exact va_ti hx hb (hR1 1 n f (by omega) hf) hS hin' rfl hdg (kk H locs hP hz hS)
          | k + 2, hf =>
            simp only [am_ia, am_nth_eq] at hf
            split at hf
            · rename_i n' f' hc
              cases hf
              exact va_iald hx hb hK hP k 0 (am_w_at hc) rfl hin' hdg (kk H locs hP hz hS)
            · cases hf
        · cases hn
      · cases hn
    · cases h
  | baload =>
    simp only [am_hp] at h
    split at h
    · obtain ⟨v, hv, rfl, rfl⟩ := am_pushv_s h
      obtain ⟨x, hn, rfl⟩ := am_map_s hv
      obtain ⟨k, n, f, rfl, hc, hin, rfl⟩ := am_ald_s hn
      exact va_zald hx hb hK hP k 2 (am_w_at hc) rfl hin hdg (kk H locs hP hz hS)
    · cases h
  | caload =>
    simp only [am_hp] at h
    split at h
    · obtain ⟨v, hv, rfl, rfl⟩ := am_pushv_s h
      obtain ⟨x, hn, rfl⟩ := am_map_s hv
      obtain ⟨k, n, f, rfl, hc, hin, rfl⟩ := am_ald_s hn
      exact va_cald hx hb hK hP k 3 (am_w_at hc) rfl hin hdg (kk H locs hP hz hS)
    · cases h
  | laload =>
    simp only [am_hp] at h
    split at h
    · obtain ⟨v, hv, rfl, rfl⟩ := am_pushv_s h
      obtain ⟨x, hn, rfl⟩ := am_map_s hv
      obtain ⟨k, n, f, rfl, hc, hin, rfl⟩ := am_lald_s hn
      exact va_lald hx hb hK hP k 1 (am_w_at hc) rfl hin hdg (kk H locs hP hz hS)
    · cases h
  | iastore =>
    simp only [am_hp] at h
    split at h
    · obtain ⟨hn, rfl⟩ := am_keep_s h
      obtain ⟨k, n, f, rfl, hc, hin, hh'⟩ := am_ast_s hn
      exact va_iast hx hb hK hP hD hS k 0 (am_w_at hc) rfl hin hdg (fun H1 locs1 hP1 _ hS1 => wr hc (by rfl) hh' hP1 hS1 kk)
    · cases h
  | bastore =>
    simp only [am_hp] at h
    split at h
    · obtain ⟨hn, rfl⟩ := am_keep_s h
      obtain ⟨k, n, f, rfl, hc, hin, hh'⟩ := am_ast_s hn
      exact va_zast hx hb hK hP hD hS k 2 (am_w_at hc) rfl hin hdg (fun H1 locs1 hP1 _ hS1 => wr hc (by rfl) hh' hP1 hS1 kk)
    · cases h
  | castore =>
    simp only [am_hp] at h
    split at h
    · obtain ⟨hn, rfl⟩ := am_keep_s h
      obtain ⟨k, n, f, rfl, hc, hin, hh'⟩ := am_ast_s hn
      exact va_cast hx hb hK hP hD hS k 3 (am_w_at hc) rfl hin hdg (fun H1 locs1 hP1 _ hS1 => wr hc (by rfl) hh' hP1 hS1 kk)
    · cases h
  | lastore =>
    simp only [am_hp] at h
    split at h
    · obtain ⟨hn, rfl⟩ := am_keep_s h
      obtain ⟨k, n, f, rfl, hc, hin, hh'⟩ := am_last_s hn
      exact va_last hx hb hK hP hD hS k 1 (am_w_at hc) rfl hin hdg (fun H1 locs1 hP1 _ hS1 => wr hc (by rfl) hh' hP1 hS1 kk)
    · cases h
  | newarray t =>
    simp only [am_hp] at h
    split at h
    · split at h
      · rename_i n S0 hc
        obtain ⟨hn, hb1, hok⟩ := hc
        cases h
        have e1 : (hh ++ [Sum.inl (newarray.typeOf t, am_new0 t n.toNatClampNeg)] : am_H).length = hh.length + 1 := by simp
        have e2 : am_siz (hh ++ [Sum.inl (newarray.typeOf t, am_new0 t n.toNatClampNeg)]) = am_siz hh + n.toNatClampNeg := by
          rw [am_siz_push]
          cases t <;> rfl
        rw [e1] at hrc
        rw [e2] at hrs
        refine va_newa (a0 := am_new0 t n.toNatClampNeg) hx hb (hts _ hk) rfl hK hP hD hS hA (fun cA => ?_) hn rfl ?_ (by omega) (by omega) hdg (fun q cA H1 hK1 hP1 hD1 hS1 => ?_)
        · cases t <;> first | rfl | exact absurd hok (by simp [am_okA])
        · have : componentBytes (newarray.typeOf t) ≤ 8 := by cases t <;> decide
          exact Nat.le_trans (Nat.mul_le_mul hb1 this) (by decide)
        · refine am_sz fun hsz => ?_
          have hq0 : (am_w (am_ad z b) cid b hh ++ [(q, (Sum.inl (cA, am_new0 t n.toNatClampNeg) : va_E))])[hh.length]? = some (q, .inl (cA, am_new0 t n.toNatClampNeg)) := by
            rw [List.getElem?_append_right (by rw [am_w_len]; omega), am_w_len, Nat.sub_self]
            rfl
          have hq1 := (hP1 _ _ hq0).lt
          have hq2 : b ≤ q := hD1.2 _ _ hq0
          have hq3 : q = b + hh.length := by
            by_cases hlt : q < b + hh.length
            · have hj : q - b < hh.length := by omega
              have h5 := am_w_at (ad := am_ad z b) (cid := cid) (b := b) (List.getElem?_eq_getElem hj)
              have h6 : (am_w (am_ad z b) cid b hh ++ [(q, (Sum.inl (cA, am_new0 t n.toNatClampNeg) : va_E))])[q - b]? = some (b + (q - b), am_e (am_ad z b) cid (hh[q - b]'hj)) := by
                rw [List.getElem?_append_left (by rw [am_w_len]; exact hj)]
                exact h5
              have h7 := hD1.1 _ _ _ _ h6 hq0 (by show b + (q - b) = q; omega)
              omega
            · have h8 : q < H1.size := hq1
              omega
          have hk5 : (am_ty cid ++ [(cA, newarray.typeOf t)])[4]? = some (cA, newarray.typeOf t) := rfl
          have hcA : cA = cid (newarray.typeOf t) := by
            have h9 := (hK1.2 4 _ hk5).2
            cases t with
            | int => exact am_arr_cls (ty := .int) (k := 0) hK rfl h9 (fun C => by intro z; cases z)
            | long => exact am_arr_cls (ty := .long) (k := 1) hK rfl h9 (fun C => by intro z; cases z)
            | boolean => exact am_arr_cls (ty := .boolean) (k := 2) hK rfl h9 (fun C => by intro z; cases z)
            | char => exact am_arr_cls (ty := .char) (k := 3) hK rfl h9 (fun C => by intro z; cases z)
            | _ => exact absurd hok (by simp [am_okA])
          subst hq3
          subst hcA
          have hP2 : va_P D cl (am_w (am_ad z b) cid b (hh ++ [Sum.inl (newarray.typeOf t, am_new0 t n.toNatClampNeg)])) H1 := by
            rw [am_w_push]
            exact hP1
          refine W.cs (by rw [e1]; omega) (by rw [e2]; omega) (kk H1 locs hP2 (by rw [e1]; omega) hS1)
      · cases h
    · cases h
  | new x =>
    simp only [am_hp] at h
    split at h
    · split at h
      · rename_i ci xo fs hf
        cases h
        obtain ⟨C, T, N, hc, hl⟩ := hk _ rfl
        obtain ⟨q1, q2, q3, q4, ty0, q5, q6⟩ := hcl _ _ _ _ hc
        obtain ⟨hfl, hfd, hfm⟩ := q6 fs (by rw [← am_nth_eq]; exact hf)
        have e1 : (hh ++ [Sum.inr (ci, fs)] : am_H).length = hh.length + 1 := by simp
        have e2 : am_siz (hh ++ [Sum.inr (ci, fs)]) = am_siz hh + N := by
          rw [am_siz_push]
          show am_siz hh + fs.length = _
          rw [hfl]
        rw [e1] at hrc
        rw [e2] at hrs
        refine va_new (D := D) (ci := ci) (fs := fs) (C := C) (T := T) (N := N) hx hb hts q1 ty0 q5 hown (hts _ hl) (hts _ q2) (hts _ q3) hK hP hD hS hA hc hfd (by omega) (by omega) hdg (fun q H1 hP1 hD1 hS1 => ?_)
        refine am_sz fun hsz => ?_
        have hq0 : (am_w (am_ad z b) cid b hh ++ [(q, (Sum.inr (ci, fs) : va_E))])[hh.length]? = some (q, .inr (ci, fs)) := by
          rw [List.getElem?_append_right (by rw [am_w_len]; omega), am_w_len, Nat.sub_self]
          rfl
        have hq1 := (hP1 _ _ hq0).lt
        have hq2 : b ≤ q := hD1.2 _ _ hq0
        have hq3 : q = b + hh.length := by
          by_cases hlt : q < b + hh.length
          · have hj : q - b < hh.length := by omega
            have h5 := am_w_at (ad := am_ad z b) (cid := cid) (b := b) (List.getElem?_eq_getElem hj)
            have h6 : (am_w (am_ad z b) cid b hh ++ [(q, (Sum.inr (ci, fs) : va_E))])[q - b]? = some (b + (q - b), am_e (am_ad z b) cid (hh[q - b]'hj)) := by
              rw [List.getElem?_append_left (by rw [am_w_len]; exact hj)]
              exact h5
            have h7 := hD1.1 _ _ _ _ h6 hq0 (by show b + (q - b) = q; omega)
            omega
          · have h8 : q < H1.size := hq1
            omega
        subst hq3
        have hP2 : va_P D cl (am_w (am_ad z b) cid b (hh ++ [Sum.inr (ci, fs)])) H1 := by
          rw [am_w_push]
          show va_P D cl (am_w (am_ad z b) cid b hh ++ [(b + hh.length, .inr (ci, fs.map (am_v (am_ad z b))))]) H1
          rw [hfm]
          exact hP1
        refine W.cs (by rw [e1]; omega) (by rw [e2]; omega) (kk H1 locs hP2 (by rw [e1]; omega) hS1)
      · cases h
    · cases h
  | _ => exact absurd h (fun q => by cases q)
end AMH
