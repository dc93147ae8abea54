/-! A run of the small machine is a walk of the machine. -/
theorem am_hp_le {Z : am_Z} {DF : List (List Value)} {i : Instr} {aux : List Nat} {S S' : List Value} {h h' : am_H} (e : am_hp Z DF i aux S h = some (S', h')) : h.length ≤ h'.length ∧ am_siz h ≤ am_siz h' := by
  have st : ∀ {j : Nat} {x y : am_E}, h[j]? = some y → am_sz1 x = am_sz1 y → h' = h.set j x → h.length ≤ h'.length ∧ am_siz h ≤ am_siz h' := by
    intro j x y hj hs e1
    rw [e1, List.length_set, am_siz_set h j x y hj hs]
    exact ⟨Nat.le_refl _, Nat.le_refl _⟩
  have sm : h' = h → h.length ≤ h'.length ∧ am_siz h ≤ am_siz h' := by
    intro e1
    rw [e1]
    exact ⟨Nat.le_refl _, Nat.le_refl _⟩
  have pu : ∀ {x : am_E}, h' = h ++ [x] → h.length ≤ h'.length ∧ am_siz h ≤ am_siz h' := by
    intro x e1
    rw [e1, am_siz_push, List.length_append]
    exact ⟨Nat.le_add_right _ _, Nat.le_add_right _ _⟩
  cases i with
  | getfield x =>
    simp only [am_hp] at e
    split at e
    · obtain ⟨v, hv, rfl, rfl⟩ := am_pushv_s e; exact sm rfl
    · cases e
  | putfield x =>
    simp only [am_hp] at e
    split at e
    · obtain ⟨hv, rfl⟩ := am_keep_s e
      obtain ⟨j, fs, rfl, hj, hlt, hft, hh'⟩ := am_putf_s hv
      exact st hj (by simp [am_sz1]) hh'
    · cases e
  | getstatic x =>
    simp only [am_hp] at e
    split at e
    · cases e; exact sm rfl
    · cases e
  | arraylength =>
    simp only [am_hp] at e
    split at e
    · obtain ⟨v, hv, rfl, rfl⟩ := am_pushv_s e; exact sm rfl
    · cases e
  | iaload =>
    simp only [am_hp] at e
    split at e
    · obtain ⟨v, hv, rfl, rfl⟩ := am_pushv_s e; exact sm rfl
    · cases e
  | baload =>
    simp only [am_hp] at e
    split at e
    · obtain ⟨v, hv, rfl, rfl⟩ := am_pushv_s e; exact sm rfl
    · cases e
  | caload =>
    simp only [am_hp] at e
    split at e
    · obtain ⟨v, hv, rfl, rfl⟩ := am_pushv_s e; exact sm rfl
    · cases e
  | laload =>
    simp only [am_hp] at e
    split at e
    · obtain ⟨v, hv, rfl, rfl⟩ := am_pushv_s e; exact sm rfl
    · cases e
  | iastore =>
    simp only [am_hp] at e
    split at e
    · obtain ⟨hn, rfl⟩ := am_keep_s e
      obtain ⟨k, n, f, rfl, hc, hin, hh'⟩ := am_ast_s hn
      exact st hc (by rfl) hh'
    · cases e
  | bastore =>
    simp only [am_hp] at e
    split at e
    · obtain ⟨hn, rfl⟩ := am_keep_s e
      obtain ⟨k, n, f, rfl, hc, hin, hh'⟩ := am_ast_s hn
      exact st hc (by rfl) hh'
    · cases e
  | castore =>
    simp only [am_hp] at e
    split at e
    · obtain ⟨hn, rfl⟩ := am_keep_s e
      obtain ⟨k, n, f, rfl, hc, hin, hh'⟩ := am_ast_s hn
      exact st hc (by rfl) hh'
    · cases e
  | lastore =>
    simp only [am_hp] at e
    split at e
    · obtain ⟨hn, rfl⟩ := am_keep_s e
      obtain ⟨k, n, f, rfl, hc, hin, hh'⟩ := am_last_s hn
      exact st hc (by rfl) hh'
    · cases e
  | newarray t =>
    simp only [am_hp] at e
    split at e
    · split at e
      · cases e; exact pu rfl
      · cases e
    · cases e
  | new x =>
    simp only [am_hp] at e
    split at e
    · split at e
      · cases e; exact pu rfl
      · cases e
    · cases e
  | _ => exact absurd e (fun q => by cases q)
theorem am_run_nil (P : List am_M) (Z : am_Z) (DF : List (List Value)) (n d : Nat) (M : am_M) (L : am_L) (S : List Value) (h : am_H) : am_run P Z DF n d M [] L S h = none := by
  cases n <;> rfl
theorem am_run_le (P : List am_M) (Z : am_Z) (DF : List (List Value)) : ∀ (n d : Nat) (M : am_M) (is : List am_I) (L : am_L) (S : List Value) (h : am_H) (r : Option Value) (h' : am_H), am_run P Z DF n d M is L S h = some (r, h') → h.length ≤ h'.length ∧ am_siz h ≤ am_siz h' := by
  intro n
  induction n with
  | zero => intro d M is L S h r h' e; cases e
  | succ n ih =>
    intro d M is L S h r h' e
    have fin : ∀ {o : Option (Option Value)}, am_fin o h = some (r, h') → h.length ≤ h'.length ∧ am_siz h ≤ am_siz h' := by
      intro o e1
      cases o with
      | none => cases e1
      | some v => cases e1; exact ⟨Nat.le_refl _, Nat.le_refl _⟩
    match is, e with
    | [], e => cases e
    | (pc, i, len, aux, ks) :: is, e =>
      simp only [am_run] at e
      split at e
      · exact ih _ _ _ _ _ _ _ _ e
      · split at e
        · rename_i S2 h2 hp
          have h1 := am_hp_le hp
          have h3 := ih _ _ _ _ _ _ _ _ e
          exact ⟨Nat.le_trans h1.1 h3.1, Nat.le_trans h1.2 h3.2⟩
        · split at e
          · exact ih _ _ _ _ _ _ _ _ e
          · split at e
            · exact fin e
            · split at e
              · exact ih _ _ _ _ _ _ _ _ e
              · split at e
                · split at e
                  · rename_i r1 h1 hc
                    have h3 := ih _ _ _ _ _ _ _ _ hc
                    have h4 := ih _ _ _ _ _ _ _ _ e
                    exact ⟨Nat.le_trans h3.1 h4.1, Nat.le_trans h3.2 h4.2⟩
                  · cases e
                · exact fin e
def am_sw (i : Instr) : Bool := match i with
  | .tableswitch _ _ _ _ => true
  | .lookupswitch _ _ => true
  | _ => false
def am_mn (k : Nat) : MethodName := match k with
  | 0 => Lib.Math.abs.name
  | 1 => Lib.Math.max.name
  | 2 => Lib.Math.min.name
  | _ => Lib.MathLoose.max_long.x
def am_mtOk (WS : List Jvm.Cond) : Prop := Jvm.Cond.initialized "java/lang/Math" ∈ WS ∧ (∀ k, k < 4 → Jvm.Cond.static (am_mn k) ∈ WS) ∧ Jvm.Cond.code Lib.Math.abs.name Lib.Math.abs.code 1 (some .int) ∈ WS ∧ Jvm.Cond.code Lib.Math.max.name Lib.Math.max.code 2 (some .int) ∈ WS ∧ Jvm.Cond.code Lib.Math.min.name Lib.Math.min.code 2 (some .int) ∈ WS ∧ Jvm.Cond.code Lib.MathLoose.max_long.x Lib.MathLoose.max_long.code 4 (some .long) ∈ WS
def am_kc (cl : List vw_C) (WS NW : List Jvm.Cond) (P : List am_M) (y : MethodName) (i : Instr) (aux : List Nat) : Prop := match i with
  | .invokevirtual x => ∀ j ci N, aux = [j, ci] → P[j]? = some N → (∃ T K, cl[ci]? = some ((am_y N).cls, T, K)) ∧ am_ml WS NW y.cls x (am_y N)
  | .invokespecial x => (aux = [] → Jvm.Cond.methodLink y.cls x Lib.objectInit ∈ WS) ∧ ∀ j N, aux = [j] → P[j]? = some N → am_ml WS NW y.cls x (am_y N)
  | .invokestatic x => (∀ j N, aux = [j] → P[j]? = some N → am_ml WS NW y.cls x (am_y N)) ∧ ∀ k c, aux = [k, c] → Jvm.Cond.methodLink y.cls x (am_mn k) ∈ WS
  | _ => True
def am_eOk (cl : List vw_C) (WS NW : List Jvm.Cond) (ST : List (String × String × String × Nat)) (P : List am_M) (M : am_M) (x : am_I) : Prop :=
  decode (am_cc M) x.1 = .ok (x.2.1, x.2.2.1) ∧ (am_sw x.2.1 = false → x.2.2.1 = am_ln x.2.1) ∧ am_kp (am_y M).cls (am_nl M) WS x.2.1 x.2.2.2.1 ∧ am_kb x.1 x.2.1 x.2.2.2.1 ∧ am_kh cl WS NW ST (am_y M) x.2.1 x.2.2.2.1 ∧ am_kc cl WS NW P (am_y M) x.2.1 x.2.2.2.1
def am_chain : List am_I → Bool
  | [] => true
  | [_] => true
  | x :: y :: r => decide (y.1 = x.1 + x.2.2.1) && am_chain (y :: r)
theorem am_chain_suf : ∀ (pre : List am_I) (x y : am_I) (r : List am_I), am_chain (pre ++ x :: y :: r) = true → y.1 = x.1 + x.2.2.1
  | [], x, y, r, h => by
    simp only [List.nil_append, am_chain, Bool.and_eq_true, decide_eq_true_eq] at h
    exact h.1
  | [u], x, y, r, h => by
    simp only [List.cons_append, List.nil_append, am_chain, Bool.and_eq_true, decide_eq_true_eq] at h
    exact h.2.1
  | u :: w :: pre, x, y, r, h => by
    simp only [List.cons_append, am_chain, Bool.and_eq_true] at h
    exact am_chain_suf (w :: pre) x y r h.2
theorem am_at_suf : ∀ (T : List am_I) (t : Nat), am_at T t <:+ T
  | [], t => List.suffix_refl _
  | x :: r, t => by
    simp only [am_at]
    split
    · exact List.suffix_refl _
    · exact List.suffix_cons_iff.mpr (Or.inr (am_at_suf r t))
theorem am_at_pc : ∀ (T : List am_I) (t : Nat) (x : am_I) (r : List am_I), am_at T t = x :: r → x.1 = t
  | [], t, x, r, h => by cases h
  | u :: w, t, x, r, h => by
    simp only [am_at] at h
    split at h
    · rename_i hu
      cases h
      exact hu
    · exact am_at_pc w t x r h
def am_tOk (cl : List vw_C) (WS NW : List Jvm.Cond) (ST : List (String × String × String × Nat)) (P : List am_M) (M : am_M) : Prop := am_chain (am_tb M) = true ∧ (∃ x r, am_tb M = x :: r ∧ x.1 = 0) ∧ ∀ x ∈ am_tb M, am_eOk cl WS NW ST P M x
def am_mOk (cl : List vw_C) (WS NW : List Jvm.Cond) (ST : List (String × String × String × Nat)) (P : List am_M) (M : am_M) : Prop :=
  Jvm.Cond.code (am_y M) (am_cc M) (am_nl M) (am_rt M) ∈ WS ∧ Jvm.Cond.initialized (am_y M).cls ∈ WS ∧ plainName (am_y M).cls = true ∧ ((am_y M).cls ≠ "java/lang/invoke/MethodHandle" ∧ (am_y M).cls ≠ "java/lang/invoke/VarHandle" ∧ (parseMethodDescriptor (am_y M).desc).map (fun d => d.parameters.length) = some (am_np M)) ∧ am_nl M ≤ 60 ∧
  (am_kd M = 0 → Jvm.Cond.instanceMethod (am_y M) ∈ WS ∧ Jvm.Cond.selects (am_y M).cls (am_y M) (am_y M) ∈ WS) ∧ (am_kd M = 1 → (am_y M).name = "<init>" ∧ Jvm.Cond.instanceMethod (am_y M) ∈ WS ∧ am_rt M = none) ∧ (am_kd M = 2 → Jvm.Cond.static (am_y M) ∈ WS) ∧ am_tOk cl WS NW ST P M
def am_Ok (cl : List vw_C) (WS NW : List Jvm.Cond) (ST : List (String × String × String × Nat)) (DF : List (List Value)) (P : List am_M) : Prop :=
  am_clOk cl WS DF ∧ (∀ w ∈ WS, goodWord w = true) ∧ (∀ w ∈ NW, am_isN w = true) ∧ Jvm.Cond.instanceMethod Lib.objectInit ∈ WS ∧ Jvm.Cond.code Lib.objectInit ⟨#[0xb1]⟩ 1 none ∈ WS ∧ (∀ M ∈ P, am_mOk cl WS NW ST P M) ∧ am_mtOk WS
def am_Cx (cl : List vw_C) (WS NW : List Jvm.Cond) (ST : List (String × String × String × Nat)) (Z : am_Z) (M : am_M) (p : Program) (s : State) (m : MethodId) (args : Array Value) (meth : Method) (c : Code) (z : Nat × Nat) (b : Nat) (cid : FieldType → ClassId) (D : va_G) (h0 : am_H) : Prop :=
  p.tables.exec = Jvm.exec ∧ c.code = am_cc M ∧ c.maxLocals = am_nl M ∧ s.vm.findClass (am_y M).cls = some m.cls ∧ ((am_y M).name = "<init>" → meth.name = (am_y M).name) ∧ (∀ w ∈ WS, w.before args s = true) ∧ am_Wd z b cid D cl Z ST NW h0 s
def am_Qc (z : Nat × Nat) (b : Nat) (cid : FieldType → ClassId) (D : va_G) (cl : List vw_C) (Z : am_Z) (ST : List (String × String × String × Nat)) (NW : List Jvm.Cond) (r : Option Value) (h1 : am_H) : Array Value → State → Outcome → State → Prop := fun _ st o t => o = .returned (r.map (am_v (am_ad z b))) ∧ am_Wd z b cid D cl Z ST NW h1 t ∧ va_F (fun q => b ≤ q) st t
/-- the walk that a run of n steps gives -/
def am_Snd (cl : List vw_C) (WS NW : List Jvm.Cond) (ST : List (String × String × String × Nat)) (DF : List (List Value)) (P : List am_M) (Z : am_Z) (n : Nat) : Prop :=
  ∀ (d : Nat) (M : am_M) (is : List am_I) (L : am_L) (S : List Value) (h : am_H) (r : Option Value) (h' : am_H), am_run P Z DF n d M is L S h = some (r, h') → am_tOk cl WS NW ST P M → is <:+ am_tb M →
  ∀ (p : Program) (l : Launch) (e : Env) (R : Room) (s : State) (m : MethodId) (args : Array Value) (below : List Frame) (meth : Method) (c : Code) (Q : State → Prop) (z : Nat × Nat) (b : Nat) (cid : FieldType → ClassId) (D : va_G) (h0 : am_H) (H : Heap) (locs : List Loc) (ls : Array Slot),
  am_Cx cl WS NW ST Z M p s m args meth c z b cid D h0 → d ≤ R.frames → d * 80 ≤ R.locals → h'.length - h0.length ≤ R.cells → am_siz h' - am_siz h0 ≤ R.slots → h0.length ≤ h.length → am_siz h0 ≤ am_siz h →
  va_P D cl (am_w (am_ad z b) cid b h) H → H.size = b + h.length → va_S (fun q => b ≤ q) s.heap H locs → am_LH (am_ad z b) ls (am_nl M) L →
  (∀ (pc : Nat) (i : Instr) (S : List Value) (H : Heap) (locs : List Loc) (ls : Array Slot), decode (am_cc M) pc = .ok (i, 1) → am_ret (am_rt M) i S = some r → va_P D cl (am_w (am_ad z b) cid b h') H → H.size = b + h'.length → va_S (fun q => b ≤ q) s.heap H locs → W p l e R s m args below meth c H locs (h'.length - h0.length) (am_siz h' - am_siz h0) Q (F0 m pc ls (S.map (am_v (am_ad z b))))) →
  ∀ (x : am_I) (rs : List am_I), is = x :: rs → W p l e R s m args below meth c H locs (h.length - h0.length) (am_siz h - am_siz h0) Q (F0 m x.1 ls (S.map (am_v (am_ad z b))))
section AMC
variable {p : Program} {l : Launch} {e : Env} {R : Room} {s : State} {m : MethodId} {args : Array Value} {below : List Frame} {meth : Method} {c : Code} {H : Heap} {locs : List Loc} {cells slots : Nat} {Q : State → Prop}
variable {z : Nat × Nat} {b : Nat} {cid : FieldType → ClassId} {D : va_G} {cl : List vw_C} {Z : am_Z} {ST : List (String × String × String × Nat)} {NW WS : List Jvm.Cond} {DF : List (List Value)} {P : List am_M}
theorem am_callW {pc : Nat} {ls : Array Slot} {rest st0 : List Value} {a : Array Value} {mc ms : Nat} {r : Option Value} {h1 : am_H} (hr : va_Run p l e R s m args below meth c H locs cells slots mc ms (F0 m pc ls st0) rest (am_Qc z b cid D cl Z ST NW r h1 a) (fun q => b ≤ q)) (hS : va_S (fun q => b ≤ q) s.heap H locs)
    (kk : ∀ (t : State) (locs1 : List Loc), am_Wd z b cid D cl Z ST NW h1 t → va_S (fun q => b ≤ q) s.heap t.heap locs1 → W p l e R s m args below meth c t.heap locs1 (cells + mc) (slots + ms) Q (F0 m (pc + 3) ls ((r.map (am_v (am_ad z b))).toList ++ rest))) : W p l e R s m args below meth c H locs cells slots Q (F0 m pc ls st0) := by
  intro T hT X
  obtain ⟨v, st₀, t, T', L, h0, X', hL, e1, e2, ⟨hv, hw, hz, hk⟩, st⟩ := hr T hT X
  cases hv
  rw [h0] at hz hk
  obtain ⟨t2, a1, b1⟩ := kk t (locs ++ L) hw ⟨Nat.le_trans hS.1 hz, fun q q1 q2 => by rw [hk q (Nat.lt_of_lt_of_le q1 hS.1) q2]; exact hS.2.1 q q1 q2, fun q hq => by
      rcases List.mem_append.mp hq with q1 | q1
      · exact hS.2.2 q q1
      · exact hL q q1⟩ T' e1 X'
  exact ⟨t2, st t2 a1, b1⟩
theorem am_Wd.blind {as : List Value} {h : am_H} (hN : ∀ w ∈ NW, am_isN w = true) : FrameBlind (va_Pc as (am_Wd z b cid D cl Z ST NW h)) := by
  intro a U g mk q
  obtain ⟨q0, q1, q2, q3, q4⟩ := q
  exact ⟨q0, q1, q2, va_K.moved (u := U) (U := U.calling g mk a) (Vm.Alike.refl U.vm) q3, am_RO.moved (s := U) (U := U.calling g mk a) hN (State.WarmedH.refl U) (fun _ _ => rfl) q4⟩
theorem am_Wd.to {h : am_H} {t : State} (hN : ∀ w ∈ NW, am_isN w = true) {h0 : am_H} (hwd : am_Wd z b cid D cl Z ST NW h0 s) (hP : va_P D cl (am_w (am_ad z b) cid b h) H) (hz : H.size = b + h.length) (hS : va_S (fun q => b ≤ q) s.heap H locs) (ht : t.heap = H) (hW : s.WarmedH t.vm) : am_Wd z b cid D cl Z ST NW h t := by
  obtain ⟨q1, q2, q3, q4⟩ := hwd
  refine ⟨by rw [ht]; exact hz, by rw [ht]; exact hP, va_K.moved hW.alike q3, am_RO.moved hN hW (fun q hq => ?_) q4⟩
  rw [ht]
  exact hS.2.1 q (by omega) (by show ¬ b ≤ q; omega)
theorem am_met {n d : Nat} {N : am_M} {vs : List Value} {h h1 : am_H} {r : Option Value} (ihn : am_Snd cl WS NW ST DF P Z n) (hN : ∀ w ∈ NW, am_isN w = true) (hM : am_mOk cl WS NW ST P N) (hlen : (am_exp vs).length ≤ am_nl N) (hc : am_run P Z DF n d N (am_tb N) (am_ent N vs) [] h = some (r, h1)) :
    Met l (am_y N) (Jvm.Cond.code (am_y N) (am_cc N) (am_nl N) (am_rt N) :: WS) { frames := d, cells := h1.length - h.length, slots := am_siz h1 - am_siz h, locals := d * 80 } (va_Pc (vs.map (am_v (am_ad z b))) (am_Wd z b cid D cl Z ST NW h)) (am_Qc z b cid D cl Z ST NW r h1) (h1.length - h.length) (am_siz h1 - am_siz h) (fun q => b ≤ q) := by
  obtain ⟨m1, m2, m3, m4, m5, m6, m7, m8, mT⟩ := hM
  refine Met.ofW (cc := am_cc N) (maxL := am_nl N) (ret := am_rt N) m3 rfl ?_
  intro p e s m args below meth c s₁ B hml hv
  obtain ⟨rfl, hwd⟩ := hv
  have hts := atoms_spec (ws := Jvm.Cond.code (am_y N) (am_cc N) (am_nl N) (am_rt N) :: WS) B.pre
  have hown : s.vm.findClass (am_y N).cls = some m.cls := findClass_of_methodNamed B.named
  have hlocks := B.notSynchronized
  have hnm := (name_of_methodNamed B.named B.method).1
  obtain ⟨⟨pc0, x⟩, rs, hx, hx0⟩ := mT.2.1
  have hx1 : pc0 = 0 := hx0
  subst hx1
  rw [lg_entry_eq]
  refine W.cs (Nat.sub_self h.length).symm (Nat.sub_self (am_siz h)).symm ?_
  refine ihn d N (am_tb N) (am_ent N vs) [] h r h1 hc mT (List.suffix_refl _) p l e _ s m _ below meth c _ z b cid D h s.heap [] _ ⟨B.exec, B.bytes, hml, hown, fun _ => hnm, fun w hw => hts w (List.mem_cons_of_mem _ hw), hwd⟩ (Nat.le_refl _) (Nat.le_refl _) (Nat.le_refl _) (Nat.le_refl _) (Nat.le_refl _) (Nat.le_refl _) hwd.2.1 hwd.1 va_S.rf (am_LH.entry (ad := am_ad z b) hlen)
    (fun pc i S H locs ls hdg hrt hP hz hS => ?_) (0, x) rs hx
  · have hr := B.returns
    have wd : ∀ t : State, t.heap = H → s.WarmedH t.vm → am_Wd z b cid D cl Z ST NW h1 t := fun t ht hW => am_Wd.to hN hwd hP hz hS ht hW
    unfold am_ret at hrt
    split at hrt
    · rename_i x he
      cases hrt
      exact W.iret B.exec B.bytes (hr.trans he) (fun t ht hW => ⟨rfl, wd t ht hW, hS.F ht⟩) hS.2.2 hdg
    · rename_i x he
      split at hrt
      · rename_i hx2
        cases hrt
        exact W.zret (ty := .boolean) B.exec B.bytes (hr.trans he) (by rcases hx2 with rfl | rfl <;> rfl) (fun t ht hW => ⟨rfl, wd t ht hW, hS.F ht⟩) hS.2.2 hdg
      · cases hrt
    · rename_i x he
      split at hrt
      · rename_i hx2
        cases hrt
        exact W.zret (ty := .char) B.exec B.bytes (hr.trans he) hx2 (fun t ht hW => ⟨rfl, wd t ht hW, hS.F ht⟩) hS.2.2 hdg
      · cases hrt
    · rename_i x he
      cases hrt
      exact W.lret B.exec B.bytes (hr.trans he) (fun t ht hW => ⟨rfl, wd t ht hW, hS.F ht⟩) hS.2.2 hdg
    · rename_i he
      cases hrt
      exact W.vret B.exec B.bytes (hr.trans he) (fun t ht hW => ⟨rfl, wd t ht hW, hS.F ht⟩) hS.2.2 hdg
    · cases hrt
end AMC
theorem am_pop_s : ∀ (n : Nat) (acc S vs S' : List Value), am_pop n acc S = some (vs, S') → ∃ ws, vs = ws ++ acc ∧ ws.length = n ∧ S = ws.reverse ++ S'
  | 0, acc, S, vs, S', h => by
    cases h
    exact ⟨[], rfl, rfl, rfl⟩
  | n + 1, acc, [], vs, S', h => by cases h
  | n + 1, acc, v :: S, vs, S', h => by
    obtain ⟨ws, h1, h2, h3⟩ := am_pop_s n (v :: acc) S vs S' h
    refine ⟨ws ++ [v], by rw [h1]; simp, by simp [h2], ?_⟩
    rw [h3]
    simp
