/-! Calls, and the induction over the steps. -/
theorem am_okc_s {N : am_M} {kd : Nat} {vs S : List Value} (h : am_okc N kd vs S = true) : am_kd N = kd ∧ (am_exp vs).length ≤ am_nl N ∧ (S.map fun v => v.category).sum ≤ 8 := by
  simp only [am_okc, Bool.and_eq_true, decide_eq_true_eq] at h
  exact h
theorem am_inv_v {P : List am_M} {x : Nat} {aux : List Nat} {S vs S' : List Value} {h : am_H} {N : am_M} (e : am_inv P (.invokevirtual x) aux S h = some (N, vs, S')) : ∃ j ci k fs As, aux = [j, ci] ∧ P[j]? = some N ∧ am_kd N = 0 ∧ vs = .ref (k + 2) :: As ∧ As.length = am_np N ∧ S = As.reverse ++ .ref (k + 2) :: S' ∧ h[k]? = some (.inr (ci, fs)) ∧ (am_exp vs).length ≤ am_nl N ∧ (S'.map fun v => v.category).sum ≤ 8 := by
  match aux, e with
  | [], e => simp [am_inv] at e
  | [_], e => simp [am_inv] at e
  | _ :: _ :: _ :: _, e => simp [am_inv] at e
  | [j, ci], e =>
    simp only [am_inv] at e
    split at e
    · rename_i N' hN
      split at e
      · rename_i vs' S2 hp
        split at e
        · rename_i hc
          cases e
          obtain ⟨hc1, hc2⟩ := hc
          obtain ⟨a1, a2, a3⟩ := am_okc_s hc1
          obtain ⟨ws, b1, b2, b3⟩ := am_pop_s _ _ _ _ _ hp
          rw [List.append_nil] at b1
          subst b1
          match vs, hc2, b2, b3 with
          | [], hc2, b2, b3 => cases hc2
          | v :: As, hc2, b2, b3 =>
            simp only [List.head?_cons, am_isa] at hc2
            split at hc2
            · rename_i a hv
              cases hv
              split at hc2
              · rename_i ci' fs hcell
                obtain ⟨k, rfl, hk⟩ := am_cell_s hcell
                have hci : ci' = ci := of_decide_eq_true hc2
                subst hci
                refine ⟨j, _, k, fs, As, rfl, by rw [← am_nth_eq]; exact hN, a1, rfl, by simpa using b2, ?_, hk, a2, a3⟩
                rw [b3]
                simp
              · cases hc2
            · cases hc2
        · cases e
      · cases e
    · cases e
theorem am_inv_i {P : List am_M} {x : Nat} {aux : List Nat} {S vs S' : List Value} {h : am_H} {N : am_M} (e : am_inv P (.invokespecial x) aux S h = some (N, vs, S')) : ∃ j a As, aux = [j] ∧ P[j]? = some N ∧ am_kd N = 1 ∧ vs = .ref a :: As ∧ As.length = am_np N ∧ S = As.reverse ++ .ref a :: S' ∧ (am_exp vs).length ≤ am_nl N ∧ (S'.map fun v => v.category).sum ≤ 8 := by
  match aux, e with
  | [], e => simp [am_inv] at e
  | _ :: _ :: _, e => simp [am_inv] at e
  | [j], e =>
    simp only [am_inv] at e
    split at e
    · rename_i N' hN
      split at e
      · rename_i vs' S2 hp
        split at e
        · rename_i hc
          cases e
          obtain ⟨hc1, hc2⟩ := hc
          obtain ⟨a1, a2, a3⟩ := am_okc_s hc1
          obtain ⟨ws, b1, b2, b3⟩ := am_pop_s _ _ _ _ _ hp
          rw [List.append_nil] at b1
          subst b1
          match vs, hc2, b2, b3 with
          | [], hc2, b2, b3 => cases hc2
          | v :: As, hc2, b2, b3 =>
            simp only [List.head?_cons, am_isr] at hc2
            split at hc2
            · rename_i a hv
              cases hv
              refine ⟨j, a, As, rfl, by rw [← am_nth_eq]; exact hN, a1, rfl, by simpa using b2, ?_, a2, a3⟩
              rw [b3]
              simp
            · cases hc2
        · cases e
      · cases e
    · cases e
theorem am_inv_st {P : List am_M} {x : Nat} {aux : List Nat} {S vs S' : List Value} {h : am_H} {N : am_M} (e : am_inv P (.invokestatic x) aux S h = some (N, vs, S')) : ∃ j, aux = [j] ∧ P[j]? = some N ∧ am_kd N = 2 ∧ vs.length = am_np N ∧ S = vs.reverse ++ S' ∧ (am_exp vs).length ≤ am_nl N ∧ (S'.map fun v => v.category).sum ≤ 8 := by
  match aux, e with
  | [], e => simp [am_inv] at e
  | _ :: _ :: _, e => simp [am_inv] at e
  | [j], e =>
    simp only [am_inv] at e
    split at e
    · rename_i N' hN
      split at e
      · rename_i vs' S2 hp
        split at e
        · rename_i hc
          cases e
          obtain ⟨a1, a2, a3⟩ := am_okc_s hc
          obtain ⟨ws, b1, b2, b3⟩ := am_pop_s _ _ _ _ _ hp
          rw [List.append_nil] at b1
          subst b1
          exact ⟨j, rfl, by rw [← am_nth_eq]; exact hN, a1, b2, b3, a2, a3⟩
        · cases e
      · cases e
    · cases e
theorem am_cats {ad : Nat → Nat} {S : List Value} : (((S.map (am_v ad)).map fun v => v.category).sum) = (S.map fun v => v.category).sum := by
  rw [List.map_map]
  congr 1
  exact List.map_congr_left (fun v _ => am_v_cat ad v)
theorem am_obj_s {i : Instr} {aux : List Nat} {S S' : List Value} (h : am_obj i aux S = some S') : (∃ x a, i = .invokespecial x ∧ aux = [] ∧ S = .ref a :: S' ∧ (S'.map fun v => v.category).sum ≤ 8) ∨ ∃ x k c, i = .invokestatic x ∧ aux = [k, c] ∧ am_mt k S = some S' ∧ (S'.map fun v => v.category).sum ≤ 10 := by
  cases i with
  | invokespecial x =>
    simp only [am_obj] at h
    split at h
    · split at h
      · rename_i hc
        cases h
        exact Or.inl ⟨_, _, rfl, rfl, rfl, hc⟩
      · cases h
    · cases h
  | invokestatic x =>
    simp only [am_obj] at h
    split at h
    · rename_i k c
      cases hm : am_mt k S with
      | none => rw [hm] at h; cases h
      | some S2 =>
        rw [hm] at h
        simp only [am_mk] at h
        split at h
        · rename_i hc
          cases h
          exact Or.inr ⟨_, _, _, rfl, rfl, hm, hc⟩
        · cases h
    · cases h
  | _ => exact absurd h (fun q => by cases q)
theorem am_mt_s {k : Nat} {S S' : List Value} (h : am_mt k S = some S') : (k = 0 ∧ ∃ x S0, S = .int x :: S0 ∧ S' = .int (if 0 ≤ x then x else 0 - x) :: S0) ∨ (k = 1 ∧ ∃ x y S0, S = .int y :: .int x :: S0 ∧ S' = .int (if x < y then y else x) :: S0) ∨ (k = 2 ∧ ∃ x y S0, S = .int y :: .int x :: S0 ∧ S' = .int (if y < x then y else x) :: S0) ∨ (k = 3 ∧ ∃ x y S0, S = .long y :: .long x :: S0 ∧ S' = .long (if y < x then x else y) :: S0) := by
  unfold am_mt at h
  split at h
  · cases h; exact Or.inl ⟨rfl, _, _, rfl, rfl⟩
  · cases h; exact Or.inr (Or.inl ⟨rfl, _, _, _, rfl, rfl⟩)
  · cases h; exact Or.inr (Or.inr (Or.inl ⟨rfl, _, _, _, rfl, rfl⟩))
  · cases h; exact Or.inr (Or.inr (Or.inr ⟨rfl, _, _, _, rfl, rfl⟩))
  · cases h
section AMI
variable {p : Program} {l : Launch} {e : Env} {R : Room} {s : State} {m : MethodId} {args : Array Value} {below : List Frame} {meth : Method} {c : Code} {H : Heap} {locs : List Loc} {Q : State → Prop}
variable {z : Nat × Nat} {b : Nat} {cid : FieldType → ClassId} {D : va_G} {cl : List vw_C} {Z : am_Z} {ST : List (String × String × String × Nat)} {NW WS : List Jvm.Cond} {DF : List (List Value)} {P : List am_M}
set_option maxHeartbeats 4000000 in
theorem am_inv_W {n d pc : Nat} {M N : am_M} {i : Instr} {aux : List Nat} {S vs S' : List Value} {h0 h h1 : am_H} {r : Option Value} {ls : Array Slot} (ihn : am_Snd cl WS NW ST DF P Z n) (hOk : am_Ok cl WS NW ST DF P) (hCx : am_Cx cl WS NW ST Z M p s m args meth c z b cid D h0) (hdg : decode (am_cc M) pc = .ok (i, 3)) (hk : am_kc cl WS NW P (am_y M) i aux)
    (hsz : ls.size = am_nl M) (hinv : am_inv P i aux S h = some (N, vs, S')) (hc : am_run P Z DF n d N (am_tb N) (am_ent N vs) [] h = some (r, h1)) (hf : d + 1 ≤ R.frames) (hl : (d + 1) * 80 ≤ R.locals) (hrc : h1.length - h0.length ≤ R.cells) (hrs : am_siz h1 - am_siz h0 ≤ R.slots) (hle : h0.length ≤ h.length) (hls : am_siz h0 ≤ am_siz h)
    (hP : va_P D cl (am_w (am_ad z b) cid b h) H) (hz : H.size = b + h.length) (hS : va_S (fun q => b ≤ q) s.heap H locs)
    (kk : ∀ (H1 : Heap) (locs1 : List Loc), va_P D cl (am_w (am_ad z b) cid b h1) H1 → H1.size = b + h1.length → va_S (fun q => b ≤ q) s.heap H1 locs1 → W p l e R s m args below meth c H1 locs1 (h1.length - h0.length) (am_siz h1 - am_siz h0) Q (F0 m (pc + 3) ls ((r.toList ++ S').map (am_v (am_ad z b))))) :
    W p l e R s m args below meth c H locs (h.length - h0.length) (am_siz h - am_siz h0) Q (F0 m pc ls (S.map (am_v (am_ad z b)))) := by
  obtain ⟨hx, hb, hml, hown, hnm, hts, hwd⟩ := hCx
  obtain ⟨o1, o2, o3, o4, o5, o6, o7⟩ := hOk
  have hg := am_run_le P Z DF _ _ _ _ _ _ _ _ _ hc
  have hpre : ∀ (as : List Value), FrameBlind (va_Pc as (am_Wd z b cid D cl Z ST NW h)) ∧ ∀ U : State, U.heap = H → s.WarmedH U.vm → va_Pc as (am_Wd z b cid D cl Z ST NW h) as.toArray U := fun as => ⟨am_Wd.blind o3, fun U hU hW => ⟨rfl, am_Wd.to o3 hwd hP hz hS hU hW⟩⟩
  have hG : ∀ N, am_mOk cl WS NW ST P N → GoodIn WS (Jvm.Cond.code (am_y N) (am_cc N) (am_nl N) (am_rt N) :: WS) := by
    intro N hN w hw
    rcases List.mem_cons.mp hw with rfl | hw
    · exact ⟨hN.1, good_of_word (o2 _ hN.1)⟩
    · exact ⟨hw, good_of_word (o2 _ hw)⟩
  have fin : ∀ {a : Array Value} {st0 : List Value}, va_Run p l e R s m args below meth c H locs (h.length - h0.length) (am_siz h - am_siz h0) (h1.length - h.length) (am_siz h1 - am_siz h) (F0 m pc ls st0) (S'.map (am_v (am_ad z b))) (am_Qc z b cid D cl Z ST NW r h1 a) (fun q => b ≤ q) → W p l e R s m args below meth c H locs (h.length - h0.length) (am_siz h - am_siz h0) Q (F0 m pc ls st0) := by
    intro a st0 hr
    refine am_callW hr hS (fun t locs1 hw hS1 => ?_)
    refine W.cs (cells' := h1.length - h0.length) (slots' := am_siz h1 - am_siz h0) (by omega) (by omega) ?_
    have h3 := kk t.heap locs1 hw.2.1 hw.1 hS1
    rw [List.map_append] at h3
    cases r with
    | none => exact h3
    | some v => exact h3
  have hroom : ∀ N, am_mOk cl WS NW ST P N → d + 1 ≤ R.frames ∧ 8 + (am_nl N + 11) + d * 80 ≤ R.locals := fun N hN => ⟨hf, by
    have h5 := hN.2.2.2.2.1
    rw [Nat.add_mul] at hl
    omega⟩
  have hcs : (h.length - h0.length) + (h1.length - h.length) ≤ R.cells ∧ (am_siz h - am_siz h0) + (am_siz h1 - am_siz h) ≤ R.slots := ⟨by omega, by omega⟩
  cases i with
  | invokevirtual x =>
    obtain ⟨j, ci, k, fs, As, rfl, hj, hkd, rfl, hlen, rfl, hcell, hen, hcat⟩ := am_inv_v hinv
    have hN := o6 N (List.mem_of_getElem? hj)
    obtain ⟨⟨T, K, hci⟩, hlk⟩ := hk _ _ _ rfl hj
    have hmet := am_met (l := l) (z := z) (b := b) (cid := cid) (D := D) ihn o3 hN hen hc
    have hrecv := va_recv (hwd.2.2.1) hP hci (am_w_at hcell)
    have hst : List.map (am_v (am_ad z b)) (As.reverse ++ Value.ref (k + 2) :: S') = (As.map (am_v (am_ad z b))).reverse ++ .ref (b + k) :: S'.map (am_v (am_ad z b)) := by
      rw [List.map_append, List.map_reverse]
      rfl
    rw [hst]
    have hw8 : ((S'.map (am_v (am_ad z b))).map fun v => v.category).sum ≤ 8 := by rw [am_cats]; exact hcat
    have hpV : PreV s H (am_y N).cls (b + k) (va_Pc (Value.ref (b + k) :: As.map (am_v (am_ad z b))) (am_Wd z b cid D cl Z ST NW h)) (As.map (am_v (am_ad z b))) := ⟨(hpre _).1, hrecv, (hpre (Value.ref (b + k) :: As.map (am_v (am_ad z b)))).2⟩
    have hnn : (As.map (am_v (am_ad z b))).length = am_np N := by rw [List.length_map]; exact hlen
    obtain ⟨n1, n2, n3, n4, n5, n6, n7, n8, n9⟩ := hN
    obtain ⟨n61, n62⟩ := n6 hkd
    rcases hlk with hlk | ⟨host, hlk⟩
    · exact fin (va_runV ⟨hx, hb, hml, hown, hts⟩ hmet ⟨callB_of (am_np N) hts (hG N (o6 N (List.mem_of_getElem? hj))) rfl rfl rfl (hts _ n2) (hts _ hlk) n4 (hroom N (o6 N (List.mem_of_getElem? hj))), hts _ n61, hts _ n62⟩ hpV rfl hnn hsz rfl (lv_room hw8) hdg hcs)
    · exact fin (va_runVN ⟨hx, hb, hml, hown, hts⟩ hmet ⟨va_cnB (am_np N) hts (hG N (o6 N (List.mem_of_getElem? hj))) rfl rfl rfl (hwd.2.2.2.2.2 _ hlk) (hts _ n2) n4 (hroom N (o6 N (List.mem_of_getElem? hj))), hts _ n61, hts _ n62⟩ hpV rfl hnn hsz rfl (lv_room hw8) hdg hcs)
  | invokespecial x =>
    obtain ⟨j, a, As, rfl, hj, hkd, rfl, hlen, rfl, hen, hcat⟩ := am_inv_i hinv
    have hN := o6 N (List.mem_of_getElem? hj)
    have hlk := hk.2 _ _ rfl hj
    have hmet := am_met (l := l) (z := z) (b := b) (cid := cid) (D := D) ihn o3 hN hen hc
    have hst : List.map (am_v (am_ad z b)) (As.reverse ++ Value.ref a :: S') = (As.map (am_v (am_ad z b))).reverse ++ .ref (am_ad z b a) :: S'.map (am_v (am_ad z b)) := by
      rw [List.map_append, List.map_reverse]
      rfl
    rw [hst]
    have hw8 : ((S'.map (am_v (am_ad z b))).map fun v => v.category).sum ≤ 8 := by rw [am_cats]; exact hcat
    have hnn : (As.map (am_v (am_ad z b))).length = am_np N := by rw [List.length_map]; exact hlen
    obtain ⟨n1, n2, n3, n4, n5, n6, n7, n8, n9⟩ := hN
    obtain ⟨n71, n72, n73⟩ := n7 hkd
    rw [n73] at hmet n1
    have hG2 : GoodIn WS (Jvm.Cond.code (am_y N) (am_cc N) (am_nl N) none :: WS) := by
      intro w hw
      rcases List.mem_cons.mp hw with rfl | hw
      · exact ⟨n1, good_of_word (o2 _ n1)⟩
      · exact ⟨hw, good_of_word (o2 _ hw)⟩
    rcases hlk with hlk | ⟨host, hlk⟩
    · exact fin (va_runI ⟨hx, hb, hml, hown, hts⟩ hmet ⟨callB_of (am_np N) hts hG2 rfl rfl rfl (hts _ n2) (hts _ hlk) n4 (hroom N (o6 N (List.mem_of_getElem? hj))), n71, hts _ n72⟩ (hpre (Value.ref (am_ad z b a) :: As.map (am_v (am_ad z b)))) rfl hnn hsz rfl (lv_room hw8) hdg hcs)
    · exact fin (va_runIN ⟨hx, hb, hml, hown, hts⟩ hmet ⟨va_cnB (am_np N) hts hG2 rfl rfl rfl (hwd.2.2.2.2.2 _ hlk) (hts _ n2) n4 (hroom N (o6 N (List.mem_of_getElem? hj))), n71, hts _ n72⟩ (hpre (Value.ref (am_ad z b a) :: As.map (am_v (am_ad z b)))) rfl hnn hsz rfl (lv_room hw8) hdg hcs)
  | invokestatic x =>
    obtain ⟨j, rfl, hj, hkd, hlen, rfl, hen, hcat⟩ := am_inv_st hinv
    have hN := o6 N (List.mem_of_getElem? hj)
    have hlk := hk.1 _ _ rfl hj
    have hmet := am_met (l := l) (z := z) (b := b) (cid := cid) (D := D) ihn o3 hN hen hc
    have hst : List.map (am_v (am_ad z b)) (vs.reverse ++ S') = (vs.map (am_v (am_ad z b))).reverse ++ S'.map (am_v (am_ad z b)) := by
      rw [List.map_append, List.map_reverse]
    rw [hst]
    have hw8 : ((S'.map (am_v (am_ad z b))).map fun v => v.category).sum ≤ 8 := by rw [am_cats]; exact hcat
    have hnn : (vs.map (am_v (am_ad z b))).length = am_np N := by rw [List.length_map]; exact hlen
    obtain ⟨n1, n2, n3, n4, n5, n6, n7, n8, n9⟩ := hN
    have n81 := n8 hkd
    rcases hlk with hlk | ⟨host, hlk⟩
    · exact fin (va_runS ⟨hx, hb, hml, hown, hts⟩ hmet ⟨callB_of (am_np N) hts (hG N (o6 N (List.mem_of_getElem? hj))) rfl rfl rfl (hts _ n2) (hts _ hlk) n4 (hroom N (o6 N (List.mem_of_getElem? hj))), hts _ n81⟩ (hpre _) rfl hnn hsz rfl (lv_room hw8) hdg hcs)
    · exact fin (va_runSN ⟨hx, hb, hml, hown, hts⟩ hmet ⟨va_cnB (am_np N) hts (hG N (o6 N (List.mem_of_getElem? hj))) rfl rfl rfl (hwd.2.2.2.2.2 _ hlk) (hts _ n2) n4 (hroom N (o6 N (List.mem_of_getElem? hj))), hts _ n81, trivial⟩ (hpre _) rfl hnn hsz rfl (lv_room hw8) hdg hcs)
  | _ => exact absurd hinv (fun q => by cases q)
end AMI
set_option maxHeartbeats 4000000 in
theorem am_snd {cl : List vw_C} {WS NW : List Jvm.Cond} {ST : List (String × String × String × Nat)} {DF : List (List Value)} {P : List am_M} {Z : am_Z} (hOk : am_Ok cl WS NW ST DF P) : ∀ n : Nat, am_Snd cl WS NW ST DF P Z n := by
  intro n
  induction n with
  | zero => intro d M is L S h r h' hr; cases hr
  | succ n ih =>
    intro d M is L S h r h' hr hT hsuf p l e R s m args below meth c Q z b cid D h0 H locs ls hCx hf hl hrc hrs hle hls hP hz hS hL hret x rs hx
    subst hx
    obtain ⟨pc, i, len, aux, ks⟩ := x
    obtain ⟨pre, hpre⟩ := hsuf
    have hmem : (pc, i, len, aux, ks) ∈ am_tb M := by rw [← hpre]; simp
    obtain ⟨hdg, hln, hkp, hkb, hkh, hkc⟩ := hT.2.2 _ hmem
    dsimp only at hdg hln hkp hkb hkh hkc
    have hrsuf : rs <:+ am_tb M := ⟨pre ++ [(pc, i, len, aux, ks)], by rw [← hpre]; simp⟩
    have hCx' := hCx
    have hOk' := hOk
    obtain ⟨hx, hb, hml, hown, hnm, hts, hwd⟩ := hCx
    obtain ⟨o1, o2, o3, o4, o5, o6, o7⟩ := hOk
    have nxt : ∀ (L2 : am_L) (S2 : List Value) (h2 : am_H) (H2 : Heap) (locs2 : List Loc) (ls2 : Array Slot), am_run P Z DF n d M rs L2 S2 h2 = some (r, h') → h0.length ≤ h2.length → am_siz h0 ≤ am_siz h2 → va_P D cl (am_w (am_ad z b) cid b h2) H2 → H2.size = b + h2.length → va_S (fun q => b ≤ q) s.heap H2 locs2 → am_LH (am_ad z b) ls2 (am_nl M) L2 →
        W p l e R s m args below meth c H2 locs2 (h2.length - h0.length) (am_siz h2 - am_siz h0) Q (F0 m (pc + len) ls2 (S2.map (am_v (am_ad z b)))) := by
      intro L2 S2 h2 H2 locs2 ls2 hr2 q1 q2 q3 q4 q5 q6
      match rs, hr2, hrsuf, hpre with
      | [], hr2, _, _ => rw [am_run_nil] at hr2; cases hr2
      | y :: rs', hr2, hrsuf, hpre =>
        have hy : y.1 = pc + len := am_chain_suf pre (pc, i, len, aux, ks) y rs' (by rw [hpre]; exact hT.1)
        rw [← hy]
        exact ih d M (y :: rs') L2 S2 h2 r h' hr2 hT hrsuf p l e R s m args below meth c Q z b cid D h0 H2 locs2 ls2 hCx' hf hl hrc hrs q1 q2 q3 q4 q5 q6 hret y rs' rfl
    have hL' := hL.kill ks
    have fin : ∀ {o : Option (Option Value)}, o = am_ret (am_rt M) i S → am_fin o h = some (r, h') → W p l e R s m args below meth c H locs (h.length - h0.length) (am_siz h - am_siz h0) Q (F0 m pc ls (S.map (am_v (am_ad z b)))) := by
      intro o e1 e2
      cases o with
      | none => cases e2
      | some v =>
        cases e2
        refine hret pc i S H locs ls ?_ e1.symm hP hz hS
        rw [hdg]
        have hsw : am_sw i = false ∧ am_ln i = 1 := by
          cases i with
          | ireturn => exact ⟨rfl, rfl⟩
          | lreturn => exact ⟨rfl, rfl⟩
          | return_ => exact ⟨rfl, rfl⟩
          | _ => exact absurd e1 (fun q => by simp [am_ret] at q)
        rw [hln hsw.1, hsw.2]
    simp only [am_run] at hr
    split at hr
    · rename_i L2 S2 hp
      have hsw : am_sw i = false := by
        cases i with
        | tableswitch _ _ _ _ => cases hp
        | lookupswitch _ _ => cases hp
        | _ => rfl
      have hlen := hln hsw
      subst hlen
      exact am_pure_W hx hb hts hown hdg hkp hL' hp (fun ls' hl' => nxt L2 S2 h H locs ls' hr hle hls hP hz hS hl')
    · split at hr
      · rename_i S2 h2 hp
        have hsw : am_sw i = false := by
          cases i with
          | tableswitch _ _ _ _ => cases hp
          | lookupswitch _ _ => cases hp
          | _ => rfl
        have hlen := hln hsw
        subst hlen
        have hg := am_hp_le hp
        have hg2 := am_run_le P Z DF _ _ _ _ _ _ _ _ _ hr
        exact am_hp_W hx hb hts hown hnm o1 hwd hle hls hdg hkh hP hz hS (by omega) (by omega) hp (fun H1 locs1 q1 q2 q3 => nxt (am_kill ks L) S2 h2 H1 locs1 ls hr (by omega) (by omega) q1 q2 q3 hL')
      · split at hr
        · rename_i bb t S2 hp
          refine am_br_W hx hb hdg (fun e3 => ?_) hkb hp (fun hbt => ?_) (fun hbf => ?_)
          · have hsw : am_sw i = false := by
              cases i with
              | tableswitch _ _ _ _ => cases e3
              | lookupswitch _ _ => cases e3
              | _ => rfl
            rw [hln hsw, e3]
          · rw [if_pos hbt] at hr
            match hat : am_at (am_tb M) t with
            | [] => rw [hat, am_run_nil] at hr; cases hr
            | y :: rs' =>
              rw [hat] at hr
              have hy := am_at_pc _ _ _ _ hat
              rw [← hy]
              exact ih d M (y :: rs') _ S2 h r h' hr hT (by rw [← hat]; exact am_at_suf _ _) p l e R s m args below meth c Q z b cid D h0 H locs ls hCx' hf hl hrc hrs hle hls hP hz hS hL' hret y rs' rfl
          · rw [if_neg (by rw [hbf]; decide)] at hr
            exact nxt _ S2 h H locs ls hr hle hls hP hz hS hL'
        · split at hr
          · exact fin rfl hr
          · rename_i d'
            split at hr
            · rename_i S2 hp
              rcases am_obj_s hp with ⟨x, a, rfl, rfl, rfl, hc8⟩ | ⟨x, k, c2, rfl, rfl, hm, hc8⟩
              · skip
                have hlen : len = 3 := hln rfl
                subst hlen
                have hw8 : ((S2.map (am_v (am_ad z b))).map fun v => v.category).sum ≤ 8 := by rw [am_cats]; exact hc8
                refine W.objInit hx hb hown (hts _ (hkc.1 rfl)) (hts _ o4) (hts _ o5) rfl (hL.1.trans hml.symm) rfl hdg (by omega) ?_ (nxt _ S2 h H locs ls hr hle hls hP hz hS hL')
                show 2 * 0 + _ + 12 ≤ R.locals
                omega
              · have hlen : len = 3 := hln rfl
                subst hlen
                have nx := nxt _ S2 h H locs ls hr hle hls hP hz hS hL'
                have hlk := hts _ (hkc.2 _ _ rfl)
                have hml2 : c.maxLocals = ls.size := hml.trans hL.1.symm
                have hrr := am_run_le P Z DF _ _ _ _ _ _ _ _ _ hr
                obtain ⟨w1, w2, w3, w4, w5, w6⟩ := o7
                rcases am_mt_s hm with ⟨rfl, x1, S0, rfl, rfl⟩ | ⟨rfl, x1, y1, S0, rfl, rfl⟩ | ⟨rfl, x1, y1, S0, rfl, rfl⟩ | ⟨rfl, x1, y1, S0, rfl, rfl⟩
                · have h9 : ((S0.map (am_v (am_ad z b))).map fun v => v.category).sum + 1 ≤ 10 := by
                    rw [am_cats]
                    have h10 : 1 + (S0.map fun v => v.category).sum ≤ 10 := hc8
                    omega
                  exact va_mabs hx hb hml2 hown hlk (hts _ (w2 0 (by omega))) (hts _ w1) (hts _ w3) (by omega) (by omega) (by omega) (by omega) hdg nx
                · have h9 : ((S0.map (am_v (am_ad z b))).map fun v => v.category).sum + 1 ≤ 10 := by
                    rw [am_cats]
                    have h10 : 1 + (S0.map fun v => v.category).sum ≤ 10 := hc8
                    omega
                  exact va_mmax hx hb hml2 hown hlk (hts _ (w2 1 (by omega))) (hts _ w1) (hts _ w4) (by omega) (by omega) (by omega) (by omega) hdg nx
                · have h9 : ((S0.map (am_v (am_ad z b))).map fun v => v.category).sum + 1 ≤ 10 := by
                    rw [am_cats]
                    have h10 : 1 + (S0.map fun v => v.category).sum ≤ 10 := hc8
                    omega
                  exact va_mmin hx hb hml2 hown hlk (hts _ (w2 2 (by omega))) (hts _ w1) (hts _ w5) (by omega) (by omega) (by omega) (by omega) hdg nx
                · have h9 : ((S0.map (am_v (am_ad z b))).map fun v => v.category).sum + 2 ≤ 10 := by
                    rw [am_cats]
                    have h10 : 2 + (S0.map fun v => v.category).sum ≤ 10 := hc8
                    omega
                  exact va_mmax_long hx hb hml2 hown hlk (hts _ (w2 3 (by omega))) (hts _ w1) (hts _ w6) (by omega) (by omega) (by omega) (by omega) hdg nx
            · split at hr
              · rename_i N vs S2 hp
                split at hr
                · rename_i r1 h1 hc
                  have hg := am_run_le P Z DF _ _ _ _ _ _ _ _ _ hc
                  have hg2 := am_run_le P Z DF _ _ _ _ _ _ _ _ _ hr
                  have hlen : len = 3 := by
                    cases i with
                    | invokevirtual x => exact hln rfl
                    | invokespecial x => exact hln rfl
                    | invokestatic x => exact hln rfl
                    | _ => exact absurd hp (fun q => by cases q)
                  subst hlen
                  exact am_inv_W ih hOk' hCx' hdg hkc hL.1 hp hc hf hl (by omega) (by omega) hle hls hP hz hS (fun H1 locs1 q1 q2 q3 => nxt _ _ h1 H1 locs1 ls hr (by omega) (by omega) q1 q2 q3 hL')
                · cases hr
              · exact fin rfl hr
