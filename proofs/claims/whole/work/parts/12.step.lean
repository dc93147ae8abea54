/-! Each step of the small machine is a step of the machine. -/
/-- the length of an instruction as the kit's rows have it -/
def am_ln (i : Instr) : Nat := match i with
  | .bipush _ => 2
  | .iload _ => 2
  | .lload _ => 2
  | .aload _ => 2
  | .istore _ => 2
  | .lstore _ => 2
  | .astore _ => 2
  | .ldc _ => 2
  | .newarray _ => 2
  | .sipush _ => 3
  | .ldc_w _ => 3
  | .ldc2_w _ => 3
  | .iinc _ _ => 3
  | .ifCond _ _ => 3
  | .if_icmp _ _ => 3
  | .goto _ => 3
  | .getfield _ => 3
  | .putfield _ => 3
  | .getstatic _ => 3
  | .new _ => 3
  | .invokevirtual _ => 3
  | .invokespecial _ => 3
  | .invokestatic _ => 3
  | _ => 1
/-- what an instruction needs of the words: constants and locals -/
def am_kp (own : String) (nL : Nat) (WS : List Jvm.Cond) (i : Instr) (aux : List Nat) : Prop := match i with
  | .ldc x => ∀ k, aux = [k] → Jvm.Cond.constant own x (Int32.ofNat k) ∈ WS
  | .ldc_w x => ∀ k, aux = [k] → Jvm.Cond.constant own x (Int32.ofNat k) ∈ WS
  | .ldc2_w x => ∀ k, aux = [k] → Jvm.Cond.constantLong own x (Int64.ofNat k) ∈ WS
  | .istore_n k => k.val < nL
  | .istore k => k < nL
  | .astore_n k => k.val < nL
  | .astore k => k < nL
  | .lstore_n k => k.val + 1 < nL
  | .lstore k => k + 1 < nL
  | .iinc k _ => k < nL
  | _ => True
theorem am_1i_s {L L' : am_L} {S S' : List Value} {f : Int32 → Value} (h : am_on L (am_1i S f) = some (L', S')) : ∃ x S0, S = .int x :: S0 ∧ L' = L ∧ S' = f x :: S0 := by
  unfold am_1i at h
  split at h
  · cases h; exact ⟨_, _, rfl, rfl, rfl⟩
  · cases h
theorem am_1l_s {L L' : am_L} {S S' : List Value} {f : Int64 → Value} (h : am_on L (am_1l S f) = some (L', S')) : ∃ x S0, S = .long x :: S0 ∧ L' = L ∧ S' = f x :: S0 := by
  unfold am_1l at h
  split at h
  · cases h; exact ⟨_, _, rfl, rfl, rfl⟩
  · cases h
theorem am_2i_s {L L' : am_L} {S S' : List Value} {f : Int32 → Int32 → Value} (h : am_on L (am_2i S f) = some (L', S')) : ∃ x y S0, S = .int y :: .int x :: S0 ∧ L' = L ∧ S' = f x y :: S0 := by
  unfold am_2i at h
  split at h
  · cases h; exact ⟨_, _, _, rfl, rfl, rfl⟩
  · cases h
theorem am_2l_s {L L' : am_L} {S S' : List Value} {f : Int64 → Int64 → Value} (h : am_on L (am_2l S f) = some (L', S')) : ∃ x y S0, S = .long y :: .long x :: S0 ∧ L' = L ∧ S' = f x y :: S0 := by
  unfold am_2l at h
  split at h
  · cases h; exact ⟨_, _, _, rfl, rfl, rfl⟩
  · cases h
theorem am_ldi_s {L L' : am_L} {k : Nat} {S S' : List Value} (h : am_ldi L k S = some (L', S')) : ∃ x, am_loc L k = some (.int x) ∧ L' = L ∧ S' = .int x :: S := by
  unfold am_ldi at h
  split at h
  · rename_i x hx; cases h; exact ⟨x, hx, rfl, rfl⟩
  · cases h
theorem am_ldl_s {L L' : am_L} {k : Nat} {S S' : List Value} (h : am_ldl L k S = some (L', S')) : ∃ x, am_loc L k = some (.long x) ∧ L' = L ∧ S' = .long x :: S := by
  unfold am_ldl at h
  split at h
  · rename_i x hx; cases h; exact ⟨x, hx, rfl, rfl⟩
  · cases h
theorem am_lda_s {L L' : am_L} {k : Nat} {S S' : List Value} (h : am_lda L k S = some (L', S')) : ∃ x, am_loc L k = some (.ref x) ∧ L' = L ∧ S' = .ref x :: S := by
  unfold am_lda at h
  split at h
  · rename_i x hx; cases h; exact ⟨x, hx, rfl, rfl⟩
  · cases h
theorem am_inc_s {L L' : am_L} {k : Nat} {n : Int} {S S' : List Value} (h : am_inc L k n S = some (L', S')) : ∃ x, am_loc L k = some (.int x) ∧ L' = am_sto L k (.int (x + Int32.ofInt n)) ∧ S' = S := by
  unfold am_inc at h
  split at h
  · rename_i x hx; cases h; exact ⟨x, hx, rfl, rfl⟩
  · cases h
theorem am_sti_s {L L' : am_L} {k : Nat} {S S' : List Value} (h : am_sti L k S = some (L', S')) : ∃ x, S = .int x :: S' ∧ L' = am_sto L k (.int x) := by
  unfold am_sti at h
  split at h
  · cases h; exact ⟨_, rfl, rfl⟩
  · cases h
theorem am_sta_s {L L' : am_L} {k : Nat} {S S' : List Value} (h : am_sta L k S = some (L', S')) : ∃ x, S = .ref x :: S' ∧ L' = am_sto L k (.ref x) := by
  unfold am_sta at h
  split at h
  · cases h; exact ⟨_, rfl, rfl⟩
  · cases h
theorem am_stj_s {L L' : am_L} {k : Nat} {S S' : List Value} (h : am_stj L k S = some (L', S')) : ∃ x, S = .long x :: S' ∧ L' = am_stl L k (.long x) := by
  unfold am_stj at h
  split at h
  · cases h; exact ⟨_, rfl, rfl⟩
  · cases h
theorem am_ki_s {L L' : am_L} {aux : List Nat} {S S' : List Value} (h : am_ki aux L S = some (L', S')) : ∃ k, aux = [k] ∧ L' = L ∧ S' = .int (Int32.ofNat k) :: S := by
  unfold am_ki at h
  split at h
  · cases h; exact ⟨_, rfl, rfl, rfl⟩
  · cases h
theorem am_kl_s {L L' : am_L} {aux : List Nat} {S S' : List Value} (h : am_kl aux L S = some (L', S')) : ∃ k, aux = [k] ∧ L' = L ∧ S' = .long (Int64.ofNat k) :: S := by
  unfold am_kl at h
  split at h
  · cases h; exact ⟨_, rfl, rfl, rfl⟩
  · cases h
theorem am_dup_s {L L' : am_L} {S S' : List Value} (h : am_dup L S = some (L', S')) : ∃ v S0, S = v :: S0 ∧ v.category = 1 ∧ L' = L ∧ S' = v :: v :: S0 := by
  unfold am_dup at h
  split at h
  · split at h
    · rename_i hc; cases h; exact ⟨_, _, rfl, hc, rfl, rfl⟩
    · cases h
  · cases h
theorem am_dup2_s {L L' : am_L} {S S' : List Value} (h : am_dup2 L S = some (L', S')) : ∃ v w S0, S = v :: w :: S0 ∧ v.category = 1 ∧ w.category = 1 ∧ L' = L ∧ S' = v :: w :: v :: w :: S0 := by
  unfold am_dup2 at h
  split at h
  · split at h
    · rename_i hc; cases h; exact ⟨_, _, _, rfl, hc.1, hc.2, rfl, rfl⟩
    · cases h
  · cases h
section AMP
variable {p : Program} {l : Launch} {e : Env} {R : Room} {s : State} {m : MethodId} {args : Array Value} {below : List Frame} {meth : Method} {c : Code} {H : Heap} {locs : List Loc} {cells slots : Nat} {Q : State → Prop}
variable {cc : ByteArray} {pc : Nat} {ls : Array Slot} {nL : Nat} {ad : Nat → Nat} {own : String} {WS : List Jvm.Cond}
set_option maxHeartbeats 4000000 in
theorem am_pure_W (hx : p.tables.exec = Jvm.exec) (hb : c.code = cc) (hts : ∀ w ∈ WS, w.before args s = true) (hown : s.vm.findClass own = some m.cls) {i : Instr} {aux : List Nat} {L L' : am_L} {S S' : List Value} (hdg : decode cc pc = .ok (i, am_ln i)) (hk : am_kp own nL WS i aux) (hL : am_LH ad ls nL L) (h : am_pure i aux L S = some (L', S'))
    (kk : ∀ ls' : Array Slot, am_LH ad ls' nL L' → W p l e R s m args below meth c H locs cells slots Q (F0 m (pc + am_ln i) ls' (S'.map (am_v ad)))) : W p l e R s m args below meth c H locs cells slots Q (F0 m pc ls (S.map (am_v ad))) := by
  cases i with
  | iconst n => cases h; exact lv_iconst hx hb hdg rfl (kk ls hL)
  | bipush n => cases h; exact lv_bipush hx hb hdg rfl (kk ls hL)
  | sipush n => cases h; exact lv_sipush hx hb hdg rfl (kk ls hL)
  | lconst n => cases h; exact lv_lconst hx hb hdg rfl (kk ls hL)
  | ldc x => obtain ⟨k, rfl, rfl, rfl⟩ := am_ki_s h; exact lv_ldc hx hb hown (hts _ (hk k rfl)) hdg (kk ls hL)
  | ldc_w x => obtain ⟨k, rfl, rfl, rfl⟩ := am_ki_s h; exact lv_ldcw hx hb hown (hts _ (hk k rfl)) hdg (kk ls hL)
  | ldc2_w x => obtain ⟨k, rfl, rfl, rfl⟩ := am_kl_s h; exact lv_ldc2 hx hb hown (hts _ (hk k rfl)) hdg (kk ls hL)
  | iload_n k => obtain ⟨x, h1, rfl, rfl⟩ := am_ldi_s h; exact lv_iload_n hx hb hdg rfl (hL.2.2.2 _ _ h1) (kk ls hL)
  | iload k => obtain ⟨x, h1, rfl, rfl⟩ := am_ldi_s h; exact lv_iload hx hb hdg (hL.2.2.2 _ _ h1) (kk ls hL)
  | lload_n k => obtain ⟨x, h1, rfl, rfl⟩ := am_ldl_s h; exact lv_lload_n hx hb hdg rfl (hL.2.2.2 _ _ h1) (kk ls hL)
  | lload k => obtain ⟨x, h1, rfl, rfl⟩ := am_ldl_s h; exact lv_lload hx hb hdg (hL.2.2.2 _ _ h1) (kk ls hL)
  | aload_n k => obtain ⟨x, h1, rfl, rfl⟩ := am_lda_s h; exact lv_aload_n hx hb hdg rfl (hL.2.2.2 _ _ h1) (kk ls hL)
  | aload k => obtain ⟨x, h1, rfl, rfl⟩ := am_lda_s h; exact lv_aload hx hb hdg (hL.2.2.2 _ _ h1) (kk ls hL)
  | istore_n k => obtain ⟨x, rfl, rfl⟩ := am_sti_s h; exact lv_istore_n hx hb hdg rfl hL.has hk rfl (fun ls' h' => kk ls' (hL.sto (v := .int x) h'))
  | istore k => obtain ⟨x, rfl, rfl⟩ := am_sti_s h; exact lv_istore hx hb hdg hL.has hk rfl (fun ls' h' => kk ls' (hL.sto (v := .int x) h'))
  | astore_n k => obtain ⟨x, rfl, rfl⟩ := am_sta_s h; exact lv_astore_n hx hb hdg rfl hL.has hk rfl (fun ls' h' => kk ls' (hL.sto (v := .ref x) h'))
  | astore k => obtain ⟨x, rfl, rfl⟩ := am_sta_s h; exact lv_astore hx hb hdg hL.has hk rfl (fun ls' h' => kk ls' (hL.sto (v := .ref x) h'))
  | lstore_n k => obtain ⟨x, rfl, rfl⟩ := am_stj_s h; exact lv_lstore_n hx hb hdg rfl hL.has hk rfl (fun ls' h' => kk ls' (hL.stl (v := .long x) h'))
  | lstore k => obtain ⟨x, rfl, rfl⟩ := am_stj_s h; exact lv_lstore hx hb hdg hL.has hk rfl (fun ls' h' => kk ls' (hL.stl (v := .long x) h'))
  | iinc k n =>
    obtain ⟨x, h1, rfl, rfl⟩ := am_inc_s h
    have h2 : (k, Value.int x) ∈ am_prs ad L := am_prs_mem.mpr ⟨.int x, h1, rfl⟩
    obtain ⟨j, hj⟩ := List.getElem?_of_mem h2
    exact lv_iinc (k := j) hx hb hdg hL.has hj rfl hk rfl (fun ls' h' => kk ls' (hL.sto (v := .int (x + Int32.ofInt n)) h'))
  | iadd => obtain ⟨x, y, S0, rfl, rfl, rfl⟩ := am_2i_s h; exact lv_iadd hx hb hdg (kk ls hL)
  | isub => obtain ⟨x, y, S0, rfl, rfl, rfl⟩ := am_2i_s h; exact lv_isub hx hb hdg (kk ls hL)
  | imul => obtain ⟨x, y, S0, rfl, rfl, rfl⟩ := am_2i_s h; exact lv_imul hx hb hdg (kk ls hL)
  | iand => obtain ⟨x, y, S0, rfl, rfl, rfl⟩ := am_2i_s h; exact lv_iand hx hb hdg (kk ls hL)
  | ior => obtain ⟨x, y, S0, rfl, rfl, rfl⟩ := am_2i_s h; exact lv_ior hx hb hdg (kk ls hL)
  | ineg => obtain ⟨x, S0, rfl, rfl, rfl⟩ := am_1i_s h; exact lv_ineg hx hb hdg (kk ls hL)
  | ladd => obtain ⟨x, y, S0, rfl, rfl, rfl⟩ := am_2l_s h; exact lv_ladd hx hb hdg (kk ls hL)
  | lsub => obtain ⟨x, y, S0, rfl, rfl, rfl⟩ := am_2l_s h; exact lv_lsub hx hb hdg (kk ls hL)
  | lmul => obtain ⟨x, y, S0, rfl, rfl, rfl⟩ := am_2l_s h; exact lv_lmul hx hb hdg (kk ls hL)
  | lneg => obtain ⟨x, S0, rfl, rfl, rfl⟩ := am_1l_s h; exact lv_lneg hx hb hdg (kk ls hL)
  | lcmp => obtain ⟨x, y, S0, rfl, rfl, rfl⟩ := am_2l_s h; exact W.lcmp hx hb hdg (kk ls hL)
  | i2l => obtain ⟨x, S0, rfl, rfl, rfl⟩ := am_1i_s h; exact lv_i2l hx hb hdg rfl (kk ls hL)
  | l2i => obtain ⟨x, S0, rfl, rfl, rfl⟩ := am_1l_s h; exact lv_l2i hx hb hdg rfl (kk ls hL)
  | i2c => obtain ⟨x, S0, rfl, rfl, rfl⟩ := am_1i_s h; exact lv_i2c hx hb hdg rfl (kk ls hL)
  | dup => obtain ⟨v, S0, rfl, hc, rfl, rfl⟩ := am_dup_s h; exact lv_dup hx hb hdg ((am_v_cat ad v).trans hc) (kk ls hL)
  | dup2 => obtain ⟨v, w, S0, rfl, hc, hd, rfl, rfl⟩ := am_dup2_s h; exact lv_dup2_11 hx hb hdg ((am_v_cat ad v).trans hc) ((am_v_cat ad w).trans hd) (kk ls hL)
  | _ => exact absurd h (fun q => by cases q)
/-- jumps -/
def am_kb (pc : Nat) (i : Instr) (aux : List Nat) : Prop := match i with
  | .ifCond _ o => ∀ t, aux = [t] → (pc : Int) + o = (t : Int)
  | .if_icmp _ o => ∀ t, aux = [t] → (pc : Int) + o = (t : Int)
  | .goto o => ∀ t, aux = [t] → (pc : Int) + o = (t : Int)
  | .lookupswitch _ ps => (ps.toList.zip (ps.toList.drop 1)).all (fun (a, next) => a.1 < next.1) = true
  | _ => True
theorem am_go_s {pc : Nat} {o : Option Int} {S S' : List Value} {bb : Bool} {t : Nat} (h : am_go pc o S = some (bb, t, S')) : ∃ x, o = some x ∧ (pc : Int) + x = (t : Int) ∧ bb = true ∧ S' = S := by
  cases o with
  | none => cases h
  | some x =>
    simp only [am_go] at h
    by_cases hc : 0 ≤ (pc : Int) + x
    · rw [if_pos hc] at h
      cases h
      exact ⟨x, rfl, by omega, rfl, rfl⟩
    · rw [if_neg hc] at h
      cases h
set_option maxHeartbeats 4000000 in
theorem am_br_W (hx : p.tables.exec = Jvm.exec) (hb : c.code = cc) {i : Instr} {len : Nat} {aux : List Nat} {S S' : List Value} {bb : Bool} {t : Nat} (hdg : decode cc pc = .ok (i, len)) (hln : am_ln i = 3 → len = 3) (hk : am_kb pc i aux) (h : am_br pc i aux S = some (bb, t, S'))
    (kt : bb = true → W p l e R s m args below meth c H locs cells slots Q (F0 m t ls (S'.map (am_v ad)))) (kf : bb = false → W p l e R s m args below meth c H locs cells slots Q (F0 m (pc + len) ls (S'.map (am_v ad)))) : W p l e R s m args below meth c H locs cells slots Q (F0 m pc ls (S.map (am_v ad))) := by
  cases i with
  | ifCond cd o =>
    have e3 : len = 3 := hln rfl
    subst e3
    simp only [am_br] at h
    split at h
    · cases h
      have ht := hk _ rfl
      cases cd with
      | eq => exact lv_if_eq hx hb hdg ht (fun q => kt (decide_eq_true q)) (fun q => kf (decide_eq_false q))
      | ne => exact lv_if_ne hx hb hdg ht (fun q => kt (decide_eq_true q)) (fun q => kf (decide_eq_false (fun z => z q)))
      | lt => exact lv_if_lt hx hb hdg ht (fun q => kt (decide_eq_true q)) (fun q => kf (decide_eq_false q))
      | ge => exact lv_if_ge hx hb hdg ht (fun q => kt (decide_eq_true q)) (fun q => kf (decide_eq_false q))
      | gt => exact lv_if_gt hx hb hdg ht (fun q => kt (decide_eq_true q)) (fun q => kf (decide_eq_false q))
      | le => exact lv_if_le hx hb hdg ht (fun q => kt (decide_eq_true q)) (fun q => kf (decide_eq_false q))
    · cases h
  | if_icmp cd o =>
    have e3 : len = 3 := hln rfl
    subst e3
    simp only [am_br] at h
    split at h
    · cases h
      have ht := hk _ rfl
      cases cd with
      | eq => exact lv_icmp_eq hx hb hdg ht (fun q => kt (decide_eq_true q)) (fun q => kf (decide_eq_false q))
      | ne => exact lv_icmp_ne hx hb hdg ht (fun q => kt (decide_eq_true q)) (fun q => kf (decide_eq_false (fun z => z q)))
      | lt => exact lv_icmp_lt hx hb hdg ht (fun q => kt (decide_eq_true q)) (fun q => kf (decide_eq_false q))
      | ge => exact lv_icmp_ge hx hb hdg ht (fun q => kt (decide_eq_true q)) (fun q => kf (decide_eq_false q))
      | gt => exact lv_icmp_gt hx hb hdg ht (fun q => kt (decide_eq_true q)) (fun q => kf (decide_eq_false q))
      | le => exact lv_icmp_le hx hb hdg ht (fun q => kt (decide_eq_true q)) (fun q => kf (decide_eq_false q))
    · cases h
  | goto o =>
    have e3 : len = 3 := hln rfl
    subst e3
    simp only [am_br] at h
    split at h
    · cases h
      exact lv_goto hx hb hdg (hk _ rfl) (kt rfl)
    · cases h
  | tableswitch d lo hi offs =>
    simp only [am_br] at h
    split at h
    · obtain ⟨o, ho, ht, rfl, rfl⟩ := am_go_s h
      unfold am_tsw at ho
      split at ho
      · rename_i hc
        cases ho
        exact lv_tableOut hx hb hdg hc ht (kt rfl)
      · rename_i hc
        exact lv_tableIn hx hb hdg (fun q => hc (Or.inl q)) (fun q => hc (Or.inr q)) ho ht (kt rfl)
    · cases h
  | lookupswitch d ps =>
    simp only [am_br] at h
    split at h
    · obtain ⟨o, ho, ht, rfl, rfl⟩ := am_go_s h
      exact lv_lookup hx hb hdg hk (Option.some.inj ho) ht (kt rfl)
    · cases h
  | _ => exact absurd h (fun q => by cases q)
theorem am_sz {g : JFrame} (k : H.size ≤ s.heap.size + cells → W p l e R s m args below meth c H locs cells slots Q g) : W p l e R s m args below meth c H locs cells slots Q g := fun T hT X => k (by rw [← hT]; exact X.heapSize) T hT X
end AMP
