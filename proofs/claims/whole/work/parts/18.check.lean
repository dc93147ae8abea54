/-! The rows of a method, checked by one Bool: links and constants by a list of (pool number, word). -/
def am_fnd : List (Nat × Jvm.Cond) → Nat → Option Jvm.Cond
  | [], _ => none
  | q :: r, x => if q.1 = x then some q.2 else am_fnd r x
theorem am_fnd_mem : ∀ {FL : List (Nat × Jvm.Cond)} {x : Nat} {w : Jvm.Cond}, am_fnd FL x = some w → ∃ q ∈ FL, q.2 = w
  | [], x, w, h => by cases h
  | q :: r, x, w, h => by
    simp only [am_fnd] at h
    split at h
    · cases h
      exact ⟨q, List.mem_cons_self, rfl⟩
    · obtain ⟨u, h1, h2⟩ := am_fnd_mem h
      exact ⟨u, List.mem_cons_of_mem _ h1, h2⟩
/-- the list's words are words that hold, or words of the nest -/
def am_FLok (FL : List (Nat × Jvm.Cond)) (WS NW : List Jvm.Cond) : Prop := ∀ q ∈ FL, (am_isN q.2 = false → q.2 ∈ WS) ∧ (am_isN q.2 = true → q.2 ∈ NW)
def am_bF (FL : List (Nat × Jvm.Cond)) (own : String) (x : Nat) (f : String × String × String × Bool) : Bool := match am_fnd FL x with
  | some (.fieldLink o y a b c) => decide (o = own ∧ y = x ∧ a = f.1 ∧ b = f.2.1 ∧ c = f.2.2.1)
  | some (.fieldLinkNest o y a b c _) => decide (o = own ∧ y = x ∧ a = f.1 ∧ b = f.2.1 ∧ c = f.2.2.1)
  | _ => false
def am_bFp (FL : List (Nat × Jvm.Cond)) (own : String) (x : Nat) (f : String × String × String × Bool) : Bool := match am_fnd FL x with
  | some (.fieldLink o y a b c) => decide (o = own ∧ y = x ∧ a = f.1 ∧ b = f.2.1 ∧ c = f.2.2.1)
  | _ => false
def am_bM (FL : List (Nat × Jvm.Cond)) (own : String) (x : Nat) (n : MethodName) : Bool := match am_fnd FL x with
  | some (.methodLink o y m) => decide (o = own ∧ y = x ∧ m = n)
  | some (.methodLinkNest o y m _) => decide (o = own ∧ y = x ∧ m = n)
  | _ => false
def am_bMp (FL : List (Nat × Jvm.Cond)) (own : String) (x : Nat) (n : MethodName) : Bool := match am_fnd FL x with
  | some (.methodLink o y m) => decide (o = own ∧ y = x ∧ m = n)
  | _ => false
def am_bC (FL : List (Nat × Jvm.Cond)) (own : String) (x : Nat) (n : String) : Bool := match am_fnd FL x with
  | some (.classLink o y m) => decide (o = own ∧ y = x ∧ m = n)
  | _ => false
section AMB
variable {FL : List (Nat × Jvm.Cond)} {WS NW : List Jvm.Cond} {own : String} {x : Nat}
theorem am_bF_s (hF : am_FLok FL WS NW) {f : String × String × String × Bool} (h : am_bF FL own x f = true) : am_fl WS NW own x f := by
  unfold am_bF at h
  split at h
  · rename_i e
    obtain ⟨q, h1, h2⟩ := am_fnd_mem e
    obtain ⟨rfl, rfl, rfl, rfl, rfl⟩ := of_decide_eq_true h
    have h3 := (hF q h1).1 (by rw [h2]; rfl)
    rw [h2] at h3
    exact Or.inl h3
  · rename_i e
    obtain ⟨q, h1, h2⟩ := am_fnd_mem e
    obtain ⟨rfl, rfl, rfl, rfl, rfl⟩ := of_decide_eq_true h
    have h3 := (hF q h1).2 (by rw [h2]; rfl)
    rw [h2] at h3
    exact Or.inr ⟨_, h3⟩
  · cases h
theorem am_bFp_s (hF : am_FLok FL WS NW) {f : String × String × String × Bool} (h : am_bFp FL own x f = true) : Jvm.Cond.fieldLink own x f.1 f.2.1 f.2.2.1 ∈ WS := by
  unfold am_bFp at h
  split at h
  · rename_i e
    obtain ⟨q, h1, h2⟩ := am_fnd_mem e
    obtain ⟨rfl, rfl, rfl, rfl, rfl⟩ := of_decide_eq_true h
    have h3 := (hF q h1).1 (by rw [h2]; rfl)
    rw [h2] at h3
    exact h3
  · cases h
theorem am_bM_s (hF : am_FLok FL WS NW) {n : MethodName} (h : am_bM FL own x n = true) : am_ml WS NW own x n := by
  unfold am_bM at h
  split at h
  · rename_i e
    obtain ⟨q, h1, h2⟩ := am_fnd_mem e
    obtain ⟨rfl, rfl, rfl⟩ := of_decide_eq_true h
    have h3 := (hF q h1).1 (by rw [h2]; rfl)
    rw [h2] at h3
    exact Or.inl h3
  · rename_i e
    obtain ⟨q, h1, h2⟩ := am_fnd_mem e
    obtain ⟨rfl, rfl, rfl⟩ := of_decide_eq_true h
    have h3 := (hF q h1).2 (by rw [h2]; rfl)
    rw [h2] at h3
    exact Or.inr ⟨_, h3⟩
  · cases h
theorem am_bMp_s (hF : am_FLok FL WS NW) {n : MethodName} (h : am_bMp FL own x n = true) : Jvm.Cond.methodLink own x n ∈ WS := by
  unfold am_bMp at h
  split at h
  · rename_i e
    obtain ⟨q, h1, h2⟩ := am_fnd_mem e
    obtain ⟨rfl, rfl, rfl⟩ := of_decide_eq_true h
    have h3 := (hF q h1).1 (by rw [h2]; rfl)
    rw [h2] at h3
    exact h3
  · cases h
theorem am_bC_s (hF : am_FLok FL WS NW) {n : String} (h : am_bC FL own x n = true) : Jvm.Cond.classLink own x n ∈ WS := by
  unfold am_bC at h
  split at h
  · rename_i e
    obtain ⟨q, h1, h2⟩ := am_fnd_mem e
    obtain ⟨rfl, rfl, rfl⟩ := of_decide_eq_true h
    have h3 := (hF q h1).1 (by rw [h2]; rfl)
    rw [h2] at h3
    exact h3
  · cases h
end AMB
def am_bk (FL : List (Nat × Jvm.Cond)) (own : String) (x : Nat) (aux : List Nat) : Bool := match aux with
  | [k] => match am_fnd FL x with
    | some (.constant o y v) => decide (o = own ∧ y = x ∧ v = Int32.ofNat k)
    | _ => false
  | _ => true
def am_bkl (FL : List (Nat × Jvm.Cond)) (own : String) (x : Nat) (aux : List Nat) : Bool := match aux with
  | [k] => match am_fnd FL x with
    | some (.constantLong o y v) => decide (o = own ∧ y = x ∧ v = Int64.ofNat k)
    | _ => false
  | _ => true
theorem am_bk_s {FL : List (Nat × Jvm.Cond)} {WS NW : List Jvm.Cond} {own : String} {x : Nat} {aux : List Nat} (hF : am_FLok FL WS NW) (h : am_bk FL own x aux = true) : ∀ k, aux = [k] → Jvm.Cond.constant own x (Int32.ofNat k) ∈ WS := by
  intro k hk
  subst hk
  simp only [am_bk] at h
  split at h
  · rename_i e
    obtain ⟨q, h1, h2⟩ := am_fnd_mem e
    obtain ⟨rfl, rfl, rfl⟩ := of_decide_eq_true h
    have h3 := (hF q h1).1 (by rw [h2]; rfl)
    rw [h2] at h3
    exact h3
  · cases h
theorem am_bkl_s {FL : List (Nat × Jvm.Cond)} {WS NW : List Jvm.Cond} {own : String} {x : Nat} {aux : List Nat} (hF : am_FLok FL WS NW) (h : am_bkl FL own x aux = true) : ∀ k, aux = [k] → Jvm.Cond.constantLong own x (Int64.ofNat k) ∈ WS := by
  intro k hk
  subst hk
  simp only [am_bkl] at h
  split at h
  · rename_i e
    obtain ⟨q, h1, h2⟩ := am_fnd_mem e
    obtain ⟨rfl, rfl, rfl⟩ := of_decide_eq_true h
    have h3 := (hF q h1).1 (by rw [h2]; rfl)
    rw [h2] at h3
    exact h3
  · cases h
def am_bt (pc : Nat) (o : Int) (aux : List Nat) : Bool := match aux with
  | [t] => decide ((pc : Int) + o = (t : Int))
  | _ => true
theorem am_bt_s {pc : Nat} {o : Int} {aux : List Nat} (h : am_bt pc o aux = true) : ∀ t, aux = [t] → (pc : Int) + o = (t : Int) := by
  intro t ht
  subst ht
  exact of_decide_eq_true h
/-- constants, locals, jumps -/
def am_b1 (FL : List (Nat × Jvm.Cond)) (own : String) (nL pc : Nat) (i : Instr) (aux : List Nat) : Bool := match i with
  | .ldc x => am_bk FL own x aux
  | .ldc_w x => am_bk FL own x aux
  | .ldc2_w x => am_bkl FL own x aux
  | .istore_n k => decide (k.val < nL)
  | .istore k => decide (k < nL)
  | .astore_n k => decide (k.val < nL)
  | .astore k => decide (k < nL)
  | .lstore_n k => decide (k.val + 1 < nL)
  | .lstore k => decide (k + 1 < nL)
  | .iinc k _ => decide (k < nL)
  | .ifCond _ o => am_bt pc o aux
  | .if_icmp _ o => am_bt pc o aux
  | .goto o => am_bt pc o aux
  | .lookupswitch _ ps => (ps.toList.zip (ps.toList.drop 1)).all (fun (a, next) => a.1 < next.1)
  | _ => true
theorem am_b1_s {FL : List (Nat × Jvm.Cond)} {WS NW : List Jvm.Cond} {own : String} {nL pc : Nat} {i : Instr} {aux : List Nat} (hF : am_FLok FL WS NW) (h : am_b1 FL own nL pc i aux = true) : am_kp own nL WS i aux ∧ am_kb pc i aux := by
  cases i with
  | ldc x => exact ⟨am_bk_s hF h, trivial⟩
  | ldc_w x => exact ⟨am_bk_s hF h, trivial⟩
  | ldc2_w x => exact ⟨am_bkl_s hF h, trivial⟩
  | istore_n k => exact ⟨show k.val < nL from of_decide_eq_true h, trivial⟩
  | istore k => exact ⟨show k < nL from of_decide_eq_true h, trivial⟩
  | astore_n k => exact ⟨show k.val < nL from of_decide_eq_true h, trivial⟩
  | astore k => exact ⟨show k < nL from of_decide_eq_true h, trivial⟩
  | lstore_n k => exact ⟨show k.val + 1 < nL from of_decide_eq_true h, trivial⟩
  | lstore k => exact ⟨show k + 1 < nL from of_decide_eq_true h, trivial⟩
  | iinc k n => exact ⟨show k < nL from of_decide_eq_true h, trivial⟩
  | ifCond c o => exact ⟨trivial, am_bt_s h⟩
  | if_icmp c o => exact ⟨trivial, am_bt_s h⟩
  | goto o => exact ⟨trivial, am_bt_s h⟩
  | lookupswitch d ps => exact ⟨trivial, h⟩
  | _ => exact ⟨trivial, trivial⟩
/-- cells -/
def am_b2 (cl : List vw_C) (FL : List (Nat × Jvm.Cond)) (AW : List Jvm.Cond) (ST : List (String × String × String × Nat)) (y : MethodName) (i : Instr) (aux : List Nat) : Bool := match i with
  | .getfield x => match aux with
    | [ci, k, _] => match cl[ci]? with
      | some (_, T, N) => decide (k < N) && am_bF FL y.cls x (T k)
      | none => false
    | _ => true
  | .putfield x => match aux with
    | [ci, k, tc] => match cl[ci]? with
      | some (_, T, N) => decide (k < N) && ((match parseFieldDescriptor (T k).2.2.1 with
          | some ty => decide (am_tc ty = tc)
          | none => false) && (if (T k).2.2.2 = false then am_bF FL y.cls x (T k) else (decide (y.name = "<init>" ∧ (T k).1 = y.cls) && am_bFp FL y.cls x (T k))))
      | none => false
    | _ => true
  | .getstatic x => match aux with
    | [k] => ST.any (fun q => decide (q.2.2.2 = k) && am_bF FL y.cls x (q.1, q.2.1, q.2.2.1, false))
    | _ => true
  | .newarray t => AW.any (fun w => match w with
    | .arrayClass ty => decide (ty = newarray.typeOf t)
    | _ => false)
  | .new x => match aux with
    | [ci] => match cl[ci]? with
      | some (C, _, _) => am_bC FL y.cls x C
      | none => false
    | _ => true
  | _ => true
theorem am_b2_s {cl : List vw_C} {FL : List (Nat × Jvm.Cond)} {WS NW AW : List Jvm.Cond} {ST : List (String × String × String × Nat)} {y : MethodName} {i : Instr} {aux : List Nat} (hF : am_FLok FL WS NW) (hA : ∀ w ∈ AW, w ∈ WS) (h : am_b2 cl FL AW ST y i aux = true) : am_kh cl WS NW ST y i aux := by
  cases i with
  | getfield x =>
    intro ci k tc hk
    subst hk
    simp only [am_b2] at h
    split at h
    · rename_i C T N hc
      rw [Bool.and_eq_true] at h
      exact ⟨C, T, N, hc, of_decide_eq_true h.1, am_bF_s hF h.2⟩
    · cases h
  | putfield x =>
    intro ci k tc hk
    subst hk
    simp only [am_b2] at h
    split at h
    · rename_i C T N hc
      rw [Bool.and_eq_true, Bool.and_eq_true] at h
      obtain ⟨h1, h2, h3⟩ := h
      split at h2
      · rename_i ty hty
        refine ⟨C, T, N, ty, hc, of_decide_eq_true h1, hty, of_decide_eq_true h2, ?_⟩
        split at h3
        · rename_i hb
          exact Or.inl ⟨hb, am_bF_s hF h3⟩
        · rename_i hb
          rw [Bool.and_eq_true] at h3
          have h4 := of_decide_eq_true h3.1
          exact Or.inr ⟨by cases hq : (T k).2.2.2 with | false => exact absurd hq hb | true => rfl, h4.1, h4.2, am_bFp_s hF h3.2⟩
      · cases h2
    · cases h
  | getstatic x =>
    intro k hk
    subst hk
    simp only [am_b2] at h
    obtain ⟨q, h1, h2⟩ := List.any_eq_true.mp h
    rw [Bool.and_eq_true] at h2
    exact ⟨q, h1, of_decide_eq_true h2.1, am_bF_s hF h2.2⟩
  | newarray t =>
    simp only [am_b2] at h
    obtain ⟨w, h1, h2⟩ := List.any_eq_true.mp h
    split at h2
    · have h3 := of_decide_eq_true h2
      subst h3
      exact hA _ h1
    · cases h2
  | new x =>
    intro ci hk
    subst hk
    simp only [am_b2] at h
    split at h
    · rename_i C T N hc
      exact ⟨C, T, N, hc, am_bC_s hF h⟩
    · cases h
  | _ => exact trivial
/-- calls -/
def am_b3 (cl : List vw_C) (FL : List (Nat × Jvm.Cond)) (P : List am_M) (y : MethodName) (i : Instr) (aux : List Nat) : Bool := match i with
  | .invokevirtual x => match aux with
    | [j, ci] => match am_nth P j with
      | some N => (match cl[ci]? with
        | some (C, _, _) => decide (C = (am_y N).cls)
        | none => false) && am_bM FL y.cls x (am_y N)
      | none => true
    | _ => true
  | .invokespecial x => match aux with
    | [] => am_bMp FL y.cls x Lib.objectInit
    | [j] => match am_nth P j with
      | some N => am_bM FL y.cls x (am_y N)
      | none => true
    | _ => true
  | .invokestatic x => match aux with
    | [j] => match am_nth P j with
      | some N => am_bM FL y.cls x (am_y N)
      | none => true
    | [k, _] => am_bMp FL y.cls x (am_mn k)
    | _ => true
  | _ => true
theorem am_b3_s {cl : List vw_C} {FL : List (Nat × Jvm.Cond)} {WS NW : List Jvm.Cond} {P : List am_M} {y : MethodName} {i : Instr} {aux : List Nat} (hF : am_FLok FL WS NW) (h : am_b3 cl FL P y i aux = true) : am_kc cl WS NW P y i aux := by
  cases i with
  | invokevirtual x =>
    intro j ci N hk hN
    subst hk
    simp only [am_b3, am_nth_eq, hN] at h
    rw [Bool.and_eq_true] at h
    obtain ⟨h1, h2⟩ := h
    split at h1
    · rename_i C T K hc
      have h3 := of_decide_eq_true h1
      subst h3
      exact ⟨⟨T, K, hc⟩, am_bM_s hF h2⟩
    · cases h1
  | invokespecial x =>
    refine ⟨fun hk => ?_, fun j N hk hN => ?_⟩
    · subst hk
      exact am_bMp_s hF h
    · subst hk
      simp only [am_b3, am_nth_eq, hN] at h
      exact am_bM_s hF h
  | invokestatic x =>
    refine ⟨fun j N hk hN => ?_, fun k c hk => ?_⟩
    · subst hk
      simp only [am_b3, am_nth_eq, hN] at h
      exact am_bM_s hF h
    · subst hk
      exact am_bMp_s hF h
  | _ => exact trivial
def am_bE (cl : List vw_C) (FL : List (Nat × Jvm.Cond)) (AW : List Jvm.Cond) (ST : List (String × String × String × Nat)) (P : List am_M) (M : am_M) (x : am_I) : Bool :=
  (am_sw x.2.1 || decide (x.2.2.1 = am_ln x.2.1)) && (am_b1 FL (am_y M).cls (am_nl M) x.1 x.2.1 x.2.2.2.1 && (am_b2 cl FL AW ST (am_y M) x.2.1 x.2.2.2.1 && am_b3 cl FL P (am_y M) x.2.1 x.2.2.2.1))
def am_bD (M : am_M) (x : am_I) : Bool := match decode (am_cc M) x.1 with
  | .ok (i, n) => decide (i = x.2.1) && decide (n = x.2.2.1)
  | .error _ => false
theorem am_bD_s {M : am_M} {x : am_I} (h : am_bD M x = true) : decode (am_cc M) x.1 = .ok (x.2.1, x.2.2.1) := by
  unfold am_bD at h
  split at h
  · rename_i i n e
    rw [Bool.and_eq_true] at h
    have h1 := of_decide_eq_true h.1
    have h2 := of_decide_eq_true h.2
    rw [e, h1, h2]
  · cases h
def am_bT (cl : List vw_C) (FL : List (Nat × Jvm.Cond)) (AW : List Jvm.Cond) (ST : List (String × String × String × Nat)) (P : List am_M) (M : am_M) : Bool :=
  am_chain (am_tb M) && ((match am_tb M with
    | x :: _ => decide (x.1 = 0)
    | [] => false) && (am_tb M).all (fun x => am_bE cl FL AW ST P M x))
theorem am_bT_s {cl : List vw_C} {FL : List (Nat × Jvm.Cond)} {WS NW AW : List Jvm.Cond} {ST : List (String × String × String × Nat)} {P : List am_M} {M : am_M} (hF : am_FLok FL WS NW) (hA : ∀ w ∈ AW, w ∈ WS) (hD : (am_tb M).all (am_bD M) = true) (h : am_bT cl FL AW ST P M = true) : am_tOk cl WS NW ST P M := by
  unfold am_bT at h
  rw [Bool.and_eq_true, Bool.and_eq_true] at h
  obtain ⟨h1, h2, h3⟩ := h
  refine ⟨h1, ?_, fun x hx => ?_⟩
  · split at h2
    · rename_i x r e
      exact ⟨x, r, e, of_decide_eq_true h2⟩
    · cases h2
  · have h4 := List.all_eq_true.mp h3 x hx
    have h5 := am_bD_s (List.all_eq_true.mp hD x hx)
    unfold am_bE at h4
    rw [Bool.and_eq_true, Bool.and_eq_true, Bool.and_eq_true] at h4
    obtain ⟨a1, a2, a3, a4⟩ := h4
    have h6 := am_b1_s hF a2
    refine ⟨h5, fun hs => ?_, h6.1, h6.2, am_b2_s hF hA a3, am_b3_s hF a4⟩
    rw [hs, Bool.false_or] at a1
    exact of_decide_eq_true a1
