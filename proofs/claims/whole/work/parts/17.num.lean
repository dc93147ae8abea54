/-! Numbers of the stack as Int; the world as a function of cell and place. -/
def xI (x : Int) : Value := .int (Int32.ofInt x)
def xJ (x : Int) : Value := .long (Int64.ofInt x)
def xin (x : Int) : Prop := -2147483648 ≤ x ∧ x ≤ 2147483647
def xinl (x : Int) : Prop := -9223372036854775808 ≤ x ∧ x ≤ 9223372036854775807
theorem xin_to {x : Int} (h : xin x) : (Int32.ofInt x).toInt = x := Int32.toInt_ofInt_of_le (by have := h.1; omega) (by have := h.2; omega)
theorem xin_of (x : Int32) : xin x.toInt := ⟨by have := x.le_toInt; omega, by have := x.toInt_lt; omega⟩
theorem xinl_to {x : Int} (h : xinl x) : (Int64.ofInt x).toInt = x := Int64.toInt_ofInt_of_le (by have := h.1; omega) (by have := h.2; omega)
theorem xinl_of (x : Int64) : xinl x.toInt := ⟨by have := x.le_toInt; omega, by have := x.toInt_lt; omega⟩
theorem xI_of (x : Int32) : Value.int x = xI x.toInt := by simp [xI]
theorem xJ_of (x : Int64) : Value.long x = xJ x.toInt := by simp [xJ]
theorem xI_inj {x y : Int} (hx : xin x) (hy : xin y) (h : xI x = xI y) : x = y := by
  have h1 : Int32.ofInt x = Int32.ofInt y := by injection h
  rw [← xin_to hx, ← xin_to hy, h1]
/-! compares -/
theorem xc_eq {x y : Int} (hx : xin x) (hy : xin y) : (Int32.ofInt x = Int32.ofInt y) ↔ x = y := by
  rw [← Int32.toInt_inj, xin_to hx, xin_to hy]
theorem xc_lt {x y : Int} (hx : xin x) (hy : xin y) : (Int32.ofInt x < Int32.ofInt y) ↔ x < y := by
  rw [Int32.lt_iff_toInt_lt, xin_to hx, xin_to hy]
theorem xc_le {x y : Int} (hx : xin x) (hy : xin y) : (Int32.ofInt x ≤ Int32.ofInt y) ↔ x ≤ y := by
  rw [Int32.le_iff_toInt_le, xin_to hx, xin_to hy]
theorem xin_0 : xin 0 := ⟨by decide, by decide⟩
theorem xz : (0 : Int32) = Int32.ofInt 0 := rfl
def xk1 (c : Jvm.ClassFile.Cond) (x : Int) : Prop := match c with
  | .eq => x = 0
  | .ne => ¬ x = 0
  | .lt => x < 0
  | .ge => 0 ≤ x
  | .gt => 0 < x
  | .le => x ≤ 0
def xk2 (c : Jvm.ClassFile.Cond) (x y : Int) : Prop := match c with
  | .eq => x = y
  | .ne => ¬ x = y
  | .lt => x < y
  | .ge => y ≤ x
  | .gt => y < x
  | .le => x ≤ y
theorem am_c1_x {c : Jvm.ClassFile.Cond} {x : Int} (hx : xin x) : am_c1 c (Int32.ofInt x) = true ↔ xk1 c x := by
  cases c <;> simp only [am_c1, xk1, decide_eq_true_eq, xz, xc_eq hx xin_0, xc_lt hx xin_0, xc_lt xin_0 hx, xc_le hx xin_0, xc_le xin_0 hx]
theorem am_c2_x {c : Jvm.ClassFile.Cond} {x y : Int} (hx : xin x) (hy : xin y) : am_c2 c (Int32.ofInt x) (Int32.ofInt y) = true ↔ xk2 c x y := by
  cases c <;> simp only [am_c2, xk2, decide_eq_true_eq, xc_eq hx hy, xc_lt hx hy, xc_lt hy hx, xc_le hx hy, xc_le hy hx]
section XW
variable {P : List am_M} {Z : am_Z} {DF : List (List Value)} {d : Nat} {M : am_M} {is T : List am_I} {L L' : am_L} {S S' : List Value} {h h' : am_H} {Q : Option Value → am_H → Prop} {pc len t : Nat} {ks aux : List Nat} {x y : Int} {o : Int}
theorem xw_if (c : Jvm.ClassFile.Cond) (hx : xin x) (hT : am_at (am_tb M) t = T) : am_wp P Z DF d M ((pc, .ifCond c o, len, [t], ks) :: is) L (xI x :: S) h Q ↔ (xk1 c x → am_wp P Z DF d M T (am_kill ks L) S h Q) ∧ (¬ xk1 c x → am_wp P Z DF d M is (am_kill ks L) S h Q) := by
  rw [am_wp_br (bb := am_c1 c (Int32.ofInt x)) (t := t) (S' := S) rfl rfl rfl, ← am_c1_x (c := c) hx, hT]
  cases am_c1 c (Int32.ofInt x)
  · exact ⟨fun w => ⟨fun q => (Bool.noConfusion q), fun _ => w⟩, fun w => w.2 (fun q => Bool.noConfusion q)⟩
  · exact ⟨fun w => ⟨fun _ => w, fun q => absurd rfl q⟩, fun w => w.1 rfl⟩
theorem xw_ic (c : Jvm.ClassFile.Cond) (hx : xin x) (hy : xin y) (hT : am_at (am_tb M) t = T) : am_wp P Z DF d M ((pc, .if_icmp c o, len, [t], ks) :: is) L (xI y :: xI x :: S) h Q ↔ (xk2 c x y → am_wp P Z DF d M T (am_kill ks L) S h Q) ∧ (¬ xk2 c x y → am_wp P Z DF d M is (am_kill ks L) S h Q) := by
  rw [am_wp_br (bb := am_c2 c (Int32.ofInt x) (Int32.ofInt y)) (t := t) (S' := S) rfl rfl rfl, ← am_c2_x (c := c) hx hy, hT]
  cases am_c2 c (Int32.ofInt x) (Int32.ofInt y)
  · exact ⟨fun w => ⟨fun q => (Bool.noConfusion q), fun _ => w⟩, fun w => w.2 (fun q => Bool.noConfusion q)⟩
  · exact ⟨fun w => ⟨fun _ => w, fun q => absurd rfl q⟩, fun w => w.1 rfl⟩
theorem xw_goto (hT : am_at (am_tb M) t = T) : am_wp P Z DF d M ((pc, .goto o, len, [t], ks) :: is) L S h Q ↔ am_wp P Z DF d M T (am_kill ks L) S h Q := by
  rw [am_wp_br (bb := true) (t := t) (S' := S) rfl rfl rfl, hT]
  exact Iff.rfl
/-! arithmetic -/
theorem xr_add : am_pure .iadd aux L (xI y :: xI x :: S) = some (L, xI (x + y) :: S) := by
  simp only [xI, Int32.ofInt_add]; rfl
theorem xr_sub : am_pure .isub aux L (xI y :: xI x :: S) = some (L, xI (x - y) :: S) := by
  simp only [xI, Int32.ofInt_sub]; rfl
theorem xr_mul : am_pure .imul aux L (xI y :: xI x :: S) = some (L, xI (x * y) :: S) := by
  simp only [xI, Int32.ofInt_mul]; rfl
theorem xr_neg : am_pure .ineg aux L (xI x :: S) = some (L, xI (-x) :: S) := by
  simp only [xI, Int32.ofInt_neg]; rfl
theorem xr_ladd : am_pure .ladd aux L (xJ y :: xJ x :: S) = some (L, xJ (x + y) :: S) := by
  simp only [xJ, Int64.ofInt_add]; rfl
theorem xr_lsub : am_pure .lsub aux L (xJ y :: xJ x :: S) = some (L, xJ (x - y) :: S) := by
  simp only [xJ, Int64.ofInt_sub]; rfl
theorem xr_lmul : am_pure .lmul aux L (xJ y :: xJ x :: S) = some (L, xJ (x * y) :: S) := by
  simp only [xJ, Int64.ofInt_mul]; rfl
theorem xr_lneg : am_pure .lneg aux L (xJ x :: S) = some (L, xJ (-x) :: S) := by
  simp only [xJ, Int64.ofInt_neg]; rfl
def xand (x y : Int) : Int := (Int32.ofInt x &&& Int32.ofInt y).toInt
def xor2 (x y : Int) : Int := (Int32.ofInt x ||| Int32.ofInt y).toInt
theorem xr_and : am_pure .iand aux L (xI y :: xI x :: S) = some (L, xI (xand x y) :: S) := by
  simp only [xI, xand, Int32.ofInt_toInt]; rfl
theorem xr_or : am_pure .ior aux L (xI y :: xI x :: S) = some (L, xI (xor2 x y) :: S) := by
  simp only [xI, xor2, Int32.ofInt_toInt]; rfl
def xcmp (x y : Int) : Int := if y < x then 1 else if x = y then 0 else -1
theorem xr_lcmp (hx : xinl x) (hy : xinl y) : am_pure .lcmp aux L (xJ y :: xJ x :: S) = some (L, xI (xcmp x y) :: S) := by
  have e1 : lg_cmp (Int64.ofInt x) (Int64.ofInt y) = Int32.ofInt (xcmp x y) := by
    unfold lg_cmp xcmp
    have h1 : (Int64.ofInt x > Int64.ofInt y) ↔ y < x := by
      rw [GT.gt, Int64.lt_iff_toInt_lt, xinl_to hx, xinl_to hy]
    have h2 : (Int64.ofInt x = Int64.ofInt y) ↔ x = y := by
      rw [← Int64.toInt_inj, xinl_to hx, xinl_to hy]
    simp only [h1, h2]
    by_cases a : y < x
    · simp only [a, if_true]; rfl
    · by_cases b : x = y
      · rw [if_neg a, if_pos b, if_neg a, if_pos b]; rfl
      · simp only [a, b, if_false]; rfl
  show some (L, Value.int (lg_cmp (Int64.ofInt x) (Int64.ofInt y)) :: S) = _
  rw [e1]; rfl
theorem xin_cmp : xin (xcmp x y) := by
  unfold xcmp
  split
  · exact ⟨by decide, by decide⟩
  · split
    · exact ⟨by decide, by decide⟩
    · exact ⟨by decide, by decide⟩
theorem xcmp_lt : xcmp x y < 0 ↔ x < y := by
  unfold xcmp; split
  · constructor <;> intro <;> omega
  · split <;> constructor <;> intro <;> omega
theorem xcmp_ge : 0 ≤ xcmp x y ↔ y ≤ x := by
  unfold xcmp; split
  · constructor <;> intro <;> omega
  · split <;> constructor <;> intro <;> omega
theorem xcmp_gt : 0 < xcmp x y ↔ y < x := by
  unfold xcmp; split
  · constructor <;> intro <;> omega
  · split <;> constructor <;> intro <;> omega
theorem xcmp_le : xcmp x y ≤ 0 ↔ x ≤ y := by
  unfold xcmp; split
  · constructor <;> intro <;> omega
  · split <;> constructor <;> intro <;> omega
theorem xcmp_eq : xcmp x y = 0 ↔ x = y := by
  unfold xcmp; split
  · constructor <;> intro <;> omega
  · split <;> constructor <;> intro <;> omega
theorem xr_i2l (hx : xin x) : am_pure .i2l aux L (xI x :: S) = some (L, xJ x :: S) := by
  have e1 : (Int32.ofInt x).toInt64 = Int64.ofInt x := by
    apply Int64.toInt_inj.mp
    rw [Int32.toInt_toInt64, xin_to hx, xinl_to ⟨by have := hx.1; omega, by have := hx.2; omega⟩]
  show some (L, Value.long (Int32.ofInt x).toInt64 :: S) = _
  rw [e1]; rfl
theorem xr_l2i : am_pure .l2i aux L (xJ x :: S) = some (L, xI x :: S) := by
  show some (L, Value.int (Int64.ofInt x).toInt32 :: S) = _
  rw [Int64.toInt32_ofInt]; rfl
def xch (x : Int) : Int := x % 65536
theorem xr_i2c : am_pure .i2c aux L (xI x :: S) = some (L, xI (xch x) :: S) := by
  have e1 : ((Int32.ofInt x).toUInt32 % 65536).toInt32 = Int32.ofInt (xch x) := by
    apply Int32.toBitVec.inj
    apply BitVec.eq_of_toNat_eq
    simp [xch, Int32.toBitVec_ofInt]
    omega
  show some (L, Value.int ((Int32.ofInt x).toUInt32 % 65536).toInt32 :: S) = _
  rw [e1]; rfl
/-! cells -/
theorem xw_get {v : Value} {a ci k tc ix : Nat} (e : am_getf h ci k a = some v) : am_wp P Z DF d M ((pc, .getfield ix, len, [ci, k, tc], ks) :: is) L (.ref a :: S) h Q ↔ am_wp P Z DF d M is (am_kill ks L) (v :: S) h Q := am_wp_hp rfl (by simp only [am_hp, e, am_pushv])
theorem xw_put {v : Value} {a ci k tc ix : Nat} (e : am_putf h ci k tc a v = some h') : am_wp P Z DF d M ((pc, .putfield ix, len, [ci, k, tc], ks) :: is) L (v :: .ref a :: S) h Q ↔ am_wp P Z DF d M is (am_kill ks L) S h' Q := am_wp_hp rfl (by simp only [am_hp, e, am_keep])
theorem xw_iald {a : Nat} {w : Int} (e : am_iald Z h a (Int32.ofInt x) = some (Int32.ofInt w)) : am_wp P Z DF d M ((pc, .iaload, len, aux, ks) :: is) L (xI x :: .ref a :: S) h Q ↔ am_wp P Z DF d M is (am_kill ks L) (xI w :: S) h Q := am_wp_hp rfl (by simp only [am_hp, xI, e, Option.map_some, am_pushv])
theorem xw_bald {a : Nat} {w : Int} (e : am_ald h .boolean a (Int32.ofInt x) = some (Int32.ofInt w)) : am_wp P Z DF d M ((pc, .baload, len, [], ks) :: is) L (xI x :: .ref a :: S) h Q ↔ am_wp P Z DF d M is (am_kill ks L) (xI w :: S) h Q := am_wp_hp rfl (by simp only [am_hp, xI, e, Option.map_some, am_pushv])
theorem xw_cald {a : Nat} {w : Int} (e : am_ald h .char a (Int32.ofInt x) = some (Int32.ofInt w)) : am_wp P Z DF d M ((pc, .caload, len, aux, ks) :: is) L (xI x :: .ref a :: S) h Q ↔ am_wp P Z DF d M is (am_kill ks L) (xI w :: S) h Q := am_wp_hp rfl (by simp only [am_hp, xI, e, Option.map_some, am_pushv])
theorem xw_lald {a : Nat} {w : Int} (e : am_lald h a (Int32.ofInt x) = some (Int64.ofInt w)) : am_wp P Z DF d M ((pc, .laload, len, aux, ks) :: is) L (xI x :: .ref a :: S) h Q ↔ am_wp P Z DF d M is (am_kill ks L) (xJ w :: S) h Q := am_wp_hp rfl (by simp only [am_hp, xI, xJ, e, Option.map_some, am_pushv])
theorem xw_iast {a : Nat} (e : am_ast h .int a (Int32.ofInt x) (Int32.ofInt y) = some h') : am_wp P Z DF d M ((pc, .iastore, len, aux, ks) :: is) L (xI y :: xI x :: .ref a :: S) h Q ↔ am_wp P Z DF d M is (am_kill ks L) S h' Q := am_wp_hp rfl (by simp only [am_hp, xI, e, am_keep])
theorem xw_bast {a : Nat} (e : am_ast h .boolean a (Int32.ofInt x) (vp_nar .boolean (Int32.ofInt y)) = some h') : am_wp P Z DF d M ((pc, .bastore, len, [], ks) :: is) L (xI y :: xI x :: .ref a :: S) h Q ↔ am_wp P Z DF d M is (am_kill ks L) S h' Q := am_wp_hp rfl (by simp only [am_hp, xI, e, am_keep])
theorem xw_cast {a : Nat} (e : am_ast h .char a (Int32.ofInt x) (vp_nar .char (Int32.ofInt y)) = some h') : am_wp P Z DF d M ((pc, .castore, len, aux, ks) :: is) L (xI y :: xI x :: .ref a :: S) h Q ↔ am_wp P Z DF d M is (am_kill ks L) S h' Q := am_wp_hp rfl (by simp only [am_hp, xI, e, am_keep])
theorem xw_last {a : Nat} (e : am_last h a (Int32.ofInt x) (Int64.ofInt y) = some h') : am_wp P Z DF d M ((pc, .lastore, len, aux, ks) :: is) L (xJ y :: xI x :: .ref a :: S) h Q ↔ am_wp P Z DF d M is (am_kill ks L) S h' Q := am_wp_hp rfl (by simp only [am_hp, xI, xJ, e, am_keep])
theorem xr_bi {n : Int} (e : (Int8.ofInt n).toInt32 = Int32.ofInt n) : am_pure (.bipush n) aux L S = some (L, xI n :: S) := by
  show some (L, Value.int (Int8.ofInt n).toInt32 :: S) = _
  rw [e]; rfl
theorem xr_si {n : Int} (e : (Int16.ofInt n).toInt32 = Int32.ofInt n) : am_pure (.sipush n) aux L S = some (L, xI n :: S) := by
  show some (L, Value.int (Int16.ofInt n).toInt32 :: S) = _
  rw [e]; rfl
theorem xr_ldc {n : Int} {k ix : Nat} (e : Int32.ofNat k = Int32.ofInt n) : am_pure (.ldc ix) [k] L S = some (L, xI n :: S) := by
  show some (L, Value.int (Int32.ofNat k) :: S) = _
  rw [e]; rfl
theorem xr_ldc_w {n : Int} {k ix : Nat} (e : Int32.ofNat k = Int32.ofInt n) : am_pure (.ldc_w ix) [k] L S = some (L, xI n :: S) := by
  show some (L, Value.int (Int32.ofNat k) :: S) = _
  rw [e]; rfl
theorem xr_ldc2 {n : Int} {k ix : Nat} (e : Int64.ofNat k = Int64.ofInt n) : am_pure (.ldc2_w ix) [k] L S = some (L, xJ n :: S) := by
  show some (L, Value.long (Int64.ofNat k) :: S) = _
  rw [e]; rfl
theorem xr_inc {n : Int} {k : Nat} (e : am_loc L k = some (xI x)) (e2 : am_sto L k (xI (x + n)) = L') : am_pure (.iinc k n) aux L S = some (L', S) := by
  show am_inc L k n S = _
  simp only [am_inc, e, xI, ← Int32.ofInt_add]
  rw [← e2]; rfl
theorem xw_sw {i : Instr} {S0 : List Value} (e0 : am_pure i aux (am_kill ks L) S0 = none) (e1 : am_hp Z DF i aux S0 h = none) (e : am_br pc i aux S0 = some (true, t, S)) (hT : am_at (am_tb M) t = T) : am_wp P Z DF d M ((pc, i, len, aux, ks) :: is) L S0 h Q ↔ am_wp P Z DF d M T (am_kill ks L) S h Q := by
  rw [am_wp_br e0 e1 e, hT]
  exact Iff.rfl
theorem xw_td {dd lo hi : Int} {offs : Array Int} (hx : xin x) (hd : x < lo ∨ hi < x) (ht : (if 0 ≤ (pc : Int) + dd then some ((pc : Int) + dd).toNat else none) = some t) (hT : am_at (am_tb M) t = T) : am_wp P Z DF d M ((pc, .tableswitch dd lo hi offs, len, aux, ks) :: is) L (xI x :: S) h Q ↔ am_wp P Z DF d M T (am_kill ks L) S h Q := by
  refine xw_sw (t := t) rfl rfl ?_ hT
  show am_go pc (am_tsw dd lo hi offs (Int32.ofInt x)) S = _
  simp only [am_tsw, xin_to hx, hd, if_true, am_go]
  split at ht
  · rename_i hc
    cases ht
    rw [if_pos hc]
  · cases ht
theorem xw_ld {dd : Int} {ps : Array (Int × Int)} (hx : xin x) (hd : Op.lookupswitch.offset ps.toList dd x = dd) (ht : (if 0 ≤ (pc : Int) + dd then some ((pc : Int) + dd).toNat else none) = some t) (hT : am_at (am_tb M) t = T) : am_wp P Z DF d M ((pc, .lookupswitch dd ps, len, aux, ks) :: is) L (xI x :: S) h Q ↔ am_wp P Z DF d M T (am_kill ks L) S h Q := by
  refine xw_sw (t := t) rfl rfl ?_ hT
  show am_go pc (some (Op.lookupswitch.offset ps.toList dd (Int32.ofInt x).toInt)) S = _
  rw [xin_to hx, hd]
  simp only [am_go]
  split at ht
  · rename_i hc
    cases ht
    rw [if_pos hc]
  · cases ht
end XW
/-! the world -/
abbrev xG : Type := Nat → Nat → Int32
abbrev xK : Type := Nat → Nat → Int64
def xg (G : xG) (a : Nat) (j : Int) : Int := (G a j.toNat).toInt
def xp (G : xG) (a : Nat) (j x : Int) : xG := fun b => if b = a then upd (G b) j.toNat (Int32.ofInt x) else G b
def xgl (K : xK) (a : Nat) (j : Int) : Int := (K a j.toNat).toInt
def xpl (K : xK) (a : Nat) (j x : Int) : xK := fun b => if b = a then vp_updL (K b) j.toNat (Int64.ofInt x) else K b
theorem xin_g (G : xG) (a : Nat) (j : Int) : xin (xg G a j) := xin_of _
theorem xinl_g (K : xK) (a : Nat) (j : Int) : xinl (xgl K a j) := xinl_of _
theorem xI_g {G : xG} {a : Nat} {j : Int} : xI (xg G a j) = Value.int (G a j.toNat) := (xI_of _).symm
theorem xg_self {G : xG} {a : Nat} {j x : Int} (hx : xin x) : xg (xp G a j x) a j = x := by
  simp only [xg, xp, if_true, upd]
  exact xin_to hx
theorem xg_cell {G : xG} {a b : Nat} {i j x : Int} (h : ¬ b = a) : xg (xp G a i x) b j = xg G b j := by
  simp only [xg, xp, h, if_false]
theorem xg_idx {G : xG} {a : Nat} {i j x : Int} (hi : 0 ≤ i) (hj : 0 ≤ j) (h : ¬ j = i) : xg (xp G a i x) a j = xg G a j := by
  have h1 : ¬ j.toNat = i.toNat := by omega
  simp only [xg, xp, if_true, upd, h1, if_false]
theorem xgl_self {K : xK} {a : Nat} {j x : Int} (hx : xinl x) : xgl (xpl K a j x) a j = x := by
  simp only [xgl, xpl, if_true, vp_updL]
  exact xinl_to hx
theorem xgl_cell {K : xK} {a b : Nat} {i j x : Int} (h : ¬ b = a) : xgl (xpl K a i x) b j = xgl K b j := by
  simp only [xgl, xpl, h, if_false]
theorem xgl_idx {K : xK} {a : Nat} {i j x : Int} (hi : 0 ≤ i) (hj : 0 ≤ j) (h : ¬ j = i) : xgl (xpl K a i x) a j = xgl K a j := by
  have h1 : ¬ j.toNat = i.toNat := by omega
  simp only [xgl, xpl, if_true, vp_updL, h1, if_false]
theorem am_in_x {j : Int} {n : Nat} (h0 : 0 ≤ j) (h1 : j < n) (hn : n ≤ 2147483647) : am_in (Int32.ofInt j) n = true ∧ (Int32.ofInt j).toNatClampNeg = j.toNat := by
  have hj : xin j := ⟨by omega, by omega⟩
  have e1 : (Int32.ofInt j).toNatClampNeg = j.toNat := by
    show (Int32.ofInt j).toInt.toNat = _
    rw [xin_to hj]
  refine ⟨?_, e1⟩
  simp only [am_in, decide_eq_true_eq, e1, xz, xc_lt hj xin_0]
  omega
theorem xa_iald {Z : am_Z} {h : am_H} {a n : Nat} {f : Nat → Int32} {j : Int} (e : am_ia Z h a = some (n, f)) (hn : n ≤ 2147483647) (h0 : 0 ≤ j) (h1 : j < n) : am_iald Z h a (Int32.ofInt j) = some (Int32.ofInt (f j.toNat).toInt) := by
  obtain ⟨q1, q2⟩ := am_in_x h0 h1 hn
  simp only [am_iald, e, q1, if_true, q2, Int32.ofInt_toInt]
theorem xa_ald {h : am_H} {ty : FieldType} {a n : Nat} {f : Nat → Int32} {j : Int} (e : am_cell h a = some (.inl (ty, n, .inl f))) (hn : n ≤ 2147483647) (h0 : 0 ≤ j) (h1 : j < n) : am_ald h ty a (Int32.ofInt j) = some (Int32.ofInt (f j.toNat).toInt) := by
  obtain ⟨q1, q2⟩ := am_in_x h0 h1 hn
  simp only [am_ald, e, q1, and_self, if_true, q2, Int32.ofInt_toInt]
theorem xa_lald {h : am_H} {a n : Nat} {f : Nat → Int64} {j : Int} (e : am_cell h a = some (.inl (.long, n, .inr (.inl f)))) (hn : n ≤ 2147483647) (h0 : 0 ≤ j) (h1 : j < n) : am_lald h a (Int32.ofInt j) = some (Int64.ofInt (f j.toNat).toInt) := by
  obtain ⟨q1, q2⟩ := am_in_x h0 h1 hn
  simp only [am_lald, e, q1, if_true, q2, Int64.ofInt_toInt]
theorem xa_ast {h h' : am_H} {ty : FieldType} {a n : Nat} {f : Nat → Int32} {j : Int} {y : Int32} (e : am_cell h a = some (.inl (ty, n, .inl f))) (hn : n ≤ 2147483647) (e2 : am_setc h a (.inl (ty, n, .inl (upd f j.toNat y))) = h') (h0 : 0 ≤ j) (h1 : j < n) : am_ast h ty a (Int32.ofInt j) y = some h' := by
  obtain ⟨q1, q2⟩ := am_in_x h0 h1 hn
  simp only [am_ast, e, q1, and_self, if_true, q2, e2]
theorem xa_last {h h' : am_H} {a n : Nat} {f : Nat → Int64} {j : Int} {y : Int64} (e : am_cell h a = some (.inl (.long, n, .inr (.inl f)))) (hn : n ≤ 2147483647) (e2 : am_setc h a (.inl (.long, n, .inr (.inl (vp_updL f j.toNat y)))) = h') (h0 : 0 ≤ j) (h1 : j < n) : am_last h a (Int32.ofInt j) y = some h' := by
  obtain ⟨q1, q2⟩ := am_in_x h0 h1 hn
  simp only [am_last, e, q1, if_true, q2, e2]
def xbo (x : Int) : Prop := x = 0 ∨ x = 1
theorem xnar_b {x : Int} (h : xbo x) : vp_nar .boolean (Int32.ofInt x) = Int32.ofInt x := by
  rcases h with rfl | rfl <;> rfl
theorem xr_rz {x : Int} (h : xbo x) : am_ret (some .boolean) .ireturn [xI x] = some (some (xI x)) := by
  rcases h with rfl | rfl <;> rfl
theorem xnar_c1 {x : Int} (h0 : 0 ≤ x) (h1 : x < 65536) : narrow .char (.int (Int32.ofInt x)) = .int (Int32.ofInt x) := by
  have e1 : (Int32.ofInt x).toUInt32.toUInt16.toUInt32.toInt32 = Int32.ofInt x := by
    apply Int32.toBitVec.inj
    apply BitVec.eq_of_toNat_eq
    simp [Int32.toBitVec_ofInt]
    omega
  show Value.int ((Int32.ofInt x).toUInt32.toUInt16.toUInt32.toInt32) = _
  rw [e1]
theorem xnar_c {x : Int} (h0 : 0 ≤ x) (h1 : x < 65536) : vp_nar .char (Int32.ofInt x) = Int32.ofInt x := by
  simp only [vp_nar, xnar_c1 h0 h1]
theorem xr_rc {x : Int} (h0 : 0 ≤ x) (h1 : x < 65536) : am_ret (some .char) .ireturn [xI x] = some (some (xI x)) := by
  show (if narrow .char (.int (Int32.ofInt x)) = .int (Int32.ofInt x) then some (some (Value.int (Int32.ofInt x))) else none) = _
  rw [if_pos (xnar_c1 h0 h1)]; rfl
