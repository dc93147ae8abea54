/-! THE SMALL MACHINE: bytecode run as a function over lists; a reference is a handle: 0, 1: arrays that are only read; k + 2: the k-th cell of the list. -/
abbrev am_E : Type := (FieldType × vp_A) ⊕ (Nat × List Value)
abbrev am_H : Type := List am_E
abbrev am_L : Type := List (Option Value)
abbrev am_Z : Type := List (Nat × (Nat → Int32))
/-- pc, instruction, length, numbers, locals to forget -/
abbrev am_I : Type := Nat × Instr × Nat × List Nat × List Nat
/-- name, kind (0: on an object, 1: a constructor, 2: static), parameters, code, locals, return type, rows -/
abbrev am_M : Type := MethodName × Nat × Nat × ByteArray × Nat × Option FieldType × List am_I
abbrev am_y (M : am_M) : MethodName := M.1
abbrev am_kd (M : am_M) : Nat := M.2.1
abbrev am_np (M : am_M) : Nat := M.2.2.1
abbrev am_cc (M : am_M) : ByteArray := M.2.2.2.1
abbrev am_nl (M : am_M) : Nat := M.2.2.2.2.1
abbrev am_rt (M : am_M) : Option FieldType := M.2.2.2.2.2.1
abbrev am_tb (M : am_M) : List am_I := M.2.2.2.2.2.2
def am_nth {α : Type} : List α → Nat → Option α
  | [], _ => none
  | a :: _, 0 => some a
  | _ :: l, n + 1 => am_nth l n
theorem am_nth_eq {α : Type} : ∀ (l : List α) (n : Nat), am_nth l n = l[n]?
  | [], n => by simp [am_nth]
  | a :: l, 0 => by simp [am_nth]
  | a :: l, n + 1 => by simp [am_nth, am_nth_eq l n]
def am_loc (L : am_L) (i : Nat) : Option Value := (am_nth L i).getD none
def am_unlong (L : am_L) : Nat → am_L
  | 0 => L
  | i + 1 => match am_loc L i with
    | some v => if v.category = 2 then L.set i none else L
    | none => L
def am_sto (L : am_L) (i : Nat) (v : Value) : am_L := (am_unlong L i).set i (some v)
def am_stl (L : am_L) (i : Nat) (v : Value) : am_L := ((am_unlong L i).set i (some v)).set (i + 1) none
def am_kill : List Nat → am_L → am_L
  | [], L => L
  | k :: ks, L => am_kill ks (L.set k none)
def am_1i (S : List Value) (f : Int32 → Value) : Option (List Value) := match S with
  | .int x :: S => some (f x :: S)
  | _ => none
def am_1l (S : List Value) (f : Int64 → Value) : Option (List Value) := match S with
  | .long x :: S => some (f x :: S)
  | _ => none
def am_2i (S : List Value) (f : Int32 → Int32 → Value) : Option (List Value) := match S with
  | .int y :: .int x :: S => some (f x y :: S)
  | _ => none
def am_2l (S : List Value) (f : Int64 → Int64 → Value) : Option (List Value) := match S with
  | .long y :: .long x :: S => some (f x y :: S)
  | _ => none
def am_on (L : am_L) (r : Option (List Value)) : Option (am_L × List Value) := match r with
  | some S => some (L, S)
  | none => none
def am_ldi (L : am_L) (k : Nat) (S : List Value) : Option (am_L × List Value) := match am_loc L k with
  | some (.int x) => some (L, .int x :: S)
  | _ => none
def am_ldl (L : am_L) (k : Nat) (S : List Value) : Option (am_L × List Value) := match am_loc L k with
  | some (.long x) => some (L, .long x :: S)
  | _ => none
def am_lda (L : am_L) (k : Nat) (S : List Value) : Option (am_L × List Value) := match am_loc L k with
  | some (.ref x) => some (L, .ref x :: S)
  | _ => none
def am_sti (L : am_L) (k : Nat) (S : List Value) : Option (am_L × List Value) := match S with
  | .int x :: S => some (am_sto L k (.int x), S)
  | _ => none
def am_sta (L : am_L) (k : Nat) (S : List Value) : Option (am_L × List Value) := match S with
  | .ref x :: S => some (am_sto L k (.ref x), S)
  | _ => none
def am_stj (L : am_L) (k : Nat) (S : List Value) : Option (am_L × List Value) := match S with
  | .long x :: S => some (am_stl L k (.long x), S)
  | _ => none
def am_inc (L : am_L) (k : Nat) (n : Int) (S : List Value) : Option (am_L × List Value) := match am_loc L k with
  | some (.int x) => some (am_sto L k (.int (x + Int32.ofInt n)), S)
  | _ => none
def am_ki (aux : List Nat) (L : am_L) (S : List Value) : Option (am_L × List Value) := match aux with
  | [k] => some (L, .int (Int32.ofNat k) :: S)
  | _ => none
def am_kl (aux : List Nat) (L : am_L) (S : List Value) : Option (am_L × List Value) := match aux with
  | [k] => some (L, .long (Int64.ofNat k) :: S)
  | _ => none
def am_dup (L : am_L) (S : List Value) : Option (am_L × List Value) := match S with
  | v :: S => if v.category = 1 then some (L, v :: v :: S) else none
  | _ => none
def am_dup2 (L : am_L) (S : List Value) : Option (am_L × List Value) := match S with
  | v :: w :: S => if v.category = 1 ∧ w.category = 1 then some (L, v :: w :: v :: w :: S) else none
  | _ => none
def am_pure (i : Instr) (aux : List Nat) (L : am_L) (S : List Value) : Option (am_L × List Value) := match i with
  | .iconst n => some (L, .int (Int32.ofInt n) :: S)
  | .bipush n => some (L, .int (Int8.ofInt n).toInt32 :: S)
  | .sipush n => some (L, .int (Int16.ofInt n).toInt32 :: S)
  | .lconst n => some (L, .long (Int64.ofNat (n : Nat)) :: S)
  | .ldc _ => am_ki aux L S
  | .ldc_w _ => am_ki aux L S
  | .ldc2_w _ => am_kl aux L S
  | .iload_n k => am_ldi L k S
  | .iload k => am_ldi L k S
  | .lload_n k => am_ldl L k S
  | .lload k => am_ldl L k S
  | .aload_n k => am_lda L k S
  | .aload k => am_lda L k S
  | .istore_n k => am_sti L k S
  | .istore k => am_sti L k S
  | .lstore_n k => am_stj L k S
  | .lstore k => am_stj L k S
  | .astore_n k => am_sta L k S
  | .astore k => am_sta L k S
  | .iinc k n => am_inc L k n S
  | .iadd => am_on L (am_2i S fun x y => .int (x + y))
  | .isub => am_on L (am_2i S fun x y => .int (x - y))
  | .imul => am_on L (am_2i S fun x y => .int (x * y))
  | .iand => am_on L (am_2i S fun x y => .int (x &&& y))
  | .ior => am_on L (am_2i S fun x y => .int (x ||| y))
  | .ineg => am_on L (am_1i S fun x => .int (-x))
  | .ladd => am_on L (am_2l S fun x y => .long (x + y))
  | .lsub => am_on L (am_2l S fun x y => .long (x - y))
  | .lmul => am_on L (am_2l S fun x y => .long (x * y))
  | .lneg => am_on L (am_1l S fun x => .long (-x))
  | .lcmp => am_on L (am_2l S fun x y => .int (lg_cmp x y))
  | .i2l => am_on L (am_1i S fun x => .long x.toInt64)
  | .l2i => am_on L (am_1l S fun x => .int x.toInt32)
  | .i2c => am_on L (am_1i S fun x => .int (x.toUInt32 % 65536).toInt32)
  | .dup => am_dup L S
  | .dup2 => am_dup2 L S
  | _ => none
def am_c1 (c : Jvm.ClassFile.Cond) (x : Int32) : Bool := match c with
  | .eq => decide (x = 0)
  | .ne => decide (¬ x = 0)
  | .lt => decide (x < 0)
  | .ge => decide (0 ≤ x)
  | .gt => decide (0 < x)
  | .le => decide (x ≤ 0)
def am_c2 (c : Jvm.ClassFile.Cond) (x y : Int32) : Bool := match c with
  | .eq => decide (x = y)
  | .ne => decide (¬ x = y)
  | .lt => decide (x < y)
  | .ge => decide (y ≤ x)
  | .gt => decide (y < x)
  | .le => decide (x ≤ y)
def am_tsw (d lo hi : Int) (offs : Array Int) (x : Int32) : Option Int := if x.toInt < lo ∨ hi < x.toInt then some d else offs[(x.toInt - lo).toNat]?
def am_go (pc : Nat) (o : Option Int) (S : List Value) : Option (Bool × Nat × List Value) := match o with
  | some o => if 0 ≤ (pc : Int) + o then some (true, ((pc : Int) + o).toNat, S) else none
  | none => none
def am_br (pc : Nat) (i : Instr) (aux : List Nat) (S : List Value) : Option (Bool × Nat × List Value) := match i with
  | .ifCond c _ => match aux, S with
    | [t], .int x :: S => some (am_c1 c x, t, S)
    | _, _ => none
  | .if_icmp c _ => match aux, S with
    | [t], .int y :: .int x :: S => some (am_c2 c x y, t, S)
    | _, _ => none
  | .goto _ => match aux with
    | [t] => some (true, t, S)
    | _ => none
  | .tableswitch d lo hi offs => match S with
    | .int x :: S => am_go pc (am_tsw d lo hi offs x) S
    | _ => none
  | .lookupswitch d ps => match S with
    | .int x :: S => am_go pc (some (Op.lookupswitch.offset ps.toList d x.toInt)) S
    | _ => none
  | _ => none
def am_at : List am_I → Nat → List am_I
  | [], _ => []
  | e :: r, t => if e.1 = t then e :: r else am_at r t
def am_cell (h : am_H) : Nat → Option am_E
  | 0 => none
  | 1 => none
  | k + 2 => am_nth h k
def am_setc (h : am_H) (a : Nat) (x : am_E) : am_H := match a with
  | 0 => h
  | 1 => h
  | k + 2 => h.set k x
def am_ia (Z : am_Z) (h : am_H) : Nat → Option (Nat × (Nat → Int32))
  | 0 => am_nth Z 0
  | 1 => am_nth Z 1
  | k + 2 => match am_nth h k with
    | some (.inl (.int, n, .inl f)) => some (n, f)
    | _ => none
def am_in (i : Int32) (n : Nat) : Bool := decide (¬ (i < 0 ∨ n ≤ i.toNatClampNeg))
def am_fit (tc : Nat) (v : Value) : Bool := match tc, v with
  | 0, .int _ => true
  | 1, .long _ => true
  | 2, .int x => decide (x = 0 ∨ x = 1)
  | 3, .ref _ => true
  | _, _ => false
def am_tc (ty : FieldType) : Nat := match ty with
  | .int => 0
  | .long => 1
  | .boolean => 2
  | .object _ => 3
  | .array _ => 3
  | _ => 9
/-- the elements of a new array -/
def am_new0 (t : ArrayType) (n : Nat) : vp_A := match t with
  | .long => (n, .inr (.inl (fun _ => 0)))
  | _ => (n, .inl (fun _ => 0))
def am_okA (t : ArrayType) : Bool := match t with
  | .long => true
  | .int => true
  | .boolean => true
  | .char => true
  | _ => false
def am_getf (h : am_H) (ci k a : Nat) : Option Value := match am_cell h a with
  | some (.inr (ci', fs)) => if ci' = ci then am_nth fs k else none
  | _ => none
def am_putf (h : am_H) (ci k tc a : Nat) (v : Value) : Option am_H := match am_cell h a with
  | some (.inr (ci', fs)) => if ci' = ci ∧ k < fs.length ∧ am_fit tc v = true then some (am_setc h a (.inr (ci, fs.set k v))) else none
  | _ => none
/-- an element of an array of ints, booleans, chars -/
def am_ald (h : am_H) (ty : FieldType) (a : Nat) (j : Int32) : Option Int32 := match am_cell h a with
  | some (.inl (ty', n, .inl f)) => if ty' = ty ∧ am_in j n = true then some (f j.toNatClampNeg) else none
  | _ => none
def am_ast (h : am_H) (ty : FieldType) (a : Nat) (j x : Int32) : Option am_H := match am_cell h a with
  | some (.inl (ty', n, .inl f)) => if ty' = ty ∧ am_in j n = true then some (am_setc h a (.inl (ty, n, .inl (upd f j.toNatClampNeg x)))) else none
  | _ => none
def am_lald (h : am_H) (a : Nat) (j : Int32) : Option Int64 := match am_cell h a with
  | some (.inl (.long, n, .inr (.inl f))) => if am_in j n = true then some (f j.toNatClampNeg) else none
  | _ => none
def am_last (h : am_H) (a : Nat) (j : Int32) (x : Int64) : Option am_H := match am_cell h a with
  | some (.inl (.long, n, .inr (.inl f))) => if am_in j n = true then some (am_setc h a (.inl (.long, n, .inr (.inl (vp_updL f j.toNatClampNeg x))))) else none
  | _ => none
def am_iald (Z : am_Z) (h : am_H) (a : Nat) (j : Int32) : Option Int32 := match am_ia Z h a with
  | some (n, f) => if am_in j n = true then some (f j.toNatClampNeg) else none
  | none => none
def am_len (Z : am_Z) (a : Nat) : Option Nat := match a with
  | 0 => (am_nth Z 0).map (fun q => q.1)
  | 1 => (am_nth Z 1).map (fun q => q.1)
  | _ => none
def am_pushv (S : List Value) (h : am_H) (v : Option Value) : Option (List Value × am_H) := match v with
  | some v => some (v :: S, h)
  | none => none
def am_keep (S : List Value) (h : Option am_H) : Option (List Value × am_H) := match h with
  | some h => some (S, h)
  | none => none
def am_hp (Z : am_Z) (DF : List (List Value)) (i : Instr) (aux : List Nat) (S : List Value) (h : am_H) : Option (List Value × am_H) := match i with
  | .getfield _ => match aux, S with
    | [ci, k, _], .ref a :: S => am_pushv S h (am_getf h ci k a)
    | _, _ => none
  | .putfield _ => match aux, S with
    | [ci, k, tc], v :: .ref a :: S => am_keep S (am_putf h ci k tc a v)
    | _, _ => none
  | .getstatic _ => match aux with
    | [k] => some (.ref k :: S, h)
    | _ => none
  | .arraylength => match S with
    | .ref a :: S => am_pushv S h ((am_len Z a).map fun n => .int (Int32.ofNat n))
    | _ => none
  | .iaload => match S with
    | .int j :: .ref a :: S => am_pushv S h ((am_iald Z h a j).map .int)
    | _ => none
  | .baload => match aux, S with
    | [], .int j :: .ref a :: S => am_pushv S h ((am_ald h .boolean a j).map .int)
    | _, _ => none
  | .caload => match S with
    | .int j :: .ref a :: S => am_pushv S h ((am_ald h .char a j).map .int)
    | _ => none
  | .laload => match S with
    | .int j :: .ref a :: S => am_pushv S h ((am_lald h a j).map .long)
    | _ => none
  | .iastore => match S with
    | .int x :: .int j :: .ref a :: S => am_keep S (am_ast h .int a j x)
    | _ => none
  | .bastore => match aux, S with
    | [], .int x :: .int j :: .ref a :: S => am_keep S (am_ast h .boolean a j (vp_nar .boolean x))
    | _, _ => none
  | .castore => match S with
    | .int x :: .int j :: .ref a :: S => am_keep S (am_ast h .char a j (vp_nar .char x))
    | _ => none
  | .lastore => match S with
    | .long x :: .int j :: .ref a :: S => am_keep S (am_last h a j x)
    | _ => none
  | .newarray t => match S with
    | .int n :: S => if ¬ n < 0 ∧ n.toNatClampNeg ≤ 65536 ∧ am_okA t = true then some (.ref (h.length + 2) :: S, h ++ [.inl (newarray.typeOf t, am_new0 t n.toNatClampNeg)]) else none
    | _ => none
  | .new _ => match aux with
    | [ci] => match am_nth DF ci with
      | some fs => some (.ref (h.length + 2) :: S, h ++ [.inr (ci, fs)])
      | none => none
    | _ => none
  | _ => none
/-- Math: 0 abs, 1 max, 2 min, 3 max of longs -/
def am_mt (k : Nat) (S : List Value) : Option (List Value) := match k, S with
  | 0, .int x :: S => some (.int (if 0 ≤ x then x else 0 - x) :: S)
  | 1, .int y :: .int x :: S => some (.int (if x < y then y else x) :: S)
  | 2, .int y :: .int x :: S => some (.int (if y < x then y else x) :: S)
  | 3, .long y :: .long x :: S => some (.long (if y < x then x else y) :: S)
  | _, _ => none
def am_mk (o : Option (List Value)) : Option (List Value) := match o with
  | some S => if (S.map fun v => v.category).sum ≤ 10 then some S else none
  | none => none
def am_obj (i : Instr) (aux : List Nat) (S : List Value) : Option (List Value) := match i with
  | .invokespecial _ => match aux, S with
    | [], .ref _ :: S => if (S.map fun v => v.category).sum ≤ 8 then some S else none
    | _, _ => none
  | .invokestatic _ => match aux with
    | [k, _] => am_mk (am_mt k S)
    | _ => none
  | _ => none
def am_pop : Nat → List Value → List Value → Option (List Value × List Value)
  | 0, acc, S => some (acc, S)
  | n + 1, acc, v :: S => am_pop n (v :: acc) S
  | _ + 1, _, [] => none
def am_exp : List Value → am_L
  | [] => []
  | v :: r => if v.category = 2 then some v :: none :: am_exp r else some v :: am_exp r
def am_ent (N : am_M) (vs : List Value) : am_L := am_exp vs ++ List.replicate (am_nl N - (am_exp vs).length) none
/-- is the receiver an object of the class ci? -/
def am_isa (h : am_H) (ci : Nat) (v : Option Value) : Bool := match v with
  | some (.ref a) => match am_cell h a with
    | some (.inr (ci', _)) => decide (ci' = ci)
    | _ => false
  | _ => false
def am_isr (v : Option Value) : Bool := match v with
  | some (.ref _) => true
  | _ => false
def am_okc (N : am_M) (kd : Nat) (vs S : List Value) : Bool := decide (am_kd N = kd) && (decide ((am_exp vs).length ≤ am_nl N) && decide ((S.map fun v => v.category).sum ≤ 8))
def am_inv (P : List am_M) (i : Instr) (aux : List Nat) (S : List Value) (h : am_H) : Option (am_M × List Value × List Value) := match i, aux with
  | .invokevirtual _, [j, ci] => match am_nth P j with
    | some N => match am_pop (am_np N + 1) [] S with
      | some (vs, S') => if am_okc N 0 vs S' = true ∧ am_isa h ci vs.head? = true then some (N, vs, S') else none
      | none => none
    | none => none
  | .invokespecial _, [j] => match am_nth P j with
    | some N => match am_pop (am_np N + 1) [] S with
      | some (vs, S') => if am_okc N 1 vs S' = true ∧ am_isr vs.head? = true then some (N, vs, S') else none
      | none => none
    | none => none
  | .invokestatic _, [j] => match am_nth P j with
    | some N => match am_pop (am_np N) [] S with
      | some (vs, S') => if am_okc N 2 vs S' = true then some (N, vs, S') else none
      | none => none
    | none => none
  | _, _ => none
def am_ret (rt : Option FieldType) (i : Instr) (S : List Value) : Option (Option Value) := match i, S, rt with
  | .ireturn, [.int x], some .int => some (some (.int x))
  | .ireturn, [.int x], some .boolean => if x = 0 ∨ x = 1 then some (some (.int x)) else none
  | .ireturn, [.int x], some .char => if narrow .char (.int x) = .int x then some (some (.int x)) else none
  | .lreturn, [.long x], some .long => some (some (.long x))
  | .return_, [], none => some none
  | _, _, _ => none
def am_fin (r : Option (Option Value)) (h : am_H) : Option (Option Value × am_H) := match r with
  | some v => some (v, h)
  | none => none
def am_run (P : List am_M) (Z : am_Z) (DF : List (List Value)) : Nat → Nat → am_M → List am_I → am_L → List Value → am_H → Option (Option Value × am_H)
  | 0, _, _, _, _, _, _ => none
  | _ + 1, _, _, [], _, _, _ => none
  | n + 1, d, M, (pc, i, _, aux, ks) :: is, L, S, h =>
    match am_pure i aux (am_kill ks L) S with
    | some (L', S') => am_run P Z DF n d M is L' S' h
    | none =>
    match am_hp Z DF i aux S h with
    | some (S', h') => am_run P Z DF n d M is (am_kill ks L) S' h'
    | none =>
    match am_br pc i aux S with
    | some (b, t, S') => am_run P Z DF n d M (if b = true then am_at (am_tb M) t else is) (am_kill ks L) S' h
    | none =>
    match d with
    | 0 => am_fin (am_ret (am_rt M) i S) h
    | d' + 1 =>
      match am_obj i aux S with
      | some S' => am_run P Z DF n (d' + 1) M is (am_kill ks L) S' h
      | none =>
      match am_inv P i aux S h with
      | some (N, vs, S') =>
        match am_run P Z DF n d' N (am_tb N) (am_ent N vs) [] h with
        | some (r, h') => am_run P Z DF n (d' + 1) M is (am_kill ks L) (r.toList ++ S') h'
        | none => none
      | none => am_fin (am_ret (am_rt M) i S) h
