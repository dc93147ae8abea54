/-! both constructors -/
def xG0 : xG := fun a j => if a = 21 then (if j = 4 then Int32.ofInt (-1) else 0) else if a = 33 then (if j = 28 then Int32.ofInt (-1) else 0) else 0
def xK0 : xK := fun _ _ => 0
set_option maxHeartbeats 4000000 in
set_option maxRecDepth 100000 in
theorem lwx_new {sc : Nat × (Nat → Int32)} {Q : Option Value → am_H → Prop} (h : xw sc 1000 MW_law cW_law_18 [some (.ref 0), some (.ref 2), some (.ref 33), some (xI 0)] [] (xH xG0 xK0) Q) : am_wp amP (xZ sc) amDF 1000 MW_law cW_law_0 [some (.ref 0), none, none, none] [] [] Q := by
  iterate 295 ((first
    | refine (am_wp_pure rfl).mpr ?_
    | refine (am_wp_hp rfl rfl).mpr ?_
    | refine (am_wp_obj rfl rfl rfl rfl).mpr ?_
    | refine (am_wp_inv rfl rfl rfl rfl rfl).mpr ?_
    | refine (am_wp_ret rfl rfl rfl rfl rfl rfl).mpr ?_); try simp only [am_kill, am_setc, List.set_cons_zero, List.set_cons_succ, List.nil_append, List.cons_append, List.length_nil, List.length_cons, Nat.reduceAdd, Option.toList_none, amD0, amD1, amD2, amD3, amD4, amD5, amD6, amD7, amD8])
  exact h
