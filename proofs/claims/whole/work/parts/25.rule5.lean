/-! printed by wip/gen/main.py: one row an instruction -/
section XRL
variable {sc : Nat × (Nat → Int32)} {d : Nat} {L : am_L} {S : List Value} {h : am_H} {Q : Option Value → am_H → Prop} {G : xG} {K : xK} {x y l0 a0 x0 l1 a1 x1 l2 a2 x2 l3 a3 x3 l4 a4 x4 l5 a5 x5 l6 a6 x6 l7 a7 x7 l8 a8 x8 l9 a9 x9 l10 a10 x10 l11 a11 x11 l12 a12 x12 l13 a13 x13 l14 a14 x14 l15 a15 x15 l16 a16 x16 l17 a17 x17 l18 a18 x18 l19 a19 x19 : Int} {u0 u1 u2 u3 u4 u5 u6 u7 u8 u9 u10 u11 u12 u13 u14 u15 u16 u17 u18 u19 : Option Value}
theorem em_entry : xc sc d Mm_entry [.ref 33, xI a0, xI a1] h Q ↔ xw sc d Mm_entry cm_entry_0 [some (.ref 33), some (xI a0), some (xI a1), none, none, none, none] [] h Q := Iff.rfl
theorem rm_entry_0 : xw sc d Mm_entry cm_entry_0 [some (.ref 33), some (xI l1), some (xI l2), none, none, none, none] S h Q ↔ xw sc d Mm_entry cm_entry_1 [some (.ref 33), some (xI l1), some (xI l2), none, none, none, none] (.ref 33 :: S) h Q := by refine am_wp_pure ?_; exact rfl
theorem rm_entry_1 : xw sc d Mm_entry cm_entry_1 L (.ref 33 :: S) (xH G K) Q ↔ xw sc d Mm_entry cm_entry_4 L (xI (xg G 33 34) :: S) (xH G K) Q := by exact xw_get gf_33_34
theorem rm_entry_4 (hx : xin x) : xw sc d Mm_entry cm_entry_4 L (xI x :: S) h Q ↔ (¬ x = 0 → xw sc d Mm_entry cm_entry_9 L S h Q) ∧ (¬ (¬ x = 0) → xw sc d Mm_entry cm_entry_7 L S h Q) := by exact xw_if .ne hx rfl
theorem rm_entry_7 : xw sc d Mm_entry cm_entry_7 L S h Q ↔ xw sc d Mm_entry cm_entry_8 L (xI 0 :: S) h Q := by refine am_wp_pure ?_; exact rfl
theorem rm_entry_8 : xw sc d Mm_entry cm_entry_8 L [xI x] h Q ↔ Q (some (xI x)) h := by exact am_wp_ret rfl rfl rfl rfl rfl rfl
theorem rm_entry_9 : xw sc d Mm_entry cm_entry_9 [some (.ref 33), some (xI l1), some (xI l2), none, none, none, none] S h Q ↔ xw sc d Mm_entry cm_entry_10 [some (.ref 33), some (xI l1), some (xI l2), none, none, none, none] (.ref 33 :: S) h Q := by refine am_wp_pure ?_; exact rfl
theorem rm_entry_10 : xw sc (d + 1) Mm_entry cm_entry_10 L [.ref 33] (xH G K) Q ↔ xc sc d Mm_mark [.ref 33] (xH G K) (fun r h => xw sc (d + 1) Mm_entry cm_entry_13 L (r.toList ++ []) h Q) := by exact am_wp_inv rfl rfl rfl rfl rfl
theorem rm_entry_13 : xw sc d Mm_entry cm_entry_13 [some (.ref 33), some (xI l1), some (xI l2), none, none, none, none] S h Q ↔ xw sc d Mm_entry cm_entry_14 [some (.ref 33), some (xI l1), some (xI l2), none, none, none, none] (xI l1 :: S) h Q := by refine am_wp_pure ?_; exact rfl
theorem rm_entry_14 : xw sc d Mm_entry cm_entry_14 L S h Q ↔ xw sc d Mm_entry cm_entry_15 L (xI (-1) :: S) h Q := by refine am_wp_pure ?_; exact rfl
theorem rm_entry_15 (hx : xin x) (hy : xin y) : xw sc d Mm_entry cm_entry_15 L (xI y :: xI x :: S) h Q ↔ (x < y → xw sc d Mm_entry cm_entry_39 L S h Q) ∧ (¬ x < y → xw sc d Mm_entry cm_entry_18 L S h Q) := by exact xw_ic .lt hx hy rfl
theorem rm_entry_18 : xw sc d Mm_entry cm_entry_18 [some (.ref 33), some (xI l1), some (xI l2), none, none, none, none] S h Q ↔ xw sc d Mm_entry cm_entry_19 [some (.ref 33), some (xI l1), some (xI l2), none, none, none, none] (xI l1 :: S) h Q := by refine am_wp_pure ?_; exact rfl
theorem rm_entry_19 : xw sc d Mm_entry cm_entry_19 [some (.ref 33), some (xI l1), some (xI l2), none, none, none, none] S h Q ↔ xw sc d Mm_entry cm_entry_20 [some (.ref 33), some (xI l1), some (xI l2), none, none, none, none] (.ref 33 :: S) h Q := by refine am_wp_pure ?_; exact rfl
theorem rm_entry_20 : xw sc (d + 1) Mm_entry cm_entry_20 L [.ref 33, xI x1] (xH G K) Q ↔ xc sc d Mm_allRows [.ref 33] (xH G K) (fun r h => xw sc (d + 1) Mm_entry cm_entry_23 L (r.toList ++ [xI x1]) h Q) := by exact am_wp_inv rfl rfl rfl rfl rfl
theorem rm_entry_23 (hx : xin x) (hy : xin y) : xw sc d Mm_entry cm_entry_23 L (xI y :: xI x :: S) h Q ↔ (y ≤ x → xw sc d Mm_entry cm_entry_39 L S h Q) ∧ (¬ y ≤ x → xw sc d Mm_entry cm_entry_26 L S h Q) := by exact xw_ic .ge hx hy rfl
theorem rm_entry_26 : xw sc d Mm_entry cm_entry_26 [some (.ref 33), some (xI l1), some (xI l2), none, none, none, none] S h Q ↔ xw sc d Mm_entry cm_entry_27 [some (.ref 33), some (xI l1), some (xI l2), none, none, none, none] (xI l2 :: S) h Q := by refine am_wp_pure ?_; exact rfl
theorem rm_entry_27 : xw sc d Mm_entry cm_entry_27 L S h Q ↔ xw sc d Mm_entry cm_entry_28 L (xI (-1) :: S) h Q := by refine am_wp_pure ?_; exact rfl
theorem rm_entry_28 (hx : xin x) (hy : xin y) : xw sc d Mm_entry cm_entry_28 L (xI y :: xI x :: S) h Q ↔ (x < y → xw sc d Mm_entry cm_entry_39 L S h Q) ∧ (¬ x < y → xw sc d Mm_entry cm_entry_31 L S h Q) := by exact xw_ic .lt hx hy rfl
theorem rm_entry_31 : xw sc d Mm_entry cm_entry_31 [some (.ref 33), some (xI l1), some (xI l2), none, none, none, none] S h Q ↔ xw sc d Mm_entry cm_entry_32 [some (.ref 33), some (xI l1), some (xI l2), none, none, none, none] (xI l2 :: S) h Q := by refine am_wp_pure ?_; exact rfl
theorem rm_entry_32 : xw sc d Mm_entry cm_entry_32 [some (.ref 33), some (xI l1), some (xI l2), none, none, none, none] S h Q ↔ xw sc d Mm_entry cm_entry_33 [some (.ref 33), some (xI l1), some (xI l2), none, none, none, none] (.ref 33 :: S) h Q := by refine am_wp_pure ?_; exact rfl
theorem rm_entry_33 : xw sc (d + 1) Mm_entry cm_entry_33 L [.ref 33, xI x1] (xH G K) Q ↔ xc sc d Mm_columns [.ref 33] (xH G K) (fun r h => xw sc (d + 1) Mm_entry cm_entry_36 L (r.toList ++ [xI x1]) h Q) := by exact am_wp_inv rfl rfl rfl rfl rfl
theorem rm_entry_36 (hx : xin x) (hy : xin y) : xw sc d Mm_entry cm_entry_36 L (xI y :: xI x :: S) h Q ↔ (x < y → xw sc d Mm_entry cm_entry_41 L S h Q) ∧ (¬ x < y → xw sc d Mm_entry cm_entry_39 L S h Q) := by exact xw_ic .lt hx hy rfl
theorem rm_entry_39 : xw sc d Mm_entry cm_entry_39 [u0, u1, u2, none, none, none, none] S h Q ↔ xw sc d Mm_entry cm_entry_40 [none, none, none, none, none, none, none] (xI 0 :: S) h Q := by refine am_wp_pure ?_; exact rfl
theorem rm_entry_40 : xw sc d Mm_entry cm_entry_40 L [xI x] h Q ↔ Q (some (xI x)) h := by exact am_wp_ret rfl rfl rfl rfl rfl rfl
theorem rm_entry_41 : xw sc d Mm_entry cm_entry_41 [some (.ref 33), some (xI l1), some (xI l2), none, none, none, none] S h Q ↔ xw sc d Mm_entry cm_entry_42 [some (.ref 33), some (xI l1), some (xI l2), none, none, none, none] (.ref 33 :: S) h Q := by refine am_wp_pure ?_; exact rfl
theorem rm_entry_42 : xw sc d Mm_entry cm_entry_42 L S h Q ↔ xw sc d Mm_entry cm_entry_43 L (xI (-1) :: S) h Q := by refine am_wp_pure ?_; exact rfl
theorem rm_entry_43 : xw sc (d + 1) Mm_entry cm_entry_43 L [xI x0, .ref 33] (xH G K) Q ↔ xc sc d Mm_expand [.ref 33, xI x0] (xH G K) (fun r h => xw sc (d + 1) Mm_entry cm_entry_46 L (r.toList ++ []) h Q) := by exact am_wp_inv rfl rfl rfl rfl rfl
theorem rm_entry_46 : xw sc d Mm_entry cm_entry_46 [some (.ref 33), some (xI l1), some (xI l2), none, none, none, none] S h Q ↔ xw sc d Mm_entry cm_entry_47 [some (.ref 33), some (xI l1), some (xI l2), none, none, none, none] (.ref 33 :: S) h Q := by refine am_wp_pure ?_; exact rfl
theorem rm_entry_47 : xw sc d Mm_entry cm_entry_47 [some (.ref 33), some (xI l1), some (xI l2), none, none, none, none] S h Q ↔ xw sc d Mm_entry cm_entry_48 [some (.ref 33), some (xI l1), some (xI l2), none, none, none, none] (xI l1 :: S) h Q := by refine am_wp_pure ?_; exact rfl
theorem rm_entry_48 : xw sc (d + 1) Mm_entry cm_entry_48 L [xI x0, .ref 33] (xH G K) Q ↔ xc sc d Mm_rowValue [.ref 33, xI x0] (xH G K) (fun r h => xw sc (d + 1) Mm_entry cm_entry_51 L (r.toList ++ []) h Q) := by exact am_wp_inv rfl rfl rfl rfl rfl
theorem rm_entry_51 : xw sc d Mm_entry cm_entry_51 [some (.ref 33), some (xI l1), some (xI l2), none, none, none, none] (xJ x :: S) h Q ↔ xw sc d Mm_entry cm_entry_52 [some (.ref 33), some (xI l1), some (xI l2), some (xJ x), none, none, none] S h Q := by refine am_wp_pure ?_; exact rfl
theorem rm_entry_52 : xw sc d Mm_entry cm_entry_52 [some (.ref 33), some (xI l1), some (xI l2), some (xJ l3), none, none, none] S h Q ↔ xw sc d Mm_entry cm_entry_53 [some (.ref 33), some (xI l1), some (xI l2), some (xJ l3), none, none, none] (xI l2 :: S) h Q := by refine am_wp_pure ?_; exact rfl
theorem rm_entry_53 : xw sc d Mm_entry cm_entry_53 L S h Q ↔ xw sc d Mm_entry cm_entry_54 L (xI (-1) :: S) h Q := by refine am_wp_pure ?_; exact rfl
theorem rm_entry_54 (hx : xin x) (hy : xin y) : xw sc d Mm_entry cm_entry_54 L (xI y :: xI x :: S) h Q ↔ (¬ x = y → xw sc d Mm_entry cm_entry_60 L S h Q) ∧ (¬ (¬ x = y) → xw sc d Mm_entry cm_entry_57 L S h Q) := by exact xw_ic .ne hx hy rfl
theorem rm_entry_57 : xw sc d Mm_entry cm_entry_57 [some (.ref 33), some (xI l1), some (xI l2), some (xJ l3), none, none, none] S h Q ↔ xw sc d Mm_entry cm_entry_58 [some (.ref 33), some (xI l1), some (xI l2), some (xJ l3), none, none, none] (xJ l3 :: S) h Q := by refine am_wp_pure ?_; exact rfl
theorem rm_entry_58 : xw sc d Mm_entry cm_entry_58 L (xJ x :: S) h Q ↔ xw sc d Mm_entry cm_entry_59 L (xI x :: S) h Q := by refine am_wp_pure ?_; exact xr_l2i
theorem rm_entry_59 : xw sc d Mm_entry cm_entry_59 L [xI x] h Q ↔ Q (some (xI x)) h := by exact am_wp_ret rfl rfl rfl rfl rfl rfl
theorem rm_entry_60 : xw sc d Mm_entry cm_entry_60 [some (.ref 33), some (xI l1), some (xI l2), some (xJ l3), none, none, none] S h Q ↔ xw sc d Mm_entry cm_entry_61 [some (.ref 33), some (xI l1), some (xI l2), some (xJ l3), none, none, none] (.ref 33 :: S) h Q := by refine am_wp_pure ?_; exact rfl
theorem rm_entry_61 : xw sc d Mm_entry cm_entry_61 [some (.ref 33), some (xI l1), some (xI l2), some (xJ l3), none, none, none] S h Q ↔ xw sc d Mm_entry cm_entry_62 [some (.ref 33), some (xI l1), some (xI l2), some (xJ l3), none, none, none] (xI l2 :: S) h Q := by refine am_wp_pure ?_; exact rfl
theorem rm_entry_62 : xw sc (d + 1) Mm_entry cm_entry_62 L [xI x0, .ref 33] (xH G K) Q ↔ xc sc d Mm_expand [.ref 33, xI x0] (xH G K) (fun r h => xw sc (d + 1) Mm_entry cm_entry_65 L (r.toList ++ []) h Q) := by exact am_wp_inv rfl rfl rfl rfl rfl
theorem rm_entry_65 : xw sc d Mm_entry cm_entry_65 [some (.ref 33), some (xI l1), some (xI l2), some (xJ l3), none, none, none] S h Q ↔ xw sc d Mm_entry cm_entry_66 [some (.ref 33), some (xI l1), some (xI l2), some (xJ l3), none, none, none] (.ref 33 :: S) h Q := by refine am_wp_pure ?_; exact rfl
theorem rm_entry_66 : xw sc d Mm_entry cm_entry_66 [some (.ref 33), some (xI l1), some (xI l2), some (xJ l3), none, none, none] S h Q ↔ xw sc d Mm_entry cm_entry_67 [some (.ref 33), some (xI l1), some (xI l2), some (xJ l3), none, none, none] (xI l1 :: S) h Q := by refine am_wp_pure ?_; exact rfl
theorem rm_entry_67 : xw sc (d + 1) Mm_entry cm_entry_67 L [xI x0, .ref 33] (xH G K) Q ↔ xc sc d Mm_rowValue [.ref 33, xI x0] (xH G K) (fun r h => xw sc (d + 1) Mm_entry cm_entry_70 L (r.toList ++ []) h Q) := by exact am_wp_inv rfl rfl rfl rfl rfl
theorem rm_entry_70 : xw sc d Mm_entry cm_entry_70 [some (.ref 33), some (xI l1), some (xI l2), some (xJ l3), none, none, none] (xJ x :: S) h Q ↔ xw sc d Mm_entry cm_entry_72 [some (.ref 33), some (xI l1), some (xI l2), some (xJ l3), none, some (xJ x), none] S h Q := by refine am_wp_pure ?_; exact rfl
theorem rm_entry_72 : xw sc d Mm_entry cm_entry_72 [some (.ref 33), some (xI l1), some (xI l2), some (xJ l3), none, some (xJ l5), none] S h Q ↔ xw sc d Mm_entry cm_entry_74 [some (.ref 33), some (xI l1), some (xI l2), some (xJ l3), none, some (xJ l5), none] (xJ l5 :: S) h Q := by refine am_wp_pure ?_; exact rfl
theorem rm_entry_74 : xw sc d Mm_entry cm_entry_74 [some (.ref 33), some (xI l1), some (xI l2), some (xJ l3), none, some (xJ l5), none] S h Q ↔ xw sc d Mm_entry cm_entry_75 [some (.ref 33), some (xI l1), some (xI l2), some (xJ l3), none, some (xJ l5), none] (xJ l3 :: S) h Q := by refine am_wp_pure ?_; exact rfl
theorem rm_entry_75 : xw sc d Mm_entry cm_entry_75 L (xJ y :: xJ x :: S) h Q ↔ xw sc d Mm_entry cm_entry_76 L (xJ (x - y) :: S) h Q := by refine am_wp_pure ?_; exact xr_lsub
theorem rm_entry_76 : xw sc d Mm_entry cm_entry_76 L (xJ x :: S) h Q ↔ xw sc d Mm_entry cm_entry_77 L (xI x :: S) h Q := by refine am_wp_pure ?_; exact xr_l2i
theorem rm_entry_77 : xw sc d Mm_entry cm_entry_77 L [xI x] h Q ↔ Q (some (xI x)) h := by exact am_wp_ret rfl rfl rfl rfl rfl rfl
theorem em_set : xc sc d Mm_set [.ref 33, xI a0, xI a1] h Q ↔ xw sc d Mm_set cm_set_0 [some (.ref 33), some (xI a0), some (xI a1), none] [] h Q := Iff.rfl
theorem rm_set_0 : xw sc d Mm_set cm_set_0 [some (.ref 33), some (xI l1), some (xI l2), none] S h Q ↔ xw sc d Mm_set cm_set_1 [some (.ref 33), some (xI l1), some (xI l2), none] (.ref 33 :: S) h Q := by refine am_wp_pure ?_; exact rfl
theorem rm_set_1 : xw sc d Mm_set cm_set_1 [some (.ref 33), some (xI l1), some (xI l2), none] S h Q ↔ xw sc d Mm_set cm_set_2 [some (.ref 33), some (xI l1), some (xI l2), none] (xI l1 :: S) h Q := by refine am_wp_pure ?_; exact rfl
theorem rm_set_2 : xw sc (d + 1) Mm_set cm_set_2 L [xI x0, .ref 33] (xH G K) Q ↔ xc sc d Mm_isNode [.ref 33, xI x0] (xH G K) (fun r h => xw sc (d + 1) Mm_set cm_set_5 L (r.toList ++ []) h Q) := by exact am_wp_inv rfl rfl rfl rfl rfl
theorem rm_set_5 (hx : xin x) : xw sc d Mm_set cm_set_5 L (xI x :: S) h Q ↔ (¬ x = 0 → xw sc d Mm_set cm_set_10 L S h Q) ∧ (¬ (¬ x = 0) → xw sc d Mm_set cm_set_8 L S h Q) := by exact xw_if .ne hx rfl
theorem rm_set_8 : xw sc d Mm_set cm_set_8 L S h Q ↔ xw sc d Mm_set cm_set_9 L (xI 0 :: S) h Q := by refine am_wp_pure ?_; exact rfl
theorem rm_set_9 (hx : xbo x) : xw sc d Mm_set cm_set_9 L [xI x] h Q ↔ Q (some (xI x)) h := by exact am_wp_ret rfl rfl rfl rfl rfl (xr_rz hx)
theorem rm_set_10 : xw sc d Mm_set cm_set_10 [some (.ref 33), some (xI l1), some (xI l2), none] S h Q ↔ xw sc d Mm_set cm_set_11 [some (.ref 33), some (xI l1), some (xI l2), none] (.ref 33 :: S) h Q := by refine am_wp_pure ?_; exact rfl
theorem rm_set_11 : xw sc (d + 1) Mm_set cm_set_11 L [.ref 33] (xH G K) Q ↔ xc sc d Mm_mark [.ref 33] (xH G K) (fun r h => xw sc (d + 1) Mm_set cm_set_14 L (r.toList ++ []) h Q) := by exact am_wp_inv rfl rfl rfl rfl rfl
theorem rm_set_14 : xw sc d Mm_set cm_set_14 [some (.ref 33), some (xI l1), some (xI l2), none] S h Q ↔ xw sc d Mm_set cm_set_15 [some (.ref 33), some (xI l1), some (xI l2), none] (.ref 33 :: S) h Q := by refine am_wp_pure ?_; exact rfl
theorem rm_set_15 : xw sc d Mm_set cm_set_15 L (.ref 33 :: S) (xH G K) Q ↔ xw sc d Mm_set cm_set_18 L (.ref 40 :: S) (xH G K) Q := by exact xw_get gf_33_13
theorem rm_set_18 : xw sc d Mm_set cm_set_18 [some (.ref 33), some (xI l1), some (xI l2), none] S h Q ↔ xw sc d Mm_set cm_set_19 [some (.ref 33), some (xI l1), some (xI l2), none] (xI l1 :: S) h Q := by refine am_wp_pure ?_; exact rfl
theorem rm_set_19 (h0 : 0 ≤ x) (h1 : x < 36) : xw sc d Mm_set cm_set_19 L (xI x :: .ref 40 :: S) (xH G K) Q ↔ xw sc d Mm_set cm_set_20 L (xI (xg G 40 x) :: S) (xH G K) Q := by exact xw_iald (al_40 h0 h1)
theorem rm_set_20 : xw sc d Mm_set cm_set_20 L S h Q ↔ xw sc d Mm_set cm_set_21 L (xI 1 :: S) h Q := by refine am_wp_pure ?_; exact rfl
theorem rm_set_21 (hx : xin x) (hy : xin y) : xw sc d Mm_set cm_set_21 L (xI y :: xI x :: S) h Q ↔ (¬ x = y → xw sc d Mm_set cm_set_29 L S h Q) ∧ (¬ (¬ x = y) → xw sc d Mm_set cm_set_24 L S h Q) := by exact xw_ic .ne hx hy rfl
theorem rm_set_24 : xw sc d Mm_set cm_set_24 L S h Q ↔ xw sc d Mm_set cm_set_26 L (xI 20 :: S) h Q := by refine am_wp_pure ?_; exact xr_bi (by decide)
theorem rm_set_26 : xw sc d Mm_set cm_set_26 L S h Q ↔ xw sc d Mm_set cm_set_66 L S h Q := by exact xw_goto rfl
theorem rm_set_29 : xw sc d Mm_set cm_set_29 [some (.ref 33), some (xI l1), some (xI l2), none] S h Q ↔ xw sc d Mm_set cm_set_30 [some (.ref 33), some (xI l1), some (xI l2), none] (.ref 33 :: S) h Q := by refine am_wp_pure ?_; exact rfl
theorem rm_set_30 : xw sc d Mm_set cm_set_30 L (.ref 33 :: S) (xH G K) Q ↔ xw sc d Mm_set cm_set_33 L (.ref 40 :: S) (xH G K) Q := by exact xw_get gf_33_13
theorem rm_set_33 : xw sc d Mm_set cm_set_33 [some (.ref 33), some (xI l1), some (xI l2), none] S h Q ↔ xw sc d Mm_set cm_set_34 [some (.ref 33), some (xI l1), some (xI l2), none] (xI l1 :: S) h Q := by refine am_wp_pure ?_; exact rfl
theorem rm_set_34 (h0 : 0 ≤ x) (h1 : x < 36) : xw sc d Mm_set cm_set_34 L (xI x :: .ref 40 :: S) (xH G K) Q ↔ xw sc d Mm_set cm_set_35 L (xI (xg G 40 x) :: S) (xH G K) Q := by exact xw_iald (al_40 h0 h1)
theorem rm_set_35 : xw sc d Mm_set cm_set_35 L S h Q ↔ xw sc d Mm_set cm_set_36 L (xI 2 :: S) h Q := by refine am_wp_pure ?_; exact rfl
theorem rm_set_36 (hx : xin x) (hy : xin y) : xw sc d Mm_set cm_set_36 L (xI y :: xI x :: S) h Q ↔ (¬ x = y → xw sc d Mm_set cm_set_44 L S h Q) ∧ (¬ (¬ x = y) → xw sc d Mm_set cm_set_39 L S h Q) := by exact xw_ic .ne hx hy rfl
theorem rm_set_39 : xw sc d Mm_set cm_set_39 L S h Q ↔ xw sc d Mm_set cm_set_41 L (xI 9 :: S) h Q := by refine am_wp_pure ?_; exact xr_bi (by decide)
theorem rm_set_41 : xw sc d Mm_set cm_set_41 L S h Q ↔ xw sc d Mm_set cm_set_66 L S h Q := by exact xw_goto rfl
theorem rm_set_44 : xw sc d Mm_set cm_set_44 [some (.ref 33), some (xI l1), some (xI l2), none] S h Q ↔ xw sc d Mm_set cm_set_45 [some (.ref 33), some (xI l1), some (xI l2), none] (.ref 33 :: S) h Q := by refine am_wp_pure ?_; exact rfl
theorem rm_set_45 : xw sc d Mm_set cm_set_45 L (.ref 33 :: S) (xH G K) Q ↔ xw sc d Mm_set cm_set_48 L (xI (xg G 33 34) :: S) (xH G K) Q := by exact xw_get gf_33_34
theorem rm_set_48 (hx : xin x) : xw sc d Mm_set cm_set_48 L (xI x :: S) h Q ↔ (x = 0 → xw sc d Mm_set cm_set_65 L S h Q) ∧ (¬ x = 0 → xw sc d Mm_set cm_set_51 L S h Q) := by exact xw_if .eq hx rfl
theorem rm_set_51 : xw sc d Mm_set cm_set_51 [some (.ref 33), some (xI l1), some (xI l2), none] S h Q ↔ xw sc d Mm_set cm_set_52 [some (.ref 33), some (xI l1), some (xI l2), none] (.ref 33 :: S) h Q := by refine am_wp_pure ?_; exact rfl
theorem rm_set_52 : xw sc d Mm_set cm_set_52 [some (.ref 33), some (xI l1), some (xI l2), none] S h Q ↔ xw sc d Mm_set cm_set_53 [some (.ref 33), some (xI l1), some (xI l2), none] (xI l1 :: S) h Q := by refine am_wp_pure ?_; exact rfl
theorem rm_set_53 : xw sc (d + 1) Mm_set cm_set_53 L [xI x0, .ref 33] (xH G K) Q ↔ xc sc d Mm_auxiliary [.ref 33, xI x0] (xH G K) (fun r h => xw sc (d + 1) Mm_set cm_set_56 L (r.toList ++ []) h Q) := by exact am_wp_inv rfl rfl rfl rfl rfl
theorem rm_set_56 (hx : xin x) : xw sc d Mm_set cm_set_56 L (xI x :: S) h Q ↔ (x = 0 → xw sc d Mm_set cm_set_65 L S h Q) ∧ (¬ x = 0 → xw sc d Mm_set cm_set_59 L S h Q) := by exact xw_if .eq hx rfl
theorem rm_set_59 : xw sc d Mm_set cm_set_59 L S h Q ↔ xw sc d Mm_set cm_set_62 L (xI 1000000 :: S) h Q := by refine am_wp_pure ?_; exact xr_ldc_w (by decide)
theorem rm_set_62 : xw sc d Mm_set cm_set_62 L S h Q ↔ xw sc d Mm_set cm_set_66 L S h Q := by exact xw_goto rfl
theorem rm_set_65 : xw sc d Mm_set cm_set_65 L S h Q ↔ xw sc d Mm_set cm_set_66 L (xI (-1) :: S) h Q := by refine am_wp_pure ?_; exact rfl
theorem rm_set_66 : xw sc d Mm_set cm_set_66 [some (.ref 33), some (xI l1), some (xI l2), none] (xI x :: S) h Q ↔ xw sc d Mm_set cm_set_67 [some (.ref 33), some (xI l1), some (xI l2), some (xI x)] S h Q := by refine am_wp_pure ?_; exact rfl
theorem rm_set_67 : xw sc d Mm_set cm_set_67 [some (.ref 33), some (xI l1), some (xI l2), some (xI l3)] S h Q ↔ xw sc d Mm_set cm_set_68 [some (.ref 33), some (xI l1), some (xI l2), some (xI l3)] (xI l3 :: S) h Q := by refine am_wp_pure ?_; exact rfl
theorem rm_set_68 (hx : xin x) : xw sc d Mm_set cm_set_68 L (xI x :: S) h Q ↔ (x < 0 → xw sc d Mm_set cm_set_82 L S h Q) ∧ (¬ x < 0 → xw sc d Mm_set cm_set_71 L S h Q) := by exact xw_if .lt hx rfl
theorem rm_set_71 : xw sc d Mm_set cm_set_71 [some (.ref 33), some (xI l1), some (xI l2), some (xI l3)] S h Q ↔ xw sc d Mm_set cm_set_72 [some (.ref 33), some (xI l1), some (xI l2), some (xI l3)] (xI l2 :: S) h Q := by refine am_wp_pure ?_; exact rfl
theorem rm_set_72 : xw sc d Mm_set cm_set_72 [some (.ref 33), some (xI l1), some (xI l2), some (xI l3)] S h Q ↔ xw sc d Mm_set cm_set_73 [some (.ref 33), some (xI l1), some (xI l2), some (xI l3)] (xI l3 :: S) h Q := by refine am_wp_pure ?_; exact rfl
theorem rm_set_73 : xw sc d Mm_set cm_set_73 L (xI x :: S) h Q ↔ xw sc d Mm_set cm_set_74 L (xI (-x) :: S) h Q := by refine am_wp_pure ?_; exact xr_neg
theorem rm_set_74 (hx : xin x) (hy : xin y) : xw sc d Mm_set cm_set_74 L (xI y :: xI x :: S) h Q ↔ (x < y → xw sc d Mm_set cm_set_82 L S h Q) ∧ (¬ x < y → xw sc d Mm_set cm_set_77 L S h Q) := by exact xw_ic .lt hx hy rfl
theorem rm_set_77 : xw sc d Mm_set cm_set_77 [some (.ref 33), some (xI l1), some (xI l2), some (xI l3)] S h Q ↔ xw sc d Mm_set cm_set_78 [some (.ref 33), some (xI l1), some (xI l2), some (xI l3)] (xI l2 :: S) h Q := by refine am_wp_pure ?_; exact rfl
theorem rm_set_78 : xw sc d Mm_set cm_set_78 [some (.ref 33), some (xI l1), some (xI l2), some (xI l3)] S h Q ↔ xw sc d Mm_set cm_set_79 [some (.ref 33), some (xI l1), some (xI l2), some (xI l3)] (xI l3 :: S) h Q := by refine am_wp_pure ?_; exact rfl
theorem rm_set_79 (hx : xin x) (hy : xin y) : xw sc d Mm_set cm_set_79 L (xI y :: xI x :: S) h Q ↔ (x ≤ y → xw sc d Mm_set cm_set_84 L S h Q) ∧ (¬ x ≤ y → xw sc d Mm_set cm_set_82 L S h Q) := by exact xw_ic .le hx hy rfl
theorem rm_set_82 : xw sc d Mm_set cm_set_82 [u0, u1, u2, u3] S h Q ↔ xw sc d Mm_set cm_set_83 [none, none, none, none] (xI 0 :: S) h Q := by refine am_wp_pure ?_; exact rfl
theorem rm_set_83 (hx : xbo x) : xw sc d Mm_set cm_set_83 L [xI x] h Q ↔ Q (some (xI x)) h := by exact am_wp_ret rfl rfl rfl rfl rfl (xr_rz hx)
theorem rm_set_84 : xw sc d Mm_set cm_set_84 [some (.ref 33), some (xI l1), some (xI l2), some (xI l3)] S h Q ↔ xw sc d Mm_set cm_set_85 [some (.ref 33), some (xI l1), some (xI l2), some (xI l3)] (.ref 33 :: S) h Q := by refine am_wp_pure ?_; exact rfl
theorem rm_set_85 : xw sc d Mm_set cm_set_85 L (.ref 33 :: S) (xH G K) Q ↔ xw sc d Mm_set cm_set_88 L (.ref 40 :: S) (xH G K) Q := by exact xw_get gf_33_13
theorem rm_set_88 : xw sc d Mm_set cm_set_88 [some (.ref 33), some (xI l1), some (xI l2), some (xI l3)] S h Q ↔ xw sc d Mm_set cm_set_89 [some (.ref 33), some (xI l1), some (xI l2), some (xI l3)] (xI l1 :: S) h Q := by refine am_wp_pure ?_; exact rfl
theorem rm_set_89 (h0 : 0 ≤ x) (h1 : x < 36) : xw sc d Mm_set cm_set_89 L (xI x :: .ref 40 :: S) (xH G K) Q ↔ xw sc d Mm_set cm_set_90 L (xI (xg G 40 x) :: S) (xH G K) Q := by exact xw_iald (al_40 h0 h1)
theorem rm_set_90 : xw sc d Mm_set cm_set_90 L S h Q ↔ xw sc d Mm_set cm_set_91 L (xI 2 :: S) h Q := by refine am_wp_pure ?_; exact rfl
theorem rm_set_91 (hx : xin x) (hy : xin y) : xw sc d Mm_set cm_set_91 L (xI y :: xI x :: S) h Q ↔ (¬ x = y → xw sc d Mm_set cm_set_126 L S h Q) ∧ (¬ (¬ x = y) → xw sc d Mm_set cm_set_94 L S h Q) := by exact xw_ic .ne hx hy rfl
theorem rm_set_94 : xw sc d Mm_set cm_set_94 [some (.ref 33), some (xI l1), some (xI l2), some (xI l3)] S h Q ↔ xw sc d Mm_set cm_set_95 [some (.ref 33), some (xI l1), some (xI l2), some (xI l3)] (.ref 33 :: S) h Q := by refine am_wp_pure ?_; exact rfl
theorem rm_set_95 : xw sc d Mm_set cm_set_95 L (.ref 33 :: S) (xH G K) Q ↔ xw sc d Mm_set cm_set_98 L (.ref 41 :: S) (xH G K) Q := by exact xw_get gf_33_14
theorem rm_set_98 : xw sc d Mm_set cm_set_98 [some (.ref 33), some (xI l1), some (xI l2), some (xI l3)] S h Q ↔ xw sc d Mm_set cm_set_99 [some (.ref 33), some (xI l1), some (xI l2), some (xI l3)] (xI l1 :: S) h Q := by refine am_wp_pure ?_; exact rfl
theorem rm_set_99 (h0 : 0 ≤ x) (h1 : x < 36) : xw sc d Mm_set cm_set_99 L (xI x :: .ref 41 :: S) (xH G K) Q ↔ xw sc d Mm_set cm_set_100 L (xI (xg G 41 x) :: S) (xH G K) Q := by exact xw_iald (al_41 h0 h1)
theorem rm_set_100 : xw sc d Mm_set cm_set_100 L S h Q ↔ xw sc d Mm_set cm_set_102 L (xI 112 :: S) h Q := by refine am_wp_pure ?_; exact xr_bi (by decide)
theorem rm_set_102 (hx : xin x) (hy : xin y) : xw sc d Mm_set cm_set_102 L (xI y :: xI x :: S) h Q ↔ (¬ x = y → xw sc d Mm_set cm_set_109 L S h Q) ∧ (¬ (¬ x = y) → xw sc d Mm_set cm_set_105 L S h Q) := by exact xw_ic .ne hx hy rfl
theorem rm_set_105 : xw sc d Mm_set cm_set_105 [some (.ref 33), some (xI l1), some (xI l2), some (xI l3)] S h Q ↔ xw sc d Mm_set cm_set_106 [some (.ref 33), some (xI l1), some (xI l2), some (xI l3)] (xI l2 :: S) h Q := by refine am_wp_pure ?_; exact rfl
theorem rm_set_106 (hx : xin x) : xw sc d Mm_set cm_set_106 L (xI x :: S) h Q ↔ (x < 0 → xw sc d Mm_set cm_set_124 L S h Q) ∧ (¬ x < 0 → xw sc d Mm_set cm_set_109 L S h Q) := by exact xw_if .lt hx rfl
theorem rm_set_109 : xw sc d Mm_set cm_set_109 [some (.ref 33), some (xI l1), some (xI l2), some (xI l3)] S h Q ↔ xw sc d Mm_set cm_set_110 [some (.ref 33), some (xI l1), some (xI l2), some (xI l3)] (.ref 33 :: S) h Q := by refine am_wp_pure ?_; exact rfl
theorem rm_set_110 : xw sc d Mm_set cm_set_110 L (.ref 33 :: S) (xH G K) Q ↔ xw sc d Mm_set cm_set_113 L (.ref 41 :: S) (xH G K) Q := by exact xw_get gf_33_14
theorem rm_set_113 : xw sc d Mm_set cm_set_113 [some (.ref 33), some (xI l1), some (xI l2), some (xI l3)] S h Q ↔ xw sc d Mm_set cm_set_114 [some (.ref 33), some (xI l1), some (xI l2), some (xI l3)] (xI l1 :: S) h Q := by refine am_wp_pure ?_; exact rfl
theorem rm_set_114 (h0 : 0 ≤ x) (h1 : x < 36) : xw sc d Mm_set cm_set_114 L (xI x :: .ref 41 :: S) (xH G K) Q ↔ xw sc d Mm_set cm_set_115 L (xI (xg G 41 x) :: S) (xH G K) Q := by exact xw_iald (al_41 h0 h1)
theorem rm_set_115 : xw sc d Mm_set cm_set_115 L S h Q ↔ xw sc d Mm_set cm_set_117 L (xI 113 :: S) h Q := by refine am_wp_pure ?_; exact xr_bi (by decide)
theorem rm_set_117 (hx : xin x) (hy : xin y) : xw sc d Mm_set cm_set_117 L (xI y :: xI x :: S) h Q ↔ (¬ x = y → xw sc d Mm_set cm_set_126 L S h Q) ∧ (¬ (¬ x = y) → xw sc d Mm_set cm_set_120 L S h Q) := by exact xw_ic .ne hx hy rfl
theorem rm_set_120 : xw sc d Mm_set cm_set_120 [some (.ref 33), some (xI l1), some (xI l2), some (xI l3)] S h Q ↔ xw sc d Mm_set cm_set_121 [some (.ref 33), some (xI l1), some (xI l2), some (xI l3)] (xI l2 :: S) h Q := by refine am_wp_pure ?_; exact rfl
theorem rm_set_121 (hx : xin x) : xw sc d Mm_set cm_set_121 L (xI x :: S) h Q ↔ (x ≤ 0 → xw sc d Mm_set cm_set_126 L S h Q) ∧ (¬ x ≤ 0 → xw sc d Mm_set cm_set_124 L S h Q) := by exact xw_if .le hx rfl
theorem rm_set_124 : xw sc d Mm_set cm_set_124 [u0, u1, u2, u3] S h Q ↔ xw sc d Mm_set cm_set_125 [none, none, none, none] (xI 0 :: S) h Q := by refine am_wp_pure ?_; exact rfl
theorem rm_set_125 (hx : xbo x) : xw sc d Mm_set cm_set_125 L [xI x] h Q ↔ Q (some (xI x)) h := by exact am_wp_ret rfl rfl rfl rfl rfl (xr_rz hx)
theorem rm_set_126 : xw sc d Mm_set cm_set_126 [some (.ref 33), some (xI l1), some (xI l2), some (xI l3)] S h Q ↔ xw sc d Mm_set cm_set_127 [some (.ref 33), some (xI l1), some (xI l2), some (xI l3)] (xI l3 :: S) h Q := by refine am_wp_pure ?_; exact rfl
theorem rm_set_127 : xw sc d Mm_set cm_set_127 L S h Q ↔ xw sc d Mm_set cm_set_130 L (xI 1000000 :: S) h Q := by refine am_wp_pure ?_; exact xr_ldc_w (by decide)
theorem rm_set_130 (hx : xin x) (hy : xin y) : xw sc d Mm_set cm_set_130 L (xI y :: xI x :: S) h Q ↔ (¬ x = y → xw sc d Mm_set cm_set_143 L S h Q) ∧ (¬ (¬ x = y) → xw sc d Mm_set cm_set_133 L S h Q) := by exact xw_ic .ne hx hy rfl
theorem rm_set_133 : xw sc d Mm_set cm_set_133 [some (.ref 33), some (xI l1), some (xI l2), some (xI l3)] S h Q ↔ xw sc d Mm_set cm_set_134 [some (.ref 33), some (xI l1), some (xI l2), some (xI l3)] (.ref 33 :: S) h Q := by refine am_wp_pure ?_; exact rfl
theorem rm_set_134 : xw sc d Mm_set cm_set_134 L (.ref 33 :: S) (xH G K) Q ↔ xw sc d Mm_set cm_set_137 L (.ref 58 :: S) (xH G K) Q := by exact xw_get gf_33_35
theorem rm_set_137 : xw sc d Mm_set cm_set_137 [some (.ref 33), some (xI l1), some (xI l2), some (xI l3)] S h Q ↔ xw sc d Mm_set cm_set_138 [some (.ref 33), some (xI l1), some (xI l2), some (xI l3)] (xI l1 :: S) h Q := by refine am_wp_pure ?_; exact rfl
theorem rm_set_138 : xw sc d Mm_set cm_set_138 [some (.ref 33), some (xI l1), some (xI l2), some (xI l3)] S h Q ↔ xw sc d Mm_set cm_set_139 [some (.ref 33), some (xI l1), some (xI l2), some (xI l3)] (xI l2 :: S) h Q := by refine am_wp_pure ?_; exact rfl
theorem rm_set_139 (h0 : 0 ≤ x) (h1 : x < 36) : xw sc d Mm_set cm_set_139 L (xI y :: xI x :: .ref 58 :: S) (xH G K) Q ↔ xw sc d Mm_set cm_set_140 L S (xH (xp G 58 x y) K) Q := by exact xw_iast (as_58 h0 h1)
theorem rm_set_140 : xw sc d Mm_set cm_set_140 L S h Q ↔ xw sc d Mm_set cm_set_150 L S h Q := by exact xw_goto rfl
theorem rm_set_143 : xw sc d Mm_set cm_set_143 [some (.ref 33), some (xI l1), some (xI l2), u3] S h Q ↔ xw sc d Mm_set cm_set_144 [some (.ref 33), some (xI l1), some (xI l2), none] (.ref 33 :: S) h Q := by refine am_wp_pure ?_; exact rfl
theorem rm_set_144 : xw sc d Mm_set cm_set_144 L (.ref 33 :: S) (xH G K) Q ↔ xw sc d Mm_set cm_set_147 L (.ref 44 :: S) (xH G K) Q := by exact xw_get gf_33_17
theorem rm_set_147 : xw sc d Mm_set cm_set_147 [some (.ref 33), some (xI l1), some (xI l2), none] S h Q ↔ xw sc d Mm_set cm_set_148 [some (.ref 33), some (xI l1), some (xI l2), none] (xI l1 :: S) h Q := by refine am_wp_pure ?_; exact rfl
theorem rm_set_148 : xw sc d Mm_set cm_set_148 [some (.ref 33), some (xI l1), some (xI l2), none] S h Q ↔ xw sc d Mm_set cm_set_149 [some (.ref 33), some (xI l1), some (xI l2), none] (xI l2 :: S) h Q := by refine am_wp_pure ?_; exact rfl
theorem rm_set_149 (h0 : 0 ≤ x) (h1 : x < 36) : xw sc d Mm_set cm_set_149 L (xI y :: xI x :: .ref 44 :: S) (xH G K) Q ↔ xw sc d Mm_set cm_set_150 L S (xH (xp G 44 x y) K) Q := by exact xw_iast (as_44 h0 h1)
theorem rm_set_150 : xw sc d Mm_set cm_set_150 [u0, u1, u2, u3] S h Q ↔ xw sc d Mm_set cm_set_151 [none, none, none, none] (xI 1 :: S) h Q := by refine am_wp_pure ?_; exact rfl
theorem rm_set_151 (hx : xbo x) : xw sc d Mm_set cm_set_151 L [xI x] h Q ↔ Q (some (xI x)) h := by exact am_wp_ret rfl rfl rfl rfl rfl (xr_rz hx)
theorem em_lift : xc sc d Mm_lift [.ref 33] h Q ↔ xw sc d Mm_lift cm_lift_0 [some (.ref 33), none] [] h Q := Iff.rfl
theorem rm_lift_0 : xw sc d Mm_lift cm_lift_0 [some (.ref 33), none] S h Q ↔ xw sc d Mm_lift cm_lift_1 [some (.ref 33), none] (.ref 33 :: S) h Q := by refine am_wp_pure ?_; exact rfl
theorem rm_lift_1 : xw sc d Mm_lift cm_lift_1 L (.ref 33 :: S) (xH G K) Q ↔ xw sc d Mm_lift cm_lift_4 L (xI (xg G 33 34) :: S) (xH G K) Q := by exact xw_get gf_33_34
theorem rm_lift_4 (hx : xin x) : xw sc d Mm_lift cm_lift_4 L (xI x :: S) h Q ↔ (¬ x = 0 → xw sc d Mm_lift cm_lift_9 L S h Q) ∧ (¬ (¬ x = 0) → xw sc d Mm_lift cm_lift_7 L S h Q) := by exact xw_if .ne hx rfl
theorem rm_lift_7 : xw sc d Mm_lift cm_lift_7 L S h Q ↔ xw sc d Mm_lift cm_lift_8 L (xI 0 :: S) h Q := by refine am_wp_pure ?_; exact rfl
theorem rm_lift_8 (hx : xbo x) : xw sc d Mm_lift cm_lift_8 L [xI x] h Q ↔ Q (some (xI x)) h := by exact am_wp_ret rfl rfl rfl rfl rfl (xr_rz hx)
theorem rm_lift_9 : xw sc d Mm_lift cm_lift_9 [some (.ref 33), none] S h Q ↔ xw sc d Mm_lift cm_lift_10 [some (.ref 33), none] (.ref 33 :: S) h Q := by refine am_wp_pure ?_; exact rfl
theorem rm_lift_10 : xw sc (d + 1) Mm_lift cm_lift_10 L [.ref 33] (xH G K) Q ↔ xc sc d Mm_work [.ref 33] (xH G K) (fun r h => xw sc (d + 1) Mm_lift cm_lift_13 L (r.toList ++ []) h Q) := by exact am_wp_inv rfl rfl rfl rfl rfl
theorem rm_lift_13 : xw sc d Mm_lift cm_lift_13 L S h Q ↔ xw sc d Mm_lift cm_lift_14 L (xI 0 :: S) h Q := by refine am_wp_pure ?_; exact rfl
theorem rm_lift_14 : xw sc d Mm_lift cm_lift_14 [some (.ref 33), none] (xI x :: S) h Q ↔ xw sc d Mm_lift cm_lift_15 [some (.ref 33), some (xI x)] S h Q := by refine am_wp_pure ?_; exact rfl
theorem rm_lift_15 : xw sc d Mm_lift cm_lift_15 [some (.ref 33), some (xI l1)] S h Q ↔ xw sc d Mm_lift cm_lift_16 [some (.ref 33), some (xI l1)] (xI l1 :: S) h Q := by refine am_wp_pure ?_; exact rfl
theorem rm_lift_16 : xw sc d Mm_lift cm_lift_16 [some (.ref 33), some (xI l1)] S h Q ↔ xw sc d Mm_lift cm_lift_17 [some (.ref 33), some (xI l1)] (.ref 33 :: S) h Q := by refine am_wp_pure ?_; exact rfl
theorem rm_lift_17 : xw sc d Mm_lift cm_lift_17 L (.ref 33 :: S) (xH G K) Q ↔ xw sc d Mm_lift cm_lift_20 L (xI (xg G 33 12) :: S) (xH G K) Q := by exact xw_get gf_33_12
theorem rm_lift_20 (hx : xin x) (hy : xin y) : xw sc d Mm_lift cm_lift_20 L (xI y :: xI x :: S) h Q ↔ (y ≤ x → xw sc d Mm_lift cm_lift_41 L S h Q) ∧ (¬ y ≤ x → xw sc d Mm_lift cm_lift_23 L S h Q) := by exact xw_ic .ge hx hy rfl
theorem rm_lift_23 : xw sc d Mm_lift cm_lift_23 [some (.ref 33), some (xI l1)] S h Q ↔ xw sc d Mm_lift cm_lift_24 [some (.ref 33), some (xI l1)] (.ref 33 :: S) h Q := by refine am_wp_pure ?_; exact rfl
theorem rm_lift_24 : xw sc d Mm_lift cm_lift_24 L (.ref 33 :: S) (xH G K) Q ↔ xw sc d Mm_lift cm_lift_27 L (.ref 58 :: S) (xH G K) Q := by exact xw_get gf_33_35
theorem rm_lift_27 : xw sc d Mm_lift cm_lift_27 [some (.ref 33), some (xI l1)] S h Q ↔ xw sc d Mm_lift cm_lift_28 [some (.ref 33), some (xI l1)] (xI l1 :: S) h Q := by refine am_wp_pure ?_; exact rfl
theorem rm_lift_28 : xw sc d Mm_lift cm_lift_28 [some (.ref 33), some (xI l1)] S h Q ↔ xw sc d Mm_lift cm_lift_29 [some (.ref 33), some (xI l1)] (.ref 33 :: S) h Q := by refine am_wp_pure ?_; exact rfl
theorem rm_lift_29 : xw sc d Mm_lift cm_lift_29 L (.ref 33 :: S) (xH G K) Q ↔ xw sc d Mm_lift cm_lift_32 L (.ref 49 :: S) (xH G K) Q := by exact xw_get gf_33_22
theorem rm_lift_32 : xw sc d Mm_lift cm_lift_32 [some (.ref 33), some (xI l1)] S h Q ↔ xw sc d Mm_lift cm_lift_33 [some (.ref 33), some (xI l1)] (xI l1 :: S) h Q := by refine am_wp_pure ?_; exact rfl
theorem rm_lift_33 (h0 : 0 ≤ x) (h1 : x < 36) : xw sc d Mm_lift cm_lift_33 L (xI x :: .ref 49 :: S) (xH G K) Q ↔ xw sc d Mm_lift cm_lift_34 L (xI (xg G 49 x) :: S) (xH G K) Q := by exact xw_iald (al_49 h0 h1)
theorem rm_lift_34 (h0 : 0 ≤ x) (h1 : x < 36) : xw sc d Mm_lift cm_lift_34 L (xI y :: xI x :: .ref 58 :: S) (xH G K) Q ↔ xw sc d Mm_lift cm_lift_35 L S (xH (xp G 58 x y) K) Q := by exact xw_iast (as_58 h0 h1)
theorem rm_lift_35 : xw sc d Mm_lift cm_lift_35 [some (.ref 33), some (xI l1)] S h Q ↔ xw sc d Mm_lift cm_lift_38 [some (.ref 33), some (xI (l1 + 1))] S h Q := by refine am_wp_pure ?_; exact xr_inc rfl rfl
theorem rm_lift_38 : xw sc d Mm_lift cm_lift_38 L S h Q ↔ xw sc d Mm_lift cm_lift_15 L S h Q := by exact xw_goto rfl
theorem rm_lift_41 : xw sc d Mm_lift cm_lift_41 [u0, u1] S h Q ↔ xw sc d Mm_lift cm_lift_42 [none, none] (xI 1 :: S) h Q := by refine am_wp_pure ?_; exact rfl
theorem rm_lift_42 (hx : xbo x) : xw sc d Mm_lift cm_lift_42 L [xI x] h Q ↔ Q (some (xI x)) h := by exact am_wp_ret rfl rfl rfl rfl rfl (xr_rz hx)
theorem em_inside : xc sc d Mm_inside [xJ a0, xJ a1, xJ a2] h Q ↔ xw sc d Mm_inside cm_inside_0 [some (xJ a0), none, some (xJ a1), none, some (xJ a2), none] [] h Q := Iff.rfl
theorem rm_inside_0 : xw sc d Mm_inside cm_inside_0 [some (xJ l0), none, some (xJ l2), none, some (xJ l4), none] S h Q ↔ xw sc d Mm_inside cm_inside_1 [some (xJ l0), none, some (xJ l2), none, some (xJ l4), none] (xJ l0 :: S) h Q := by refine am_wp_pure ?_; exact rfl
theorem rm_inside_1 : xw sc d Mm_inside cm_inside_1 L S h Q ↔ xw sc d Mm_inside cm_inside_2 L (xJ 0 :: S) h Q := by refine am_wp_pure ?_; exact rfl
theorem rm_inside_2 (hx : xinl x) (hy : xinl y) : xw sc d Mm_inside cm_inside_2 L (xJ y :: xJ x :: S) h Q ↔ xw sc d Mm_inside cm_inside_3 L (xI (xcmp x y) :: S) h Q := by refine am_wp_pure ?_; exact xr_lcmp hx hy
theorem rm_inside_3 (hx : xin x) : xw sc d Mm_inside cm_inside_3 L (xI x :: S) h Q ↔ (x < 0 → xw sc d Mm_inside cm_inside_34 L S h Q) ∧ (¬ x < 0 → xw sc d Mm_inside cm_inside_6 L S h Q) := by exact xw_if .lt hx rfl
theorem rm_inside_6 : xw sc d Mm_inside cm_inside_6 [some (xJ l0), none, some (xJ l2), none, some (xJ l4), none] S h Q ↔ xw sc d Mm_inside cm_inside_7 [some (xJ l0), none, some (xJ l2), none, some (xJ l4), none] (xJ l2 :: S) h Q := by refine am_wp_pure ?_; exact rfl
theorem rm_inside_7 : xw sc d Mm_inside cm_inside_7 [some (xJ l0), none, some (xJ l2), none, some (xJ l4), none] S h Q ↔ xw sc d Mm_inside cm_inside_8 [some (xJ l0), none, some (xJ l2), none, some (xJ l4), none] (xJ l0 :: S) h Q := by refine am_wp_pure ?_; exact rfl
theorem rm_inside_8 (hx : xinl x) (hy : xinl y) : xw sc d Mm_inside cm_inside_8 L (xJ y :: xJ x :: S) h Q ↔ xw sc d Mm_inside cm_inside_9 L (xI (xcmp x y) :: S) h Q := by refine am_wp_pure ?_; exact xr_lcmp hx hy
theorem rm_inside_9 (hx : xin x) : xw sc d Mm_inside cm_inside_9 L (xI x :: S) h Q ↔ (0 < x → xw sc d Mm_inside cm_inside_34 L S h Q) ∧ (¬ 0 < x → xw sc d Mm_inside cm_inside_12 L S h Q) := by exact xw_if .gt hx rfl
theorem rm_inside_12 : xw sc d Mm_inside cm_inside_12 [some (xJ l0), none, some (xJ l2), none, some (xJ l4), none] S h Q ↔ xw sc d Mm_inside cm_inside_13 [some (xJ l0), none, some (xJ l2), none, some (xJ l4), none] (xJ l2 :: S) h Q := by refine am_wp_pure ?_; exact rfl
theorem rm_inside_13 : xw sc d Mm_inside cm_inside_13 L (xJ x :: S) h Q ↔ xw sc d Mm_inside cm_inside_14 L (xJ (-x) :: S) h Q := by refine am_wp_pure ?_; exact xr_lneg
theorem rm_inside_14 : xw sc d Mm_inside cm_inside_14 [some (xJ l0), none, some (xJ l2), none, some (xJ l4), none] S h Q ↔ xw sc d Mm_inside cm_inside_15 [some (xJ l0), none, some (xJ l2), none, some (xJ l4), none] (xJ l0 :: S) h Q := by refine am_wp_pure ?_; exact rfl
theorem rm_inside_15 (hx : xinl x) (hy : xinl y) : xw sc d Mm_inside cm_inside_15 L (xJ y :: xJ x :: S) h Q ↔ xw sc d Mm_inside cm_inside_16 L (xI (xcmp x y) :: S) h Q := by refine am_wp_pure ?_; exact xr_lcmp hx hy
theorem rm_inside_16 (hx : xin x) : xw sc d Mm_inside cm_inside_16 L (xI x :: S) h Q ↔ (0 < x → xw sc d Mm_inside cm_inside_34 L S h Q) ∧ (¬ 0 < x → xw sc d Mm_inside cm_inside_19 L S h Q) := by exact xw_if .gt hx rfl
theorem rm_inside_19 : xw sc d Mm_inside cm_inside_19 [some (xJ l0), none, some (xJ l2), none, some (xJ l4), none] S h Q ↔ xw sc d Mm_inside cm_inside_21 [some (xJ l0), none, some (xJ l2), none, some (xJ l4), none] (xJ l4 :: S) h Q := by refine am_wp_pure ?_; exact rfl
theorem rm_inside_21 : xw sc d Mm_inside cm_inside_21 [some (xJ l0), none, some (xJ l2), none, some (xJ l4), none] S h Q ↔ xw sc d Mm_inside cm_inside_22 [some (xJ l0), none, some (xJ l2), none, some (xJ l4), none] (xJ l0 :: S) h Q := by refine am_wp_pure ?_; exact rfl
theorem rm_inside_22 (hx : xinl x) (hy : xinl y) : xw sc d Mm_inside cm_inside_22 L (xJ y :: xJ x :: S) h Q ↔ xw sc d Mm_inside cm_inside_23 L (xI (xcmp x y) :: S) h Q := by refine am_wp_pure ?_; exact xr_lcmp hx hy
theorem rm_inside_23 (hx : xin x) : xw sc d Mm_inside cm_inside_23 L (xI x :: S) h Q ↔ (0 < x → xw sc d Mm_inside cm_inside_34 L S h Q) ∧ (¬ 0 < x → xw sc d Mm_inside cm_inside_26 L S h Q) := by exact xw_if .gt hx rfl
theorem rm_inside_26 : xw sc d Mm_inside cm_inside_26 [some (xJ l0), none, some (xJ l2), none, some (xJ l4), none] S h Q ↔ xw sc d Mm_inside cm_inside_28 [some (xJ l0), none, some (xJ l2), none, some (xJ l4), none] (xJ l4 :: S) h Q := by refine am_wp_pure ?_; exact rfl
theorem rm_inside_28 : xw sc d Mm_inside cm_inside_28 L (xJ x :: S) h Q ↔ xw sc d Mm_inside cm_inside_29 L (xJ (-x) :: S) h Q := by refine am_wp_pure ?_; exact xr_lneg
theorem rm_inside_29 : xw sc d Mm_inside cm_inside_29 [some (xJ l0), none, some (xJ l2), none, some (xJ l4), none] S h Q ↔ xw sc d Mm_inside cm_inside_30 [some (xJ l0), none, some (xJ l2), none, some (xJ l4), none] (xJ l0 :: S) h Q := by refine am_wp_pure ?_; exact rfl
theorem rm_inside_30 (hx : xinl x) (hy : xinl y) : xw sc d Mm_inside cm_inside_30 L (xJ y :: xJ x :: S) h Q ↔ xw sc d Mm_inside cm_inside_31 L (xI (xcmp x y) :: S) h Q := by refine am_wp_pure ?_; exact xr_lcmp hx hy
theorem rm_inside_31 (hx : xin x) : xw sc d Mm_inside cm_inside_31 L (xI x :: S) h Q ↔ (x ≤ 0 → xw sc d Mm_inside cm_inside_36 L S h Q) ∧ (¬ x ≤ 0 → xw sc d Mm_inside cm_inside_34 L S h Q) := by exact xw_if .le hx rfl
theorem rm_inside_34 : xw sc d Mm_inside cm_inside_34 [u0, none, u2, none, u4, none] S h Q ↔ xw sc d Mm_inside cm_inside_35 [none, none, none, none, none, none] (xI 0 :: S) h Q := by refine am_wp_pure ?_; exact rfl
theorem rm_inside_35 (hx : xbo x) : xw sc d Mm_inside cm_inside_35 L [xI x] h Q ↔ Q (some (xI x)) h := by exact am_wp_ret rfl rfl rfl rfl rfl (xr_rz hx)
theorem rm_inside_36 : xw sc d Mm_inside cm_inside_36 [some (xJ l0), none, some (xJ l2), none, some (xJ l4), none] S h Q ↔ xw sc d Mm_inside cm_inside_37 [some (xJ l0), none, some (xJ l2), none, some (xJ l4), none] (xJ l0 :: S) h Q := by refine am_wp_pure ?_; exact rfl
theorem rm_inside_37 : xw sc d Mm_inside cm_inside_37 [some (xJ l0), none, some (xJ l2), none, some (xJ l4), none] S h Q ↔ xw sc d Mm_inside cm_inside_38 [some (xJ l0), none, some (xJ l2), none, some (xJ l4), none] (xJ l0 :: S) h Q := by refine am_wp_pure ?_; exact rfl
theorem rm_inside_38 : xw sc d Mm_inside cm_inside_38 L (xJ y :: xJ x :: S) h Q ↔ xw sc d Mm_inside cm_inside_39 L (xJ (x * y) :: S) h Q := by refine am_wp_pure ?_; exact xr_lmul
theorem rm_inside_39 : xw sc d Mm_inside cm_inside_39 [some (xJ l0), none, some (xJ l2), none, some (xJ l4), none] S h Q ↔ xw sc d Mm_inside cm_inside_40 [some (xJ l0), none, some (xJ l2), none, some (xJ l4), none] (xJ l2 :: S) h Q := by refine am_wp_pure ?_; exact rfl
theorem rm_inside_40 : xw sc d Mm_inside cm_inside_40 [some (xJ l0), none, some (xJ l2), none, some (xJ l4), none] S h Q ↔ xw sc d Mm_inside cm_inside_41 [some (xJ l0), none, some (xJ l2), none, some (xJ l4), none] (xJ l2 :: S) h Q := by refine am_wp_pure ?_; exact rfl
theorem rm_inside_41 : xw sc d Mm_inside cm_inside_41 L (xJ y :: xJ x :: S) h Q ↔ xw sc d Mm_inside cm_inside_42 L (xJ (x * y) :: S) h Q := by refine am_wp_pure ?_; exact xr_lmul
theorem rm_inside_42 : xw sc d Mm_inside cm_inside_42 [some (xJ l0), none, some (xJ l2), none, some (xJ l4), none] S h Q ↔ xw sc d Mm_inside cm_inside_44 [some (xJ l0), none, some (xJ l2), none, some (xJ l4), none] (xJ l4 :: S) h Q := by refine am_wp_pure ?_; exact rfl
theorem rm_inside_44 : xw sc d Mm_inside cm_inside_44 [some (xJ l0), none, some (xJ l2), none, some (xJ l4), none] S h Q ↔ xw sc d Mm_inside cm_inside_46 [some (xJ l0), none, some (xJ l2), none, some (xJ l4), none] (xJ l4 :: S) h Q := by refine am_wp_pure ?_; exact rfl
theorem rm_inside_46 : xw sc d Mm_inside cm_inside_46 L (xJ y :: xJ x :: S) h Q ↔ xw sc d Mm_inside cm_inside_47 L (xJ (x * y) :: S) h Q := by refine am_wp_pure ?_; exact xr_lmul
theorem rm_inside_47 : xw sc d Mm_inside cm_inside_47 L (xJ y :: xJ x :: S) h Q ↔ xw sc d Mm_inside cm_inside_48 L (xJ (x + y) :: S) h Q := by refine am_wp_pure ?_; exact xr_ladd
theorem rm_inside_48 (hx : xinl x) (hy : xinl y) : xw sc d Mm_inside cm_inside_48 L (xJ y :: xJ x :: S) h Q ↔ xw sc d Mm_inside cm_inside_49 L (xI (xcmp x y) :: S) h Q := by refine am_wp_pure ?_; exact xr_lcmp hx hy
theorem rm_inside_49 (hx : xin x) : xw sc d Mm_inside cm_inside_49 L (xI x :: S) h Q ↔ (x < 0 → xw sc d Mm_inside cm_inside_56 L S h Q) ∧ (¬ x < 0 → xw sc d Mm_inside cm_inside_52 L S h Q) := by exact xw_if .lt hx rfl
theorem rm_inside_52 : xw sc d Mm_inside cm_inside_52 L S h Q ↔ xw sc d Mm_inside cm_inside_53 L (xI 1 :: S) h Q := by refine am_wp_pure ?_; exact rfl
theorem rm_inside_53 : xw sc d Mm_inside cm_inside_53 L S h Q ↔ xw sc d Mm_inside cm_inside_57 L S h Q := by exact xw_goto rfl
theorem rm_inside_56 : xw sc d Mm_inside cm_inside_56 [u0, none, u2, none, u4, none] S h Q ↔ xw sc d Mm_inside cm_inside_57 [none, none, none, none, none, none] (xI 0 :: S) h Q := by refine am_wp_pure ?_; exact rfl
theorem rm_inside_57 (hx : xbo x) : xw sc d Mm_inside cm_inside_57 [u0, none, u2, none, u4, none] [xI x] h Q ↔ Q (some (xI x)) h := by exact am_wp_ret rfl rfl rfl rfl rfl (xr_rz hx)
theorem em_fits : xc sc d Mm_fits [.ref 33] h Q ↔ xw sc d Mm_fits cm_fits_0 [some (.ref 33), none, none, none, none, none, none, none, none, none, none] [] h Q := Iff.rfl
theorem rm_fits_0 : xw sc d Mm_fits cm_fits_0 [some (.ref 33), none, none, none, none, none, none, none, none, none, none] S h Q ↔ xw sc d Mm_fits cm_fits_1 [some (.ref 33), none, none, none, none, none, none, none, none, none, none] (.ref 33 :: S) h Q := by refine am_wp_pure ?_; exact rfl
theorem rm_fits_1 : xw sc d Mm_fits cm_fits_1 L (.ref 33 :: S) (xH G K) Q ↔ xw sc d Mm_fits cm_fits_4 L (xI (xg G 33 34) :: S) (xH G K) Q := by exact xw_get gf_33_34
theorem rm_fits_4 (hx : xin x) : xw sc d Mm_fits cm_fits_4 L (xI x :: S) h Q ↔ (¬ x = 0 → xw sc d Mm_fits cm_fits_9 L S h Q) ∧ (¬ (¬ x = 0) → xw sc d Mm_fits cm_fits_7 L S h Q) := by exact xw_if .ne hx rfl
theorem rm_fits_7 : xw sc d Mm_fits cm_fits_7 L S h Q ↔ xw sc d Mm_fits cm_fits_8 L (xI 0 :: S) h Q := by refine am_wp_pure ?_; exact rfl
theorem rm_fits_8 (hx : xbo x) : xw sc d Mm_fits cm_fits_8 L [xI x] h Q ↔ Q (some (xI x)) h := by exact am_wp_ret rfl rfl rfl rfl rfl (xr_rz hx)
theorem rm_fits_9 : xw sc d Mm_fits cm_fits_9 [some (.ref 33), none, none, none, none, none, none, none, none, none, none] S h Q ↔ xw sc d Mm_fits cm_fits_10 [some (.ref 33), none, none, none, none, none, none, none, none, none, none] (.ref 33 :: S) h Q := by refine am_wp_pure ?_; exact rfl
theorem rm_fits_10 : xw sc (d + 1) Mm_fits cm_fits_10 L [.ref 33] (xH G K) Q ↔ xc sc d Mm_mark [.ref 33] (xH G K) (fun r h => xw sc (d + 1) Mm_fits cm_fits_13 L (r.toList ++ []) h Q) := by exact am_wp_inv rfl rfl rfl rfl rfl
theorem rm_fits_13 : xw sc d Mm_fits cm_fits_13 [some (.ref 33), none, none, none, none, none, none, none, none, none, none] S h Q ↔ xw sc d Mm_fits cm_fits_14 [some (.ref 33), none, none, none, none, none, none, none, none, none, none] (.ref 33 :: S) h Q := by refine am_wp_pure ?_; exact rfl
theorem rm_fits_14 : xw sc d Mm_fits cm_fits_14 L S h Q ↔ xw sc d Mm_fits cm_fits_16 L (xI (-2) :: S) h Q := by refine am_wp_pure ?_; exact xr_bi (by decide)
theorem rm_fits_16 : xw sc (d + 1) Mm_fits cm_fits_16 L [xI x0, .ref 33] (xH G K) Q ↔ xc sc d Mm_expand [.ref 33, xI x0] (xH G K) (fun r h => xw sc (d + 1) Mm_fits cm_fits_19 L (r.toList ++ []) h Q) := by exact am_wp_inv rfl rfl rfl rfl rfl
theorem rm_fits_19 : xw sc d Mm_fits cm_fits_19 [some (.ref 33), none, none, none, none, none, none, none, none, none, none] S h Q ↔ xw sc d Mm_fits cm_fits_20 [some (.ref 33), none, none, none, none, none, none, none, none, none, none] (.ref 33 :: S) h Q := by refine am_wp_pure ?_; exact rfl
theorem rm_fits_20 : xw sc d Mm_fits cm_fits_20 L S h Q ↔ xw sc d Mm_fits cm_fits_21 L (xI 0 :: S) h Q := by refine am_wp_pure ?_; exact rfl
theorem rm_fits_21 : xw sc (d + 1) Mm_fits cm_fits_21 L [xI x0, .ref 33] (xH G K) Q ↔ xc sc d Mm_rowCount [.ref 33, xI x0] (xH G K) (fun r h => xw sc (d + 1) Mm_fits cm_fits_24 L (r.toList ++ []) h Q) := by exact am_wp_inv rfl rfl rfl rfl rfl
theorem rm_fits_24 : xw sc d Mm_fits cm_fits_24 [some (.ref 33), none, none, none, none, none, none, none, none, none, none] (xI x :: S) h Q ↔ xw sc d Mm_fits cm_fits_25 [some (.ref 33), some (xI x), none, none, none, none, none, none, none, none, none] S h Q := by refine am_wp_pure ?_; exact rfl
theorem rm_fits_25 : xw sc d Mm_fits cm_fits_25 [some (.ref 33), some (xI l1), none, none, none, none, none, none, none, none, none] S h Q ↔ xw sc d Mm_fits cm_fits_26 [some (.ref 33), some (xI l1), none, none, none, none, none, none, none, none, none] (xI l1 :: S) h Q := by refine am_wp_pure ?_; exact rfl
theorem rm_fits_26 : xw sc d Mm_fits cm_fits_26 [some (.ref 33), some (xI l1), none, none, none, none, none, none, none, none, none] S h Q ↔ xw sc d Mm_fits cm_fits_27 [some (.ref 33), some (xI l1), none, none, none, none, none, none, none, none, none] (.ref 33 :: S) h Q := by refine am_wp_pure ?_; exact rfl
theorem rm_fits_27 : xw sc d Mm_fits cm_fits_27 L S h Q ↔ xw sc d Mm_fits cm_fits_28 L (xI 1 :: S) h Q := by refine am_wp_pure ?_; exact rfl
theorem rm_fits_28 : xw sc (d + 1) Mm_fits cm_fits_28 L [xI x0, .ref 33, xI x2] (xH G K) Q ↔ xc sc d Mm_rowCount [.ref 33, xI x0] (xH G K) (fun r h => xw sc (d + 1) Mm_fits cm_fits_31 L (r.toList ++ [xI x2]) h Q) := by exact am_wp_inv rfl rfl rfl rfl rfl
theorem rm_fits_31 : xw sc d Mm_fits cm_fits_31 L (xI y :: xI x :: S) h Q ↔ xw sc d Mm_fits cm_fits_32 L (xI (x + y) :: S) h Q := by refine am_wp_pure ?_; exact xr_add
theorem rm_fits_32 : xw sc d Mm_fits cm_fits_32 [some (.ref 33), some (xI l1), none, none, none, none, none, none, none, none, none] (xI x :: S) h Q ↔ xw sc d Mm_fits cm_fits_33 [some (.ref 33), some (xI l1), some (xI x), none, none, none, none, none, none, none, none] S h Q := by refine am_wp_pure ?_; exact rfl
theorem rm_fits_33 : xw sc d Mm_fits cm_fits_33 [some (.ref 33), some (xI l1), some (xI l2), none, none, none, none, none, none, none, none] S h Q ↔ xw sc d Mm_fits cm_fits_34 [some (.ref 33), some (xI l1), some (xI l2), none, none, none, none, none, none, none, none] (.ref 33 :: S) h Q := by refine am_wp_pure ?_; exact rfl
theorem rm_fits_34 : xw sc (d + 1) Mm_fits cm_fits_34 L [.ref 33] (xH G K) Q ↔ xc sc d Mm_allRows [.ref 33] (xH G K) (fun r h => xw sc (d + 1) Mm_fits cm_fits_37 L (r.toList ++ []) h Q) := by exact am_wp_inv rfl rfl rfl rfl rfl
theorem rm_fits_37 : xw sc d Mm_fits cm_fits_37 [some (.ref 33), some (xI l1), some (xI l2), none, none, none, none, none, none, none, none] (xI x :: S) h Q ↔ xw sc d Mm_fits cm_fits_38 [some (.ref 33), some (xI l1), some (xI l2), some (xI x), none, none, none, none, none, none, none] S h Q := by refine am_wp_pure ?_; exact rfl
theorem rm_fits_38 : xw sc d Mm_fits cm_fits_38 L S h Q ↔ xw sc d Mm_fits cm_fits_39 L (xI 0 :: S) h Q := by refine am_wp_pure ?_; exact rfl
theorem rm_fits_39 : xw sc d Mm_fits cm_fits_39 [some (.ref 33), some (xI l1), some (xI l2), some (xI l3), none, none, none, none, none, none, none] (xI x :: S) h Q ↔ xw sc d Mm_fits cm_fits_41 [some (.ref 33), some (xI l1), some (xI l2), some (xI l3), some (xI x), none, none, none, none, none, none] S h Q := by refine am_wp_pure ?_; exact rfl
theorem rm_fits_41 : xw sc d Mm_fits cm_fits_41 [some (.ref 33), some (xI l1), some (xI l2), some (xI l3), some (xI l4), none, none, none, none, none, none] S h Q ↔ xw sc d Mm_fits cm_fits_43 [some (.ref 33), some (xI l1), some (xI l2), some (xI l3), some (xI l4), none, none, none, none, none, none] (xI l4 :: S) h Q := by refine am_wp_pure ?_; exact rfl
theorem rm_fits_43 : xw sc d Mm_fits cm_fits_43 [some (.ref 33), some (xI l1), some (xI l2), some (xI l3), some (xI l4), none, none, none, none, none, none] S h Q ↔ xw sc d Mm_fits cm_fits_44 [some (.ref 33), some (xI l1), some (xI l2), some (xI l3), some (xI l4), none, none, none, none, none, none] (xI l2 :: S) h Q := by refine am_wp_pure ?_; exact rfl
theorem rm_fits_44 (hx : xin x) (hy : xin y) : xw sc d Mm_fits cm_fits_44 L (xI y :: xI x :: S) h Q ↔ (y ≤ x → xw sc d Mm_fits cm_fits_86 L S h Q) ∧ (¬ y ≤ x → xw sc d Mm_fits cm_fits_47 L S h Q) := by exact xw_ic .ge hx hy rfl
theorem rm_fits_47 : xw sc d Mm_fits cm_fits_47 [some (.ref 33), some (xI l1), some (xI l2), some (xI l3), some (xI l4), none, none, none, none, none, none] S h Q ↔ xw sc d Mm_fits cm_fits_48 [some (.ref 33), some (xI l1), some (xI l2), some (xI l3), some (xI l4), none, none, none, none, none, none] (.ref 33 :: S) h Q := by refine am_wp_pure ?_; exact rfl
theorem rm_fits_48 : xw sc d Mm_fits cm_fits_48 [some (.ref 33), some (xI l1), some (xI l2), some (xI l3), some (xI l4), none, none, none, none, none, none] S h Q ↔ xw sc d Mm_fits cm_fits_50 [some (.ref 33), some (xI l1), some (xI l2), some (xI l3), some (xI l4), none, none, none, none, none, none] (xI l4 :: S) h Q := by refine am_wp_pure ?_; exact rfl
theorem rm_fits_50 : xw sc (d + 1) Mm_fits cm_fits_50 L [xI x0, .ref 33] (xH G K) Q ↔ xc sc d Mm_rowValue [.ref 33, xI x0] (xH G K) (fun r h => xw sc (d + 1) Mm_fits cm_fits_53 L (r.toList ++ []) h Q) := by exact am_wp_inv rfl rfl rfl rfl rfl
theorem rm_fits_53 : xw sc d Mm_fits cm_fits_53 [some (.ref 33), some (xI l1), some (xI l2), some (xI l3), some (xI l4), none, none, none, none, none, none] (xJ x :: S) h Q ↔ xw sc d Mm_fits cm_fits_55 [some (.ref 33), some (xI l1), some (xI l2), some (xI l3), some (xI l4), some (xJ x), none, none, none, none, none] S h Q := by refine am_wp_pure ?_; exact rfl
theorem rm_fits_55 : xw sc d Mm_fits cm_fits_55 [some (.ref 33), some (xI l1), some (xI l2), some (xI l3), some (xI l4), some (xJ l5), none, none, none, none, none] S h Q ↔ xw sc d Mm_fits cm_fits_57 [some (.ref 33), some (xI l1), some (xI l2), some (xI l3), some (xI l4), some (xJ l5), none, none, none, none, none] (xI l4 :: S) h Q := by refine am_wp_pure ?_; exact rfl
theorem rm_fits_57 : xw sc d Mm_fits cm_fits_57 [some (.ref 33), some (xI l1), some (xI l2), some (xI l3), some (xI l4), some (xJ l5), none, none, none, none, none] S h Q ↔ xw sc d Mm_fits cm_fits_58 [some (.ref 33), some (xI l1), some (xI l2), some (xI l3), some (xI l4), some (xJ l5), none, none, none, none, none] (xI l1 :: S) h Q := by refine am_wp_pure ?_; exact rfl
theorem rm_fits_58 (hx : xin x) (hy : xin y) : xw sc d Mm_fits cm_fits_58 L (xI y :: xI x :: S) h Q ↔ (y ≤ x → xw sc d Mm_fits cm_fits_71 L S h Q) ∧ (¬ y ≤ x → xw sc d Mm_fits cm_fits_61 L S h Q) := by exact xw_ic .ge hx hy rfl
theorem rm_fits_61 : xw sc d Mm_fits cm_fits_61 [some (.ref 33), some (xI l1), some (xI l2), some (xI l3), some (xI l4), some (xJ l5), none, none, none, none, none] S h Q ↔ xw sc d Mm_fits cm_fits_63 [some (.ref 33), some (xI l1), some (xI l2), some (xI l3), some (xI l4), some (xJ l5), none, none, none, none, none] (xJ l5 :: S) h Q := by refine am_wp_pure ?_; exact rfl
theorem rm_fits_63 : xw sc d Mm_fits cm_fits_63 L S h Q ↔ xw sc d Mm_fits cm_fits_64 L (xJ 0 :: S) h Q := by refine am_wp_pure ?_; exact rfl
theorem rm_fits_64 (hx : xinl x) (hy : xinl y) : xw sc d Mm_fits cm_fits_64 L (xJ y :: xJ x :: S) h Q ↔ xw sc d Mm_fits cm_fits_65 L (xI (xcmp x y) :: S) h Q := by refine am_wp_pure ?_; exact xr_lcmp hx hy
theorem rm_fits_65 (hx : xin x) : xw sc d Mm_fits cm_fits_65 L (xI x :: S) h Q ↔ (x = 0 → xw sc d Mm_fits cm_fits_80 L S h Q) ∧ (¬ x = 0 → xw sc d Mm_fits cm_fits_68 L S h Q) := by exact xw_if .eq hx rfl
theorem rm_fits_68 : xw sc d Mm_fits cm_fits_68 L S h Q ↔ xw sc d Mm_fits cm_fits_78 L S h Q := by exact xw_goto rfl
theorem rm_fits_71 : xw sc d Mm_fits cm_fits_71 [some (.ref 33), some (xI l1), some (xI l2), some (xI l3), some (xI l4), some (xJ l5), none, none, none, none, none] S h Q ↔ xw sc d Mm_fits cm_fits_73 [some (.ref 33), some (xI l1), some (xI l2), some (xI l3), some (xI l4), some (xJ l5), none, none, none, none, none] (xJ l5 :: S) h Q := by refine am_wp_pure ?_; exact rfl
theorem rm_fits_73 : xw sc d Mm_fits cm_fits_73 L S h Q ↔ xw sc d Mm_fits cm_fits_74 L (xJ 0 :: S) h Q := by refine am_wp_pure ?_; exact rfl
theorem rm_fits_74 (hx : xinl x) (hy : xinl y) : xw sc d Mm_fits cm_fits_74 L (xJ y :: xJ x :: S) h Q ↔ xw sc d Mm_fits cm_fits_75 L (xI (xcmp x y) :: S) h Q := by refine am_wp_pure ?_; exact xr_lcmp hx hy
theorem rm_fits_75 (hx : xin x) : xw sc d Mm_fits cm_fits_75 L (xI x :: S) h Q ↔ (0 ≤ x → xw sc d Mm_fits cm_fits_80 L S h Q) ∧ (¬ 0 ≤ x → xw sc d Mm_fits cm_fits_78 L S h Q) := by exact xw_if .ge hx rfl
theorem rm_fits_78 : xw sc d Mm_fits cm_fits_78 [u0, u1, u2, u3, u4, u5, none, none, none, none, none] S h Q ↔ xw sc d Mm_fits cm_fits_79 [none, none, none, none, none, none, none, none, none, none, none] (xI 0 :: S) h Q := by refine am_wp_pure ?_; exact rfl
theorem rm_fits_79 (hx : xbo x) : xw sc d Mm_fits cm_fits_79 L [xI x] h Q ↔ Q (some (xI x)) h := by exact am_wp_ret rfl rfl rfl rfl rfl (xr_rz hx)
theorem rm_fits_80 : xw sc d Mm_fits cm_fits_80 [some (.ref 33), some (xI l1), some (xI l2), some (xI l3), some (xI l4), u5, none, none, none, none, none] S h Q ↔ xw sc d Mm_fits cm_fits_83 [some (.ref 33), some (xI l1), some (xI l2), some (xI l3), some (xI (l4 + 1)), none, none, none, none, none, none] S h Q := by refine am_wp_pure ?_; exact xr_inc rfl rfl
theorem rm_fits_83 : xw sc d Mm_fits cm_fits_83 L S h Q ↔ xw sc d Mm_fits cm_fits_41 L S h Q := by exact xw_goto rfl
theorem rm_fits_86 : xw sc d Mm_fits cm_fits_86 [some (.ref 33), u1, some (xI l2), some (xI l3), u4, none, none, none, none, none, none] S h Q ↔ xw sc d Mm_fits cm_fits_87 [some (.ref 33), none, some (xI l2), some (xI l3), none, none, none, none, none, none, none] (xI l2 :: S) h Q := by refine am_wp_pure ?_; exact rfl
theorem rm_fits_87 : xw sc d Mm_fits cm_fits_87 [some (.ref 33), none, some (xI l2), some (xI l3), none, none, none, none, none, none, none] (xI x :: S) h Q ↔ xw sc d Mm_fits cm_fits_89 [some (.ref 33), none, some (xI l2), some (xI l3), some (xI x), none, none, none, none, none, none] S h Q := by refine am_wp_pure ?_; exact rfl
theorem rm_fits_89 : xw sc d Mm_fits cm_fits_89 [some (.ref 33), none, u2, some (xI l3), some (xI l4), none, none, none, none, none, none] S h Q ↔ xw sc d Mm_fits cm_fits_91 [some (.ref 33), none, none, some (xI l3), some (xI l4), none, none, none, none, none, none] (xI l4 :: S) h Q := by refine am_wp_pure ?_; exact rfl
theorem rm_fits_91 : xw sc d Mm_fits cm_fits_91 [some (.ref 33), none, none, some (xI l3), some (xI l4), none, none, none, none, none, none] S h Q ↔ xw sc d Mm_fits cm_fits_92 [some (.ref 33), none, none, some (xI l3), some (xI l4), none, none, none, none, none, none] (xI l3 :: S) h Q := by refine am_wp_pure ?_; exact rfl
theorem rm_fits_92 (hx : xin x) (hy : xin y) : xw sc d Mm_fits cm_fits_92 L (xI y :: xI x :: S) h Q ↔ (y ≤ x → xw sc d Mm_fits cm_fits_143 L S h Q) ∧ (¬ y ≤ x → xw sc d Mm_fits cm_fits_95 L S h Q) := by exact xw_ic .ge hx hy rfl
theorem rm_fits_95 : xw sc d Mm_fits cm_fits_95 [some (.ref 33), none, none, some (xI l3), some (xI l4), none, none, none, none, none, none] S h Q ↔ xw sc d Mm_fits cm_fits_96 [some (.ref 33), none, none, some (xI l3), some (xI l4), none, none, none, none, none, none] (.ref 33 :: S) h Q := by refine am_wp_pure ?_; exact rfl
theorem rm_fits_96 : xw sc d Mm_fits cm_fits_96 [some (.ref 33), none, none, some (xI l3), some (xI l4), none, none, none, none, none, none] S h Q ↔ xw sc d Mm_fits cm_fits_98 [some (.ref 33), none, none, some (xI l3), some (xI l4), none, none, none, none, none, none] (xI l4 :: S) h Q := by refine am_wp_pure ?_; exact rfl
theorem rm_fits_98 : xw sc (d + 1) Mm_fits cm_fits_98 L [xI x0, .ref 33] (xH G K) Q ↔ xc sc d Mm_rowValue [.ref 33, xI x0] (xH G K) (fun r h => xw sc (d + 1) Mm_fits cm_fits_101 L (r.toList ++ []) h Q) := by exact am_wp_inv rfl rfl rfl rfl rfl
theorem rm_fits_101 : xw sc d Mm_fits cm_fits_101 [some (.ref 33), none, none, some (xI l3), some (xI l4), none, none, none, none, none, none] (xJ x :: S) h Q ↔ xw sc d Mm_fits cm_fits_103 [some (.ref 33), none, none, some (xI l3), some (xI l4), some (xJ x), none, none, none, none, none] S h Q := by refine am_wp_pure ?_; exact rfl
theorem rm_fits_103 : xw sc d Mm_fits cm_fits_103 [some (.ref 33), none, none, some (xI l3), some (xI l4), some (xJ l5), none, none, none, none, none] S h Q ↔ xw sc d Mm_fits cm_fits_104 [some (.ref 33), none, none, some (xI l3), some (xI l4), some (xJ l5), none, none, none, none, none] (.ref 33 :: S) h Q := by refine am_wp_pure ?_; exact rfl
theorem rm_fits_104 : xw sc d Mm_fits cm_fits_104 [some (.ref 33), none, none, some (xI l3), some (xI l4), some (xJ l5), none, none, none, none, none] S h Q ↔ xw sc d Mm_fits cm_fits_106 [some (.ref 33), none, none, some (xI l3), some (xI l4), some (xJ l5), none, none, none, none, none] (xI l4 :: S) h Q := by refine am_wp_pure ?_; exact rfl
theorem rm_fits_106 : xw sc d Mm_fits cm_fits_106 L S h Q ↔ xw sc d Mm_fits cm_fits_107 L (xI 1 :: S) h Q := by refine am_wp_pure ?_; exact rfl
theorem rm_fits_107 : xw sc d Mm_fits cm_fits_107 L (xI y :: xI x :: S) h Q ↔ xw sc d Mm_fits cm_fits_108 L (xI (x + y) :: S) h Q := by refine am_wp_pure ?_; exact xr_add
theorem rm_fits_108 : xw sc (d + 1) Mm_fits cm_fits_108 L [xI x0, .ref 33] (xH G K) Q ↔ xc sc d Mm_rowValue [.ref 33, xI x0] (xH G K) (fun r h => xw sc (d + 1) Mm_fits cm_fits_111 L (r.toList ++ []) h Q) := by exact am_wp_inv rfl rfl rfl rfl rfl
theorem rm_fits_111 : xw sc d Mm_fits cm_fits_111 [some (.ref 33), none, none, some (xI l3), some (xI l4), some (xJ l5), none, none, none, none, none] (xJ x :: S) h Q ↔ xw sc d Mm_fits cm_fits_113 [some (.ref 33), none, none, some (xI l3), some (xI l4), some (xJ l5), none, some (xJ x), none, none, none] S h Q := by refine am_wp_pure ?_; exact rfl
theorem rm_fits_113 : xw sc d Mm_fits cm_fits_113 [some (.ref 33), none, none, some (xI l3), some (xI l4), some (xJ l5), none, some (xJ l7), none, none, none] S h Q ↔ xw sc d Mm_fits cm_fits_114 [some (.ref 33), none, none, some (xI l3), some (xI l4), some (xJ l5), none, some (xJ l7), none, none, none] (.ref 33 :: S) h Q := by refine am_wp_pure ?_; exact rfl
theorem rm_fits_114 : xw sc d Mm_fits cm_fits_114 [some (.ref 33), none, none, some (xI l3), some (xI l4), some (xJ l5), none, some (xJ l7), none, none, none] S h Q ↔ xw sc d Mm_fits cm_fits_116 [some (.ref 33), none, none, some (xI l3), some (xI l4), some (xJ l5), none, some (xJ l7), none, none, none] (xI l4 :: S) h Q := by refine am_wp_pure ?_; exact rfl
theorem rm_fits_116 : xw sc d Mm_fits cm_fits_116 L S h Q ↔ xw sc d Mm_fits cm_fits_117 L (xI 2 :: S) h Q := by refine am_wp_pure ?_; exact rfl
theorem rm_fits_117 : xw sc d Mm_fits cm_fits_117 L (xI y :: xI x :: S) h Q ↔ xw sc d Mm_fits cm_fits_118 L (xI (x + y) :: S) h Q := by refine am_wp_pure ?_; exact xr_add
theorem rm_fits_118 : xw sc (d + 1) Mm_fits cm_fits_118 L [xI x0, .ref 33] (xH G K) Q ↔ xc sc d Mm_rowValue [.ref 33, xI x0] (xH G K) (fun r h => xw sc (d + 1) Mm_fits cm_fits_121 L (r.toList ++ []) h Q) := by exact am_wp_inv rfl rfl rfl rfl rfl
theorem rm_fits_121 : xw sc d Mm_fits cm_fits_121 [some (.ref 33), none, none, some (xI l3), some (xI l4), some (xJ l5), none, some (xJ l7), none, none, none] (xJ x :: S) h Q ↔ xw sc d Mm_fits cm_fits_123 [some (.ref 33), none, none, some (xI l3), some (xI l4), some (xJ l5), none, some (xJ l7), none, some (xJ x), none] S h Q := by refine am_wp_pure ?_; exact rfl
theorem rm_fits_123 : xw sc d Mm_fits cm_fits_123 [some (.ref 33), none, none, some (xI l3), some (xI l4), some (xJ l5), none, some (xJ l7), none, some (xJ l9), none] S h Q ↔ xw sc d Mm_fits cm_fits_125 [some (.ref 33), none, none, some (xI l3), some (xI l4), some (xJ l5), none, some (xJ l7), none, some (xJ l9), none] (xJ l5 :: S) h Q := by refine am_wp_pure ?_; exact rfl
theorem rm_fits_125 : xw sc d Mm_fits cm_fits_125 [some (.ref 33), none, none, some (xI l3), some (xI l4), some (xJ l5), none, some (xJ l7), none, some (xJ l9), none] S h Q ↔ xw sc d Mm_fits cm_fits_127 [some (.ref 33), none, none, some (xI l3), some (xI l4), some (xJ l5), none, some (xJ l7), none, some (xJ l9), none] (xJ l7 :: S) h Q := by refine am_wp_pure ?_; exact rfl
theorem rm_fits_127 : xw sc d Mm_fits cm_fits_127 [some (.ref 33), none, none, some (xI l3), some (xI l4), some (xJ l5), none, some (xJ l7), none, some (xJ l9), none] S h Q ↔ xw sc d Mm_fits cm_fits_129 [some (.ref 33), none, none, some (xI l3), some (xI l4), some (xJ l5), none, some (xJ l7), none, some (xJ l9), none] (xJ l9 :: S) h Q := by refine am_wp_pure ?_; exact rfl
theorem rm_fits_129 : xw sc (d + 1) Mm_fits cm_fits_129 L [xJ x0, xJ x1, xJ x2] h Q ↔ xc sc d Mm_inside [xJ x2, xJ x1, xJ x0] h (fun r h => xw sc (d + 1) Mm_fits cm_fits_132 L (r.toList ++ []) h Q) := by exact am_wp_inv rfl rfl rfl rfl rfl
theorem rm_fits_132 (hx : xin x) : xw sc d Mm_fits cm_fits_132 L (xI x :: S) h Q ↔ (¬ x = 0 → xw sc d Mm_fits cm_fits_137 L S h Q) ∧ (¬ (¬ x = 0) → xw sc d Mm_fits cm_fits_135 L S h Q) := by exact xw_if .ne hx rfl
theorem rm_fits_135 : xw sc d Mm_fits cm_fits_135 L S h Q ↔ xw sc d Mm_fits cm_fits_136 L (xI 0 :: S) h Q := by refine am_wp_pure ?_; exact rfl
theorem rm_fits_136 (hx : xbo x) : xw sc d Mm_fits cm_fits_136 L [xI x] h Q ↔ Q (some (xI x)) h := by exact am_wp_ret rfl rfl rfl rfl rfl (xr_rz hx)
theorem rm_fits_137 : xw sc d Mm_fits cm_fits_137 [some (.ref 33), none, none, some (xI l3), some (xI l4), u5, none, u7, none, u9, none] S h Q ↔ xw sc d Mm_fits cm_fits_140 [some (.ref 33), none, none, some (xI l3), some (xI (l4 + 3)), none, none, none, none, none, none] S h Q := by refine am_wp_pure ?_; exact xr_inc rfl rfl
theorem rm_fits_140 : xw sc d Mm_fits cm_fits_140 L S h Q ↔ xw sc d Mm_fits cm_fits_89 L S h Q := by exact xw_goto rfl
theorem rm_fits_143 : xw sc d Mm_fits cm_fits_143 [u0, none, none, u3, u4, none, none, none, none, none, none] S h Q ↔ xw sc d Mm_fits cm_fits_144 [none, none, none, none, none, none, none, none, none, none, none] (xI 1 :: S) h Q := by refine am_wp_pure ?_; exact rfl
theorem rm_fits_144 (hx : xbo x) : xw sc d Mm_fits cm_fits_144 L [xI x] h Q ↔ Q (some (xI x)) h := by exact am_wp_ret rfl rfl rfl rfl rfl (xr_rz hx)
theorem em_cost : xc sc d Mm_cost [.ref 33] h Q ↔ xw sc d Mm_cost cm_cost_0 [some (.ref 33)] [] h Q := Iff.rfl
theorem rm_cost_0 : xw sc d Mm_cost cm_cost_0 [some (.ref 33)] S h Q ↔ xw sc d Mm_cost cm_cost_1 [some (.ref 33)] (.ref 33 :: S) h Q := by refine am_wp_pure ?_; exact rfl
theorem rm_cost_1 : xw sc d Mm_cost cm_cost_1 L (.ref 33 :: S) (xH G K) Q ↔ xw sc d Mm_cost cm_cost_4 L (xI (xg G 33 34) :: S) (xH G K) Q := by exact xw_get gf_33_34
theorem rm_cost_4 (hx : xin x) : xw sc d Mm_cost cm_cost_4 L (xI x :: S) h Q ↔ (¬ x = 0 → xw sc d Mm_cost cm_cost_9 L S h Q) ∧ (¬ (¬ x = 0) → xw sc d Mm_cost cm_cost_7 L S h Q) := by exact xw_if .ne hx rfl
theorem rm_cost_7 : xw sc d Mm_cost cm_cost_7 L S h Q ↔ xw sc d Mm_cost cm_cost_8 L (xJ 0 :: S) h Q := by refine am_wp_pure ?_; exact rfl
theorem rm_cost_8 : xw sc d Mm_cost cm_cost_8 L [xJ x] h Q ↔ Q (some (xJ x)) h := by exact am_wp_ret rfl rfl rfl rfl rfl rfl
theorem rm_cost_9 : xw sc d Mm_cost cm_cost_9 [some (.ref 33)] S h Q ↔ xw sc d Mm_cost cm_cost_10 [some (.ref 33)] (.ref 33 :: S) h Q := by refine am_wp_pure ?_; exact rfl
theorem rm_cost_10 : xw sc (d + 1) Mm_cost cm_cost_10 L [.ref 33] (xH G K) Q ↔ xc sc d Mm_mark [.ref 33] (xH G K) (fun r h => xw sc (d + 1) Mm_cost cm_cost_13 L (r.toList ++ []) h Q) := by exact am_wp_inv rfl rfl rfl rfl rfl
theorem rm_cost_13 : xw sc d Mm_cost cm_cost_13 [some (.ref 33)] S h Q ↔ xw sc d Mm_cost cm_cost_14 [some (.ref 33)] (.ref 33 :: S) h Q := by refine am_wp_pure ?_; exact rfl
theorem rm_cost_14 : xw sc d Mm_cost cm_cost_14 L S h Q ↔ xw sc d Mm_cost cm_cost_16 L (xI (-2) :: S) h Q := by refine am_wp_pure ?_; exact xr_bi (by decide)
theorem rm_cost_16 : xw sc (d + 1) Mm_cost cm_cost_16 L [xI x0, .ref 33] (xH G K) Q ↔ xc sc d Mm_expand [.ref 33, xI x0] (xH G K) (fun r h => xw sc (d + 1) Mm_cost cm_cost_19 L (r.toList ++ []) h Q) := by exact am_wp_inv rfl rfl rfl rfl rfl
theorem rm_cost_19 : xw sc d Mm_cost cm_cost_19 [some (.ref 33)] S h Q ↔ xw sc d Mm_cost cm_cost_20 [some (.ref 33)] (.ref 33 :: S) h Q := by refine am_wp_pure ?_; exact rfl
theorem rm_cost_20 : xw sc d Mm_cost cm_cost_20 L S h Q ↔ xw sc d Mm_cost cm_cost_21 L (xI (-1) :: S) h Q := by refine am_wp_pure ?_; exact rfl
theorem rm_cost_21 : xw sc (d + 1) Mm_cost cm_cost_21 L [xI x0, .ref 33] (xH G K) Q ↔ xc sc d Mm_rowValue [.ref 33, xI x0] (xH G K) (fun r h => xw sc (d + 1) Mm_cost cm_cost_24 L (r.toList ++ []) h Q) := by exact am_wp_inv rfl rfl rfl rfl rfl
theorem rm_cost_24 : xw sc d Mm_cost cm_cost_24 L [xJ x] h Q ↔ Q (some (xJ x)) h := by exact am_wp_ret rfl rfl rfl rfl rfl rfl
theorem rW_law_18 : xw sc d MW_law cW_law_18 [some (.ref 0), some (.ref 2), some (.ref 33), some (xI l3)] S h Q ↔ xw sc d MW_law cW_law_19 [some (.ref 0), some (.ref 2), some (.ref 33), some (xI l3)] (xI l3 :: S) h Q := by refine am_wp_pure ?_; exact rfl
theorem rW_law_19 : xw sc d MW_law cW_law_19 [some (.ref 0), some (.ref 2), some (.ref 33), some (xI l3)] S h Q ↔ xw sc d MW_law cW_law_20 [some (.ref 0), some (.ref 2), some (.ref 33), some (xI l3)] (.ref 0 :: S) h Q := by refine am_wp_pure ?_; exact rfl
theorem rW_law_20 : xw sc d MW_law cW_law_20 L (.ref 0 :: S) h Q ↔ xw sc d MW_law cW_law_21 L (xI sc.1 :: S) h Q := by refine am_wp_hp rfl ?_; exact xr_len
theorem rW_law_21 : xw sc d MW_law cW_law_21 L S h Q ↔ xw sc d MW_law cW_law_22 L (xI 4 :: S) h Q := by refine am_wp_pure ?_; exact rfl
theorem rW_law_22 : xw sc d MW_law cW_law_22 L (xI y :: xI x :: S) h Q ↔ xw sc d MW_law cW_law_23 L (xI (x - y) :: S) h Q := by refine am_wp_pure ?_; exact xr_sub
set_option maxRecDepth 20000 in
theorem rW_law_23 (hx : xin x) (hy : xin y) : xw sc d MW_law cW_law_23 L (xI y :: xI x :: S) h Q ↔ (y < x → xw sc d MW_law cW_law_597 L S h Q) ∧ (¬ y < x → xw sc d MW_law cW_law_26 L S h Q) := by exact xw_ic .gt hx hy rfl
theorem rW_law_26 : xw sc d MW_law cW_law_26 [some (.ref 0), some (.ref 2), some (.ref 33), some (xI l3)] S h Q ↔ xw sc d MW_law cW_law_27 [some (.ref 0), some (.ref 2), some (.ref 33), some (xI l3)] (.ref 0 :: S) h Q := by refine am_wp_pure ?_; exact rfl
theorem rW_law_27 : xw sc d MW_law cW_law_27 [some (.ref 0), some (.ref 2), some (.ref 33), some (xI l3)] S h Q ↔ xw sc d MW_law cW_law_28 [some (.ref 0), some (.ref 2), some (.ref 33), some (xI l3)] (xI l3 :: S) h Q := by refine am_wp_pure ?_; exact rfl
theorem rW_law_28 (h0 : 0 ≤ x) (h1 : x < sc.1) (hn : sc.1 ≤ 2147483647) : xw sc d MW_law cW_law_28 L (xI x :: .ref 0 :: S) h Q ↔ xw sc d MW_law cW_law_29 L (xI (xsc sc x) :: S) h Q := by exact xw_iald (al_0 h0 h1 hn)
theorem rW_law_29 : xw sc d MW_law cW_law_29 L S h Q ↔ xw sc d MW_law cW_law_31 L (xI 31 :: S) h Q := by refine am_wp_pure ?_; exact xr_bi (by decide)
theorem rW_law_31 : xw sc d MW_law cW_law_31 L (xI y :: xI x :: S) h Q ↔ xw sc d MW_law cW_law_32 L (xI (xand x y) :: S) h Q := by refine am_wp_pure ?_; exact xr_and
set_option maxRecDepth 20000 in
theorem rW_law_32_0 : xw sc d MW_law cW_law_32 L (xI 0 :: S) h Q ↔ xw sc d MW_law cW_law_128 L S h Q := by exact xw_sw rfl rfl rfl rfl
set_option maxRecDepth 20000 in
theorem rW_law_32_1 : xw sc d MW_law cW_law_32 L (xI 1 :: S) h Q ↔ xw sc d MW_law cW_law_153 L S h Q := by exact xw_sw rfl rfl rfl rfl
set_option maxRecDepth 20000 in
theorem rW_law_32_2 : xw sc d MW_law cW_law_32 L (xI 2 :: S) h Q ↔ xw sc d MW_law cW_law_164 L S h Q := by exact xw_sw rfl rfl rfl rfl
set_option maxRecDepth 20000 in
theorem rW_law_32_3 : xw sc d MW_law cW_law_32 L (xI 3 :: S) h Q ↔ xw sc d MW_law cW_law_177 L S h Q := by exact xw_sw rfl rfl rfl rfl
set_option maxRecDepth 20000 in
theorem rW_law_32_4 : xw sc d MW_law cW_law_32 L (xI 4 :: S) h Q ↔ xw sc d MW_law cW_law_190 L S h Q := by exact xw_sw rfl rfl rfl rfl
set_option maxRecDepth 20000 in
theorem rW_law_32_5 : xw sc d MW_law cW_law_32 L (xI 5 :: S) h Q ↔ xw sc d MW_law cW_law_213 L S h Q := by exact xw_sw rfl rfl rfl rfl
set_option maxRecDepth 20000 in
theorem rW_law_32_6 : xw sc d MW_law cW_law_32 L (xI 6 :: S) h Q ↔ xw sc d MW_law cW_law_236 L S h Q := by exact xw_sw rfl rfl rfl rfl
set_option maxRecDepth 20000 in
theorem rW_law_32_7 : xw sc d MW_law cW_law_32 L (xI 7 :: S) h Q ↔ xw sc d MW_law cW_law_269 L S h Q := by exact xw_sw rfl rfl rfl rfl
set_option maxRecDepth 20000 in
theorem rW_law_32_8 : xw sc d MW_law cW_law_32 L (xI 8 :: S) h Q ↔ xw sc d MW_law cW_law_292 L S h Q := by exact xw_sw rfl rfl rfl rfl
set_option maxRecDepth 20000 in
theorem rW_law_32_9 : xw sc d MW_law cW_law_32 L (xI 9 :: S) h Q ↔ xw sc d MW_law cW_law_315 L S h Q := by exact xw_sw rfl rfl rfl rfl
set_option maxRecDepth 20000 in
theorem rW_law_32_10 : xw sc d MW_law cW_law_32 L (xI 10 :: S) h Q ↔ xw sc d MW_law cW_law_364 L S h Q := by exact xw_sw rfl rfl rfl rfl
set_option maxRecDepth 20000 in
theorem rW_law_32_11 : xw sc d MW_law cW_law_32 L (xI 11 :: S) h Q ↔ xw sc d MW_law cW_law_423 L S h Q := by exact xw_sw rfl rfl rfl rfl
set_option maxRecDepth 20000 in
theorem rW_law_32_12 : xw sc d MW_law cW_law_32 L (xI 12 :: S) h Q ↔ xw sc d MW_law cW_law_446 L S h Q := by exact xw_sw rfl rfl rfl rfl
set_option maxRecDepth 20000 in
theorem rW_law_32_13 : xw sc d MW_law cW_law_32 L (xI 13 :: S) h Q ↔ xw sc d MW_law cW_law_459 L S h Q := by exact xw_sw rfl rfl rfl rfl
set_option maxRecDepth 20000 in
theorem rW_law_32_14 : xw sc d MW_law cW_law_32 L (xI 14 :: S) h Q ↔ xw sc d MW_law cW_law_482 L S h Q := by exact xw_sw rfl rfl rfl rfl
set_option maxRecDepth 20000 in
theorem rW_law_32_15 : xw sc d MW_law cW_law_32 L (xI 15 :: S) h Q ↔ xw sc d MW_law cW_law_515 L S h Q := by exact xw_sw rfl rfl rfl rfl
set_option maxRecDepth 20000 in
theorem rW_law_32_16 : xw sc d MW_law cW_law_32 L (xI 16 :: S) h Q ↔ xw sc d MW_law cW_law_538 L S h Q := by exact xw_sw rfl rfl rfl rfl
set_option maxRecDepth 20000 in
theorem rW_law_32_17 : xw sc d MW_law cW_law_32 L (xI 17 :: S) h Q ↔ xw sc d MW_law cW_law_551 L S h Q := by exact xw_sw rfl rfl rfl rfl
set_option maxRecDepth 20000 in
theorem rW_law_32_18 : xw sc d MW_law cW_law_32 L (xI 18 :: S) h Q ↔ xw sc d MW_law cW_law_564 L S h Q := by exact xw_sw rfl rfl rfl rfl
set_option maxRecDepth 20000 in
theorem rW_law_32_19 : xw sc d MW_law cW_law_32 L (xI 19 :: S) h Q ↔ xw sc d MW_law cW_law_578 L S h Q := by exact xw_sw rfl rfl rfl rfl
set_option maxRecDepth 20000 in
theorem rW_law_32_d (hx : xin x) (hd : x < 0 ∨ 19 < x) : xw sc d MW_law cW_law_32 L (xI x :: S) h Q ↔ xw sc d MW_law cW_law_591 L S h Q := by exact xw_td hx hd rfl rfl
theorem rW_law_128 : xw sc d MW_law cW_law_128 [some (.ref 0), some (.ref 2), some (.ref 33), some (xI l3)] S h Q ↔ xw sc d MW_law cW_law_129 [some (.ref 0), some (.ref 2), some (.ref 33), some (xI l3)] (.ref 2 :: S) h Q := by refine am_wp_pure ?_; exact rfl
theorem rW_law_129 : xw sc d MW_law cW_law_129 [some (.ref 0), some (.ref 2), some (.ref 33), some (xI l3)] S h Q ↔ xw sc d MW_law cW_law_130 [some (.ref 0), some (.ref 2), some (.ref 33), some (xI l3)] (.ref 0 :: S) h Q := by refine am_wp_pure ?_; exact rfl
theorem rW_law_130 : xw sc d MW_law cW_law_130 [some (.ref 0), some (.ref 2), some (.ref 33), some (xI l3)] S h Q ↔ xw sc d MW_law cW_law_131 [some (.ref 0), some (.ref 2), some (.ref 33), some (xI l3)] (xI l3 :: S) h Q := by refine am_wp_pure ?_; exact rfl
theorem rW_law_131 : xw sc d MW_law cW_law_131 L S h Q ↔ xw sc d MW_law cW_law_132 L (xI 1 :: S) h Q := by refine am_wp_pure ?_; exact rfl
theorem rW_law_132 : xw sc d MW_law cW_law_132 L (xI y :: xI x :: S) h Q ↔ xw sc d MW_law cW_law_133 L (xI (x + y) :: S) h Q := by refine am_wp_pure ?_; exact xr_add
theorem rW_law_133 (h0 : 0 ≤ x) (h1 : x < sc.1) (hn : sc.1 ≤ 2147483647) : xw sc d MW_law cW_law_133 L (xI x :: .ref 0 :: S) h Q ↔ xw sc d MW_law cW_law_134 L (xI (xsc sc x) :: S) h Q := by exact xw_iald (al_0 h0 h1 hn)
theorem rW_law_134 : xw sc d MW_law cW_law_134 L (xI x :: S) h Q ↔ xw sc d MW_law cW_law_135 L (xI (xch x) :: S) h Q := by refine am_wp_pure ?_; exact xr_i2c
theorem rW_law_135 : xw sc (d + 1) MW_law cW_law_135 L [xI x0, .ref 2] (xH G K) Q ↔ xc sc d MC_type [.ref 2, xI x0] (xH G K) (fun r h => xw sc (d + 1) MW_law cW_law_138 L (r.toList ++ []) h Q) := by exact am_wp_inv rfl rfl rfl rfl rfl
theorem rW_law_138 : xw sc d MW_law cW_law_138 [some (.ref 0), some (.ref 2), some (.ref 33), some (xI l3)] S h Q ↔ xw sc d MW_law cW_law_139 [some (.ref 0), some (.ref 2), some (.ref 33), some (xI l3)] (.ref 33 :: S) h Q := by refine am_wp_pure ?_; exact rfl
theorem rW_law_139 : xw sc d MW_law cW_law_139 [some (.ref 0), some (.ref 2), some (.ref 33), some (xI l3)] S h Q ↔ xw sc d MW_law cW_law_140 [some (.ref 0), some (.ref 2), some (.ref 33), some (xI l3)] (.ref 0 :: S) h Q := by refine am_wp_pure ?_; exact rfl
theorem rW_law_140 : xw sc d MW_law cW_law_140 [some (.ref 0), some (.ref 2), some (.ref 33), some (xI l3)] S h Q ↔ xw sc d MW_law cW_law_141 [some (.ref 0), some (.ref 2), some (.ref 33), some (xI l3)] (xI l3 :: S) h Q := by refine am_wp_pure ?_; exact rfl
theorem rW_law_141 : xw sc d MW_law cW_law_141 L S h Q ↔ xw sc d MW_law cW_law_142 L (xI 1 :: S) h Q := by refine am_wp_pure ?_; exact rfl
theorem rW_law_142 : xw sc d MW_law cW_law_142 L (xI y :: xI x :: S) h Q ↔ xw sc d MW_law cW_law_143 L (xI (x + y) :: S) h Q := by refine am_wp_pure ?_; exact xr_add
theorem rW_law_143 (h0 : 0 ≤ x) (h1 : x < sc.1) (hn : sc.1 ≤ 2147483647) : xw sc d MW_law cW_law_143 L (xI x :: .ref 0 :: S) h Q ↔ xw sc d MW_law cW_law_144 L (xI (xsc sc x) :: S) h Q := by exact xw_iald (al_0 h0 h1 hn)
theorem rW_law_144 : xw sc d MW_law cW_law_144 L (xI x :: S) h Q ↔ xw sc d MW_law cW_law_145 L (xI (xch x) :: S) h Q := by refine am_wp_pure ?_; exact xr_i2c
theorem rW_law_145 : xw sc (d + 1) MW_law cW_law_145 L [xI x0, .ref 33, xI x2] (xH G K) Q ↔ xc sc d Mm_type [.ref 33, xI x0] (xH G K) (fun r h => xw sc (d + 1) MW_law cW_law_148 L (r.toList ++ [xI x2]) h Q) := by exact am_wp_inv rfl rfl rfl rfl rfl
set_option maxRecDepth 20000 in
theorem rW_law_148 (hx : xin x) (hy : xin y) : xw sc d MW_law cW_law_148 L (xI y :: xI x :: S) h Q ↔ (x = y → xw sc d MW_law cW_law_591 L S h Q) ∧ (¬ x = y → xw sc d MW_law cW_law_151 L S h Q) := by exact xw_ic .eq hx hy rfl
theorem rW_law_151 : xw sc d MW_law cW_law_151 L S h Q ↔ xw sc d MW_law cW_law_152 L (xI 0 :: S) h Q := by refine am_wp_pure ?_; exact rfl
theorem rW_law_152 (hx : xbo x) : xw sc d MW_law cW_law_152 L [xI x] h Q ↔ Q (some (xI x)) h := by exact am_wp_ret rfl rfl rfl rfl rfl (xr_rz hx)
theorem rW_law_153 : xw sc d MW_law cW_law_153 [some (.ref 0), some (.ref 2), some (.ref 33), some (xI l3)] S h Q ↔ xw sc d MW_law cW_law_154 [some (.ref 0), some (.ref 2), some (.ref 33), some (xI l3)] (.ref 2 :: S) h Q := by refine am_wp_pure ?_; exact rfl
theorem rW_law_154 : xw sc (d + 1) MW_law cW_law_154 L [.ref 2] (xH G K) Q ↔ xc sc d MC_wipe [.ref 2] (xH G K) (fun r h => xw sc (d + 1) MW_law cW_law_157 L (r.toList ++ []) h Q) := by exact am_wp_inv rfl rfl rfl rfl rfl
theorem rW_law_157 : xw sc d MW_law cW_law_157 [some (.ref 0), some (.ref 2), some (.ref 33), some (xI l3)] S h Q ↔ xw sc d MW_law cW_law_158 [some (.ref 0), some (.ref 2), some (.ref 33), some (xI l3)] (.ref 33 :: S) h Q := by refine am_wp_pure ?_; exact rfl
theorem rW_law_158 : xw sc (d + 1) MW_law cW_law_158 L [.ref 33] (xH G K) Q ↔ xc sc d Mm_wipe [.ref 33] (xH G K) (fun r h => xw sc (d + 1) MW_law cW_law_161 L (r.toList ++ []) h Q) := by exact am_wp_inv rfl rfl rfl rfl rfl
set_option maxRecDepth 20000 in
theorem rW_law_161 : xw sc d MW_law cW_law_161 L S h Q ↔ xw sc d MW_law cW_law_591 L S h Q := by exact xw_goto rfl
theorem rW_law_164 : xw sc d MW_law cW_law_164 [some (.ref 0), some (.ref 2), some (.ref 33), some (xI l3)] S h Q ↔ xw sc d MW_law cW_law_165 [some (.ref 0), some (.ref 2), some (.ref 33), some (xI l3)] (.ref 2 :: S) h Q := by refine am_wp_pure ?_; exact rfl
theorem rW_law_165 : xw sc (d + 1) MW_law cW_law_165 L [.ref 2] (xH G K) Q ↔ xc sc d MC_read [.ref 2] (xH G K) (fun r h => xw sc (d + 1) MW_law cW_law_168 L (r.toList ++ []) h Q) := by exact am_wp_inv rfl rfl rfl rfl rfl
theorem rW_law_168 : xw sc d MW_law cW_law_168 [some (.ref 0), some (.ref 2), some (.ref 33), some (xI l3)] S h Q ↔ xw sc d MW_law cW_law_169 [some (.ref 0), some (.ref 2), some (.ref 33), some (xI l3)] (.ref 33 :: S) h Q := by refine am_wp_pure ?_; exact rfl
theorem rW_law_169 : xw sc (d + 1) MW_law cW_law_169 L [.ref 33, xI x1] (xH G K) Q ↔ xc sc d Mm_read [.ref 33] (xH G K) (fun r h => xw sc (d + 1) MW_law cW_law_172 L (r.toList ++ [xI x1]) h Q) := by exact am_wp_inv rfl rfl rfl rfl rfl
set_option maxRecDepth 20000 in
theorem rW_law_172 (hx : xin x) (hy : xin y) : xw sc d MW_law cW_law_172 L (xI y :: xI x :: S) h Q ↔ (x = y → xw sc d MW_law cW_law_591 L S h Q) ∧ (¬ x = y → xw sc d MW_law cW_law_175 L S h Q) := by exact xw_ic .eq hx hy rfl
theorem rW_law_175 : xw sc d MW_law cW_law_175 L S h Q ↔ xw sc d MW_law cW_law_176 L (xI 0 :: S) h Q := by refine am_wp_pure ?_; exact rfl
theorem rW_law_176 (hx : xbo x) : xw sc d MW_law cW_law_176 L [xI x] h Q ↔ Q (some (xI x)) h := by exact am_wp_ret rfl rfl rfl rfl rfl (xr_rz hx)
theorem rW_law_177 : xw sc d MW_law cW_law_177 [some (.ref 0), some (.ref 2), some (.ref 33), some (xI l3)] S h Q ↔ xw sc d MW_law cW_law_178 [some (.ref 0), some (.ref 2), some (.ref 33), some (xI l3)] (.ref 2 :: S) h Q := by refine am_wp_pure ?_; exact rfl
theorem rW_law_178 : xw sc (d + 1) MW_law cW_law_178 L [.ref 2] (xH G K) Q ↔ xc sc d MC_nodes [.ref 2] (xH G K) (fun r h => xw sc (d + 1) MW_law cW_law_181 L (r.toList ++ []) h Q) := by exact am_wp_inv rfl rfl rfl rfl rfl
theorem rW_law_181 : xw sc d MW_law cW_law_181 [some (.ref 0), some (.ref 2), some (.ref 33), some (xI l3)] S h Q ↔ xw sc d MW_law cW_law_182 [some (.ref 0), some (.ref 2), some (.ref 33), some (xI l3)] (.ref 33 :: S) h Q := by refine am_wp_pure ?_; exact rfl
theorem rW_law_182 : xw sc (d + 1) MW_law cW_law_182 L [.ref 33, xI x1] (xH G K) Q ↔ xc sc d Mm_nodes [.ref 33] (xH G K) (fun r h => xw sc (d + 1) MW_law cW_law_185 L (r.toList ++ [xI x1]) h Q) := by exact am_wp_inv rfl rfl rfl rfl rfl
set_option maxRecDepth 20000 in
theorem rW_law_185 (hx : xin x) (hy : xin y) : xw sc d MW_law cW_law_185 L (xI y :: xI x :: S) h Q ↔ (x = y → xw sc d MW_law cW_law_591 L S h Q) ∧ (¬ x = y → xw sc d MW_law cW_law_188 L S h Q) := by exact xw_ic .eq hx hy rfl
theorem rW_law_188 : xw sc d MW_law cW_law_188 L S h Q ↔ xw sc d MW_law cW_law_189 L (xI 0 :: S) h Q := by refine am_wp_pure ?_; exact rfl
theorem rW_law_189 (hx : xbo x) : xw sc d MW_law cW_law_189 L [xI x] h Q ↔ Q (some (xI x)) h := by exact am_wp_ret rfl rfl rfl rfl rfl (xr_rz hx)
theorem rW_law_190 : xw sc d MW_law cW_law_190 [some (.ref 0), some (.ref 2), some (.ref 33), some (xI l3)] S h Q ↔ xw sc d MW_law cW_law_191 [some (.ref 0), some (.ref 2), some (.ref 33), some (xI l3)] (.ref 2 :: S) h Q := by refine am_wp_pure ?_; exact rfl
theorem rW_law_191 : xw sc d MW_law cW_law_191 [some (.ref 0), some (.ref 2), some (.ref 33), some (xI l3)] S h Q ↔ xw sc d MW_law cW_law_192 [some (.ref 0), some (.ref 2), some (.ref 33), some (xI l3)] (.ref 0 :: S) h Q := by refine am_wp_pure ?_; exact rfl
theorem rW_law_192 : xw sc d MW_law cW_law_192 [some (.ref 0), some (.ref 2), some (.ref 33), some (xI l3)] S h Q ↔ xw sc d MW_law cW_law_193 [some (.ref 0), some (.ref 2), some (.ref 33), some (xI l3)] (xI l3 :: S) h Q := by refine am_wp_pure ?_; exact rfl
theorem rW_law_193 : xw sc d MW_law cW_law_193 L S h Q ↔ xw sc d MW_law cW_law_194 L (xI 1 :: S) h Q := by refine am_wp_pure ?_; exact rfl
theorem rW_law_194 : xw sc d MW_law cW_law_194 L (xI y :: xI x :: S) h Q ↔ xw sc d MW_law cW_law_195 L (xI (x + y) :: S) h Q := by refine am_wp_pure ?_; exact xr_add
theorem rW_law_195 (h0 : 0 ≤ x) (h1 : x < sc.1) (hn : sc.1 ≤ 2147483647) : xw sc d MW_law cW_law_195 L (xI x :: .ref 0 :: S) h Q ↔ xw sc d MW_law cW_law_196 L (xI (xsc sc x) :: S) h Q := by exact xw_iald (al_0 h0 h1 hn)
theorem rW_law_196 : xw sc (d + 1) MW_law cW_law_196 L [xI x0, .ref 2] (xH G K) Q ↔ xc sc d MC_attributes [.ref 2, xI x0] (xH G K) (fun r h => xw sc (d + 1) MW_law cW_law_199 L (r.toList ++ []) h Q) := by exact am_wp_inv rfl rfl rfl rfl rfl
theorem rW_law_199 : xw sc d MW_law cW_law_199 [some (.ref 0), some (.ref 2), some (.ref 33), some (xI l3)] S h Q ↔ xw sc d MW_law cW_law_200 [some (.ref 0), some (.ref 2), some (.ref 33), some (xI l3)] (.ref 33 :: S) h Q := by refine am_wp_pure ?_; exact rfl
theorem rW_law_200 : xw sc d MW_law cW_law_200 [some (.ref 0), some (.ref 2), some (.ref 33), some (xI l3)] S h Q ↔ xw sc d MW_law cW_law_201 [some (.ref 0), some (.ref 2), some (.ref 33), some (xI l3)] (.ref 0 :: S) h Q := by refine am_wp_pure ?_; exact rfl
theorem rW_law_201 : xw sc d MW_law cW_law_201 [some (.ref 0), some (.ref 2), some (.ref 33), some (xI l3)] S h Q ↔ xw sc d MW_law cW_law_202 [some (.ref 0), some (.ref 2), some (.ref 33), some (xI l3)] (xI l3 :: S) h Q := by refine am_wp_pure ?_; exact rfl
theorem rW_law_202 : xw sc d MW_law cW_law_202 L S h Q ↔ xw sc d MW_law cW_law_203 L (xI 1 :: S) h Q := by refine am_wp_pure ?_; exact rfl
theorem rW_law_203 : xw sc d MW_law cW_law_203 L (xI y :: xI x :: S) h Q ↔ xw sc d MW_law cW_law_204 L (xI (x + y) :: S) h Q := by refine am_wp_pure ?_; exact xr_add
theorem rW_law_204 (h0 : 0 ≤ x) (h1 : x < sc.1) (hn : sc.1 ≤ 2147483647) : xw sc d MW_law cW_law_204 L (xI x :: .ref 0 :: S) h Q ↔ xw sc d MW_law cW_law_205 L (xI (xsc sc x) :: S) h Q := by exact xw_iald (al_0 h0 h1 hn)
theorem rW_law_205 : xw sc (d + 1) MW_law cW_law_205 L [xI x0, .ref 33, xI x2] (xH G K) Q ↔ xc sc d Mm_attributes [.ref 33, xI x0] (xH G K) (fun r h => xw sc (d + 1) MW_law cW_law_208 L (r.toList ++ [xI x2]) h Q) := by exact am_wp_inv rfl rfl rfl rfl rfl
set_option maxRecDepth 20000 in
theorem rW_law_208 (hx : xin x) (hy : xin y) : xw sc d MW_law cW_law_208 L (xI y :: xI x :: S) h Q ↔ (x = y → xw sc d MW_law cW_law_591 L S h Q) ∧ (¬ x = y → xw sc d MW_law cW_law_211 L S h Q) := by exact xw_ic .eq hx hy rfl
theorem rW_law_211 : xw sc d MW_law cW_law_211 L S h Q ↔ xw sc d MW_law cW_law_212 L (xI 0 :: S) h Q := by refine am_wp_pure ?_; exact rfl
theorem rW_law_212 (hx : xbo x) : xw sc d MW_law cW_law_212 L [xI x] h Q ↔ Q (some (xI x)) h := by exact am_wp_ret rfl rfl rfl rfl rfl (xr_rz hx)
theorem rW_law_213 : xw sc d MW_law cW_law_213 [some (.ref 0), some (.ref 2), some (.ref 33), some (xI l3)] S h Q ↔ xw sc d MW_law cW_law_214 [some (.ref 0), some (.ref 2), some (.ref 33), some (xI l3)] (.ref 2 :: S) h Q := by refine am_wp_pure ?_; exact rfl
theorem rW_law_214 : xw sc d MW_law cW_law_214 [some (.ref 0), some (.ref 2), some (.ref 33), some (xI l3)] S h Q ↔ xw sc d MW_law cW_law_215 [some (.ref 0), some (.ref 2), some (.ref 33), some (xI l3)] (.ref 0 :: S) h Q := by refine am_wp_pure ?_; exact rfl
theorem rW_law_215 : xw sc d MW_law cW_law_215 [some (.ref 0), some (.ref 2), some (.ref 33), some (xI l3)] S h Q ↔ xw sc d MW_law cW_law_216 [some (.ref 0), some (.ref 2), some (.ref 33), some (xI l3)] (xI l3 :: S) h Q := by refine am_wp_pure ?_; exact rfl
theorem rW_law_216 : xw sc d MW_law cW_law_216 L S h Q ↔ xw sc d MW_law cW_law_217 L (xI 1 :: S) h Q := by refine am_wp_pure ?_; exact rfl
theorem rW_law_217 : xw sc d MW_law cW_law_217 L (xI y :: xI x :: S) h Q ↔ xw sc d MW_law cW_law_218 L (xI (x + y) :: S) h Q := by refine am_wp_pure ?_; exact xr_add
theorem rW_law_218 (h0 : 0 ≤ x) (h1 : x < sc.1) (hn : sc.1 ≤ 2147483647) : xw sc d MW_law cW_law_218 L (xI x :: .ref 0 :: S) h Q ↔ xw sc d MW_law cW_law_219 L (xI (xsc sc x) :: S) h Q := by exact xw_iald (al_0 h0 h1 hn)
theorem rW_law_219 : xw sc (d + 1) MW_law cW_law_219 L [xI x0, .ref 2] (xH G K) Q ↔ xc sc d MC_reach [.ref 2, xI x0] (xH G K) (fun r h => xw sc (d + 1) MW_law cW_law_222 L (r.toList ++ []) h Q) := by exact am_wp_inv rfl rfl rfl rfl rfl
theorem rW_law_222 : xw sc d MW_law cW_law_222 [some (.ref 0), some (.ref 2), some (.ref 33), some (xI l3)] S h Q ↔ xw sc d MW_law cW_law_223 [some (.ref 0), some (.ref 2), some (.ref 33), some (xI l3)] (.ref 33 :: S) h Q := by refine am_wp_pure ?_; exact rfl
theorem rW_law_223 : xw sc d MW_law cW_law_223 [some (.ref 0), some (.ref 2), some (.ref 33), some (xI l3)] S h Q ↔ xw sc d MW_law cW_law_224 [some (.ref 0), some (.ref 2), some (.ref 33), some (xI l3)] (.ref 0 :: S) h Q := by refine am_wp_pure ?_; exact rfl
theorem rW_law_224 : xw sc d MW_law cW_law_224 [some (.ref 0), some (.ref 2), some (.ref 33), some (xI l3)] S h Q ↔ xw sc d MW_law cW_law_225 [some (.ref 0), some (.ref 2), some (.ref 33), some (xI l3)] (xI l3 :: S) h Q := by refine am_wp_pure ?_; exact rfl
theorem rW_law_225 : xw sc d MW_law cW_law_225 L S h Q ↔ xw sc d MW_law cW_law_226 L (xI 1 :: S) h Q := by refine am_wp_pure ?_; exact rfl
theorem rW_law_226 : xw sc d MW_law cW_law_226 L (xI y :: xI x :: S) h Q ↔ xw sc d MW_law cW_law_227 L (xI (x + y) :: S) h Q := by refine am_wp_pure ?_; exact xr_add
theorem rW_law_227 (h0 : 0 ≤ x) (h1 : x < sc.1) (hn : sc.1 ≤ 2147483647) : xw sc d MW_law cW_law_227 L (xI x :: .ref 0 :: S) h Q ↔ xw sc d MW_law cW_law_228 L (xI (xsc sc x) :: S) h Q := by exact xw_iald (al_0 h0 h1 hn)
theorem rW_law_228 : xw sc (d + 1) MW_law cW_law_228 L [xI x0, .ref 33, xI x2] (xH G K) Q ↔ xc sc d Mm_reach [.ref 33, xI x0] (xH G K) (fun r h => xw sc (d + 1) MW_law cW_law_231 L (r.toList ++ [xI x2]) h Q) := by exact am_wp_inv rfl rfl rfl rfl rfl
set_option maxRecDepth 20000 in
theorem rW_law_231 (hx : xin x) (hy : xin y) : xw sc d MW_law cW_law_231 L (xI y :: xI x :: S) h Q ↔ (x = y → xw sc d MW_law cW_law_591 L S h Q) ∧ (¬ x = y → xw sc d MW_law cW_law_234 L S h Q) := by exact xw_ic .eq hx hy rfl
theorem rW_law_234 : xw sc d MW_law cW_law_234 L S h Q ↔ xw sc d MW_law cW_law_235 L (xI 0 :: S) h Q := by refine am_wp_pure ?_; exact rfl
theorem rW_law_235 (hx : xbo x) : xw sc d MW_law cW_law_235 L [xI x] h Q ↔ Q (some (xI x)) h := by exact am_wp_ret rfl rfl rfl rfl rfl (xr_rz hx)
theorem rW_law_236 : xw sc d MW_law cW_law_236 [some (.ref 0), some (.ref 2), some (.ref 33), some (xI l3)] S h Q ↔ xw sc d MW_law cW_law_237 [some (.ref 0), some (.ref 2), some (.ref 33), some (xI l3)] (.ref 2 :: S) h Q := by refine am_wp_pure ?_; exact rfl
theorem rW_law_237 : xw sc d MW_law cW_law_237 [some (.ref 0), some (.ref 2), some (.ref 33), some (xI l3)] S h Q ↔ xw sc d MW_law cW_law_238 [some (.ref 0), some (.ref 2), some (.ref 33), some (xI l3)] (.ref 0 :: S) h Q := by refine am_wp_pure ?_; exact rfl
theorem rW_law_238 : xw sc d MW_law cW_law_238 [some (.ref 0), some (.ref 2), some (.ref 33), some (xI l3)] S h Q ↔ xw sc d MW_law cW_law_239 [some (.ref 0), some (.ref 2), some (.ref 33), some (xI l3)] (xI l3 :: S) h Q := by refine am_wp_pure ?_; exact rfl
theorem rW_law_239 : xw sc d MW_law cW_law_239 L S h Q ↔ xw sc d MW_law cW_law_240 L (xI 1 :: S) h Q := by refine am_wp_pure ?_; exact rfl
theorem rW_law_240 : xw sc d MW_law cW_law_240 L (xI y :: xI x :: S) h Q ↔ xw sc d MW_law cW_law_241 L (xI (x + y) :: S) h Q := by refine am_wp_pure ?_; exact xr_add
theorem rW_law_241 (h0 : 0 ≤ x) (h1 : x < sc.1) (hn : sc.1 ≤ 2147483647) : xw sc d MW_law cW_law_241 L (xI x :: .ref 0 :: S) h Q ↔ xw sc d MW_law cW_law_242 L (xI (xsc sc x) :: S) h Q := by exact xw_iald (al_0 h0 h1 hn)
theorem rW_law_242 : xw sc d MW_law cW_law_242 [some (.ref 0), some (.ref 2), some (.ref 33), some (xI l3)] S h Q ↔ xw sc d MW_law cW_law_243 [some (.ref 0), some (.ref 2), some (.ref 33), some (xI l3)] (.ref 0 :: S) h Q := by refine am_wp_pure ?_; exact rfl
theorem rW_law_243 : xw sc d MW_law cW_law_243 [some (.ref 0), some (.ref 2), some (.ref 33), some (xI l3)] S h Q ↔ xw sc d MW_law cW_law_244 [some (.ref 0), some (.ref 2), some (.ref 33), some (xI l3)] (xI l3 :: S) h Q := by refine am_wp_pure ?_; exact rfl
theorem rW_law_244 : xw sc d MW_law cW_law_244 L S h Q ↔ xw sc d MW_law cW_law_245 L (xI 2 :: S) h Q := by refine am_wp_pure ?_; exact rfl
theorem rW_law_245 : xw sc d MW_law cW_law_245 L (xI y :: xI x :: S) h Q ↔ xw sc d MW_law cW_law_246 L (xI (x + y) :: S) h Q := by refine am_wp_pure ?_; exact xr_add
theorem rW_law_246 (h0 : 0 ≤ x) (h1 : x < sc.1) (hn : sc.1 ≤ 2147483647) : xw sc d MW_law cW_law_246 L (xI x :: .ref 0 :: S) h Q ↔ xw sc d MW_law cW_law_247 L (xI (xsc sc x) :: S) h Q := by exact xw_iald (al_0 h0 h1 hn)
theorem rW_law_247 : xw sc (d + 1) MW_law cW_law_247 L [xI x0, xI x1, .ref 2] (xH G K) Q ↔ xc sc d MC_set [.ref 2, xI x1, xI x0] (xH G K) (fun r h => xw sc (d + 1) MW_law cW_law_250 L (r.toList ++ []) h Q) := by exact am_wp_inv rfl rfl rfl rfl rfl
theorem rW_law_250 : xw sc d MW_law cW_law_250 [some (.ref 0), some (.ref 2), some (.ref 33), some (xI l3)] S h Q ↔ xw sc d MW_law cW_law_251 [some (.ref 0), some (.ref 2), some (.ref 33), some (xI l3)] (.ref 33 :: S) h Q := by refine am_wp_pure ?_; exact rfl
theorem rW_law_251 : xw sc d MW_law cW_law_251 [some (.ref 0), some (.ref 2), some (.ref 33), some (xI l3)] S h Q ↔ xw sc d MW_law cW_law_252 [some (.ref 0), some (.ref 2), some (.ref 33), some (xI l3)] (.ref 0 :: S) h Q := by refine am_wp_pure ?_; exact rfl
theorem rW_law_252 : xw sc d MW_law cW_law_252 [some (.ref 0), some (.ref 2), some (.ref 33), some (xI l3)] S h Q ↔ xw sc d MW_law cW_law_253 [some (.ref 0), some (.ref 2), some (.ref 33), some (xI l3)] (xI l3 :: S) h Q := by refine am_wp_pure ?_; exact rfl
theorem rW_law_253 : xw sc d MW_law cW_law_253 L S h Q ↔ xw sc d MW_law cW_law_254 L (xI 1 :: S) h Q := by refine am_wp_pure ?_; exact rfl
theorem rW_law_254 : xw sc d MW_law cW_law_254 L (xI y :: xI x :: S) h Q ↔ xw sc d MW_law cW_law_255 L (xI (x + y) :: S) h Q := by refine am_wp_pure ?_; exact xr_add
theorem rW_law_255 (h0 : 0 ≤ x) (h1 : x < sc.1) (hn : sc.1 ≤ 2147483647) : xw sc d MW_law cW_law_255 L (xI x :: .ref 0 :: S) h Q ↔ xw sc d MW_law cW_law_256 L (xI (xsc sc x) :: S) h Q := by exact xw_iald (al_0 h0 h1 hn)
theorem rW_law_256 : xw sc d MW_law cW_law_256 [some (.ref 0), some (.ref 2), some (.ref 33), some (xI l3)] S h Q ↔ xw sc d MW_law cW_law_257 [some (.ref 0), some (.ref 2), some (.ref 33), some (xI l3)] (.ref 0 :: S) h Q := by refine am_wp_pure ?_; exact rfl
theorem rW_law_257 : xw sc d MW_law cW_law_257 [some (.ref 0), some (.ref 2), some (.ref 33), some (xI l3)] S h Q ↔ xw sc d MW_law cW_law_258 [some (.ref 0), some (.ref 2), some (.ref 33), some (xI l3)] (xI l3 :: S) h Q := by refine am_wp_pure ?_; exact rfl
theorem rW_law_258 : xw sc d MW_law cW_law_258 L S h Q ↔ xw sc d MW_law cW_law_259 L (xI 2 :: S) h Q := by refine am_wp_pure ?_; exact rfl
theorem rW_law_259 : xw sc d MW_law cW_law_259 L (xI y :: xI x :: S) h Q ↔ xw sc d MW_law cW_law_260 L (xI (x + y) :: S) h Q := by refine am_wp_pure ?_; exact xr_add
theorem rW_law_260 (h0 : 0 ≤ x) (h1 : x < sc.1) (hn : sc.1 ≤ 2147483647) : xw sc d MW_law cW_law_260 L (xI x :: .ref 0 :: S) h Q ↔ xw sc d MW_law cW_law_261 L (xI (xsc sc x) :: S) h Q := by exact xw_iald (al_0 h0 h1 hn)
theorem rW_law_261 : xw sc (d + 1) MW_law cW_law_261 L [xI x0, xI x1, .ref 33, xI x3] (xH G K) Q ↔ xc sc d Mm_set [.ref 33, xI x1, xI x0] (xH G K) (fun r h => xw sc (d + 1) MW_law cW_law_264 L (r.toList ++ [xI x3]) h Q) := by exact am_wp_inv rfl rfl rfl rfl rfl
set_option maxRecDepth 20000 in
theorem rW_law_264 (hx : xin x) (hy : xin y) : xw sc d MW_law cW_law_264 L (xI y :: xI x :: S) h Q ↔ (x = y → xw sc d MW_law cW_law_591 L S h Q) ∧ (¬ x = y → xw sc d MW_law cW_law_267 L S h Q) := by exact xw_ic .eq hx hy rfl
theorem rW_law_267 : xw sc d MW_law cW_law_267 L S h Q ↔ xw sc d MW_law cW_law_268 L (xI 0 :: S) h Q := by refine am_wp_pure ?_; exact rfl
theorem rW_law_268 (hx : xbo x) : xw sc d MW_law cW_law_268 L [xI x] h Q ↔ Q (some (xI x)) h := by exact am_wp_ret rfl rfl rfl rfl rfl (xr_rz hx)
theorem rW_law_269 : xw sc d MW_law cW_law_269 [some (.ref 0), some (.ref 2), some (.ref 33), some (xI l3)] S h Q ↔ xw sc d MW_law cW_law_270 [some (.ref 0), some (.ref 2), some (.ref 33), some (xI l3)] (.ref 2 :: S) h Q := by refine am_wp_pure ?_; exact rfl
theorem rW_law_270 : xw sc d MW_law cW_law_270 [some (.ref 0), some (.ref 2), some (.ref 33), some (xI l3)] S h Q ↔ xw sc d MW_law cW_law_271 [some (.ref 0), some (.ref 2), some (.ref 33), some (xI l3)] (.ref 0 :: S) h Q := by refine am_wp_pure ?_; exact rfl
theorem rW_law_271 : xw sc d MW_law cW_law_271 [some (.ref 0), some (.ref 2), some (.ref 33), some (xI l3)] S h Q ↔ xw sc d MW_law cW_law_272 [some (.ref 0), some (.ref 2), some (.ref 33), some (xI l3)] (xI l3 :: S) h Q := by refine am_wp_pure ?_; exact rfl
theorem rW_law_272 : xw sc d MW_law cW_law_272 L S h Q ↔ xw sc d MW_law cW_law_273 L (xI 1 :: S) h Q := by refine am_wp_pure ?_; exact rfl
theorem rW_law_273 : xw sc d MW_law cW_law_273 L (xI y :: xI x :: S) h Q ↔ xw sc d MW_law cW_law_274 L (xI (x + y) :: S) h Q := by refine am_wp_pure ?_; exact xr_add
theorem rW_law_274 (h0 : 0 ≤ x) (h1 : x < sc.1) (hn : sc.1 ≤ 2147483647) : xw sc d MW_law cW_law_274 L (xI x :: .ref 0 :: S) h Q ↔ xw sc d MW_law cW_law_275 L (xI (xsc sc x) :: S) h Q := by exact xw_iald (al_0 h0 h1 hn)
theorem rW_law_275 : xw sc (d + 1) MW_law cW_law_275 L [xI x0, .ref 2] (xH G K) Q ↔ xc sc d MC_value [.ref 2, xI x0] (xH G K) (fun r h => xw sc (d + 1) MW_law cW_law_278 L (r.toList ++ []) h Q) := by exact am_wp_inv rfl rfl rfl rfl rfl
theorem rW_law_278 : xw sc d MW_law cW_law_278 [some (.ref 0), some (.ref 2), some (.ref 33), some (xI l3)] S h Q ↔ xw sc d MW_law cW_law_279 [some (.ref 0), some (.ref 2), some (.ref 33), some (xI l3)] (.ref 33 :: S) h Q := by refine am_wp_pure ?_; exact rfl
theorem rW_law_279 : xw sc d MW_law cW_law_279 [some (.ref 0), some (.ref 2), some (.ref 33), some (xI l3)] S h Q ↔ xw sc d MW_law cW_law_280 [some (.ref 0), some (.ref 2), some (.ref 33), some (xI l3)] (.ref 0 :: S) h Q := by refine am_wp_pure ?_; exact rfl
theorem rW_law_280 : xw sc d MW_law cW_law_280 [some (.ref 0), some (.ref 2), some (.ref 33), some (xI l3)] S h Q ↔ xw sc d MW_law cW_law_281 [some (.ref 0), some (.ref 2), some (.ref 33), some (xI l3)] (xI l3 :: S) h Q := by refine am_wp_pure ?_; exact rfl
theorem rW_law_281 : xw sc d MW_law cW_law_281 L S h Q ↔ xw sc d MW_law cW_law_282 L (xI 1 :: S) h Q := by refine am_wp_pure ?_; exact rfl
theorem rW_law_282 : xw sc d MW_law cW_law_282 L (xI y :: xI x :: S) h Q ↔ xw sc d MW_law cW_law_283 L (xI (x + y) :: S) h Q := by refine am_wp_pure ?_; exact xr_add
theorem rW_law_283 (h0 : 0 ≤ x) (h1 : x < sc.1) (hn : sc.1 ≤ 2147483647) : xw sc d MW_law cW_law_283 L (xI x :: .ref 0 :: S) h Q ↔ xw sc d MW_law cW_law_284 L (xI (xsc sc x) :: S) h Q := by exact xw_iald (al_0 h0 h1 hn)
theorem rW_law_284 : xw sc (d + 1) MW_law cW_law_284 L [xI x0, .ref 33, xI x2] (xH G K) Q ↔ xc sc d Mm_value [.ref 33, xI x0] (xH G K) (fun r h => xw sc (d + 1) MW_law cW_law_287 L (r.toList ++ [xI x2]) h Q) := by exact am_wp_inv rfl rfl rfl rfl rfl
set_option maxRecDepth 20000 in
theorem rW_law_287 (hx : xin x) (hy : xin y) : xw sc d MW_law cW_law_287 L (xI y :: xI x :: S) h Q ↔ (x = y → xw sc d MW_law cW_law_591 L S h Q) ∧ (¬ x = y → xw sc d MW_law cW_law_290 L S h Q) := by exact xw_ic .eq hx hy rfl
theorem rW_law_290 : xw sc d MW_law cW_law_290 L S h Q ↔ xw sc d MW_law cW_law_291 L (xI 0 :: S) h Q := by refine am_wp_pure ?_; exact rfl
theorem rW_law_291 (hx : xbo x) : xw sc d MW_law cW_law_291 L [xI x] h Q ↔ Q (some (xI x)) h := by exact am_wp_ret rfl rfl rfl rfl rfl (xr_rz hx)
theorem rW_law_292 : xw sc d MW_law cW_law_292 [some (.ref 0), some (.ref 2), some (.ref 33), some (xI l3)] S h Q ↔ xw sc d MW_law cW_law_293 [some (.ref 0), some (.ref 2), some (.ref 33), some (xI l3)] (.ref 2 :: S) h Q := by refine am_wp_pure ?_; exact rfl
theorem rW_law_293 : xw sc d MW_law cW_law_293 [some (.ref 0), some (.ref 2), some (.ref 33), some (xI l3)] S h Q ↔ xw sc d MW_law cW_law_294 [some (.ref 0), some (.ref 2), some (.ref 33), some (xI l3)] (.ref 0 :: S) h Q := by refine am_wp_pure ?_; exact rfl
theorem rW_law_294 : xw sc d MW_law cW_law_294 [some (.ref 0), some (.ref 2), some (.ref 33), some (xI l3)] S h Q ↔ xw sc d MW_law cW_law_295 [some (.ref 0), some (.ref 2), some (.ref 33), some (xI l3)] (xI l3 :: S) h Q := by refine am_wp_pure ?_; exact rfl
theorem rW_law_295 : xw sc d MW_law cW_law_295 L S h Q ↔ xw sc d MW_law cW_law_296 L (xI 1 :: S) h Q := by refine am_wp_pure ?_; exact rfl
theorem rW_law_296 : xw sc d MW_law cW_law_296 L (xI y :: xI x :: S) h Q ↔ xw sc d MW_law cW_law_297 L (xI (x + y) :: S) h Q := by refine am_wp_pure ?_; exact xr_add
theorem rW_law_297 (h0 : 0 ≤ x) (h1 : x < sc.1) (hn : sc.1 ≤ 2147483647) : xw sc d MW_law cW_law_297 L (xI x :: .ref 0 :: S) h Q ↔ xw sc d MW_law cW_law_298 L (xI (xsc sc x) :: S) h Q := by exact xw_iald (al_0 h0 h1 hn)
theorem rW_law_298 : xw sc (d + 1) MW_law cW_law_298 L [xI x0, .ref 2] (xH G K) Q ↔ xc sc d MC_culprit [.ref 2, xI x0] (xH G K) (fun r h => xw sc (d + 1) MW_law cW_law_301 L (r.toList ++ []) h Q) := by exact am_wp_inv rfl rfl rfl rfl rfl
theorem rW_law_301 : xw sc d MW_law cW_law_301 [some (.ref 0), some (.ref 2), some (.ref 33), some (xI l3)] S h Q ↔ xw sc d MW_law cW_law_302 [some (.ref 0), some (.ref 2), some (.ref 33), some (xI l3)] (.ref 33 :: S) h Q := by refine am_wp_pure ?_; exact rfl
theorem rW_law_302 : xw sc d MW_law cW_law_302 [some (.ref 0), some (.ref 2), some (.ref 33), some (xI l3)] S h Q ↔ xw sc d MW_law cW_law_303 [some (.ref 0), some (.ref 2), some (.ref 33), some (xI l3)] (.ref 0 :: S) h Q := by refine am_wp_pure ?_; exact rfl
theorem rW_law_303 : xw sc d MW_law cW_law_303 [some (.ref 0), some (.ref 2), some (.ref 33), some (xI l3)] S h Q ↔ xw sc d MW_law cW_law_304 [some (.ref 0), some (.ref 2), some (.ref 33), some (xI l3)] (xI l3 :: S) h Q := by refine am_wp_pure ?_; exact rfl
theorem rW_law_304 : xw sc d MW_law cW_law_304 L S h Q ↔ xw sc d MW_law cW_law_305 L (xI 1 :: S) h Q := by refine am_wp_pure ?_; exact rfl
theorem rW_law_305 : xw sc d MW_law cW_law_305 L (xI y :: xI x :: S) h Q ↔ xw sc d MW_law cW_law_306 L (xI (x + y) :: S) h Q := by refine am_wp_pure ?_; exact xr_add
theorem rW_law_306 (h0 : 0 ≤ x) (h1 : x < sc.1) (hn : sc.1 ≤ 2147483647) : xw sc d MW_law cW_law_306 L (xI x :: .ref 0 :: S) h Q ↔ xw sc d MW_law cW_law_307 L (xI (xsc sc x) :: S) h Q := by exact xw_iald (al_0 h0 h1 hn)
theorem rW_law_307 : xw sc (d + 1) MW_law cW_law_307 L [xI x0, .ref 33, xI x2] (xH G K) Q ↔ xc sc d Mm_culprit [.ref 33, xI x0] (xH G K) (fun r h => xw sc (d + 1) MW_law cW_law_310 L (r.toList ++ [xI x2]) h Q) := by exact am_wp_inv rfl rfl rfl rfl rfl
set_option maxRecDepth 20000 in
theorem rW_law_310 (hx : xin x) (hy : xin y) : xw sc d MW_law cW_law_310 L (xI y :: xI x :: S) h Q ↔ (x = y → xw sc d MW_law cW_law_591 L S h Q) ∧ (¬ x = y → xw sc d MW_law cW_law_313 L S h Q) := by exact xw_ic .eq hx hy rfl
theorem rW_law_313 : xw sc d MW_law cW_law_313 L S h Q ↔ xw sc d MW_law cW_law_314 L (xI 0 :: S) h Q := by refine am_wp_pure ?_; exact rfl
theorem rW_law_314 (hx : xbo x) : xw sc d MW_law cW_law_314 L [xI x] h Q ↔ Q (some (xI x)) h := by exact am_wp_ret rfl rfl rfl rfl rfl (xr_rz hx)
theorem rW_law_315 : xw sc d MW_law cW_law_315 [some (.ref 0), some (.ref 2), some (.ref 33), some (xI l3)] S h Q ↔ xw sc d MW_law cW_law_316 [some (.ref 0), some (.ref 2), some (.ref 33), some (xI l3)] (.ref 2 :: S) h Q := by refine am_wp_pure ?_; exact rfl
theorem rW_law_316 : xw sc d MW_law cW_law_316 [some (.ref 0), some (.ref 2), some (.ref 33), some (xI l3)] S h Q ↔ xw sc d MW_law cW_law_317 [some (.ref 0), some (.ref 2), some (.ref 33), some (xI l3)] (.ref 0 :: S) h Q := by refine am_wp_pure ?_; exact rfl
theorem rW_law_317 : xw sc d MW_law cW_law_317 [some (.ref 0), some (.ref 2), some (.ref 33), some (xI l3)] S h Q ↔ xw sc d MW_law cW_law_318 [some (.ref 0), some (.ref 2), some (.ref 33), some (xI l3)] (xI l3 :: S) h Q := by refine am_wp_pure ?_; exact rfl
theorem rW_law_318 : xw sc d MW_law cW_law_318 L S h Q ↔ xw sc d MW_law cW_law_319 L (xI 1 :: S) h Q := by refine am_wp_pure ?_; exact rfl
theorem rW_law_319 : xw sc d MW_law cW_law_319 L (xI y :: xI x :: S) h Q ↔ xw sc d MW_law cW_law_320 L (xI (x + y) :: S) h Q := by refine am_wp_pure ?_; exact xr_add
theorem rW_law_320 (h0 : 0 ≤ x) (h1 : x < sc.1) (hn : sc.1 ≤ 2147483647) : xw sc d MW_law cW_law_320 L (xI x :: .ref 0 :: S) h Q ↔ xw sc d MW_law cW_law_321 L (xI (xsc sc x) :: S) h Q := by exact xw_iald (al_0 h0 h1 hn)
theorem rW_law_321 : xw sc d MW_law cW_law_321 [some (.ref 0), some (.ref 2), some (.ref 33), some (xI l3)] S h Q ↔ xw sc d MW_law cW_law_322 [some (.ref 0), some (.ref 2), some (.ref 33), some (xI l3)] (.ref 0 :: S) h Q := by refine am_wp_pure ?_; exact rfl
theorem rW_law_322 : xw sc d MW_law cW_law_322 [some (.ref 0), some (.ref 2), some (.ref 33), some (xI l3)] S h Q ↔ xw sc d MW_law cW_law_323 [some (.ref 0), some (.ref 2), some (.ref 33), some (xI l3)] (xI l3 :: S) h Q := by refine am_wp_pure ?_; exact rfl
theorem rW_law_323 : xw sc d MW_law cW_law_323 L S h Q ↔ xw sc d MW_law cW_law_324 L (xI 2 :: S) h Q := by refine am_wp_pure ?_; exact rfl
theorem rW_law_324 : xw sc d MW_law cW_law_324 L (xI y :: xI x :: S) h Q ↔ xw sc d MW_law cW_law_325 L (xI (x + y) :: S) h Q := by refine am_wp_pure ?_; exact xr_add
theorem rW_law_325 (h0 : 0 ≤ x) (h1 : x < sc.1) (hn : sc.1 ≤ 2147483647) : xw sc d MW_law cW_law_325 L (xI x :: .ref 0 :: S) h Q ↔ xw sc d MW_law cW_law_326 L (xI (xsc sc x) :: S) h Q := by exact xw_iald (al_0 h0 h1 hn)
set_option maxRecDepth 20000 in
theorem rW_law_326 (hx : xin x) : xw sc d MW_law cW_law_326 L (xI x :: S) h Q ↔ (x = 0 → xw sc d MW_law cW_law_333 L S h Q) ∧ (¬ x = 0 → xw sc d MW_law cW_law_329 L S h Q) := by exact xw_if .eq hx rfl
theorem rW_law_329 : xw sc d MW_law cW_law_329 L S h Q ↔ xw sc d MW_law cW_law_330 L (xI 1 :: S) h Q := by refine am_wp_pure ?_; exact rfl
set_option maxRecDepth 20000 in
theorem rW_law_330 : xw sc d MW_law cW_law_330 L S h Q ↔ xw sc d MW_law cW_law_334 L S h Q := by exact xw_goto rfl
theorem rW_law_333 : xw sc d MW_law cW_law_333 L S h Q ↔ xw sc d MW_law cW_law_334 L (xI 0 :: S) h Q := by refine am_wp_pure ?_; exact rfl
theorem rW_law_334 : xw sc (d + 1) MW_law cW_law_334 L [xI x0, xI x1, .ref 2] (xH G K) Q ↔ xc sc d MC_objective [.ref 2, xI x1, xI x0] (xH G K) (fun r h => xw sc (d + 1) MW_law cW_law_337 L (r.toList ++ []) h Q) := by exact am_wp_inv rfl rfl rfl rfl rfl
theorem rW_law_337 : xw sc d MW_law cW_law_337 [some (.ref 0), some (.ref 2), some (.ref 33), some (xI l3)] S h Q ↔ xw sc d MW_law cW_law_338 [some (.ref 0), some (.ref 2), some (.ref 33), some (xI l3)] (.ref 33 :: S) h Q := by refine am_wp_pure ?_; exact rfl
theorem rW_law_338 : xw sc d MW_law cW_law_338 [some (.ref 0), some (.ref 2), some (.ref 33), some (xI l3)] S h Q ↔ xw sc d MW_law cW_law_339 [some (.ref 0), some (.ref 2), some (.ref 33), some (xI l3)] (.ref 0 :: S) h Q := by refine am_wp_pure ?_; exact rfl
theorem rW_law_339 : xw sc d MW_law cW_law_339 [some (.ref 0), some (.ref 2), some (.ref 33), some (xI l3)] S h Q ↔ xw sc d MW_law cW_law_340 [some (.ref 0), some (.ref 2), some (.ref 33), some (xI l3)] (xI l3 :: S) h Q := by refine am_wp_pure ?_; exact rfl
theorem rW_law_340 : xw sc d MW_law cW_law_340 L S h Q ↔ xw sc d MW_law cW_law_341 L (xI 1 :: S) h Q := by refine am_wp_pure ?_; exact rfl
theorem rW_law_341 : xw sc d MW_law cW_law_341 L (xI y :: xI x :: S) h Q ↔ xw sc d MW_law cW_law_342 L (xI (x + y) :: S) h Q := by refine am_wp_pure ?_; exact xr_add
theorem rW_law_342 (h0 : 0 ≤ x) (h1 : x < sc.1) (hn : sc.1 ≤ 2147483647) : xw sc d MW_law cW_law_342 L (xI x :: .ref 0 :: S) h Q ↔ xw sc d MW_law cW_law_343 L (xI (xsc sc x) :: S) h Q := by exact xw_iald (al_0 h0 h1 hn)
theorem rW_law_343 : xw sc d MW_law cW_law_343 [some (.ref 0), some (.ref 2), some (.ref 33), some (xI l3)] S h Q ↔ xw sc d MW_law cW_law_344 [some (.ref 0), some (.ref 2), some (.ref 33), some (xI l3)] (.ref 0 :: S) h Q := by refine am_wp_pure ?_; exact rfl
theorem rW_law_344 : xw sc d MW_law cW_law_344 [some (.ref 0), some (.ref 2), some (.ref 33), some (xI l3)] S h Q ↔ xw sc d MW_law cW_law_345 [some (.ref 0), some (.ref 2), some (.ref 33), some (xI l3)] (xI l3 :: S) h Q := by refine am_wp_pure ?_; exact rfl
theorem rW_law_345 : xw sc d MW_law cW_law_345 L S h Q ↔ xw sc d MW_law cW_law_346 L (xI 2 :: S) h Q := by refine am_wp_pure ?_; exact rfl
theorem rW_law_346 : xw sc d MW_law cW_law_346 L (xI y :: xI x :: S) h Q ↔ xw sc d MW_law cW_law_347 L (xI (x + y) :: S) h Q := by refine am_wp_pure ?_; exact xr_add
theorem rW_law_347 (h0 : 0 ≤ x) (h1 : x < sc.1) (hn : sc.1 ≤ 2147483647) : xw sc d MW_law cW_law_347 L (xI x :: .ref 0 :: S) h Q ↔ xw sc d MW_law cW_law_348 L (xI (xsc sc x) :: S) h Q := by exact xw_iald (al_0 h0 h1 hn)
set_option maxRecDepth 20000 in
theorem rW_law_348 (hx : xin x) : xw sc d MW_law cW_law_348 L (xI x :: S) h Q ↔ (x = 0 → xw sc d MW_law cW_law_355 L S h Q) ∧ (¬ x = 0 → xw sc d MW_law cW_law_351 L S h Q) := by exact xw_if .eq hx rfl
theorem rW_law_351 : xw sc d MW_law cW_law_351 L S h Q ↔ xw sc d MW_law cW_law_352 L (xI 1 :: S) h Q := by refine am_wp_pure ?_; exact rfl
set_option maxRecDepth 20000 in
theorem rW_law_352 : xw sc d MW_law cW_law_352 L S h Q ↔ xw sc d MW_law cW_law_356 L S h Q := by exact xw_goto rfl
theorem rW_law_355 : xw sc d MW_law cW_law_355 L S h Q ↔ xw sc d MW_law cW_law_356 L (xI 0 :: S) h Q := by refine am_wp_pure ?_; exact rfl
theorem rW_law_356 : xw sc (d + 1) MW_law cW_law_356 L [xI x0, xI x1, .ref 33, xI x3] (xH G K) Q ↔ xc sc d Mm_objective [.ref 33, xI x1, xI x0] (xH G K) (fun r h => xw sc (d + 1) MW_law cW_law_359 L (r.toList ++ [xI x3]) h Q) := by exact am_wp_inv rfl rfl rfl rfl rfl
set_option maxRecDepth 20000 in
theorem rW_law_359 (hx : xin x) (hy : xin y) : xw sc d MW_law cW_law_359 L (xI y :: xI x :: S) h Q ↔ (x = y → xw sc d MW_law cW_law_591 L S h Q) ∧ (¬ x = y → xw sc d MW_law cW_law_362 L S h Q) := by exact xw_ic .eq hx hy rfl
theorem rW_law_362 : xw sc d MW_law cW_law_362 L S h Q ↔ xw sc d MW_law cW_law_363 L (xI 0 :: S) h Q := by refine am_wp_pure ?_; exact rfl
theorem rW_law_363 (hx : xbo x) : xw sc d MW_law cW_law_363 L [xI x] h Q ↔ Q (some (xI x)) h := by exact am_wp_ret rfl rfl rfl rfl rfl (xr_rz hx)
theorem rW_law_364 : xw sc d MW_law cW_law_364 [some (.ref 0), some (.ref 2), some (.ref 33), some (xI l3)] S h Q ↔ xw sc d MW_law cW_law_365 [some (.ref 0), some (.ref 2), some (.ref 33), some (xI l3)] (.ref 2 :: S) h Q := by refine am_wp_pure ?_; exact rfl
theorem rW_law_365 : xw sc d MW_law cW_law_365 [some (.ref 0), some (.ref 2), some (.ref 33), some (xI l3)] S h Q ↔ xw sc d MW_law cW_law_366 [some (.ref 0), some (.ref 2), some (.ref 33), some (xI l3)] (.ref 0 :: S) h Q := by refine am_wp_pure ?_; exact rfl
theorem rW_law_366 : xw sc d MW_law cW_law_366 [some (.ref 0), some (.ref 2), some (.ref 33), some (xI l3)] S h Q ↔ xw sc d MW_law cW_law_367 [some (.ref 0), some (.ref 2), some (.ref 33), some (xI l3)] (xI l3 :: S) h Q := by refine am_wp_pure ?_; exact rfl
theorem rW_law_367 : xw sc d MW_law cW_law_367 L S h Q ↔ xw sc d MW_law cW_law_368 L (xI 1 :: S) h Q := by refine am_wp_pure ?_; exact rfl
theorem rW_law_368 : xw sc d MW_law cW_law_368 L (xI y :: xI x :: S) h Q ↔ xw sc d MW_law cW_law_369 L (xI (x + y) :: S) h Q := by refine am_wp_pure ?_; exact xr_add
theorem rW_law_369 (h0 : 0 ≤ x) (h1 : x < sc.1) (hn : sc.1 ≤ 2147483647) : xw sc d MW_law cW_law_369 L (xI x :: .ref 0 :: S) h Q ↔ xw sc d MW_law cW_law_370 L (xI (xsc sc x) :: S) h Q := by exact xw_iald (al_0 h0 h1 hn)
set_option maxRecDepth 20000 in
theorem rW_law_370 (hx : xin x) : xw sc d MW_law cW_law_370 L (xI x :: S) h Q ↔ (x = 0 → xw sc d MW_law cW_law_377 L S h Q) ∧ (¬ x = 0 → xw sc d MW_law cW_law_373 L S h Q) := by exact xw_if .eq hx rfl
theorem rW_law_373 : xw sc d MW_law cW_law_373 L S h Q ↔ xw sc d MW_law cW_law_374 L (xI 1 :: S) h Q := by refine am_wp_pure ?_; exact rfl
set_option maxRecDepth 20000 in
theorem rW_law_374 : xw sc d MW_law cW_law_374 L S h Q ↔ xw sc d MW_law cW_law_378 L S h Q := by exact xw_goto rfl
theorem rW_law_377 : xw sc d MW_law cW_law_377 L S h Q ↔ xw sc d MW_law cW_law_378 L (xI 0 :: S) h Q := by refine am_wp_pure ?_; exact rfl
theorem rW_law_378 : xw sc d MW_law cW_law_378 [some (.ref 0), some (.ref 2), some (.ref 33), some (xI l3)] S h Q ↔ xw sc d MW_law cW_law_379 [some (.ref 0), some (.ref 2), some (.ref 33), some (xI l3)] (.ref 0 :: S) h Q := by refine am_wp_pure ?_; exact rfl
theorem rW_law_379 : xw sc d MW_law cW_law_379 [some (.ref 0), some (.ref 2), some (.ref 33), some (xI l3)] S h Q ↔ xw sc d MW_law cW_law_380 [some (.ref 0), some (.ref 2), some (.ref 33), some (xI l3)] (xI l3 :: S) h Q := by refine am_wp_pure ?_; exact rfl
theorem rW_law_380 : xw sc d MW_law cW_law_380 L S h Q ↔ xw sc d MW_law cW_law_381 L (xI 2 :: S) h Q := by refine am_wp_pure ?_; exact rfl
theorem rW_law_381 : xw sc d MW_law cW_law_381 L (xI y :: xI x :: S) h Q ↔ xw sc d MW_law cW_law_382 L (xI (x + y) :: S) h Q := by refine am_wp_pure ?_; exact xr_add
theorem rW_law_382 (h0 : 0 ≤ x) (h1 : x < sc.1) (hn : sc.1 ≤ 2147483647) : xw sc d MW_law cW_law_382 L (xI x :: .ref 0 :: S) h Q ↔ xw sc d MW_law cW_law_383 L (xI (xsc sc x) :: S) h Q := by exact xw_iald (al_0 h0 h1 hn)
theorem rW_law_383 : xw sc d MW_law cW_law_383 [some (.ref 0), some (.ref 2), some (.ref 33), some (xI l3)] S h Q ↔ xw sc d MW_law cW_law_384 [some (.ref 0), some (.ref 2), some (.ref 33), some (xI l3)] (.ref 0 :: S) h Q := by refine am_wp_pure ?_; exact rfl
theorem rW_law_384 : xw sc d MW_law cW_law_384 [some (.ref 0), some (.ref 2), some (.ref 33), some (xI l3)] S h Q ↔ xw sc d MW_law cW_law_385 [some (.ref 0), some (.ref 2), some (.ref 33), some (xI l3)] (xI l3 :: S) h Q := by refine am_wp_pure ?_; exact rfl
theorem rW_law_385 : xw sc d MW_law cW_law_385 L S h Q ↔ xw sc d MW_law cW_law_386 L (xI 3 :: S) h Q := by refine am_wp_pure ?_; exact rfl
theorem rW_law_386 : xw sc d MW_law cW_law_386 L (xI y :: xI x :: S) h Q ↔ xw sc d MW_law cW_law_387 L (xI (x + y) :: S) h Q := by refine am_wp_pure ?_; exact xr_add
theorem rW_law_387 (h0 : 0 ≤ x) (h1 : x < sc.1) (hn : sc.1 ≤ 2147483647) : xw sc d MW_law cW_law_387 L (xI x :: .ref 0 :: S) h Q ↔ xw sc d MW_law cW_law_388 L (xI (xsc sc x) :: S) h Q := by exact xw_iald (al_0 h0 h1 hn)
theorem rW_law_388 : xw sc (d + 1) MW_law cW_law_388 L [xI x0, xI x1, xI x2, .ref 2] (xH G K) Q ↔ xc sc d MC_require [.ref 2, xI x2, xI x1, xI x0] (xH G K) (fun r h => xw sc (d + 1) MW_law cW_law_391 L (r.toList ++ []) h Q) := by exact am_wp_inv rfl rfl rfl rfl rfl
theorem rW_law_391 : xw sc d MW_law cW_law_391 [some (.ref 0), some (.ref 2), some (.ref 33), some (xI l3)] S h Q ↔ xw sc d MW_law cW_law_392 [some (.ref 0), some (.ref 2), some (.ref 33), some (xI l3)] (.ref 33 :: S) h Q := by refine am_wp_pure ?_; exact rfl
theorem rW_law_392 : xw sc d MW_law cW_law_392 [some (.ref 0), some (.ref 2), some (.ref 33), some (xI l3)] S h Q ↔ xw sc d MW_law cW_law_393 [some (.ref 0), some (.ref 2), some (.ref 33), some (xI l3)] (.ref 0 :: S) h Q := by refine am_wp_pure ?_; exact rfl
theorem rW_law_393 : xw sc d MW_law cW_law_393 [some (.ref 0), some (.ref 2), some (.ref 33), some (xI l3)] S h Q ↔ xw sc d MW_law cW_law_394 [some (.ref 0), some (.ref 2), some (.ref 33), some (xI l3)] (xI l3 :: S) h Q := by refine am_wp_pure ?_; exact rfl
theorem rW_law_394 : xw sc d MW_law cW_law_394 L S h Q ↔ xw sc d MW_law cW_law_395 L (xI 1 :: S) h Q := by refine am_wp_pure ?_; exact rfl
theorem rW_law_395 : xw sc d MW_law cW_law_395 L (xI y :: xI x :: S) h Q ↔ xw sc d MW_law cW_law_396 L (xI (x + y) :: S) h Q := by refine am_wp_pure ?_; exact xr_add
theorem rW_law_396 (h0 : 0 ≤ x) (h1 : x < sc.1) (hn : sc.1 ≤ 2147483647) : xw sc d MW_law cW_law_396 L (xI x :: .ref 0 :: S) h Q ↔ xw sc d MW_law cW_law_397 L (xI (xsc sc x) :: S) h Q := by exact xw_iald (al_0 h0 h1 hn)
set_option maxRecDepth 20000 in
theorem rW_law_397 (hx : xin x) : xw sc d MW_law cW_law_397 L (xI x :: S) h Q ↔ (x = 0 → xw sc d MW_law cW_law_404 L S h Q) ∧ (¬ x = 0 → xw sc d MW_law cW_law_400 L S h Q) := by exact xw_if .eq hx rfl
theorem rW_law_400 : xw sc d MW_law cW_law_400 L S h Q ↔ xw sc d MW_law cW_law_401 L (xI 1 :: S) h Q := by refine am_wp_pure ?_; exact rfl
set_option maxRecDepth 20000 in
theorem rW_law_401 : xw sc d MW_law cW_law_401 L S h Q ↔ xw sc d MW_law cW_law_405 L S h Q := by exact xw_goto rfl
theorem rW_law_404 : xw sc d MW_law cW_law_404 L S h Q ↔ xw sc d MW_law cW_law_405 L (xI 0 :: S) h Q := by refine am_wp_pure ?_; exact rfl
theorem rW_law_405 : xw sc d MW_law cW_law_405 [some (.ref 0), some (.ref 2), some (.ref 33), some (xI l3)] S h Q ↔ xw sc d MW_law cW_law_406 [some (.ref 0), some (.ref 2), some (.ref 33), some (xI l3)] (.ref 0 :: S) h Q := by refine am_wp_pure ?_; exact rfl
theorem rW_law_406 : xw sc d MW_law cW_law_406 [some (.ref 0), some (.ref 2), some (.ref 33), some (xI l3)] S h Q ↔ xw sc d MW_law cW_law_407 [some (.ref 0), some (.ref 2), some (.ref 33), some (xI l3)] (xI l3 :: S) h Q := by refine am_wp_pure ?_; exact rfl
theorem rW_law_407 : xw sc d MW_law cW_law_407 L S h Q ↔ xw sc d MW_law cW_law_408 L (xI 2 :: S) h Q := by refine am_wp_pure ?_; exact rfl
theorem rW_law_408 : xw sc d MW_law cW_law_408 L (xI y :: xI x :: S) h Q ↔ xw sc d MW_law cW_law_409 L (xI (x + y) :: S) h Q := by refine am_wp_pure ?_; exact xr_add
theorem rW_law_409 (h0 : 0 ≤ x) (h1 : x < sc.1) (hn : sc.1 ≤ 2147483647) : xw sc d MW_law cW_law_409 L (xI x :: .ref 0 :: S) h Q ↔ xw sc d MW_law cW_law_410 L (xI (xsc sc x) :: S) h Q := by exact xw_iald (al_0 h0 h1 hn)
theorem rW_law_410 : xw sc d MW_law cW_law_410 [some (.ref 0), some (.ref 2), some (.ref 33), some (xI l3)] S h Q ↔ xw sc d MW_law cW_law_411 [some (.ref 0), some (.ref 2), some (.ref 33), some (xI l3)] (.ref 0 :: S) h Q := by refine am_wp_pure ?_; exact rfl
theorem rW_law_411 : xw sc d MW_law cW_law_411 [some (.ref 0), some (.ref 2), some (.ref 33), some (xI l3)] S h Q ↔ xw sc d MW_law cW_law_412 [some (.ref 0), some (.ref 2), some (.ref 33), some (xI l3)] (xI l3 :: S) h Q := by refine am_wp_pure ?_; exact rfl
theorem rW_law_412 : xw sc d MW_law cW_law_412 L S h Q ↔ xw sc d MW_law cW_law_413 L (xI 3 :: S) h Q := by refine am_wp_pure ?_; exact rfl
theorem rW_law_413 : xw sc d MW_law cW_law_413 L (xI y :: xI x :: S) h Q ↔ xw sc d MW_law cW_law_414 L (xI (x + y) :: S) h Q := by refine am_wp_pure ?_; exact xr_add
theorem rW_law_414 (h0 : 0 ≤ x) (h1 : x < sc.1) (hn : sc.1 ≤ 2147483647) : xw sc d MW_law cW_law_414 L (xI x :: .ref 0 :: S) h Q ↔ xw sc d MW_law cW_law_415 L (xI (xsc sc x) :: S) h Q := by exact xw_iald (al_0 h0 h1 hn)
theorem rW_law_415 : xw sc (d + 1) MW_law cW_law_415 L [xI x0, xI x1, xI x2, .ref 33, xI x4] (xH G K) Q ↔ xc sc d Mm_require [.ref 33, xI x2, xI x1, xI x0] (xH G K) (fun r h => xw sc (d + 1) MW_law cW_law_418 L (r.toList ++ [xI x4]) h Q) := by exact am_wp_inv rfl rfl rfl rfl rfl
set_option maxRecDepth 20000 in
theorem rW_law_418 (hx : xin x) (hy : xin y) : xw sc d MW_law cW_law_418 L (xI y :: xI x :: S) h Q ↔ (x = y → xw sc d MW_law cW_law_591 L S h Q) ∧ (¬ x = y → xw sc d MW_law cW_law_421 L S h Q) := by exact xw_ic .eq hx hy rfl
theorem rW_law_421 : xw sc d MW_law cW_law_421 L S h Q ↔ xw sc d MW_law cW_law_422 L (xI 0 :: S) h Q := by refine am_wp_pure ?_; exact rfl
theorem rW_law_422 (hx : xbo x) : xw sc d MW_law cW_law_422 L [xI x] h Q ↔ Q (some (xI x)) h := by exact am_wp_ret rfl rfl rfl rfl rfl (xr_rz hx)
theorem rW_law_423 : xw sc d MW_law cW_law_423 [some (.ref 0), some (.ref 2), some (.ref 33), some (xI l3)] S h Q ↔ xw sc d MW_law cW_law_424 [some (.ref 0), some (.ref 2), some (.ref 33), some (xI l3)] (.ref 2 :: S) h Q := by refine am_wp_pure ?_; exact rfl
theorem rW_law_424 : xw sc d MW_law cW_law_424 [some (.ref 0), some (.ref 2), some (.ref 33), some (xI l3)] S h Q ↔ xw sc d MW_law cW_law_425 [some (.ref 0), some (.ref 2), some (.ref 33), some (xI l3)] (.ref 0 :: S) h Q := by refine am_wp_pure ?_; exact rfl
theorem rW_law_425 : xw sc d MW_law cW_law_425 [some (.ref 0), some (.ref 2), some (.ref 33), some (xI l3)] S h Q ↔ xw sc d MW_law cW_law_426 [some (.ref 0), some (.ref 2), some (.ref 33), some (xI l3)] (xI l3 :: S) h Q := by refine am_wp_pure ?_; exact rfl
theorem rW_law_426 : xw sc d MW_law cW_law_426 L S h Q ↔ xw sc d MW_law cW_law_427 L (xI 1 :: S) h Q := by refine am_wp_pure ?_; exact rfl
theorem rW_law_427 : xw sc d MW_law cW_law_427 L (xI y :: xI x :: S) h Q ↔ xw sc d MW_law cW_law_428 L (xI (x + y) :: S) h Q := by refine am_wp_pure ?_; exact xr_add
theorem rW_law_428 (h0 : 0 ≤ x) (h1 : x < sc.1) (hn : sc.1 ≤ 2147483647) : xw sc d MW_law cW_law_428 L (xI x :: .ref 0 :: S) h Q ↔ xw sc d MW_law cW_law_429 L (xI (xsc sc x) :: S) h Q := by exact xw_iald (al_0 h0 h1 hn)
theorem rW_law_429 : xw sc (d + 1) MW_law cW_law_429 L [xI x0, .ref 2] (xH G K) Q ↔ xc sc d MC_withdraw [.ref 2, xI x0] (xH G K) (fun r h => xw sc (d + 1) MW_law cW_law_432 L (r.toList ++ []) h Q) := by exact am_wp_inv rfl rfl rfl rfl rfl
theorem rW_law_432 : xw sc d MW_law cW_law_432 [some (.ref 0), some (.ref 2), some (.ref 33), some (xI l3)] S h Q ↔ xw sc d MW_law cW_law_433 [some (.ref 0), some (.ref 2), some (.ref 33), some (xI l3)] (.ref 33 :: S) h Q := by refine am_wp_pure ?_; exact rfl
theorem rW_law_433 : xw sc d MW_law cW_law_433 [some (.ref 0), some (.ref 2), some (.ref 33), some (xI l3)] S h Q ↔ xw sc d MW_law cW_law_434 [some (.ref 0), some (.ref 2), some (.ref 33), some (xI l3)] (.ref 0 :: S) h Q := by refine am_wp_pure ?_; exact rfl
theorem rW_law_434 : xw sc d MW_law cW_law_434 [some (.ref 0), some (.ref 2), some (.ref 33), some (xI l3)] S h Q ↔ xw sc d MW_law cW_law_435 [some (.ref 0), some (.ref 2), some (.ref 33), some (xI l3)] (xI l3 :: S) h Q := by refine am_wp_pure ?_; exact rfl
theorem rW_law_435 : xw sc d MW_law cW_law_435 L S h Q ↔ xw sc d MW_law cW_law_436 L (xI 1 :: S) h Q := by refine am_wp_pure ?_; exact rfl
theorem rW_law_436 : xw sc d MW_law cW_law_436 L (xI y :: xI x :: S) h Q ↔ xw sc d MW_law cW_law_437 L (xI (x + y) :: S) h Q := by refine am_wp_pure ?_; exact xr_add
theorem rW_law_437 (h0 : 0 ≤ x) (h1 : x < sc.1) (hn : sc.1 ≤ 2147483647) : xw sc d MW_law cW_law_437 L (xI x :: .ref 0 :: S) h Q ↔ xw sc d MW_law cW_law_438 L (xI (xsc sc x) :: S) h Q := by exact xw_iald (al_0 h0 h1 hn)
theorem rW_law_438 : xw sc (d + 1) MW_law cW_law_438 L [xI x0, .ref 33, xI x2] (xH G K) Q ↔ xc sc d Mm_withdraw [.ref 33, xI x0] (xH G K) (fun r h => xw sc (d + 1) MW_law cW_law_441 L (r.toList ++ [xI x2]) h Q) := by exact am_wp_inv rfl rfl rfl rfl rfl
set_option maxRecDepth 20000 in
theorem rW_law_441 (hx : xin x) (hy : xin y) : xw sc d MW_law cW_law_441 L (xI y :: xI x :: S) h Q ↔ (x = y → xw sc d MW_law cW_law_591 L S h Q) ∧ (¬ x = y → xw sc d MW_law cW_law_444 L S h Q) := by exact xw_ic .eq hx hy rfl
theorem rW_law_444 : xw sc d MW_law cW_law_444 L S h Q ↔ xw sc d MW_law cW_law_445 L (xI 0 :: S) h Q := by refine am_wp_pure ?_; exact rfl
theorem rW_law_445 (hx : xbo x) : xw sc d MW_law cW_law_445 L [xI x] h Q ↔ Q (some (xI x)) h := by exact am_wp_ret rfl rfl rfl rfl rfl (xr_rz hx)
theorem rW_law_446 : xw sc d MW_law cW_law_446 [some (.ref 0), some (.ref 2), some (.ref 33), some (xI l3)] S h Q ↔ xw sc d MW_law cW_law_447 [some (.ref 0), some (.ref 2), some (.ref 33), some (xI l3)] (.ref 2 :: S) h Q := by refine am_wp_pure ?_; exact rfl
theorem rW_law_447 : xw sc (d + 1) MW_law cW_law_447 L [.ref 2] (xH G K) Q ↔ xc sc d MC_compile [.ref 2] (xH G K) (fun r h => xw sc (d + 1) MW_law cW_law_450 L (r.toList ++ []) h Q) := by exact am_wp_inv rfl rfl rfl rfl rfl
theorem rW_law_450 : xw sc d MW_law cW_law_450 [some (.ref 0), some (.ref 2), some (.ref 33), some (xI l3)] S h Q ↔ xw sc d MW_law cW_law_451 [some (.ref 0), some (.ref 2), some (.ref 33), some (xI l3)] (.ref 33 :: S) h Q := by refine am_wp_pure ?_; exact rfl
theorem rW_law_451 : xw sc (d + 1) MW_law cW_law_451 L [.ref 33, xI x1] (xH G K) Q ↔ xc sc d Mm_compile [.ref 33] (xH G K) (fun r h => xw sc (d + 1) MW_law cW_law_454 L (r.toList ++ [xI x1]) h Q) := by exact am_wp_inv rfl rfl rfl rfl rfl
set_option maxRecDepth 20000 in
theorem rW_law_454 (hx : xin x) (hy : xin y) : xw sc d MW_law cW_law_454 L (xI y :: xI x :: S) h Q ↔ (x = y → xw sc d MW_law cW_law_591 L S h Q) ∧ (¬ x = y → xw sc d MW_law cW_law_457 L S h Q) := by exact xw_ic .eq hx hy rfl
theorem rW_law_457 : xw sc d MW_law cW_law_457 L S h Q ↔ xw sc d MW_law cW_law_458 L (xI 0 :: S) h Q := by refine am_wp_pure ?_; exact rfl
theorem rW_law_458 (hx : xbo x) : xw sc d MW_law cW_law_458 L [xI x] h Q ↔ Q (some (xI x)) h := by exact am_wp_ret rfl rfl rfl rfl rfl (xr_rz hx)
theorem rW_law_459 : xw sc d MW_law cW_law_459 [some (.ref 0), some (.ref 2), some (.ref 33), some (xI l3)] S h Q ↔ xw sc d MW_law cW_law_460 [some (.ref 0), some (.ref 2), some (.ref 33), some (xI l3)] (.ref 2 :: S) h Q := by refine am_wp_pure ?_; exact rfl
theorem rW_law_460 : xw sc d MW_law cW_law_460 [some (.ref 0), some (.ref 2), some (.ref 33), some (xI l3)] S h Q ↔ xw sc d MW_law cW_law_461 [some (.ref 0), some (.ref 2), some (.ref 33), some (xI l3)] (.ref 0 :: S) h Q := by refine am_wp_pure ?_; exact rfl
theorem rW_law_461 : xw sc d MW_law cW_law_461 [some (.ref 0), some (.ref 2), some (.ref 33), some (xI l3)] S h Q ↔ xw sc d MW_law cW_law_462 [some (.ref 0), some (.ref 2), some (.ref 33), some (xI l3)] (xI l3 :: S) h Q := by refine am_wp_pure ?_; exact rfl
theorem rW_law_462 : xw sc d MW_law cW_law_462 L S h Q ↔ xw sc d MW_law cW_law_463 L (xI 1 :: S) h Q := by refine am_wp_pure ?_; exact rfl
theorem rW_law_463 : xw sc d MW_law cW_law_463 L (xI y :: xI x :: S) h Q ↔ xw sc d MW_law cW_law_464 L (xI (x + y) :: S) h Q := by refine am_wp_pure ?_; exact xr_add
theorem rW_law_464 (h0 : 0 ≤ x) (h1 : x < sc.1) (hn : sc.1 ≤ 2147483647) : xw sc d MW_law cW_law_464 L (xI x :: .ref 0 :: S) h Q ↔ xw sc d MW_law cW_law_465 L (xI (xsc sc x) :: S) h Q := by exact xw_iald (al_0 h0 h1 hn)
theorem rW_law_465 : xw sc (d + 1) MW_law cW_law_465 L [xI x0, .ref 2] (xH G K) Q ↔ xc sc d MC_rows [.ref 2, xI x0] (xH G K) (fun r h => xw sc (d + 1) MW_law cW_law_468 L (r.toList ++ []) h Q) := by exact am_wp_inv rfl rfl rfl rfl rfl
theorem rW_law_468 : xw sc d MW_law cW_law_468 [some (.ref 0), some (.ref 2), some (.ref 33), some (xI l3)] S h Q ↔ xw sc d MW_law cW_law_469 [some (.ref 0), some (.ref 2), some (.ref 33), some (xI l3)] (.ref 33 :: S) h Q := by refine am_wp_pure ?_; exact rfl
theorem rW_law_469 : xw sc d MW_law cW_law_469 [some (.ref 0), some (.ref 2), some (.ref 33), some (xI l3)] S h Q ↔ xw sc d MW_law cW_law_470 [some (.ref 0), some (.ref 2), some (.ref 33), some (xI l3)] (.ref 0 :: S) h Q := by refine am_wp_pure ?_; exact rfl
theorem rW_law_470 : xw sc d MW_law cW_law_470 [some (.ref 0), some (.ref 2), some (.ref 33), some (xI l3)] S h Q ↔ xw sc d MW_law cW_law_471 [some (.ref 0), some (.ref 2), some (.ref 33), some (xI l3)] (xI l3 :: S) h Q := by refine am_wp_pure ?_; exact rfl
theorem rW_law_471 : xw sc d MW_law cW_law_471 L S h Q ↔ xw sc d MW_law cW_law_472 L (xI 1 :: S) h Q := by refine am_wp_pure ?_; exact rfl
theorem rW_law_472 : xw sc d MW_law cW_law_472 L (xI y :: xI x :: S) h Q ↔ xw sc d MW_law cW_law_473 L (xI (x + y) :: S) h Q := by refine am_wp_pure ?_; exact xr_add
theorem rW_law_473 (h0 : 0 ≤ x) (h1 : x < sc.1) (hn : sc.1 ≤ 2147483647) : xw sc d MW_law cW_law_473 L (xI x :: .ref 0 :: S) h Q ↔ xw sc d MW_law cW_law_474 L (xI (xsc sc x) :: S) h Q := by exact xw_iald (al_0 h0 h1 hn)
theorem rW_law_474 : xw sc (d + 1) MW_law cW_law_474 L [xI x0, .ref 33, xI x2] (xH G K) Q ↔ xc sc d Mm_rows [.ref 33, xI x0] (xH G K) (fun r h => xw sc (d + 1) MW_law cW_law_477 L (r.toList ++ [xI x2]) h Q) := by exact am_wp_inv rfl rfl rfl rfl rfl
set_option maxRecDepth 20000 in
theorem rW_law_477 (hx : xin x) (hy : xin y) : xw sc d MW_law cW_law_477 L (xI y :: xI x :: S) h Q ↔ (x = y → xw sc d MW_law cW_law_591 L S h Q) ∧ (¬ x = y → xw sc d MW_law cW_law_480 L S h Q) := by exact xw_ic .eq hx hy rfl
theorem rW_law_480 : xw sc d MW_law cW_law_480 L S h Q ↔ xw sc d MW_law cW_law_481 L (xI 0 :: S) h Q := by refine am_wp_pure ?_; exact rfl
theorem rW_law_481 (hx : xbo x) : xw sc d MW_law cW_law_481 L [xI x] h Q ↔ Q (some (xI x)) h := by exact am_wp_ret rfl rfl rfl rfl rfl (xr_rz hx)
theorem rW_law_482 : xw sc d MW_law cW_law_482 [some (.ref 0), some (.ref 2), some (.ref 33), some (xI l3)] S h Q ↔ xw sc d MW_law cW_law_483 [some (.ref 0), some (.ref 2), some (.ref 33), some (xI l3)] (.ref 2 :: S) h Q := by refine am_wp_pure ?_; exact rfl
theorem rW_law_483 : xw sc d MW_law cW_law_483 [some (.ref 0), some (.ref 2), some (.ref 33), some (xI l3)] S h Q ↔ xw sc d MW_law cW_law_484 [some (.ref 0), some (.ref 2), some (.ref 33), some (xI l3)] (.ref 0 :: S) h Q := by refine am_wp_pure ?_; exact rfl
theorem rW_law_484 : xw sc d MW_law cW_law_484 [some (.ref 0), some (.ref 2), some (.ref 33), some (xI l3)] S h Q ↔ xw sc d MW_law cW_law_485 [some (.ref 0), some (.ref 2), some (.ref 33), some (xI l3)] (xI l3 :: S) h Q := by refine am_wp_pure ?_; exact rfl
theorem rW_law_485 : xw sc d MW_law cW_law_485 L S h Q ↔ xw sc d MW_law cW_law_486 L (xI 1 :: S) h Q := by refine am_wp_pure ?_; exact rfl
theorem rW_law_486 : xw sc d MW_law cW_law_486 L (xI y :: xI x :: S) h Q ↔ xw sc d MW_law cW_law_487 L (xI (x + y) :: S) h Q := by refine am_wp_pure ?_; exact xr_add
theorem rW_law_487 (h0 : 0 ≤ x) (h1 : x < sc.1) (hn : sc.1 ≤ 2147483647) : xw sc d MW_law cW_law_487 L (xI x :: .ref 0 :: S) h Q ↔ xw sc d MW_law cW_law_488 L (xI (xsc sc x) :: S) h Q := by exact xw_iald (al_0 h0 h1 hn)
theorem rW_law_488 : xw sc d MW_law cW_law_488 [some (.ref 0), some (.ref 2), some (.ref 33), some (xI l3)] S h Q ↔ xw sc d MW_law cW_law_489 [some (.ref 0), some (.ref 2), some (.ref 33), some (xI l3)] (.ref 0 :: S) h Q := by refine am_wp_pure ?_; exact rfl
theorem rW_law_489 : xw sc d MW_law cW_law_489 [some (.ref 0), some (.ref 2), some (.ref 33), some (xI l3)] S h Q ↔ xw sc d MW_law cW_law_490 [some (.ref 0), some (.ref 2), some (.ref 33), some (xI l3)] (xI l3 :: S) h Q := by refine am_wp_pure ?_; exact rfl
theorem rW_law_490 : xw sc d MW_law cW_law_490 L S h Q ↔ xw sc d MW_law cW_law_491 L (xI 2 :: S) h Q := by refine am_wp_pure ?_; exact rfl
theorem rW_law_491 : xw sc d MW_law cW_law_491 L (xI y :: xI x :: S) h Q ↔ xw sc d MW_law cW_law_492 L (xI (x + y) :: S) h Q := by refine am_wp_pure ?_; exact xr_add
theorem rW_law_492 (h0 : 0 ≤ x) (h1 : x < sc.1) (hn : sc.1 ≤ 2147483647) : xw sc d MW_law cW_law_492 L (xI x :: .ref 0 :: S) h Q ↔ xw sc d MW_law cW_law_493 L (xI (xsc sc x) :: S) h Q := by exact xw_iald (al_0 h0 h1 hn)
theorem rW_law_493 : xw sc (d + 1) MW_law cW_law_493 L [xI x0, xI x1, .ref 2] (xH G K) Q ↔ xc sc d MC_entry [.ref 2, xI x1, xI x0] (xH G K) (fun r h => xw sc (d + 1) MW_law cW_law_496 L (r.toList ++ []) h Q) := by exact am_wp_inv rfl rfl rfl rfl rfl
theorem rW_law_496 : xw sc d MW_law cW_law_496 [some (.ref 0), some (.ref 2), some (.ref 33), some (xI l3)] S h Q ↔ xw sc d MW_law cW_law_497 [some (.ref 0), some (.ref 2), some (.ref 33), some (xI l3)] (.ref 33 :: S) h Q := by refine am_wp_pure ?_; exact rfl
theorem rW_law_497 : xw sc d MW_law cW_law_497 [some (.ref 0), some (.ref 2), some (.ref 33), some (xI l3)] S h Q ↔ xw sc d MW_law cW_law_498 [some (.ref 0), some (.ref 2), some (.ref 33), some (xI l3)] (.ref 0 :: S) h Q := by refine am_wp_pure ?_; exact rfl
theorem rW_law_498 : xw sc d MW_law cW_law_498 [some (.ref 0), some (.ref 2), some (.ref 33), some (xI l3)] S h Q ↔ xw sc d MW_law cW_law_499 [some (.ref 0), some (.ref 2), some (.ref 33), some (xI l3)] (xI l3 :: S) h Q := by refine am_wp_pure ?_; exact rfl
theorem rW_law_499 : xw sc d MW_law cW_law_499 L S h Q ↔ xw sc d MW_law cW_law_500 L (xI 1 :: S) h Q := by refine am_wp_pure ?_; exact rfl
theorem rW_law_500 : xw sc d MW_law cW_law_500 L (xI y :: xI x :: S) h Q ↔ xw sc d MW_law cW_law_501 L (xI (x + y) :: S) h Q := by refine am_wp_pure ?_; exact xr_add
theorem rW_law_501 (h0 : 0 ≤ x) (h1 : x < sc.1) (hn : sc.1 ≤ 2147483647) : xw sc d MW_law cW_law_501 L (xI x :: .ref 0 :: S) h Q ↔ xw sc d MW_law cW_law_502 L (xI (xsc sc x) :: S) h Q := by exact xw_iald (al_0 h0 h1 hn)
theorem rW_law_502 : xw sc d MW_law cW_law_502 [some (.ref 0), some (.ref 2), some (.ref 33), some (xI l3)] S h Q ↔ xw sc d MW_law cW_law_503 [some (.ref 0), some (.ref 2), some (.ref 33), some (xI l3)] (.ref 0 :: S) h Q := by refine am_wp_pure ?_; exact rfl
theorem rW_law_503 : xw sc d MW_law cW_law_503 [some (.ref 0), some (.ref 2), some (.ref 33), some (xI l3)] S h Q ↔ xw sc d MW_law cW_law_504 [some (.ref 0), some (.ref 2), some (.ref 33), some (xI l3)] (xI l3 :: S) h Q := by refine am_wp_pure ?_; exact rfl
theorem rW_law_504 : xw sc d MW_law cW_law_504 L S h Q ↔ xw sc d MW_law cW_law_505 L (xI 2 :: S) h Q := by refine am_wp_pure ?_; exact rfl
theorem rW_law_505 : xw sc d MW_law cW_law_505 L (xI y :: xI x :: S) h Q ↔ xw sc d MW_law cW_law_506 L (xI (x + y) :: S) h Q := by refine am_wp_pure ?_; exact xr_add
theorem rW_law_506 (h0 : 0 ≤ x) (h1 : x < sc.1) (hn : sc.1 ≤ 2147483647) : xw sc d MW_law cW_law_506 L (xI x :: .ref 0 :: S) h Q ↔ xw sc d MW_law cW_law_507 L (xI (xsc sc x) :: S) h Q := by exact xw_iald (al_0 h0 h1 hn)
theorem rW_law_507 : xw sc (d + 1) MW_law cW_law_507 L [xI x0, xI x1, .ref 33, xI x3] (xH G K) Q ↔ xc sc d Mm_entry [.ref 33, xI x1, xI x0] (xH G K) (fun r h => xw sc (d + 1) MW_law cW_law_510 L (r.toList ++ [xI x3]) h Q) := by exact am_wp_inv rfl rfl rfl rfl rfl
set_option maxRecDepth 20000 in
theorem rW_law_510 (hx : xin x) (hy : xin y) : xw sc d MW_law cW_law_510 L (xI y :: xI x :: S) h Q ↔ (x = y → xw sc d MW_law cW_law_591 L S h Q) ∧ (¬ x = y → xw sc d MW_law cW_law_513 L S h Q) := by exact xw_ic .eq hx hy rfl
theorem rW_law_513 : xw sc d MW_law cW_law_513 L S h Q ↔ xw sc d MW_law cW_law_514 L (xI 0 :: S) h Q := by refine am_wp_pure ?_; exact rfl
theorem rW_law_514 (hx : xbo x) : xw sc d MW_law cW_law_514 L [xI x] h Q ↔ Q (some (xI x)) h := by exact am_wp_ret rfl rfl rfl rfl rfl (xr_rz hx)
theorem rW_law_515 : xw sc d MW_law cW_law_515 [some (.ref 0), some (.ref 2), some (.ref 33), some (xI l3)] S h Q ↔ xw sc d MW_law cW_law_516 [some (.ref 0), some (.ref 2), some (.ref 33), some (xI l3)] (.ref 2 :: S) h Q := by refine am_wp_pure ?_; exact rfl
theorem rW_law_516 : xw sc d MW_law cW_law_516 [some (.ref 0), some (.ref 2), some (.ref 33), some (xI l3)] S h Q ↔ xw sc d MW_law cW_law_517 [some (.ref 0), some (.ref 2), some (.ref 33), some (xI l3)] (.ref 0 :: S) h Q := by refine am_wp_pure ?_; exact rfl
theorem rW_law_517 : xw sc d MW_law cW_law_517 [some (.ref 0), some (.ref 2), some (.ref 33), some (xI l3)] S h Q ↔ xw sc d MW_law cW_law_518 [some (.ref 0), some (.ref 2), some (.ref 33), some (xI l3)] (xI l3 :: S) h Q := by refine am_wp_pure ?_; exact rfl
theorem rW_law_518 : xw sc d MW_law cW_law_518 L S h Q ↔ xw sc d MW_law cW_law_519 L (xI 1 :: S) h Q := by refine am_wp_pure ?_; exact rfl
theorem rW_law_519 : xw sc d MW_law cW_law_519 L (xI y :: xI x :: S) h Q ↔ xw sc d MW_law cW_law_520 L (xI (x + y) :: S) h Q := by refine am_wp_pure ?_; exact xr_add
theorem rW_law_520 (h0 : 0 ≤ x) (h1 : x < sc.1) (hn : sc.1 ≤ 2147483647) : xw sc d MW_law cW_law_520 L (xI x :: .ref 0 :: S) h Q ↔ xw sc d MW_law cW_law_521 L (xI (xsc sc x) :: S) h Q := by exact xw_iald (al_0 h0 h1 hn)
theorem rW_law_521 : xw sc (d + 1) MW_law cW_law_521 L [xI x0, .ref 2] (xH G K) Q ↔ xc sc d MC_column [.ref 2, xI x0] (xH G K) (fun r h => xw sc (d + 1) MW_law cW_law_524 L (r.toList ++ []) h Q) := by exact am_wp_inv rfl rfl rfl rfl rfl
theorem rW_law_524 : xw sc d MW_law cW_law_524 [some (.ref 0), some (.ref 2), some (.ref 33), some (xI l3)] S h Q ↔ xw sc d MW_law cW_law_525 [some (.ref 0), some (.ref 2), some (.ref 33), some (xI l3)] (.ref 33 :: S) h Q := by refine am_wp_pure ?_; exact rfl
theorem rW_law_525 : xw sc d MW_law cW_law_525 [some (.ref 0), some (.ref 2), some (.ref 33), some (xI l3)] S h Q ↔ xw sc d MW_law cW_law_526 [some (.ref 0), some (.ref 2), some (.ref 33), some (xI l3)] (.ref 0 :: S) h Q := by refine am_wp_pure ?_; exact rfl
theorem rW_law_526 : xw sc d MW_law cW_law_526 [some (.ref 0), some (.ref 2), some (.ref 33), some (xI l3)] S h Q ↔ xw sc d MW_law cW_law_527 [some (.ref 0), some (.ref 2), some (.ref 33), some (xI l3)] (xI l3 :: S) h Q := by refine am_wp_pure ?_; exact rfl
theorem rW_law_527 : xw sc d MW_law cW_law_527 L S h Q ↔ xw sc d MW_law cW_law_528 L (xI 1 :: S) h Q := by refine am_wp_pure ?_; exact rfl
theorem rW_law_528 : xw sc d MW_law cW_law_528 L (xI y :: xI x :: S) h Q ↔ xw sc d MW_law cW_law_529 L (xI (x + y) :: S) h Q := by refine am_wp_pure ?_; exact xr_add
theorem rW_law_529 (h0 : 0 ≤ x) (h1 : x < sc.1) (hn : sc.1 ≤ 2147483647) : xw sc d MW_law cW_law_529 L (xI x :: .ref 0 :: S) h Q ↔ xw sc d MW_law cW_law_530 L (xI (xsc sc x) :: S) h Q := by exact xw_iald (al_0 h0 h1 hn)
theorem rW_law_530 : xw sc (d + 1) MW_law cW_law_530 L [xI x0, .ref 33, xI x2] (xH G K) Q ↔ xc sc d Mm_column [.ref 33, xI x0] (xH G K) (fun r h => xw sc (d + 1) MW_law cW_law_533 L (r.toList ++ [xI x2]) h Q) := by exact am_wp_inv rfl rfl rfl rfl rfl
set_option maxRecDepth 20000 in
theorem rW_law_533 (hx : xin x) (hy : xin y) : xw sc d MW_law cW_law_533 L (xI y :: xI x :: S) h Q ↔ (x = y → xw sc d MW_law cW_law_591 L S h Q) ∧ (¬ x = y → xw sc d MW_law cW_law_536 L S h Q) := by exact xw_ic .eq hx hy rfl
theorem rW_law_536 : xw sc d MW_law cW_law_536 L S h Q ↔ xw sc d MW_law cW_law_537 L (xI 0 :: S) h Q := by refine am_wp_pure ?_; exact rfl
theorem rW_law_537 (hx : xbo x) : xw sc d MW_law cW_law_537 L [xI x] h Q ↔ Q (some (xI x)) h := by exact am_wp_ret rfl rfl rfl rfl rfl (xr_rz hx)
theorem rW_law_538 : xw sc d MW_law cW_law_538 [some (.ref 0), some (.ref 2), some (.ref 33), some (xI l3)] S h Q ↔ xw sc d MW_law cW_law_539 [some (.ref 0), some (.ref 2), some (.ref 33), some (xI l3)] (.ref 2 :: S) h Q := by refine am_wp_pure ?_; exact rfl
theorem rW_law_539 : xw sc (d + 1) MW_law cW_law_539 L [.ref 2] (xH G K) Q ↔ xc sc d MC_lift [.ref 2] (xH G K) (fun r h => xw sc (d + 1) MW_law cW_law_542 L (r.toList ++ []) h Q) := by exact am_wp_inv rfl rfl rfl rfl rfl
theorem rW_law_542 : xw sc d MW_law cW_law_542 [some (.ref 0), some (.ref 2), some (.ref 33), some (xI l3)] S h Q ↔ xw sc d MW_law cW_law_543 [some (.ref 0), some (.ref 2), some (.ref 33), some (xI l3)] (.ref 33 :: S) h Q := by refine am_wp_pure ?_; exact rfl
theorem rW_law_543 : xw sc (d + 1) MW_law cW_law_543 L [.ref 33, xI x1] (xH G K) Q ↔ xc sc d Mm_lift [.ref 33] (xH G K) (fun r h => xw sc (d + 1) MW_law cW_law_546 L (r.toList ++ [xI x1]) h Q) := by exact am_wp_inv rfl rfl rfl rfl rfl
set_option maxRecDepth 20000 in
theorem rW_law_546 (hx : xin x) (hy : xin y) : xw sc d MW_law cW_law_546 L (xI y :: xI x :: S) h Q ↔ (x = y → xw sc d MW_law cW_law_591 L S h Q) ∧ (¬ x = y → xw sc d MW_law cW_law_549 L S h Q) := by exact xw_ic .eq hx hy rfl
theorem rW_law_549 : xw sc d MW_law cW_law_549 L S h Q ↔ xw sc d MW_law cW_law_550 L (xI 0 :: S) h Q := by refine am_wp_pure ?_; exact rfl
theorem rW_law_550 (hx : xbo x) : xw sc d MW_law cW_law_550 L [xI x] h Q ↔ Q (some (xI x)) h := by exact am_wp_ret rfl rfl rfl rfl rfl (xr_rz hx)
theorem rW_law_551 : xw sc d MW_law cW_law_551 [some (.ref 0), some (.ref 2), some (.ref 33), some (xI l3)] S h Q ↔ xw sc d MW_law cW_law_552 [some (.ref 0), some (.ref 2), some (.ref 33), some (xI l3)] (.ref 2 :: S) h Q := by refine am_wp_pure ?_; exact rfl
theorem rW_law_552 : xw sc (d + 1) MW_law cW_law_552 L [.ref 2] (xH G K) Q ↔ xc sc d MC_fits [.ref 2] (xH G K) (fun r h => xw sc (d + 1) MW_law cW_law_555 L (r.toList ++ []) h Q) := by exact am_wp_inv rfl rfl rfl rfl rfl
theorem rW_law_555 : xw sc d MW_law cW_law_555 [some (.ref 0), some (.ref 2), some (.ref 33), some (xI l3)] S h Q ↔ xw sc d MW_law cW_law_556 [some (.ref 0), some (.ref 2), some (.ref 33), some (xI l3)] (.ref 33 :: S) h Q := by refine am_wp_pure ?_; exact rfl
theorem rW_law_556 : xw sc (d + 1) MW_law cW_law_556 L [.ref 33, xI x1] (xH G K) Q ↔ xc sc d Mm_fits [.ref 33] (xH G K) (fun r h => xw sc (d + 1) MW_law cW_law_559 L (r.toList ++ [xI x1]) h Q) := by exact am_wp_inv rfl rfl rfl rfl rfl
set_option maxRecDepth 20000 in
theorem rW_law_559 (hx : xin x) (hy : xin y) : xw sc d MW_law cW_law_559 L (xI y :: xI x :: S) h Q ↔ (x = y → xw sc d MW_law cW_law_591 L S h Q) ∧ (¬ x = y → xw sc d MW_law cW_law_562 L S h Q) := by exact xw_ic .eq hx hy rfl
theorem rW_law_562 : xw sc d MW_law cW_law_562 L S h Q ↔ xw sc d MW_law cW_law_563 L (xI 0 :: S) h Q := by refine am_wp_pure ?_; exact rfl
theorem rW_law_563 (hx : xbo x) : xw sc d MW_law cW_law_563 L [xI x] h Q ↔ Q (some (xI x)) h := by exact am_wp_ret rfl rfl rfl rfl rfl (xr_rz hx)
theorem rW_law_564 : xw sc d MW_law cW_law_564 [some (.ref 0), some (.ref 2), some (.ref 33), some (xI l3)] S h Q ↔ xw sc d MW_law cW_law_565 [some (.ref 0), some (.ref 2), some (.ref 33), some (xI l3)] (.ref 2 :: S) h Q := by refine am_wp_pure ?_; exact rfl
theorem rW_law_565 : xw sc (d + 1) MW_law cW_law_565 L [.ref 2] (xH G K) Q ↔ xc sc d MC_cost [.ref 2] (xH G K) (fun r h => xw sc (d + 1) MW_law cW_law_568 L (r.toList ++ []) h Q) := by exact am_wp_inv rfl rfl rfl rfl rfl
theorem rW_law_568 : xw sc d MW_law cW_law_568 [some (.ref 0), some (.ref 2), some (.ref 33), some (xI l3)] S h Q ↔ xw sc d MW_law cW_law_569 [some (.ref 0), some (.ref 2), some (.ref 33), some (xI l3)] (.ref 33 :: S) h Q := by refine am_wp_pure ?_; exact rfl
theorem rW_law_569 : xw sc (d + 1) MW_law cW_law_569 L [.ref 33, xJ x1] (xH G K) Q ↔ xc sc d Mm_cost [.ref 33] (xH G K) (fun r h => xw sc (d + 1) MW_law cW_law_572 L (r.toList ++ [xJ x1]) h Q) := by exact am_wp_inv rfl rfl rfl rfl rfl
theorem rW_law_572 (hx : xinl x) (hy : xinl y) : xw sc d MW_law cW_law_572 L (xJ y :: xJ x :: S) h Q ↔ xw sc d MW_law cW_law_573 L (xI (xcmp x y) :: S) h Q := by refine am_wp_pure ?_; exact xr_lcmp hx hy
set_option maxRecDepth 20000 in
theorem rW_law_573 (hx : xin x) : xw sc d MW_law cW_law_573 L (xI x :: S) h Q ↔ (x = 0 → xw sc d MW_law cW_law_591 L S h Q) ∧ (¬ x = 0 → xw sc d MW_law cW_law_576 L S h Q) := by exact xw_if .eq hx rfl
theorem rW_law_576 : xw sc d MW_law cW_law_576 L S h Q ↔ xw sc d MW_law cW_law_577 L (xI 0 :: S) h Q := by refine am_wp_pure ?_; exact rfl
theorem rW_law_577 (hx : xbo x) : xw sc d MW_law cW_law_577 L [xI x] h Q ↔ Q (some (xI x)) h := by exact am_wp_ret rfl rfl rfl rfl rfl (xr_rz hx)
theorem rW_law_578 : xw sc d MW_law cW_law_578 [some (.ref 0), some (.ref 2), some (.ref 33), some (xI l3)] S h Q ↔ xw sc d MW_law cW_law_579 [some (.ref 0), some (.ref 2), some (.ref 33), some (xI l3)] (.ref 2 :: S) h Q := by refine am_wp_pure ?_; exact rfl
theorem rW_law_579 : xw sc (d + 1) MW_law cW_law_579 L [.ref 2] (xH G K) Q ↔ xc sc d MC_feasible [.ref 2] (xH G K) (fun r h => xw sc (d + 1) MW_law cW_law_582 L (r.toList ++ []) h Q) := by exact am_wp_inv rfl rfl rfl rfl rfl
theorem rW_law_582 : xw sc d MW_law cW_law_582 [some (.ref 0), some (.ref 2), some (.ref 33), some (xI l3)] S h Q ↔ xw sc d MW_law cW_law_583 [some (.ref 0), some (.ref 2), some (.ref 33), some (xI l3)] (.ref 33 :: S) h Q := by refine am_wp_pure ?_; exact rfl
theorem rW_law_583 : xw sc (d + 1) MW_law cW_law_583 L [.ref 33, xI x1] (xH G K) Q ↔ xc sc d Mm_feasible [.ref 33] (xH G K) (fun r h => xw sc (d + 1) MW_law cW_law_586 L (r.toList ++ [xI x1]) h Q) := by exact am_wp_inv rfl rfl rfl rfl rfl
set_option maxRecDepth 20000 in
theorem rW_law_586 (hx : xin x) (hy : xin y) : xw sc d MW_law cW_law_586 L (xI y :: xI x :: S) h Q ↔ (x = y → xw sc d MW_law cW_law_591 L S h Q) ∧ (¬ x = y → xw sc d MW_law cW_law_589 L S h Q) := by exact xw_ic .eq hx hy rfl
theorem rW_law_589 : xw sc d MW_law cW_law_589 L S h Q ↔ xw sc d MW_law cW_law_590 L (xI 0 :: S) h Q := by refine am_wp_pure ?_; exact rfl
theorem rW_law_590 (hx : xbo x) : xw sc d MW_law cW_law_590 L [xI x] h Q ↔ Q (some (xI x)) h := by exact am_wp_ret rfl rfl rfl rfl rfl (xr_rz hx)
theorem rW_law_591 : xw sc d MW_law cW_law_591 [some (.ref 0), some (.ref 2), some (.ref 33), some (xI l3)] S h Q ↔ xw sc d MW_law cW_law_594 [some (.ref 0), some (.ref 2), some (.ref 33), some (xI (l3 + 4))] S h Q := by refine am_wp_pure ?_; exact xr_inc rfl rfl
set_option maxRecDepth 20000 in
theorem rW_law_594 : xw sc d MW_law cW_law_594 L S h Q ↔ xw sc d MW_law cW_law_18 L S h Q := by exact xw_goto rfl
theorem rW_law_597 : xw sc d MW_law cW_law_597 [u0, u1, u2, u3] S h Q ↔ xw sc d MW_law cW_law_598 [none, none, none, none] (xI 1 :: S) h Q := by refine am_wp_pure ?_; exact rfl
theorem rW_law_598 (hx : xbo x) : xw sc d MW_law cW_law_598 L [xI x] h Q ↔ Q (some (xI x)) h := by exact am_wp_ret rfl rfl rfl rfl rfl (xr_rz hx)
end XRL
