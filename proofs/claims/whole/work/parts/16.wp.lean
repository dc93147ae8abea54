/-! What must hold before a run: one row an instruction. -/
theorem am_run_eq (P : List am_M) (Z : am_Z) (DF : List (List Value)) (n d : Nat) (M : am_M) (pc len : Nat) (i : Instr) (aux ks : List Nat) (is : List am_I) (L : am_L) (S : List Value) (h : am_H) : am_run P Z DF (n + 1) d M ((pc, i, len, aux, ks) :: is) L S h = (
    match am_pure i aux (am_kill ks L) S with
    | some (L', S') => am_run P Z DF n d M is L' S' h
    | none =>
    match am_hp Z DF i aux S h with
    | some (S', h') => am_run P Z DF n d M is (am_kill ks L) S' h'
    | none =>
    match am_br pc i aux S with
    | some (b, t, S') => am_run P Z DF n d M (if b = true then am_at (am_tb M) t else is) (am_kill ks L) S' h
    | none =>
    match d with
    | 0 => am_fin (am_ret (am_rt M) i S) h
    | d' + 1 =>
      match am_obj i aux S with
      | some S' => am_run P Z DF n (d' + 1) M is (am_kill ks L) S' h
      | none =>
      match am_inv P i aux S h with
      | some (N, vs, S') =>
        match am_run P Z DF n d' N (am_tb N) (am_ent N vs) [] h with
        | some (r, h') => am_run P Z DF n (d' + 1) M is (am_kill ks L) (r.toList ++ S') h'
        | none => none
      | none => am_fin (am_ret (am_rt M) i S) h) := by
  rfl
theorem am_run_mono1 (P : List am_M) (Z : am_Z) (DF : List (List Value)) : ∀ (n d : Nat) (M : am_M) (is : List am_I) (L : am_L) (S : List Value) (h : am_H) (x : Option Value × am_H), am_run P Z DF n d M is L S h = some x → am_run P Z DF (n + 1) d M is L S h = some x := by
  intro n
  induction n with
  | zero => intro d M is L S h x e; cases e
  | succ n ih =>
    intro d M is L S h x e
    match is, e with
    | [], e => cases e
    | (pc, i, len, aux, ks) :: is, e =>
      rw [am_run_eq] at e ⊢
      cases hp : am_pure i aux (am_kill ks L) S with
      | some q =>
        rw [hp] at e
        exact ih _ _ _ _ _ _ _ e
      | none =>
        rw [hp] at e
        dsimp only at e ⊢
        cases hh : am_hp Z DF i aux S h with
        | some q =>
          rw [hh] at e
          exact ih _ _ _ _ _ _ _ e
        | none =>
          rw [hh] at e
          dsimp only at e ⊢
          cases hb : am_br pc i aux S with
          | some q =>
            rw [hb] at e
            exact ih _ _ _ _ _ _ _ e
          | none =>
            rw [hb] at e
            dsimp only at e ⊢
            cases d with
            | zero => exact e
            | succ d =>
              dsimp only at e ⊢
              cases ho : am_obj i aux S with
              | some q =>
                rw [ho] at e
                exact ih _ _ _ _ _ _ _ e
              | none =>
                rw [ho] at e
                dsimp only at e ⊢
                cases hi : am_inv P i aux S h with
                | none => rw [hi] at e; exact e
                | some q =>
                  obtain ⟨N, vs, S2⟩ := q
                  rw [hi] at e
                  dsimp only at e ⊢
                  cases hc : am_run P Z DF n d N (am_tb N) (am_ent N vs) [] h with
                  | none => rw [hc] at e; cases e
                  | some y =>
                    rw [hc] at e
                    rw [ih _ _ _ _ _ _ _ hc]
                    exact ih _ _ _ _ _ _ _ e
theorem am_run_mono (P : List am_M) (Z : am_Z) (DF : List (List Value)) {n k : Nat} (hk : n ≤ k) {d : Nat} {M : am_M} {is : List am_I} {L : am_L} {S : List Value} {h : am_H} {x : Option Value × am_H} (e : am_run P Z DF n d M is L S h = some x) : am_run P Z DF k d M is L S h = some x := by
  induction hk with
  | refl => exact e
  | step _ ih => exact am_run_mono1 P Z DF _ _ _ _ _ _ _ _ ih
def am_wp (P : List am_M) (Z : am_Z) (DF : List (List Value)) (d : Nat) (M : am_M) (is : List am_I) (L : am_L) (S : List Value) (h : am_H) (Q : Option Value → am_H → Prop) : Prop := ∃ n r h', am_run P Z DF n d M is L S h = some (r, h') ∧ Q r h'
section AMW
variable {P : List am_M} {Z : am_Z} {DF : List (List Value)} {d : Nat} {M : am_M} {is : List am_I} {L L' : am_L} {S S' : List Value} {h h' : am_H} {Q Q' : Option Value → am_H → Prop} {pc len : Nat} {i : Instr} {aux ks : List Nat}
theorem am_wp_up (w : am_wp P Z DF d M is L S h Q) (hq : ∀ r h, Q r h → Q' r h) : am_wp P Z DF d M is L S h Q' := by
  obtain ⟨n, r, h', e, q⟩ := w
  exact ⟨n, r, h', e, hq _ _ q⟩
theorem am_wp_pure (e : am_pure i aux (am_kill ks L) S = some (L', S')) : am_wp P Z DF d M ((pc, i, len, aux, ks) :: is) L S h Q ↔ am_wp P Z DF d M is L' S' h Q := by
  constructor
  · rintro ⟨n, r, h', hr, hq⟩
    cases n with
    | zero => cases hr
    | succ n =>
      rw [am_run_eq, e] at hr
      exact ⟨n, r, h', hr, hq⟩
  · rintro ⟨n, r, h', hr, hq⟩
    refine ⟨n + 1, r, h', ?_, hq⟩
    rw [am_run_eq, e]
    exact hr
theorem am_wp_hp (e0 : am_pure i aux (am_kill ks L) S = none) (e : am_hp Z DF i aux S h = some (S', h')) : am_wp P Z DF d M ((pc, i, len, aux, ks) :: is) L S h Q ↔ am_wp P Z DF d M is (am_kill ks L) S' h' Q := by
  constructor
  · rintro ⟨n, r, h', hr, hq⟩
    cases n with
    | zero => cases hr
    | succ n =>
      rw [am_run_eq, e0] at hr
      dsimp only at hr
      rw [e] at hr
      exact ⟨n, r, h', hr, hq⟩
  · rintro ⟨n, r, h', hr, hq⟩
    refine ⟨n + 1, r, h', ?_, hq⟩
    rw [am_run_eq, e0]
    dsimp only
    rw [e]
    exact hr
theorem am_wp_br {bb : Bool} {t : Nat} (e0 : am_pure i aux (am_kill ks L) S = none) (e1 : am_hp Z DF i aux S h = none) (e : am_br pc i aux S = some (bb, t, S')) : am_wp P Z DF d M ((pc, i, len, aux, ks) :: is) L S h Q ↔ am_wp P Z DF d M (if bb = true then am_at (am_tb M) t else is) (am_kill ks L) S' h Q := by
  constructor
  · rintro ⟨n, r, h', hr, hq⟩
    cases n with
    | zero => cases hr
    | succ n =>
      rw [am_run_eq, e0] at hr
      dsimp only at hr
      rw [e1] at hr
      dsimp only at hr
      rw [e] at hr
      exact ⟨n, r, h', hr, hq⟩
  · rintro ⟨n, r, h', hr, hq⟩
    refine ⟨n + 1, r, h', ?_, hq⟩
    rw [am_run_eq, e0]
    dsimp only
    rw [e1]
    dsimp only
    rw [e]
    exact hr
theorem am_wp_ret {v : Option Value} (e0 : am_pure i aux (am_kill ks L) S = none) (e1 : am_hp Z DF i aux S h = none) (e2 : am_br pc i aux S = none) (e3 : am_obj i aux S = none) (e4 : am_inv P i aux S h = none) (e : am_ret (am_rt M) i S = some v) : am_wp P Z DF d M ((pc, i, len, aux, ks) :: is) L S h Q ↔ Q v h := by
  have key : ∀ n, am_run P Z DF (n + 1) d M ((pc, i, len, aux, ks) :: is) L S h = some (v, h) := by
    intro n
    rw [am_run_eq, e0]
    dsimp only
    rw [e1]
    dsimp only
    rw [e2]
    dsimp only
    cases d with
    | zero =>
      dsimp only
      rw [e]
      rfl
    | succ d =>
      dsimp only
      rw [e3]
      dsimp only
      rw [e4]
      dsimp only
      rw [e]
      rfl
  constructor
  · rintro ⟨n, r, h', hr, hq⟩
    cases n with
    | zero => cases hr
    | succ n =>
      rw [key n] at hr
      cases hr
      exact hq
  · intro hq
    exact ⟨1, v, h, key 0, hq⟩
theorem am_wp_obj (e0 : am_pure i aux (am_kill ks L) S = none) (e1 : am_hp Z DF i aux S h = none) (e2 : am_br pc i aux S = none) (e3 : am_obj i aux S = some S') : am_wp P Z DF (d + 1) M ((pc, i, len, aux, ks) :: is) L S h Q ↔ am_wp P Z DF (d + 1) M is (am_kill ks L) S' h Q := by
  have key : ∀ n, am_run P Z DF (n + 1) (d + 1) M ((pc, i, len, aux, ks) :: is) L S h = am_run P Z DF n (d + 1) M is (am_kill ks L) S' h := by
    intro n
    rw [am_run_eq, e0]
    dsimp only
    rw [e1]
    dsimp only
    rw [e2]
    dsimp only
    rw [e3]
  constructor
  · rintro ⟨n, r, h', hr, hq⟩
    cases n with
    | zero => cases hr
    | succ n =>
      rw [key n] at hr
      exact ⟨n, r, h', hr, hq⟩
  · rintro ⟨n, r, h', hr, hq⟩
    exact ⟨n + 1, r, h', (key n).trans hr, hq⟩
theorem am_wp_inv {N : am_M} {vs : List Value} (e0 : am_pure i aux (am_kill ks L) S = none) (e1 : am_hp Z DF i aux S h = none) (e2 : am_br pc i aux S = none) (e3 : am_obj i aux S = none) (e4 : am_inv P i aux S h = some (N, vs, S')) : am_wp P Z DF (d + 1) M ((pc, i, len, aux, ks) :: is) L S h Q ↔ am_wp P Z DF d N (am_tb N) (am_ent N vs) [] h (fun r h' => am_wp P Z DF (d + 1) M is (am_kill ks L) (r.toList ++ S') h' Q) := by
  have key : ∀ n, am_run P Z DF (n + 1) (d + 1) M ((pc, i, len, aux, ks) :: is) L S h = (match am_run P Z DF n d N (am_tb N) (am_ent N vs) [] h with
        | some (r, h') => am_run P Z DF n (d + 1) M is (am_kill ks L) (r.toList ++ S') h'
        | none => none) := by
    intro n
    rw [am_run_eq, e0]
    dsimp only
    rw [e1]
    dsimp only
    rw [e2]
    dsimp only
    rw [e3]
    dsimp only
    rw [e4]
  constructor
  · rintro ⟨n, r, h', hr, hq⟩
    cases n with
    | zero => cases hr
    | succ n =>
      rw [key n] at hr
      cases hc : am_run P Z DF n d N (am_tb N) (am_ent N vs) [] h with
      | none => rw [hc] at hr; cases hr
      | some y =>
        obtain ⟨r1, h1⟩ := y
        rw [hc] at hr
        exact ⟨n, r1, h1, hc, n, r, h', hr, hq⟩
  · rintro ⟨n1, r1, h1, hc, n2, r, h', hr, hq⟩
    refine ⟨n1 + n2 + 1, r, h', ?_, hq⟩
    rw [key, am_run_mono P Z DF (Nat.le_add_right n1 n2) hc]
    exact am_run_mono P Z DF (Nat.le_add_left n2 n1) hr
end AMW
