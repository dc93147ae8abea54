/-! the beginning: both are new -/
theorem xg0 {a : Nat} {j : Int} (h1 : ¬ a = 21) (h2 : ¬ a = 33) : xg xG0 a j = 0 := by
  show ((if a = 21 then (if j.toNat = 4 then Int32.ofInt (-1) else 0) else if a = 33 then (if j.toNat = 28 then Int32.ofInt (-1) else 0) else 0 : Int32)).toInt = 0
  rw [if_neg h1, if_neg h2]
  rfl
theorem lwx_rel : Rel xG0 xK0 (0, fun _ => (0, 0, 0, 0, 0, 0)) := by
  have f331 : xg xG0 33 1 = 0 := rfl
  have f3312 : xg xG0 33 12 = 0 := rfl
  have f3328 : xg xG0 33 28 = -1 := rfl
  have f3329 : xg xG0 33 29 = 0 := rfl
  have f3330 : xg xG0 33 30 = 0 := rfl
  have f3334 : xg xG0 33 34 = 0 := rfl
  have f213 : xg xG0 21 3 = 0 := rfl
  have f214 : xg xG0 21 4 = -1 := rfl
  have f215 : xg xG0 21 5 = 0 := rfl
  have f31 : xg xG0 3 1 = 0 := rfl
  have f99 : xg xG0 9 9 = 0 := rfl
  have f2511 : xg xG0 25 11 = 0 := rfl
  have nx : ∀ (j : Int) (p : Prop), 0 ≤ j → j < 0 → p := fun j p h0 h1 => absurd h0 (by omega)
  refine ⟨⟨⟨by rw [f331]; decide, by rw [f331]; decide, fun i i0 i1 => ?_⟩, by rw [f331, f31], fun i i0 i1 => ?_⟩, ⟨⟨f3312, fun j h0 h1 => nx j _ h0 h1⟩, ⟨f99, fun j h0 h1 => nx j _ h0 h1⟩, ⟨Int.le_refl _, (by decide), fun j h0 h1 => nx j _ h0 h1⟩, ⟨fun j h0 h1 => nx j _ h0 h1, fun j h0 h1 => nx j _ h0 h1⟩, fun j h0 h1 => nx j _ h0 h1⟩, ⟨⟨by rw [f213]; decide, by rw [f213]; decide, by rw [f214]; decide, by rw [f214]; decide, by rw [f215]; exact xbo_0, fun q q0 q1 => ?_, fun q q0 q1 => ?_⟩, by rw [f3330, f213], by rw [f3328, f214], by rw [f3329, f215], fun q q0 q1 => ?_⟩, by rw [f2511]; exact xbo_0, by rw [f3334, f2511], fun h => absurd f2511 h⟩
  · rw [f331] at i1; omega
  · rw [f31] at i1; omega
  · rw [xg0 (by decide) (by decide)]; exact xbo_0
  · rw [f213] at q1; omega
  · rw [xg0 (by decide) (by decide), xg0 (by decide) (by decide), xg0 (by decide) (by decide), xg0 (by decide) (by decide), xg0 (by decide) (by decide), xg0 (by decide) (by decide)]
    exact ⟨rfl, rfl, rfl⟩
theorem lwx_len {G : xG} {K : xK} : (xH G K).length ≤ 600000 := by
  have e : (xH G K).length = 57 := rfl
  omega
theorem lwx_siz {G : xG} {K : xK} : am_siz (xH G K) ≤ 7302250 := by
  have e : am_siz (xH G K) ≤ 5000 := by
    simp only [xH, am_siz, am_sz1, List.length_cons, List.length_nil]
    omega
  omega
