/-! TWO PARSERS, as functions over lists: the class's (recursive descent) and the reference's (a stack of what is open). -/
abbrev pS : Type := List Int × Bool × List (Int × Int)
def pa (s : pS) : Int := if s.2.1 = true then 0 else s.1.headD 0
def padv (s : pS) : pS := (s.1.tail, s.2.1, s.2.2)
def pbrk (s : pS) : pS := (s.1, true, s.2.2)
def padd (s : pS) (k v : Int) : pS := (s.1, s.2.1, if s.2.2.length < 20 then s.2.2 ++ [(k, v)] else s.2.2)
def pdg (c : Int) : Bool := decide (48 ≤ c) && decide (c ≤ 57)
def pDig : Nat → Int → pS → Int × pS
  | 0, v, s => (v, s)
  | n + 1, v, s => if pdg (pa s) = true then pDig n (10 * v + (pa s - 48)) (padv s) else (v, s)
def pTl (f : pS → pS) : Nat → pS → pS
  | 0, s => s
  | i + 1, s => if pa s = 42 then pTl f i (padd (f (padv s)) 6 0) else s
def pT (f : pS → pS) (s : pS) : pS := pTl f 20 (f s)
def pEl (f : pS → pS) : Nat → pS → pS
  | 0, s => s
  | i + 1, s => if pa s = 43 ∨ pa s = 45 then pEl f i (padd (pT f (padv s)) (if pa s = 43 then 3 else 4) 0) else s
def pE (f : pS → pS) (s : pS) : pS := pEl f 20 (pT f s)
def pX (c : Int) (s : pS) : pS := if pa s = c then padv s else pbrk s
/-- the arguments behind the first: n of them -/
def pAl (e : pS → pS) : Nat → pS → pS
  | 0, s => s
  | n + 1, s => pAl e n (e (pX 44 s))
def pfn (c : Int) : Int := if c = 65 then 9 else if c = 83 then 10 else if c = 77 then 7 else if c = 76 then 8 else if c = 80 then 11 else -1
/-- commas of a call -/
def pcm (c : Int) : Nat := if c = 77 ∨ c = 76 then 1 else if c = 80 then 2 else 0
def pA (e : pS → pS) (c : Int) (s : pS) : pS := padd (pX 41 (pAl e (pcm c) (e (pX 40 s)))) (pfn c) 0
def pF : Nat → pS → pS
  | 0, s => pbrk s
  | n + 1, s =>
    if pa s = 45 then padd (pF n (padv s)) 5 0
    else if pa s = 40 then pX 41 (pE (pF n) (padv s))
    else if pa s = 35 then
      (fun q : Int × pS => padd q.2 12 q.1) (pDig 2 0 (s.1.tail, !(pdg (pa (padv s))), s.2.2))
    else if pdg (pa s) = true then (fun q : Int × pS => padd q.2 0 q.1) (pDig 3 0 s)
    else if ¬ pfn (pa s) = -1 then pA (pE (pF n)) (pa s) (padv s)
    else if 117 ≤ pa s ∧ pa s ≤ 122 then padd (padv s) 1 (pa s)
    else if 112 ≤ pa s ∧ pa s ≤ 114 then padd (padv s) 2 (pa s)
    else pbrk s
/-- behind a fault nothing is passed -/
def pB (s s' : pS) : Prop := s'.1 = s.1 ∧ s'.2.1 = true
theorem pa_b {s : pS} (h : s.2.1 = true) : pa s = 0 := by simp [pa, h]
theorem pDig_b {s : pS} (h : s.2.1 = true) : ∀ n v, pDig n v s = (v, s)
  | 0, v => rfl
  | n + 1, v => by simp [pDig, pa_b h, pdg]
theorem pTl_b {f : pS → pS} {s : pS} (h : s.2.1 = true) : ∀ i, pTl f i s = s
  | 0 => rfl
  | i + 1 => by simp [pTl, pa_b h]
theorem pEl_b {f : pS → pS} {s : pS} (h : s.2.1 = true) : ∀ i, pEl f i s = s
  | 0 => rfl
  | i + 1 => by simp [pEl, pa_b h]
theorem pT_b {f : pS → pS} (hf : ∀ s, s.2.1 = true → pB s (f s)) {s : pS} (h : s.2.1 = true) : pB s (pT f s) := by
  have h1 := hf s h
  unfold pT
  rw [pTl_b h1.2]
  exact h1
theorem pE_b {f : pS → pS} (hf : ∀ s, s.2.1 = true → pB s (f s)) {s : pS} (h : s.2.1 = true) : pB s (pE f s) := by
  have h1 := pT_b hf h
  unfold pE
  rw [pEl_b h1.2]
  exact h1
theorem pX_b {c : Int} (hc : ¬ c = 0) {s : pS} (h : s.2.1 = true) : pB s (pX c s) := by
  unfold pX
  rw [pa_b h, if_neg (fun q => hc q.symm)]
  exact ⟨rfl, rfl⟩
theorem pAl_b {e : pS → pS} (he : ∀ s, s.2.1 = true → pB s (e s)) : ∀ (n : Nat) {s : pS}, s.2.1 = true → pB s (pAl e n s)
  | 0, s, h => ⟨rfl, h⟩
  | n + 1, s, h => by
    have h1 := pX_b (c := 44) (by decide) h
    have h2 := he _ h1.2
    have h3 := pAl_b he n h2.2
    exact ⟨h3.1.trans (h2.1.trans h1.1), h3.2⟩
theorem pA_b {e : pS → pS} (he : ∀ s, s.2.1 = true → pB s (e s)) {c : Int} {s : pS} (h : s.2.1 = true) : pB s (pA e c s) := by
  have h1 := pX_b (c := 40) (by decide) h
  have h2 := he _ h1.2
  have h3 := pAl_b he (pcm c) h2.2
  have h4 := pX_b (c := 41) (by decide) h3.2
  exact ⟨h4.1.trans (h3.1.trans (h2.1.trans h1.1)), h4.2⟩
theorem pF_b : ∀ (n : Nat) {s : pS}, s.2.1 = true → pB s (pF n s)
  | 0, s, h => ⟨rfl, rfl⟩
  | n + 1, s, h => by
    have h0 := pa_b h
    unfold pF
    rw [h0]
    simp only [show ¬ (0 : Int) = 45 by decide, show ¬ (0 : Int) = 40 by decide, show ¬ (0 : Int) = 35 by decide, if_false, show pdg 0 = false by decide, show pfn 0 = -1 by decide, not_true_eq_false, show ¬ ((117 : Int) ≤ 0 ∧ (0 : Int) ≤ 122) by decide, show ¬ ((112 : Int) ≤ 0 ∧ (0 : Int) ≤ 114) by decide, Bool.false_eq_true]
    exact ⟨rfl, rfl⟩
/-! the reference: mode (0 want, 1 have, 2 digits, 3 hash, 4 place, 5 call), digits, the number's place, what is open (top first: sign, commas), what is put out -/
abbrev rS : Type := Int × Int × Nat × List (Int × Int) × List (Int × Int)
def rneg : List (Int × Int) → List (Int × Int) → List (Int × Int) × List (Int × Int)
  | [], O => ([], O)
  | t :: T, O => if t.1 = 126 then rneg T (O ++ [(5, 0)]) else (t :: T, O)
def runw (all : Bool) : List (Int × Int) → List (Int × Int) → List (Int × Int) × List (Int × Int)
  | [], O => ([], O)
  | t :: T, O => if t.1 = 42 ∨ (all = true ∧ (t.1 = 43 ∨ t.1 = 45)) then runw all T (O ++ [(if t.1 = 42 then 6 else if t.1 = 43 then 3 else 4, 0)]) else (t :: T, O)
/-- an operand: what is open, what is put out -/
def ropd (T O : List (Int × Int)) (k v : Int) : List (Int × Int) × List (Int × Int) := rneg T (O ++ [(k, v)])
def rbeg (s : rS) (c : Int) : Option rS :=
  if 48 ≤ c ∧ c ≤ 57 then some (2, 1, s.2.2.2.2.length, ropd s.2.2.2.1 s.2.2.2.2 0 (c - 48))
  else if (117 ≤ c ∧ c ≤ 122) ∨ (112 ≤ c ∧ c ≤ 114) then some (1, s.2.1, s.2.2.2.2.length, ropd s.2.2.2.1 s.2.2.2.2 (if 117 ≤ c then 1 else 2) c)
  else if c = 35 then some (3, s.2)
  else if c = 45 ∨ c = 40 then some (s.1, s.2.1, s.2.2.1, ((if c = 45 then 126 else 40, 0) :: s.2.2.2.1, s.2.2.2.2))
  else if c = 65 ∨ c = 83 ∨ c = 77 ∨ c = 76 ∨ c = 80 then some (5, s.2.1, s.2.2.1, ((c, 0) :: s.2.2.2.1, s.2.2.2.2))
  else none
def rcl (dg : Int) (na : Nat) (c : Int) (q : List (Int × Int) × List (Int × Int)) : Option rS := match q with
  | ([], _) => none
  | ((b, k) :: T, O) =>
    if (k = (pcm b : Int)) ↔ (c = 41) then
      (if c = 44 then some (0, dg, na, (b, k + 1) :: T, O)
       else some (1, dg, na, rneg T (if b = 40 then O else O ++ [(if b = 65 then 9 else if b = 83 then 10 else if b = 77 then 7 else if b = 76 then 8 else 11, 0)])))
    else none
def rfol (s : rS) (c : Int) : Option rS :=
  if c = 43 ∨ c = 45 ∨ c = 42 then
    (fun q : List (Int × Int) × List (Int × Int) => some (0, s.2.1, s.2.2.1, (c, 0) :: q.1, q.2)) (runw (decide (¬ c = 42)) s.2.2.2.1 s.2.2.2.2)
  else if c = 44 ∨ c = 41 then rcl s.2.1 s.2.2.1 c (runw true s.2.2.2.1 s.2.2.2.2)
  else none
def pmod : List (Int × Int) → Nat → Int → List (Int × Int)
  | [], _, _ => []
  | q :: l, 0, c => (q.1, q.2 * 10 + c - 48) :: l
  | q :: l, n + 1, c => q :: pmod l n c
def racc (s : rS) (c : Int) : Option rS :=
  if s.1 = 5 then (if c = 40 then some (0, s.2) else none)
  else if s.1 = 3 then (if pdg c = true then some (4, 1, s.2.2.2.2.length, ropd s.2.2.2.1 s.2.2.2.2 12 (c - 48)) else none)
  else if pdg c = true ∧ (s.1 = 2 ∨ s.1 = 4) then
    (if s.2.1 + 1 ≤ (if s.1 = 2 then 3 else 2) then some (s.1, s.2.1 + 1, s.2.2.1, s.2.2.2.1, pmod s.2.2.2.2 s.2.2.1 c) else none)
  else if s.1 = 0 then rbeg s c else rfol s c
def rw' : rS → List Int → Option rS
  | s, [] => some s
  | s, c :: w => match racc s c with
    | some s' => rw' s' w
    | none => none
theorem rw'_app : ∀ (w1 w2 : List Int) (s s' : rS), rw' s w1 = some s' → rw' s (w1 ++ w2) = rw' s' w2
  | [], w2, s, s', h => by cases h; rfl
  | c :: w1, w2, s, s', h => by
    simp only [List.cons_append, rw'] at h ⊢
    split at h
    · exact rw'_app w1 w2 _ _ h
    · cases h
/-- nothing goes on: the next sign is refused, or the line is at its end and more is wanted -/
def rstk (s : rS) (r : List Int) : Prop := match r with
  | [] => s.1 = 0 ∨ s.1 = 3 ∨ s.1 = 5 ∨ ((s.1 = 1 ∨ s.1 = 2 ∨ s.1 = 4) ∧ ¬ (runw true s.2.2.2.1 s.2.2.2.2).1 = [])
  | c :: _ => racc s c = none
/-- behind an operand -/
def rok (s : rS) (r : List Int) : Prop := s.1 = 1 ∨ (s.1 = 2 ∧ (pdg (r.headD 0) = true → s.2.1 = 3)) ∨ (s.1 = 4 ∧ (pdg (r.headD 0) = true → s.2.1 = 2))
/-! heights: every piece puts one on the stack -/
def par (k : Int) : Nat := if k = 3 ∨ k = 4 ∨ k = 6 ∨ k = 7 ∨ k = 8 then 2 else if k = 5 ∨ k = 9 ∨ k = 10 then 1 else if k = 11 then 3 else 0
def phg : List (Int × Int) → Nat → Option Nat
  | [], h => some h
  | q :: F, h => if par q.1 ≤ h then phg F (h - par q.1 + 1) else none
theorem phg_app : ∀ (F F2 : List (Int × Int)) (h h' : Nat), phg F h = some h' → phg (F ++ F2) h = phg F2 h'
  | [], F2, h, h', e => by cases e; rfl
  | q :: F, F2, h, h', e => by
    simp only [List.cons_append, phg] at e ⊢
    split at e
    · rename_i hc
      rw [if_pos hc]
      exact phg_app F F2 _ _ e
    · cases e
/-- j pieces -/
def pwf (j : Nat) (F : List (Int × Int)) : Prop := ∀ h, phg F h = some (h + j)
theorem pwf_app {i j : Nat} {F F2 : List (Int × Int)} (h1 : pwf i F) (h2 : pwf j F2) : pwf (i + j) (F ++ F2) := by
  intro h
  rw [phg_app _ _ _ _ (h1 h), h2]
  simp only [Option.some.injEq]
  omega
theorem pwf_op {n j : Nat} {F : List (Int × Int)} {k v : Int} (h1 : pwf n F) (hk : par k = n) (hj : j = 1) : pwf j (F ++ [(k, v)]) := by
  intro h
  rw [phg_app _ _ _ _ (h1 h)]
  simp only [phg, hk]
  rw [if_pos (by omega)]
  simp only [Option.some.injEq]
  omega
def rtop (T : List (Int × Int)) : Int := match T with
  | [] => 0
  | t :: _ => t.1
theorem runw_stop {all : Bool} {T O : List (Int × Int)} (h : ¬ rtop T = 42) (h2 : all = true → ¬ rtop T = 43 ∧ ¬ rtop T = 45) : runw all T O = (T, O) := by
  cases T with
  | nil => rfl
  | cons t T =>
    have h' : ¬ t.1 = 42 := h
    simp only [runw]
    rw [if_neg]
    rintro (q | ⟨q1, q2⟩)
    · exact h' q
    · have := h2 q1
      rcases q2 with q2 | q2
      · exact this.1 q2
      · exact this.2 q2
theorem rneg_stop {T O : List (Int × Int)} (h : ¬ rtop T = 126) : rneg T O = (T, O) := by
  cases T with
  | nil => rfl
  | cons t T =>
    have h' : ¬ t.1 = 126 := h
    simp only [rneg]
    rw [if_neg h']
theorem racc_fol {s : rS} {r : List Int} {c : Int} (h : rok s r) (hc : pdg c = false) : racc s c = rfol s c := by
  have h1 : ¬ s.1 = 5 ∧ ¬ s.1 = 3 ∧ ¬ s.1 = 0 := by
    rcases h with h | ⟨h, -⟩ | ⟨h, -⟩ <;> omega
  unfold racc
  rw [if_neg h1.1, if_neg h1.2.1, if_neg (fun q => by rw [hc] at q; exact absurd q.1 (by decide)), if_neg h1.2.2]
/-- a digit behind an operand is one too many -/
theorem racc_dig {s : rS} {r : List Int} {c : Int} (h : rok s (c :: r)) (hc : pdg c = true) : racc s c = none := by
  have h1 : ¬ s.1 = 5 ∧ ¬ s.1 = 3 ∧ ¬ s.1 = 0 := by
    rcases h with h | ⟨h, -⟩ | ⟨h, -⟩ <;> omega
  have hd : 48 ≤ c ∧ c ≤ 57 := by
    simp only [pdg, Bool.and_eq_true, decide_eq_true_eq] at hc
    exact hc
  unfold racc
  rw [if_neg h1.1, if_neg h1.2.1]
  by_cases hm : s.1 = 2 ∨ s.1 = 4
  · rw [if_pos ⟨hc, hm⟩, if_neg]
    rcases h with h | ⟨h, h2⟩ | ⟨h, h2⟩
    · omega
    · have := h2 hc
      rw [if_pos h]
      omega
    · have := h2 hc
      rw [if_neg (by omega)]
      omega
  · rw [if_neg (fun q => hm q.2), if_neg h1.2.2]
    unfold rfol
    rw [if_neg (by omega), if_neg (by omega)]
abbrev pL : Type := List (Int × Int)
/-- what a piece of the class's parser does, beside the reference -/
def pG (C : pL → Prop) (R : pL → pL → pL → pL → pL → Prop) (X : Int → Prop) (r : List Int) (o : pL) (s' : pS) : Prop :=
  ∃ w r' : List Int, r = w ++ r' ∧ s'.1 = r' ∧
    (s'.2.1 = false → ∃ F : pL, (o.length + w.length ≤ 20 → s'.2.2 = o ++ F) ∧ F.length ≤ w.length ∧ ¬ w = [] ∧ pwf 1 F ∧ X (r'.headD 0) ∧ ∀ T O : pL, C T → ∀ (dg : Int) (na : Nat), ∃ ρ : rS, rw' (0, dg, na, T, O) w = some ρ ∧ rok ρ r' ∧ R T O F ρ.2.2.2.1 ρ.2.2.2.2) ∧
    (s'.2.1 = true → ∀ T O : pL, C T → ∀ (dg : Int) (na : Nat), ∃ ρ : rS, rw' (0, dg, na, T, O) w = some ρ ∧ rstk ρ r')
def pGF : List Int → pL → pS → Prop := pG (fun _ => True) (fun T O F T1 O1 => rneg T (O ++ F) = (T1, O1)) (fun _ => True)
def pGT : List Int → pL → pS → Prop := pG (fun T => ¬ rtop T = 42 ∧ ¬ rtop T = 126) (fun T O F T1 O1 => runw false T1 O1 = (T, O ++ F)) (fun c => ¬ c = 42)
def pGE : List Int → pL → pS → Prop := pG (fun T => ¬ rtop T = 42 ∧ ¬ rtop T = 126 ∧ ¬ rtop T = 43 ∧ ¬ rtop T = 45) (fun T O F T1 O1 => runw true T1 O1 = (T, O ++ F)) (fun c => ¬ c = 42 ∧ ¬ c = 43 ∧ ¬ c = 45)
theorem padd_o {s : pS} {o F : pL} {k v : Int} {n : Nat} (h : n ≤ 20 → s.2.2 = o ++ F) (hl : o.length + F.length < n) : n ≤ 20 → (padd s k v).2.2 = o ++ (F ++ [(k, v)]) := by
  intro hn
  simp only [padd, h hn]
  rw [if_pos (by rw [List.length_append]; omega), List.append_assoc]
theorem p3eq {s : pS} {r : List Int} (h1 : s.1 = r) (h2 : s.2.1 = false) : s = (r, false, s.2.2) := by
  obtain ⟨a, b, c⟩ := s
  cases h1
  cases h2
  rfl
theorem pX_y {s : pS} {c : Int} {r : List Int} (h1 : s.1 = c :: r) (h2 : s.2.1 = false) : pX c s = (r, false, s.2.2) := by
  rw [p3eq h1 h2]
  show (if c = c then _ else _) = _
  rw [if_pos rfl]
  rfl
theorem pX_n {s : pS} {c : Int} {r : List Int} (h1 : s.1 = r) (h2 : s.2.1 = false) (h : ¬ r.headD 0 = c) : pX c s = (r, true, s.2.2) := by
  rw [p3eq h1 h2]
  show (if r.headD 0 = c then _ else _) = _
  rw [if_neg h]
  rfl
theorem runw_42 {all : Bool} {k : Int} {T O : List (Int × Int)} : runw all ((42, k) :: T) O = runw all T (O ++ [(6, 0)]) := by
  simp [runw]
theorem runw_pm {c k : Int} {T O : List (Int × Int)} (h : c = 43 ∨ c = 45) : runw true ((c, k) :: T) O = runw true T (O ++ [(if c = 43 then 3 else 4, 0)]) := by
  have h2 : ¬ c = 42 := by omega
  simp [runw, h, h2]
theorem pTl_ok {f : pS → pS} {N : Nat} (hf : ∀ (r : List Int) (o : pL), r.length ≤ N → pGF r o (f (r, false, o))) : ∀ (i : Nat) (r w r1 : List Int) (o F o1 : pL), r = w ++ r1 → (o.length + w.length ≤ 20 → o1 = o ++ F) → F.length ≤ w.length → ¬ w = [] → pwf 1 F → r1.length ≤ i → r1.length ≤ N →
    (∀ T O : pL, (¬ rtop T = 42 ∧ ¬ rtop T = 126) → ∀ (dg : Int) (na : Nat), ∃ ρ : rS, rw' (0, dg, na, T, O) w = some ρ ∧ rok ρ r1 ∧ runw false ρ.2.2.2.1 ρ.2.2.2.2 = (T, O ++ F)) → pGT r o (pTl f i (r1, false, o1)) := by
  intro i
  induction i with
  | zero =>
    intro r w r1 o F o1 hr ho hF hw hwf hi hN hR
    have h1 : r1 = [] := List.eq_nil_of_length_eq_zero (by omega)
    subst h1
    exact ⟨w, [], hr, rfl, fun _ => ⟨F, ho, hF, hw, hwf, by simp, hR⟩, fun q => by cases q⟩
  | succ i ih =>
    intro r w r1 o F o1 hr ho hF hw hwf hi hN hR
    by_cases hc : pa (r1, false, o1) = 42
    · have hc' : r1.headD 0 = 42 := hc
      match r1, hc', hr, hi, hN, hR with
      | [], hc', _, _, _, _ => exact absurd hc' (by decide)
      | c :: r2, hc', hr, hi, hN, hR =>
        have e1 : c = 42 := hc'
        subst e1
        simp only [List.length_cons] at hi hN
        show pGT r o (pTl f (i + 1) (42 :: r2, false, o1))
        unfold pTl
        rw [if_pos (show pa ((42 : Int) :: r2, false, o1) = 42 from rfl)]
        show pGT r o (pTl f i (padd (f (r2, false, o1)) 6 0))
        obtain ⟨w2, r3, q1, q2, q3, q4⟩ := hf r2 o1 (by omega)
        have hrw : r = (w ++ 42 :: w2) ++ r3 := by rw [hr, q1]; simp
        have hstep : ∀ T O : pL, (¬ rtop T = 42 ∧ ¬ rtop T = 126) → ∀ (dg : Int) (na : Nat), ∃ (dg2 : Int) (na2 : Nat), rw' (0, dg, na, T, O) (w ++ 42 :: w2) = rw' (0, dg2, na2, (42, 0) :: T, O ++ F) w2 := by
          intro T O hT dg na
          obtain ⟨ρ, a1, a2, a3⟩ := hR T O hT dg na
          rw [rw'_app _ _ _ _ a1]
          refine ⟨ρ.2.1, ρ.2.2.1, ?_⟩
          have e2 : racc ρ 42 = some (0, ρ.2.1, ρ.2.2.1, (42, 0) :: T, O ++ F) := by
            rw [racc_fol a2 (by decide)]
            show some ((0 : Int), ρ.2.1, ρ.2.2.1, ((42 : Int), (0 : Int)) :: (runw false ρ.2.2.2.1 ρ.2.2.2.2).1, (runw false ρ.2.2.2.1 ρ.2.2.2.2).2) = _
            rw [a3]
          simp only [rw', e2]
        cases hb : (f (r2, false, o1)).2.1 with
        | true =>
          rw [pTl_b (show (padd (f (r2, false, o1)) 6 0).2.1 = true from hb)]
          refine ⟨w ++ 42 :: w2, r3, hrw, q2, fun q => ?_, fun _ T O hT dg na => ?_⟩
          · rw [show (padd (f (r2, false, o1)) 6 0).2.1 = true from hb] at q
            cases q
          · obtain ⟨dg2, na2, e2⟩ := hstep T O hT dg na
            obtain ⟨ρ, a1, a2⟩ := q4 hb ((42, 0) :: T) (O ++ F) trivial dg2 na2
            exact ⟨ρ, e2.trans a1, a2⟩
        | false =>
          obtain ⟨F2, b1, b2, b3, b4, -, b6⟩ := q3 hb
          have e3 : padd (f (r2, false, o1)) 6 0 = (r3, false, (padd (f (r2, false, o1)) 6 0).2.2) := p3eq q2 hb
          rw [e3]
          have hlw : (w ++ 42 :: w2).length = w.length + w2.length + 1 := by simp; omega
          refine ih r (w ++ 42 :: w2) r3 o (F ++ F2 ++ [(6, 0)]) _ hrw ?_ ?_ (by simp) ?_ ?_ ?_ ?_
          · intro hl
            rw [hlw] at hl
            have ho1 := ho (by omega)
            refine padd_o (n := o.length + w.length + w2.length + 1) (fun _ => ?_) (by rw [List.length_append]; omega) (by omega)
            rw [b1 (by rw [ho1, List.length_append]; omega), ho1, List.append_assoc]
          · rw [hlw]; simp; omega
          · exact pwf_op (n := 2) (pwf_app hwf b4) (by decide) rfl
          · rw [q1] at hi; simp at hi; omega
          · rw [q1] at hN; simp at hN; omega
          · intro T O hT dg na
            obtain ⟨dg2, na2, e2⟩ := hstep T O hT dg na
            obtain ⟨ρ, a1, a2, a3⟩ := b6 ((42, 0) :: T) (O ++ F) trivial dg2 na2
            refine ⟨ρ, e2.trans a1, a2, ?_⟩
            rw [rneg_stop (show ¬ rtop ((42, 0) :: T) = 126 by show ¬ (42 : Int) = 126; decide)] at a3
            have e5 : ρ.2.2.2.1 = (42, 0) :: T := (congrArg Prod.fst a3).symm
            have e6 : ρ.2.2.2.2 = O ++ F ++ F2 := (congrArg Prod.snd a3).symm
            rw [e5, e6]
            rw [runw_42, runw_stop hT.1 (fun q => by cases q)]
            simp
    · show pGT r o (pTl f (i + 1) (r1, false, o1))
      unfold pTl
      rw [if_neg hc]
      exact ⟨w, r1, hr, rfl, fun _ => ⟨F, ho, hF, hw, hwf, hc, hR⟩, fun q => by cases q⟩
theorem pT_ok {f : pS → pS} {N : Nat} (hN : N ≤ 20) (hf : ∀ (r : List Int) (o : pL), r.length ≤ N → pGF r o (f (r, false, o))) (r : List Int) (o : pL) (hr : r.length ≤ N) : pGT r o (pT f (r, false, o)) := by
  obtain ⟨w, r1, q1, q2, q3, q4⟩ := hf r o hr
  unfold pT
  cases hb : (f (r, false, o)).2.1 with
  | true =>
    rw [pTl_b hb]
    refine ⟨w, r1, q1, q2, fun q => ?_, fun _ T O hT dg na => q4 hb T O trivial dg na⟩
    rw [hb] at q; cases q
  | false =>
    obtain ⟨F, b1, b2, b3, b4, -, b6⟩ := q3 hb
    have e3 : f (r, false, o) = (r1, false, (f (r, false, o)).2.2) := p3eq q2 hb
    rw [e3]
    have hl : r1.length ≤ r.length := by rw [q1]; simp
    refine pTl_ok hf 20 r w r1 o F _ q1 b1 b2 b3 b4 (by omega) (by omega) ?_
    intro T O hT dg na
    obtain ⟨ρ, a1, a2, a3⟩ := b6 T O trivial dg na
    refine ⟨ρ, a1, a2, ?_⟩
    rw [rneg_stop hT.2] at a3
    rw [← (congrArg Prod.fst a3 : T = ρ.2.2.2.1), ← (congrArg Prod.snd a3 : O ++ F = ρ.2.2.2.2)]
    exact runw_stop hT.1 (fun q => by cases q)
theorem runw_tf : ∀ (T O T2 O2 : pL), runw false T O = (T2, O2) → runw true T O = runw true T2 O2
  | [], O, T2, O2, h => by cases h; rfl
  | t :: T, O, T2, O2, h => by
    by_cases ht : t.1 = 42
    · simp only [runw] at h
      rw [if_pos (Or.inl ht)] at h
      have h2 := runw_tf T _ T2 O2 h
      rw [← h2]
      show (if t.1 = 42 ∨ (true = true ∧ (t.1 = 43 ∨ t.1 = 45)) then runw true T (O ++ [(if t.1 = 42 then 6 else if t.1 = 43 then 3 else 4, 0)]) else (t :: T, O)) = _
      rw [if_pos (Or.inl ht)]
    · simp only [runw] at h
      rw [if_neg (by rintro (q | ⟨q, -⟩); exact ht q; cases q)] at h
      cases h
      rfl
theorem pEl_ok {f : pS → pS} {N : Nat} (hN20 : N ≤ 20) (hf : ∀ (r : List Int) (o : pL), r.length ≤ N → pGF r o (f (r, false, o))) : ∀ (i : Nat) (r w r1 : List Int) (o F o1 : pL), r = w ++ r1 → (o.length + w.length ≤ 20 → o1 = o ++ F) → F.length ≤ w.length → ¬ w = [] → pwf 1 F → r1.length ≤ i → r1.length ≤ N → ¬ r1.headD 0 = 42 →
    (∀ T O : pL, (¬ rtop T = 42 ∧ ¬ rtop T = 126 ∧ ¬ rtop T = 43 ∧ ¬ rtop T = 45) → ∀ (dg : Int) (na : Nat), ∃ ρ : rS, rw' (0, dg, na, T, O) w = some ρ ∧ rok ρ r1 ∧ runw true ρ.2.2.2.1 ρ.2.2.2.2 = (T, O ++ F)) → pGE r o (pEl f i (r1, false, o1)) := by
  intro i
  induction i with
  | zero =>
    intro r w r1 o F o1 hr ho hF hw hwf hi hN h42 hR
    have h1 : r1 = [] := List.eq_nil_of_length_eq_zero (by omega)
    subst h1
    exact ⟨w, [], hr, rfl, fun _ => ⟨F, ho, hF, hw, hwf, by simp, hR⟩, fun q => by cases q⟩
  | succ i ih =>
    intro r w r1 o F o1 hr ho hF hw hwf hi hN h42 hR
    by_cases hc : pa (r1, false, o1) = 43 ∨ pa (r1, false, o1) = 45
    · have hc' : r1.headD 0 = 43 ∨ r1.headD 0 = 45 := hc
      match r1, hc', hr, hi, hN, hR with
      | [], hc', _, _, _, _ => exact absurd hc' (by decide)
      | c :: r2, hc', hr, hi, hN, hR =>
        have e1 : c = 43 ∨ c = 45 := hc'
        simp only [List.length_cons] at hi hN
        show pGE r o (pEl f (i + 1) (c :: r2, false, o1))
        unfold pEl
        rw [if_pos (show pa (c :: r2, false, o1) = 43 ∨ pa (c :: r2, false, o1) = 45 from e1)]
        show pGE r o (pEl f i (padd (pT f (r2, false, o1)) (if c = 43 then 3 else 4) 0))
        obtain ⟨w2, r3, q1, q2, q3, q4⟩ := pT_ok hN20 hf r2 o1 (by omega)
        have hrw : r = (w ++ c :: w2) ++ r3 := by rw [hr, q1]; simp
        have hnd : pdg c = false := by rcases e1 with rfl | rfl <;> decide
        have hTc : ∀ T : pL, ¬ rtop ((c, 0) :: T) = 42 ∧ ¬ rtop ((c, 0) :: T) = 126 := by
          intro T
          show ¬ c = 42 ∧ ¬ c = 126
          omega
        have hstep : ∀ T O : pL, (¬ rtop T = 42 ∧ ¬ rtop T = 126 ∧ ¬ rtop T = 43 ∧ ¬ rtop T = 45) → ∀ (dg : Int) (na : Nat), ∃ (dg2 : Int) (na2 : Nat), rw' (0, dg, na, T, O) (w ++ c :: w2) = rw' (0, dg2, na2, (c, 0) :: T, O ++ F) w2 := by
          intro T O hT dg na
          obtain ⟨ρ, a1, a2, a3⟩ := hR T O hT dg na
          rw [rw'_app _ _ _ _ a1]
          refine ⟨ρ.2.1, ρ.2.2.1, ?_⟩
          have e2 : racc ρ c = some (0, ρ.2.1, ρ.2.2.1, (c, 0) :: T, O ++ F) := by
            rw [racc_fol a2 hnd]
            have e4 : decide (¬ c = 42) = true := decide_eq_true (by omega)
            unfold rfol
            rw [if_pos (by omega), e4, a3]
          simp only [rw', e2]
        have hnn : (if c = 43 then (3 : Int) else 4) = 3 ∨ (if c = 43 then (3 : Int) else 4) = 4 := by
          by_cases hq : c = 43
          · exact Or.inl (if_pos hq)
          · exact Or.inr (if_neg hq)
        cases hb : (pT f (r2, false, o1)).2.1 with
        | true =>
          rw [pEl_b (show (padd (pT f (r2, false, o1)) (if c = 43 then 3 else 4) 0).2.1 = true from hb)]
          refine ⟨w ++ c :: w2, r3, hrw, q2, fun q => ?_, fun _ T O hT dg na => ?_⟩
          · rw [show (padd (pT f (r2, false, o1)) (if c = 43 then 3 else 4) 0).2.1 = true from hb] at q
            cases q
          · obtain ⟨dg2, na2, e2⟩ := hstep T O hT dg na
            obtain ⟨ρ, a1, a2⟩ := q4 hb ((c, 0) :: T) (O ++ F) (hTc T) dg2 na2
            exact ⟨ρ, e2.trans a1, a2⟩
        | false =>
          obtain ⟨F2, b1, b2, b3, b4, b5, b6⟩ := q3 hb
          have e3 : padd (pT f (r2, false, o1)) (if c = 43 then 3 else 4) 0 = (r3, false, (padd (pT f (r2, false, o1)) (if c = 43 then 3 else 4) 0).2.2) := p3eq q2 hb
          rw [e3]
          have hlw : (w ++ c :: w2).length = w.length + w2.length + 1 := by simp; omega
          refine ih r (w ++ c :: w2) r3 o (F ++ F2 ++ [(if c = 43 then 3 else 4, 0)]) _ hrw ?_ ?_ (by simp) ?_ ?_ ?_ b5 ?_
          · intro hl
            rw [hlw] at hl
            have ho1 := ho (by omega)
            refine padd_o (n := o.length + w.length + w2.length + 1) (fun _ => ?_) (by rw [List.length_append]; omega) (by omega)
            rw [b1 (by rw [ho1, List.length_append]; omega), ho1, List.append_assoc]
          · rw [hlw]; simp; omega
          · refine pwf_op (n := 2) (pwf_app hwf b4) ?_ rfl
            rcases hnn with hq | hq <;> rw [hq] <;> decide
          · rw [q1] at hi; simp at hi; omega
          · rw [q1] at hN; simp at hN; omega
          · intro T O hT dg na
            obtain ⟨dg2, na2, e2⟩ := hstep T O hT dg na
            obtain ⟨ρ, a1, a2, a3⟩ := b6 ((c, 0) :: T) (O ++ F) (hTc T) dg2 na2
            refine ⟨ρ, e2.trans a1, a2, ?_⟩
            rw [runw_tf _ _ _ _ a3]
            rw [runw_pm e1, runw_stop hT.1 (fun _ => ⟨hT.2.2.1, hT.2.2.2⟩)]
            simp
    · show pGE r o (pEl f (i + 1) (r1, false, o1))
      unfold pEl
      rw [if_neg hc]
      refine ⟨w, r1, hr, rfl, fun _ => ⟨F, ho, hF, hw, hwf, ⟨h42, fun q => hc (Or.inl q), fun q => hc (Or.inr q)⟩, hR⟩, fun q => by cases q⟩
theorem pE_ok {f : pS → pS} {N : Nat} (hN : N ≤ 20) (hf : ∀ (r : List Int) (o : pL), r.length ≤ N → pGF r o (f (r, false, o))) (r : List Int) (o : pL) (hr : r.length ≤ N) : pGE r o (pE f (r, false, o)) := by
  obtain ⟨w, r1, q1, q2, q3, q4⟩ := pT_ok hN hf r o hr
  unfold pE
  cases hb : (pT f (r, false, o)).2.1 with
  | true =>
    rw [pEl_b hb]
    refine ⟨w, r1, q1, q2, fun q => ?_, fun _ T O hT dg na => q4 hb T O ⟨hT.1, hT.2.1⟩ dg na⟩
    rw [hb] at q; cases q
  | false =>
    obtain ⟨F, b1, b2, b3, b4, b5, b6⟩ := q3 hb
    have e3 : pT f (r, false, o) = (r1, false, (pT f (r, false, o)).2.2) := p3eq q2 hb
    rw [e3]
    have hl : r1.length ≤ r.length := by rw [q1]; simp
    refine pEl_ok hN hf 20 r w r1 o F _ q1 b1 b2 b3 b4 (by omega) (by omega) b5 ?_
    intro T O hT dg na
    obtain ⟨ρ, a1, a2, a3⟩ := b6 T O ⟨hT.1, hT.2.1⟩ dg na
    refine ⟨ρ, a1, a2, ?_⟩
    rw [runw_tf _ _ _ _ a3]
    exact runw_stop hT.1 (fun _ => ⟨hT.2.2.1, hT.2.2.2⟩)
theorem pmod_app : ∀ (A B : pL) (q : Int × Int) (c : Int), pmod (A ++ q :: B) A.length c = A ++ (q.1, q.2 * 10 + c - 48) :: B
  | [], B, q, c => rfl
  | a :: A, B, q, c => by
    show a :: pmod (A ++ q :: B) A.length c = _
    rw [pmod_app A B q c]; rfl
theorem rneg_shape : ∀ T : pL, ∃ T1 N : pL, ∀ O : pL, rneg T O = (T1, O ++ N)
  | [] => ⟨[], [], fun O => by simp [rneg]⟩
  | t :: T => by
    by_cases ht : t.1 = 126
    · obtain ⟨T1, N, h⟩ := rneg_shape T
      refine ⟨T1, (5, 0) :: N, fun O => ?_⟩
      simp only [rneg]
      rw [if_pos ht, h]
      simp
    · refine ⟨t :: T, [], fun O => ?_⟩
      simp only [rneg]
      rw [if_neg ht]
      simp
theorem pDig_ok : ∀ (n : Nat) (v : Int) (r : List Int) (o : pL), ∃ w r' : List Int, r = w ++ r' ∧ (pDig n v (r, false, o)).2 = (r', false, o) ∧ w.length ≤ n ∧ (pdg (r'.headD 0) = true → w.length = n) ∧
    ∀ (m dg : Int) (T A B : pL) (k : Int), (m = 2 ∧ dg + n ≤ 3) ∨ (m = 4 ∧ dg + n ≤ 2) → rw' (m, dg, A.length, T, A ++ (k, v) :: B) w = some (m, dg + w.length, A.length, T, A ++ (k, (pDig n v (r, false, o)).1) :: B) := by
  intro n
  induction n with
  | zero =>
    intro v r o
    exact ⟨[], r, rfl, rfl, Nat.le_refl _, fun _ => rfl, fun m dg T A B k h => by simp [rw', pDig]⟩
  | succ n ih =>
    intro v r o
    by_cases hc : pdg (pa (r, false, o)) = true
    · match r, hc with
      | [], hc => exact absurd hc (by simp [pa, pdg])
      | c :: r2, hc =>
        have hc' : pdg c = true := hc
        have e1 : pDig (n + 1) v (c :: r2, false, o) = pDig n (10 * v + (c - 48)) (r2, false, o) := by
          show (if pdg (pa (c :: r2, false, o)) = true then _ else _) = _
          rw [if_pos hc]; rfl
        rw [e1]
        obtain ⟨w, r', h1, h2, h3, h4, h5⟩ := ih (10 * v + (c - 48)) r2 o
        refine ⟨c :: w, r', by rw [h1]; rfl, h2, by simp; omega, fun q => by simp [h4 q], fun m dg T A B k h => ?_⟩
        have e2 : racc (m, dg, A.length, T, A ++ (k, v) :: B) c = some (m, dg + 1, A.length, T, A ++ (k, 10 * v + (c - 48)) :: B) := by
          unfold racc
          have hm : ¬ m = 5 ∧ ¬ m = 3 ∧ (m = 2 ∨ m = 4) := by omega
          have hd : dg + 1 ≤ (if m = 2 then (3 : Int) else 2) := by
            split <;> omega
          simp only [hm.1, hm.2.1, if_false, hc', hm.2.2, and_self, if_true, hd, pmod_app]
          rw [show v * 10 + c - 48 = 10 * v + (c - 48) by omega]
        simp only [rw', e2]
        rw [h5 m (dg + 1) T A B k (by omega)]
        simp only [List.length_cons]
        rw [show dg + 1 + (w.length : Int) = dg + ((w.length + 1 : Nat) : Int) by omega]
    · have e1 : pDig (n + 1) v (r, false, o) = (v, (r, false, o)) := by
        show (if pdg (pa (r, false, o)) = true then _ else _) = _
        rw [if_neg hc]
      rw [e1]
      refine ⟨[], r, rfl, rfl, Nat.zero_le _, fun q => absurd q hc, fun m dg T A B k h => by simp [rw']⟩
/-- behind an expression inside brackets: what is wanted next is not there -/
theorem rstk_br {ρ : rS} {r' : List Int} {b j : Int} {T O : pL} (h : rok ρ r') (hX : ¬ r'.headD 0 = 42 ∧ ¬ r'.headD 0 = 43 ∧ ¬ r'.headD 0 = 45) (hu : runw true ρ.2.2.2.1 ρ.2.2.2.2 = ((b, j) :: T, O)) (h44 : r'.headD 0 = 44 → j = (pcm b : Int)) (h41 : r'.headD 0 = 41 → ¬ j = (pcm b : Int)) : rstk ρ r' := by
  cases r' with
  | nil =>
    refine Or.inr (Or.inr (Or.inr ⟨?_, by rw [hu]; simp⟩))
    rcases h with h | ⟨h, -⟩ | ⟨h, -⟩
    · exact Or.inl h
    · exact Or.inr (Or.inl h)
    · exact Or.inr (Or.inr h)
  | cons c r' =>
    show racc ρ c = none
    have hX' : ¬ c = 42 ∧ ¬ c = 43 ∧ ¬ c = 45 := hX
    cases hd : pdg c with
    | true => exact racc_dig h hd
    | false =>
      rw [racc_fol h hd]
      unfold rfol
      rw [if_neg (by omega)]
      by_cases hc : c = 44 ∨ c = 41
      · rw [if_pos hc, hu]
        simp only [rcl]
        rw [if_neg]
        rcases hc with rfl | rfl
        · have := h44 rfl
          intro q
          exact absurd (q.mp this) (by decide)
        · have := h41 rfl
          intro q
          exact this (q.mpr rfl)
      · rw [if_neg hc]
/-- a call's bracket and j + 1 arguments -/
def pH (c : Int) (j : Nat) (r : List Int) (o : pL) (s' : pS) : Prop :=
  ∃ w r' : List Int, r = w ++ r' ∧ s'.1 = r' ∧
    (s'.2.1 = false → ∃ F : pL, (o.length + w.length ≤ 20 → s'.2.2 = o ++ F) ∧ F.length + 1 ≤ w.length ∧ pwf (j + 1) F ∧ (¬ r'.headD 0 = 42 ∧ ¬ r'.headD 0 = 43 ∧ ¬ r'.headD 0 = 45) ∧ ∀ T O : pL, ∀ (dg : Int) (na : Nat), ∃ ρ : rS, rw' (5, dg, na, (c, 0) :: T, O) w = some ρ ∧ rok ρ r' ∧ runw true ρ.2.2.2.1 ρ.2.2.2.2 = ((c, (j : Int)) :: T, O ++ F)) ∧
    (s'.2.1 = true → ∀ T O : pL, ∀ (dg : Int) (na : Nat), ∃ ρ : rS, rw' (5, dg, na, (c, 0) :: T, O) w = some ρ ∧ rstk ρ r')
def pfc (c : Int) : Prop := c = 65 ∨ c = 83 ∨ c = 77 ∨ c = 76 ∨ c = 80
theorem pH_0 {e : pS → pS} {N : Nat} {c : Int} (hc : pfc c) (hb : ∀ s : pS, s.2.1 = true → pB s (e s)) (he : ∀ (r : List Int) (o : pL), r.length ≤ N → pGE r o (e (r, false, o))) (r : List Int) (o : pL) (hr : r.length ≤ N) : pH c 0 r o (e (pX 40 (r, false, o))) := by
  by_cases h40 : pa (r, false, o) = 40
  · match r, h40, hr with
    | [], h40, _ => exact absurd h40 (by simp [pa])
    | d :: r2, h40, hr =>
      have e1 : d = 40 := h40
      subst e1
      have e2 : pX 40 ((40 : Int) :: r2, false, o) = (r2, false, o) := by
        unfold pX
        rw [if_pos h40]; rfl
      rw [e2]
      simp only [List.length_cons] at hr
      obtain ⟨w, r', q1, q2, q3, q4⟩ := he r2 o (by omega)
      have hT : ∀ T : pL, ¬ rtop ((c, 0) :: T) = 42 ∧ ¬ rtop ((c, 0) :: T) = 126 ∧ ¬ rtop ((c, 0) :: T) = 43 ∧ ¬ rtop ((c, 0) :: T) = 45 := by
        intro T
        show ¬ c = 42 ∧ ¬ c = 126 ∧ ¬ c = 43 ∧ ¬ c = 45
        unfold pfc at hc
        omega
      have hst : ∀ (T O : pL) (dg : Int) (na : Nat), rw' (5, dg, na, (c, 0) :: T, O) (40 :: w) = rw' (0, dg, na, (c, 0) :: T, O) w := by
        intro T O dg na
        simp [rw', racc]
      refine ⟨40 :: w, r', by rw [q1]; rfl, q2, fun q => ?_, fun q T O dg na => ?_⟩
      · obtain ⟨F, b1, b2, b3, b4, b5, b6⟩ := q3 q
        refine ⟨F, fun hl => b1 (by simp at hl; omega), by simp; omega, b4, b5, fun T O dg na => ?_⟩
        obtain ⟨ρ, a1, a2, a3⟩ := b6 ((c, 0) :: T) O (hT T) dg na
        exact ⟨ρ, (hst T O dg na).trans a1, a2, a3⟩
      · obtain ⟨ρ, a1, a2⟩ := q4 q ((c, 0) :: T) O (hT T) dg na
        exact ⟨ρ, (hst T O dg na).trans a1, a2⟩
  · have e2 : pX 40 (r, false, o) = (r, true, o) := by
      unfold pX
      rw [if_neg h40]; rfl
    rw [e2]
    have h1 := hb (r, true, o) rfl
    refine ⟨[], r, rfl, h1.1, fun q => (by rw [h1.2] at q; cases q), fun _ T O dg na => ⟨(5, dg, na, (c, 0) :: T, O), rfl, ?_⟩⟩
    cases r with
    | nil => exact Or.inr (Or.inr (Or.inl rfl))
    | cons d r =>
      show racc _ d = none
      have : ¬ d = 40 := h40
      simp [racc, this]
theorem pH_s {e : pS → pS} {N j : Nat} {c : Int} (hc : pfc c) (hj : j < pcm c) (hb : ∀ s : pS, s.2.1 = true → pB s (e s)) (he : ∀ (r : List Int) (o : pL), r.length ≤ N → pGE r o (e (r, false, o))) {r : List Int} {o : pL} {s : pS} (hr : r.length ≤ N) (h : pH c j r o s) : pH c (j + 1) r o (e (pX 44 s)) := by
  obtain ⟨w, r', q1, q2, q3, q4⟩ := h
  cases hs : s.2.1 with
  | true =>
    have h1 := pX_b (c := 44) (by decide) hs
    have h2 := hb _ h1.2
    exact ⟨w, r', q1, h2.1.trans (h1.1.trans q2), fun q => (by rw [h2.2] at q; cases q), fun _ => q4 hs⟩
  | false =>
    obtain ⟨F, b1, b2, b3, b4, b5⟩ := q3 hs
    have es : s.1 = r' := q2
    have hT : ∀ (k : Int) (T : pL), ¬ rtop ((c, k) :: T) = 42 ∧ ¬ rtop ((c, k) :: T) = 126 ∧ ¬ rtop ((c, k) :: T) = 43 ∧ ¬ rtop ((c, k) :: T) = 45 := by
      intro k T
      show ¬ c = 42 ∧ ¬ c = 126 ∧ ¬ c = 43 ∧ ¬ c = 45
      unfold pfc at hc
      omega
    by_cases h44 : r'.headD 0 = 44
    · match r', h44, q1, es, b4, b5 with
      | [], h44, _, _, _, _ => exact absurd h44 (by decide)
      | d :: r2, h44, q1, es, b4, b5 =>
        have e1 : d = 44 := h44
        subst e1
        have e2 : pX 44 s = (r2, false, s.2.2) := pX_y es hs
        rw [e2]
        have hr2 : r2.length ≤ N := by rw [q1] at hr; simp at hr; omega
        obtain ⟨w2, r3, p1, p2, p3, p4⟩ := he r2 s.2.2 hr2
        have hst : ∀ (T O : pL) (dg : Int) (na : Nat), ∃ (dg2 : Int) (na2 : Nat), rw' (5, dg, na, (c, 0) :: T, O) (w ++ 44 :: w2) = rw' (0, dg2, na2, (c, (j : Int) + 1) :: T, O ++ F) w2 := by
          intro T O dg na
          obtain ⟨ρ, a1, a2, a3⟩ := b5 T O dg na
          rw [rw'_app _ _ _ _ a1]
          refine ⟨ρ.2.1, ρ.2.2.1, ?_⟩
          have e3 : racc ρ 44 = some (0, ρ.2.1, ρ.2.2.1, (c, (j : Int) + 1) :: T, O ++ F) := by
            rw [racc_fol a2 (by decide)]
            unfold rfol
            rw [if_neg (by decide), if_pos (by decide), a3]
            show (if ((j : Int) = (pcm c : Int)) ↔ ((44 : Int) = 41) then (if (44 : Int) = 44 then some ((0 : Int), ρ.2.1, ρ.2.2.1, (c, (j : Int) + 1) :: T, O ++ F) else _) else none) = _
            rw [if_pos (by constructor <;> intro q <;> omega), if_pos rfl]
          simp only [rw', e3]
        refine ⟨w ++ 44 :: w2, r3, by rw [q1, p1]; simp, p2, fun q => ?_, fun q T O dg na => ?_⟩
        · obtain ⟨F2, d1, d2, d3, d4, d5, d6⟩ := p3 q
          refine ⟨F ++ F2, fun hl => ?_, by simp; omega, pwf_app b3 d4, d5, fun T O dg na => ?_⟩
          · simp at hl
            have h1 := b1 (by omega)
            rw [d1 (by rw [h1, List.length_append]; omega), h1, List.append_assoc]
          · obtain ⟨dg2, na2, e4⟩ := hst T O dg na
            obtain ⟨ρ, a1, a2, a3⟩ := d6 ((c, (j : Int) + 1) :: T) (O ++ F) (hT _ T) dg2 na2
            refine ⟨ρ, e4.trans a1, a2, ?_⟩
            rw [a3, List.append_assoc]
            simp
        · obtain ⟨dg2, na2, e4⟩ := hst T O dg na
          obtain ⟨ρ, a1, a2⟩ := p4 q ((c, (j : Int) + 1) :: T) (O ++ F) (hT _ T) dg2 na2
          exact ⟨ρ, e4.trans a1, a2⟩
    · have e2 : pX 44 s = (r', true, s.2.2) := pX_n es hs h44
      rw [e2]
      have h1 := hb (r', true, s.2.2) rfl
      refine ⟨w, r', q1, h1.1, fun q => (by rw [h1.2] at q; cases q), fun _ T O dg na => ?_⟩
      obtain ⟨ρ, a1, a2, a3⟩ := b5 T O dg na
      exact ⟨ρ, a1, rstk_br a2 b4 a3 (fun q => absurd q h44) (fun _ => by omega)⟩
theorem pH_l {e : pS → pS} {N : Nat} {c : Int} (hc : pfc c) (hb : ∀ s : pS, s.2.1 = true → pB s (e s)) (he : ∀ (r : List Int) (o : pL), r.length ≤ N → pGE r o (e (r, false, o))) {r : List Int} {o : pL} (hr : r.length ≤ N) : ∀ (n j : Nat) (s : pS), j + n = pcm c → pH c j r o s → pH c (pcm c) r o (pAl e n s)
  | 0, j, s, hj, h => by
    rw [Nat.add_zero] at hj
    rw [← hj]
    exact h
  | n + 1, j, s, hj, h => pH_l hc hb he hr n (j + 1) _ (by omega) (pH_s hc (by omega) hb he hr h)
theorem pF_ok : ∀ (n : Nat) (r : List Int) (o : pL), r.length < n → n ≤ 21 → pGF r o (pF n (r, false, o)) := by
  intro n
  induction n with
  | zero => intro r o h; omega
  | succ n ih =>
    intro r o hr hn
    match r, hr with
    | [], hr =>
      have e1 : pF (n + 1) ([], false, o) = ([], true, o) := by
        unfold pF
        simp only [show pa (([] : List Int), false, o) = 0 from rfl, show ¬ (0 : Int) = 45 by decide, show ¬ (0 : Int) = 40 by decide, show ¬ (0 : Int) = 35 by decide, if_false, show pdg 0 = false by decide, show pfn 0 = -1 by decide, not_true_eq_false, show ¬ ((117 : Int) ≤ 0 ∧ (0 : Int) ≤ 122) by decide, show ¬ ((112 : Int) ≤ 0 ∧ (0 : Int) ≤ 114) by decide, Bool.false_eq_true]
        rfl
      rw [e1]
      exact ⟨[], [], rfl, rfl, fun q => (by cases q), fun _ T O _ dg na => ⟨(0, dg, na, T, O), rfl, Or.inl rfl⟩⟩
    | c :: r2, hr =>
      simp only [List.length_cons] at hr
      have hf : ∀ (r : List Int) (o : pL), r.length ≤ n - 1 → pGF r o (pF n (r, false, o)) := fun r o h => ih r o (by omega) (by omega)
      have hE : ∀ (r : List Int) (o : pL), r.length ≤ n - 1 → pGE r o (pE (pF n) (r, false, o)) := fun r o h => pE_ok (by omega) hf r o h
      have hEb : ∀ s : pS, s.2.1 = true → pB s (pE (pF n) s) := fun s h => pE_b (fun s h => pF_b n h) h
      have epa : pa (c :: r2, false, o) = c := rfl
      by_cases h45 : c = 45
      · subst h45
        have e1 : pF (n + 1) ((45 : Int) :: r2, false, o) = padd (pF n (r2, false, o)) 5 0 := by
          show (if pa ((45 : Int) :: r2, false, o) = 45 then padd (pF n (padv ((45 : Int) :: r2, false, o))) 5 0 else _) = _
          rw [if_pos epa]; rfl
        rw [e1]
        obtain ⟨w, r', q1, q2, q3, q4⟩ := ih r2 o (by omega) (by omega)
        have hst : ∀ (T O : pL) (dg : Int) (na : Nat), rw' (0, dg, na, T, O) (45 :: w) = rw' (0, dg, na, (126, 0) :: T, O) w := by
          intro T O dg na
          simp [rw', racc, rbeg, pdg]
        refine ⟨45 :: w, r', by rw [q1]; rfl, q2, fun q => ?_, fun q T O _ dg na => ?_⟩
        · obtain ⟨F, b1, b2, b3, b4, -, b6⟩ := q3 q
          refine ⟨F ++ [(5, 0)], ?_, by simp; omega, by simp, pwf_op (n := 1) b4 (by decide) rfl, trivial, fun T O _ dg na => ?_⟩
          · intro hl
            simp at hl
            exact padd_o (n := o.length + w.length + 1) (fun _ => b1 (by omega)) (by omega) (by omega)
          · obtain ⟨ρ, a1, a2, a3⟩ := b6 ((126, 0) :: T) O trivial dg na
            refine ⟨ρ, (hst T O dg na).trans a1, a2, ?_⟩
            have a4 : rneg T (O ++ F ++ [(5, 0)]) = (ρ.2.2.2.1, ρ.2.2.2.2) := a3
            rw [List.append_assoc] at a4
            exact a4
        · obtain ⟨ρ, a1, a2⟩ := q4 q ((126, 0) :: T) O trivial dg na
          exact ⟨ρ, (hst T O dg na).trans a1, a2⟩
      by_cases h40 : c = 40
      · subst h40
        have e1 : pF (n + 1) ((40 : Int) :: r2, false, o) = pX 41 (pE (pF n) (r2, false, o)) := by
          unfold pF
          simp only [epa, show ¬ (40 : Int) = 45 by decide, if_false, if_true]
          rfl
        rw [e1]
        obtain ⟨w, r', q1, q2, q3, q4⟩ := hE r2 o (by omega)
        have hT : ∀ T : pL, ¬ rtop ((40, 0) :: T) = 42 ∧ ¬ rtop ((40, 0) :: T) = 126 ∧ ¬ rtop ((40, 0) :: T) = 43 ∧ ¬ rtop ((40, 0) :: T) = 45 := by
          intro T
          show ¬ (40 : Int) = 42 ∧ ¬ (40 : Int) = 126 ∧ ¬ (40 : Int) = 43 ∧ ¬ (40 : Int) = 45
          decide
        have hst : ∀ (T O : pL) (dg : Int) (na : Nat) (w : List Int), rw' (0, dg, na, T, O) (40 :: w) = rw' (0, dg, na, (40, 0) :: T, O) w := by
          intro T O dg na w
          simp [rw', racc, rbeg, pdg]
        cases hb : (pE (pF n) (r2, false, o)).2.1 with
        | true =>
          have h1 := pX_b (c := 41) (by decide) hb
          refine ⟨40 :: w, r', by rw [q1]; rfl, h1.1.trans q2, fun q => (by rw [h1.2] at q; cases q), fun _ T O _ dg na => ?_⟩
          obtain ⟨ρ, a1, a2⟩ := q4 hb ((40, 0) :: T) O (hT T) dg na
          exact ⟨ρ, (hst T O dg na w).trans a1, a2⟩
        | false =>
          obtain ⟨F, b1, b2, b3, b4, b5, b6⟩ := q3 hb
          have es : (pE (pF n) (r2, false, o)).1 = r' := q2
          by_cases h41 : r'.headD 0 = 41
          · match r', h41, q1, es, b5, b6 with
            | [], h41, _, _, _, _ => exact absurd h41 (by decide)
            | d :: r3, h41, q1, es, b5, b6 =>
              have e2 : d = 41 := h41
              subst e2
              have e3 : pX 41 (pE (pF n) (r2, false, o)) = (r3, false, (pE (pF n) (r2, false, o)).2.2) := pX_y es hb
              rw [e3]
              refine ⟨40 :: w ++ [41], r3, by rw [q1]; simp, rfl, fun _ => ⟨F, fun hl => b1 (by simp at hl; omega), by simp; omega, by simp, b4, trivial, fun T O _ dg na => ?_⟩, fun q => by cases q⟩
              obtain ⟨ρ, a1, a2, a3⟩ := b6 ((40, 0) :: T) O (hT T) dg na
              have e4 : racc ρ 41 = some (1, ρ.2.1, ρ.2.2.1, rneg T (O ++ F)) := by
                rw [racc_fol a2 (by decide)]
                unfold rfol
                rw [if_neg (by decide), if_pos (by decide), a3]
                simp only [rcl]
                rw [if_pos (by decide), if_neg (by decide), if_pos trivial]
              refine ⟨(1, ρ.2.1, ρ.2.2.1, rneg T (O ++ F)), ?_, Or.inl rfl, rfl⟩
              show rw' (0, dg, na, T, O) (40 :: (w ++ [41])) = _
              rw [hst, rw'_app _ _ _ _ a1]
              simp only [rw', e4]
          · have e3 : pX 41 (pE (pF n) (r2, false, o)) = (r', true, (pE (pF n) (r2, false, o)).2.2) := pX_n es hb h41
            rw [e3]
            refine ⟨40 :: w, r', by rw [q1]; rfl, rfl, fun q => (by cases q), fun _ T O _ dg na => ?_⟩
            obtain ⟨ρ, a1, a2, a3⟩ := b6 ((40, 0) :: T) O (hT T) dg na
            exact ⟨ρ, (hst T O dg na w).trans a1, rstk_br a2 b5 a3 (fun _ => by decide) (fun q => absurd q h41)⟩
      by_cases h35 : c = 35
      · subst h35
        have hst : ∀ (T O : pL) (dg : Int) (na : Nat) (w : List Int), rw' (0, dg, na, T, O) (35 :: w) = rw' (3, dg, na, T, O) w := by
          intro T O dg na w
          simp [rw', racc, rbeg, pdg]
        have e1 : pF (n + 1) ((35 : Int) :: r2, false, o) = (fun q : Int × pS => padd q.2 12 q.1) (pDig 2 0 (r2, !(pdg (r2.headD 0)), o)) := by
          unfold pF
          simp only [epa, show ¬ (35 : Int) = 45 by decide, show ¬ (35 : Int) = 40 by decide, if_false, if_true]
          rfl
        rw [e1]
        cases hd : pdg (r2.headD 0) with
        | false =>
          have e2 : pDig 2 0 (r2, !false, o) = (0, (r2, true, o)) := pDig_b rfl 2 0
          rw [e2]
          refine ⟨[35], r2, rfl, rfl, fun q => (by cases q), fun _ T O _ dg na => ⟨(3, dg, na, T, O), hst T O dg na [], ?_⟩⟩
          cases r2 with
          | nil => exact Or.inr (Or.inl rfl)
          | cons d r3 =>
            show racc _ d = none
            have hd' : pdg d = false := hd
            simp [racc, hd']
        | true =>
          match r2, hd, hr with
          | [], hd, _ => exact absurd hd (by decide)
          | d :: r3, hd, hr =>
            have hd' : pdg d = true := hd
            have e2 : pDig 2 0 (d :: r3, !true, o) = pDig 1 (d - 48) (r3, false, o) := by
              show (if pdg (pa (d :: r3, false, o)) = true then pDig 1 (10 * 0 + (pa (d :: r3, false, o) - 48)) (padv (d :: r3, false, o)) else _) = _
              rw [if_pos (show pdg (pa (d :: r3, false, o)) = true from hd)]
              show pDig 1 (10 * 0 + (d - 48)) (r3, false, o) = _
              rw [show (10 : Int) * 0 + (d - 48) = d - 48 by omega]
            rw [e2]
            obtain ⟨w, r', p1, p2, p3, p4, p5⟩ := pDig_ok 1 (d - 48) r3 o
            refine ⟨35 :: d :: w, r', by rw [p1]; rfl, by show (padd _ _ _).1 = _; simp only [padd, p2], fun _ => ⟨[(12, (pDig 1 (d - 48) (r3, false, o)).1)], ?_, by simp, by simp, fun h => by simp [phg, par], trivial, fun T O _ dg na => ?_⟩, fun q => ?_⟩
            · intro hl
              simp at hl
              show (padd (pDig 1 (d - 48) (r3, false, o)).2 12 (pDig 1 (d - 48) (r3, false, o)).1).2.2 = _
              simp only [padd, p2]
              rw [if_pos (by omega)]
            · obtain ⟨T1, K, hK⟩ := rneg_shape T
              have e3 : racc (3, dg, na, T, O) d = some (4, 1, O.length, T1, O ++ (12, d - 48) :: K) := by
                simp only [racc, ropd, hK]
                simp [hd']
              refine ⟨(4, 1 + w.length, O.length, T1, O ++ (12, (pDig 1 (d - 48) (r3, false, o)).1) :: K), ?_, Or.inr (Or.inr ⟨rfl, fun q => ?_⟩), ?_⟩
              · rw [hst]
                simp only [rw', e3]
                exact p5 4 1 T1 O K 12 (by omega)
              · have := p4 q
                show (1 : Int) + w.length = 2
                omega
              · show rneg T (O ++ [(12, (pDig 1 (d - 48) (r3, false, o)).1)]) = (T1, O ++ (12, (pDig 1 (d - 48) (r3, false, o)).1) :: K)
                rw [hK]
                simp
            · have : (padd (pDig 1 (d - 48) (r3, false, o)).2 12 (pDig 1 (d - 48) (r3, false, o)).1).2.1 = false := by simp only [padd, p2]
              rw [show ((fun q : Int × pS => padd q.2 12 q.1) (pDig 1 (d - 48) (r3, false, o))).2.1 = false from this] at q
              cases q
      cases hd : pdg c with
      | true =>
        have e1 : pF (n + 1) (c :: r2, false, o) = (fun q : Int × pS => padd q.2 0 q.1) (pDig 2 (c - 48) (r2, false, o)) := by
          unfold pF
          simp only [epa, h45, h40, h35, if_false, hd, if_true]
          have e2 : pDig 3 0 (c :: r2, false, o) = pDig 2 (c - 48) (r2, false, o) := by
            show (if pdg (pa (c :: r2, false, o)) = true then pDig 2 (10 * 0 + (pa (c :: r2, false, o) - 48)) (padv (c :: r2, false, o)) else _) = _
            rw [if_pos (show pdg (pa (c :: r2, false, o)) = true from hd)]
            show pDig 2 (10 * 0 + (c - 48)) (r2, false, o) = _
            rw [show (10 : Int) * 0 + (c - 48) = c - 48 by omega]
          rw [e2]
        rw [e1]
        obtain ⟨w, r', p1, p2, p3, p4, p5⟩ := pDig_ok 2 (c - 48) r2 o
        have hcd : 48 ≤ c ∧ c ≤ 57 := by
          simp only [pdg, Bool.and_eq_true, decide_eq_true_eq] at hd
          exact hd
        refine ⟨c :: w, r', by rw [p1]; rfl, by show (padd _ _ _).1 = _; simp only [padd, p2], fun _ => ⟨[(0, (pDig 2 (c - 48) (r2, false, o)).1)], ?_, by simp, by simp, fun h => by simp [phg, par], trivial, fun T O _ dg na => ?_⟩, fun q => ?_⟩
        · intro hl
          simp at hl
          show (padd (pDig 2 (c - 48) (r2, false, o)).2 0 (pDig 2 (c - 48) (r2, false, o)).1).2.2 = _
          simp only [padd, p2]
          rw [if_pos (by omega)]
        · obtain ⟨T1, K, hK⟩ := rneg_shape T
          have e3 : racc (0, dg, na, T, O) c = some (2, 1, O.length, T1, O ++ (0, c - 48) :: K) := by
            simp only [racc, rbeg, ropd, hK]
            simp [hcd]
          refine ⟨(2, 1 + w.length, O.length, T1, O ++ (0, (pDig 2 (c - 48) (r2, false, o)).1) :: K), ?_, Or.inr (Or.inl ⟨rfl, fun q => ?_⟩), ?_⟩
          · simp only [rw', e3]
            exact p5 2 1 T1 O K 0 (by omega)
          · have := p4 q
            show (1 : Int) + w.length = 3
            omega
          · show rneg T (O ++ [(0, (pDig 2 (c - 48) (r2, false, o)).1)]) = (T1, O ++ (0, (pDig 2 (c - 48) (r2, false, o)).1) :: K)
            rw [hK]
            simp
        · have : (padd (pDig 2 (c - 48) (r2, false, o)).2 0 (pDig 2 (c - 48) (r2, false, o)).1).2.1 = false := by simp only [padd, p2]
          rw [show ((fun q : Int × pS => padd q.2 0 q.1) (pDig 2 (c - 48) (r2, false, o))).2.1 = false from this] at q
          cases q
      | false =>
        have hnd : ¬ (48 ≤ c ∧ c ≤ 57) := by
          intro q
          simp only [pdg, q.1, q.2, decide_true, Bool.and_self] at hd
          cases hd
        by_cases hfn : pfc c
        · have hfn1 : ¬ pfn c = -1 := by
            rcases hfn with rfl | rfl | rfl | rfl | rfl <;> decide
          have e1 : pF (n + 1) (c :: r2, false, o) = pA (pE (pF n)) c (r2, false, o) := by
            unfold pF
            simp only [epa, h45, h40, h35, if_false, hd, hfn1, not_false_eq_true, if_true, Bool.false_eq_true]
            rfl
          rw [e1]
          have hH := pH_l hfn hEb hE (show r2.length ≤ n - 1 by omega) (pcm c) 0 _ (by omega) (pH_0 hfn hEb hE r2 o (by omega))
          unfold pA
          generalize hsd : pAl (pE (pF n)) (pcm c) (pE (pF n) (pX 40 (r2, false, o))) = s at hH
          obtain ⟨w, r', q1, q2, q3, q4⟩ := hH
          have hst : ∀ (T O : pL) (dg : Int) (na : Nat) (w : List Int), rw' (0, dg, na, T, O) (c :: w) = rw' (5, dg, na, (c, 0) :: T, O) w := by
            intro T O dg na w
            have e3 : racc (0, dg, na, T, O) c = some (5, dg, na, (c, 0) :: T, O) := by
              unfold pfc at hfn
              simp only [racc, rbeg]
              rcases hfn with rfl | rfl | rfl | rfl | rfl <;> simp [pdg]
            simp only [rw', e3]
          cases hb : s.2.1 with
          | true =>
            have h1 := pX_b (c := 41) (by decide) hb
            refine ⟨c :: w, r', by rw [q1]; rfl, h1.1.trans q2, fun q => (by rw [show (padd (pX 41 s) (pfn c) 0).2.1 = true from h1.2] at q; cases q), fun _ T O _ dg na => ?_⟩
            obtain ⟨ρ, a1, a2⟩ := q4 hb T O dg na
            exact ⟨ρ, (hst T O dg na w).trans a1, a2⟩
          | false =>
            obtain ⟨F, b1, b2, b3, b4, b5⟩ := q3 hb
            have es : s.1 = r' := q2
            by_cases h41 : r'.headD 0 = 41
            · match r', h41, q1, es, b4, b5 with
              | [], h41, _, _, _, _ => exact absurd h41 (by decide)
              | d :: r3, h41, q1, es, b4, b5 =>
                have e2 : d = 41 := h41
                subst e2
                have e3 : pX 41 s = (r3, false, s.2.2) := pX_y es hb
                rw [e3]
                refine ⟨c :: w ++ [41], r3, by rw [q1]; simp, rfl, fun _ => ⟨F ++ [(pfn c, 0)], ?_, by simp; omega, by simp, ?_, trivial, fun T O _ dg na => ?_⟩, fun q => by cases q⟩
                · intro hl
                  simp at hl
                  have h1 := b1 (by omega)
                  exact padd_o (s := (r3, false, s.2.2)) (n := o.length + w.length) (fun _ => h1) (by omega) (by omega)
                · refine pwf_op (n := pcm c + 1) b3 ?_ rfl
                  rcases hfn with rfl | rfl | rfl | rfl | rfl <;> decide
                · obtain ⟨ρ, a1, a2, a3⟩ := b5 T O dg na
                  have e4 : racc ρ 41 = some (1, ρ.2.1, ρ.2.2.1, rneg T (O ++ (F ++ [(pfn c, 0)]))) := by
                    rw [racc_fol a2 (by decide)]
                    unfold rfol
                    rw [if_neg (by decide), if_pos (by decide), a3]
                    have hkd : (if c = 65 then (9 : Int) else if c = 83 then 10 else if c = 77 then 7 else if c = 76 then 8 else 11) = pfn c := by
                      rcases hfn with rfl | rfl | rfl | rfl | rfl <;> decide
                    show (if ((pcm c : Int) = (pcm c : Int)) ↔ ((41 : Int) = 41) then (if (41 : Int) = 44 then _ else some ((1 : Int), ρ.2.1, ρ.2.2.1, rneg T (if c = 40 then O ++ F else O ++ F ++ [(if c = 65 then 9 else if c = 83 then 10 else if c = 77 then 7 else if c = 76 then 8 else 11, 0)]))) else none) = _
                    rw [if_pos ⟨fun _ => rfl, fun _ => rfl⟩, if_neg (by decide), if_neg h40, hkd, List.append_assoc]
                  refine ⟨(1, ρ.2.1, ρ.2.2.1, rneg T (O ++ (F ++ [(pfn c, 0)]))), ?_, Or.inl rfl, rfl⟩
                  show rw' (0, dg, na, T, O) (c :: (w ++ [41])) = _
                  rw [hst, rw'_app _ _ _ _ a1]
                  simp only [rw', e4]
            · have e3 : pX 41 s = (r', true, s.2.2) := pX_n es hb h41
              rw [e3]
              refine ⟨c :: w, r', by rw [q1]; rfl, rfl, fun q => (by cases q), fun _ T O _ dg na => ?_⟩
              obtain ⟨ρ, a1, a2, a3⟩ := b5 T O dg na
              exact ⟨ρ, (hst T O dg na w).trans a1, rstk_br a2 b4 a3 (fun _ => rfl) (fun q => absurd q h41)⟩
        · have hfn1 : pfn c = -1 := by
            unfold pfc at hfn
            unfold pfn
            rw [if_neg (by omega), if_neg (by omega), if_neg (by omega), if_neg (by omega), if_neg (by omega)]
          have e0 : pF (n + 1) (c :: r2, false, o) = (if 117 ≤ c ∧ c ≤ 122 then padd (r2, false, o) 1 c else if 112 ≤ c ∧ c ≤ 114 then padd (r2, false, o) 2 c else (c :: r2, true, o)) := by
            unfold pF
            simp only [epa, h45, h40, h35, if_false, hd, hfn1, not_true_eq_false, Bool.false_eq_true]
            rfl
          rw [e0]
          by_cases hl : (117 ≤ c ∧ c ≤ 122) ∨ (112 ≤ c ∧ c ≤ 114)
          · have e1 : (if 117 ≤ c ∧ c ≤ 122 then padd (r2, false, o) 1 c else if 112 ≤ c ∧ c ≤ 114 then padd (r2, false, o) 2 c else (c :: r2, true, o)) = padd (r2, false, o) (if 117 ≤ c then 1 else 2) c := by
              rcases hl with hl | hl
              · rw [if_pos hl, if_pos hl.1]
              · rw [if_neg (by omega), if_pos hl, if_neg (by omega)]
            rw [e1]
            refine ⟨[c], r2, rfl, rfl, fun _ => ⟨[(if 117 ≤ c then 1 else 2, c)], ?_, by simp, by simp, ?_, trivial, fun T O _ dg na => ?_⟩, fun q => by cases q⟩
            · intro hq
              simp at hq
              simp only [padd]
              rw [if_pos (by omega)]
            · intro h
              have : par (if 117 ≤ c then 1 else 2) = 0 := by
                split <;> decide
              simp [phg, this]
            · refine ⟨(1, dg, O.length, ropd T O (if 117 ≤ c then 1 else 2) c), ?_, Or.inl rfl, rfl⟩
              have e3 : racc (0, dg, na, T, O) c = some (1, dg, O.length, ropd T O (if 117 ≤ c then 1 else 2) c) := by
                simp only [racc, rbeg]
                simp [hnd, hd, hl]
              simp only [rw', e3]
          · have e1 : (if 117 ≤ c ∧ c ≤ 122 then padd (r2, false, o) 1 c else if 112 ≤ c ∧ c ≤ 114 then padd (r2, false, o) 2 c else (c :: r2, true, o)) = (c :: r2, true, o) := by
              rw [if_neg (fun q => hl (Or.inl q)), if_neg (fun q => hl (Or.inr q))]
            rw [e1]
            refine ⟨[], c :: r2, rfl, rfl, fun q => (by cases q), fun _ T O _ dg na => ⟨(0, dg, na, T, O), rfl, ?_⟩⟩
            show racc _ c = none
            unfold pfc at hfn
            simp only [racc, rbeg]
            simp [hnd, hd, hl, h45, h40, h35, hfn]
/-- the whole line -/
theorem pLine (r : List Int) (hr : r.length ≤ 20) : pGE r [] (pE (pF 21) (r, false, [])) :=
  pE_ok (N := 20) (Nat.le_refl _) (fun r o h => pF_ok 21 r o (by omega) (Nat.le_refl _)) r [] hr
