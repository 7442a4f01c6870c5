/-! PURE: a line read as a scheme: one automaton, the class's draft and the reference's walk against it. By hand. -/
def app (w : Nat → Int32) (n : Nat) (c : Int32) : Nat → Int32 := fun j => if j = n then c else w j
theorem app_s {w : Nat → Int32} {n : Nat} {c : Int32} : app w n c n = c := if_pos rfl
theorem app_n {w : Nat → Int32} {n j : Nat} {c : Int32} (h : j ≠ n) : app w n c j = w j := if_neg h
/-- how, open, how many signs are written, the signs, two digits of a number -/
abbrev PS : Type := Nat × Nat × Nat × (Nat → Int32) × Nat × Nat
def pstep (c : Int32) (s : PS) : Option PS := match s with
  | (h, o, n, w, a, b) =>
    if h = 0 then
      (if 49 ≤ c ∧ c ≤ 57 then some (1, o, n + 1, app w n c, a, b)
      else if 97 ≤ c ∧ c ≤ 104 then some (2, o, n + 2, app (app w n 49) (n + 1) c, a, b)
      else if c = 40 ∧ o < 4 then some (0, o + 1, n + 2, app (app w n 49) (n + 1) c, a, b) else none)
    else if h = 1 then
      (if 97 ≤ c ∧ c ≤ 104 then some (2, o, n + 1, app w n c, a, b)
      else if c = 40 ∧ o < 4 then some (0, o + 1, n + 1, app w n c, a, b) else none)
    else if h = 2 then
      (if c = 43 then some (0, o, n + 1, app w n c, a, b)
      else if c = 124 ∧ 0 < o then some (0, o, n + 1, app w n c, a, b)
      else if c = 41 ∧ 0 < o then some (2, o - 1, n + 1, app w n c, a, b)
      else if c = 60 ∧ o = 0 then some (3, o, n + 1, app w n c, a, b) else none)
    else if h = 3 then
      (if 48 ≤ c ∧ c ≤ 57 then some (4, o, n, w, (c - 48).toNatClampNeg, b) else none)
    else if h = 4 then
      (if 48 ≤ c ∧ c ≤ 57 then some (5, o, n, w, a, (c - 48).toNatClampNeg) else none)
    else none
/-- the letters of a text, as bits -/
def lets (w : Nat → Int32) : Nat → Nat
  | 0 => 0
  | k + 1 => if 97 ≤ w k ∧ w k ≤ 104 then lets w k ||| 2 ^ (w k - 97).toNatClampNeg else lets w k
theorem lets_cong {w w' : Nat → Int32} : ∀ n, (∀ j, j < n → w j = w' j) → lets w n = lets w' n := by
  intro n
  induction n with
  | zero => intro _; rfl
  | succ n ih => intro h; unfold lets; rw [h n (by omega), ih (fun j hj => h j (by omega))]
theorem dep_cong {w w' : Nat → Int32} : ∀ n, (∀ j, j < n → w j = w' j) → dep w n = dep w' n := by
  intro n
  induction n with
  | zero => intro _; rfl
  | succ n ih => intro h; unfold dep; rw [h n (by omega), ih (fun j hj => h j (by omega))]
theorem WFb_cong {w w' : Nat → Int32} {n : Nat} (h : ∀ j, j < n → w j = w' j) (hW : WFb w n) : WFb w' n := by
  intro k hk
  rw [← h k hk, ← dep_cong (w := w) (w' := w') k (fun j hj => h j (by omega))]
  exact hW k hk
theorem WFb_app {w : Nat → Int32} {n : Nat} {c : Int32} (hW : WFb w n) (h : c ≠ 60 ∧ c ≠ 48 ∧ (c = 40 → dep w n ≤ 3) ∧ ((c = 41 ∨ c = 124) → 1 ≤ dep w n)) : WFb (app w n c) (n + 1) := by
  have hc : ∀ j, j < n → w j = app w n c j := fun j hj => (app_n (by omega)).symm
  intro k hk
  by_cases e : k = n
  · subst e
    rw [app_s, ← dep_cong k hc]
    exact h
  · exact WFb_cong hc hW k (by omega)
theorem dep_app {w : Nat → Int32} {n : Nat} {c : Int32} : dep (app w n c) (n + 1) = if c = 40 then dep w n + 1 else if c = 41 then dep w n - 1 else dep w n := by
  have hc : ∀ j, j < n → w j = app w n c j := fun j hj => (app_n (by omega)).symm
  show (if app w n c n = 40 then _ else _) = _
  rw [app_s, ← dep_cong n hc]
theorem lets_app {w : Nat → Int32} {n : Nat} {c : Int32} : lets (app w n c) (n + 1) = if 97 ≤ c ∧ c ≤ 104 then lets w n ||| 2 ^ (c - 97).toNatClampNeg else lets w n := by
  have hc : ∀ j, j < n → w j = app w n c j := fun j hj => (app_n (by omega)).symm
  show (if 97 ≤ app w n c n ∧ app w n c n ≤ 104 then _ else _) = _
  rw [app_s, ← lets_cong n hc]
theorem lets_lt {w : Nat → Int32} : ∀ n, lets w n < 256 := by
  intro n
  induction n with
  | zero => show 0 < 256; decide
  | succ n ih =>
    unfold lets
    by_cases h : 97 ≤ w n ∧ w n ≤ 104
    · rw [if_pos h]
      obtain ⟨a, ha1, ha2, e⟩ := rng (lo := 97) (hi := 104) (by decide) (by decide) h
      rw [e, show (97 : Int32) = nI 97 from rfl, pk_sub (by omega), na_nI (by omega)]
      have : 2 ^ (a - 97) < 2 ^ 8 := Nat.pow_lt_pow_right (by decide) (by omega)
      exact Nat.or_lt_two_pow (n := 8) ih this
    · rw [if_neg h]; exact ih
/-- what holds of a state behind k signs -/
def PI (s : PS) (k : Nat) : Prop := match s with
  | (h, o, n, w, a, b) => h ≤ 5 ∧ n ≤ 2 * k ∧ o ≤ 4 ∧ a ≤ 9 ∧ b ≤ 9 ∧ (∀ j, j < n → w j ≠ 0) ∧ (h ≤ 2 → WFb w n ∧ dep w n = o) ∧ (3 ≤ h → 1 ≤ n ∧ WFb w (n - 1) ∧ w (n - 1) = 60 ∧ o = 0 ∧ dep w (n - 1) = 0)
theorem app_ne0 {w : Nat → Int32} {n : Nat} {c : Int32} (hc : c ≠ 0) (h : ∀ j, j < n → w j ≠ 0) : ∀ j, j < n + 1 → app w n c j ≠ 0 := by
  intro j hj
  by_cases e : j = n
  · subst e; rw [app_s]; exact hc
  · rw [app_n e]; exact h j (by omega)
theorem dig9 {c : Int32} (h : 48 ≤ c ∧ c ≤ 57) : ∃ a, a ≤ 9 ∧ c = nI (48 + a) ∧ (c - 48).toNatClampNeg = a ∧ c - 48 = nI a := by
  obtain ⟨a, h1, h2, e⟩ := rng (lo := 48) (hi := 57) (by decide) (by decide) h
  refine ⟨a - 48, by omega, by rw [e]; congr 1; omega, ?_, ?_⟩
  · rw [e, show (48 : Int32) = nI 48 from rfl, pk_sub (by omega), na_nI (by omega)]
  · rw [e, show (48 : Int32) = nI 48 from rfl, pk_sub (by omega)]
theorem PI_step {c : Int32} {s s' : PS} {k : Nat} (h : PI s k) (hs : pstep c s = some s') : PI s' (k + 1) := by
  obtain ⟨h9, o, n, w, a, b⟩ := s
  obtain ⟨p1, p2, p3, p4, p5, p6, p7, p8⟩ := h
  unfold pstep at hs
  dsimp only at hs
  -- a sign that opens nothing and closes nothing
  have snoc : ∀ c : Int32, h9 ≤ 2 → c ≠ 0 → c ≠ 60 → c ≠ 48 → c ≠ 40 → c ≠ 41 → (c = 124 → 1 ≤ o) → WFb (app w n c) (n + 1) ∧ dep (app w n c) (n + 1) = o := by
    intro c hh _ h60 h48 h40 h41 h124
    obtain ⟨q1, q2⟩ := p7 hh
    refine ⟨WFb_app q1 ⟨h60, h48, fun e => absurd e h40, fun e => ?_⟩, ?_⟩
    · rcases e with e | e
      · exact absurd e h41
      · rw [q2]; exact h124 e
    · rw [dep_app, if_neg h40, if_neg h41]; exact q2
  have hlet : ∀ c : Int32, 97 ≤ c ∧ c ≤ 104 → c ≠ 0 ∧ c ≠ 60 ∧ c ≠ 48 ∧ c ≠ 40 ∧ c ≠ 41 ∧ c ≠ 124 := by
    intro c hc
    obtain ⟨x, h1, h2, e⟩ := rng (lo := 97) (hi := 104) (by decide) (by decide) hc
    subst e
    exact ⟨nne (b := 0) (by omega) (by decide) (by omega), nne (b := 60) (by omega) (by decide) (by omega), nne (b := 48) (by omega) (by decide) (by omega), nne (b := 40) (by omega) (by decide) (by omega), nne (b := 41) (by omega) (by decide) (by omega), nne (b := 124) (by omega) (by decide) (by omega)⟩
  have hdig : ∀ c : Int32, 49 ≤ c ∧ c ≤ 57 → c ≠ 0 ∧ c ≠ 60 ∧ c ≠ 48 ∧ c ≠ 40 ∧ c ≠ 41 ∧ c ≠ 124 := by
    intro c hc
    obtain ⟨x, h1, h2, e⟩ := rng (lo := 49) (hi := 57) (by decide) (by decide) hc
    subst e
    exact ⟨nne (b := 0) (by omega) (by decide) (by omega), nne (b := 60) (by omega) (by decide) (by omega), nne (b := 48) (by omega) (by decide) (by omega), nne (b := 40) (by omega) (by decide) (by omega), nne (b := 41) (by omega) (by decide) (by omega), nne (b := 124) (by omega) (by decide) (by omega)⟩
  by_cases e0 : h9 = 0
  · rw [if_pos e0] at hs
    have s49 := snoc 49 (by omega) (by decide) (by decide) (by decide) (by decide) (by decide) (fun h => absurd h (by decide))
    by_cases c1 : 49 ≤ c ∧ c ≤ 57
    · rw [if_pos c1] at hs
      cases hs
      obtain ⟨d1, d2, d3, d4, d5, d6⟩ := hdig c c1
      exact ⟨by omega, by omega, p3, p4, p5, app_ne0 d1 p6, fun _ => snoc c (by omega) d1 d2 d3 d4 d5 (fun h => absurd h d6), fun h => by omega⟩
    · rw [if_neg c1] at hs
      by_cases c2 : 97 ≤ c ∧ c ≤ 104
      · rw [if_pos c2] at hs
        cases hs
        obtain ⟨d1, d2, d3, d4, d5, d6⟩ := hlet c c2
        refine ⟨by omega, by omega, p3, p4, p5, app_ne0 d1 (app_ne0 (by decide) p6), fun _ => ⟨WFb_app s49.1 ⟨d2, d3, fun h => absurd h d4, fun h => ?_⟩, ?_⟩, fun h => by omega⟩
        · rcases h with h | h
          · exact absurd h d5
          · exact absurd h d6
        · rw [dep_app, if_neg d4, if_neg d5]; exact s49.2
      · rw [if_neg c2] at hs
        by_cases c3 : c = 40 ∧ o < 4
        · rw [if_pos c3] at hs
          cases hs
          obtain ⟨rfl, ho⟩ := c3
          refine ⟨by omega, by omega, by omega, p4, p5, app_ne0 (by decide) (app_ne0 (by decide) p6), fun _ => ⟨WFb_app s49.1 ⟨by decide, by decide, fun _ => by rw [s49.2]; omega, fun h => by rcases h with h | h <;> exact absurd h (by decide)⟩, ?_⟩, fun h => by omega⟩
          rw [dep_app, if_pos rfl, s49.2]
        · rw [if_neg c3] at hs; cases hs
  rw [if_neg e0] at hs
  by_cases e1 : h9 = 1
  · rw [if_pos e1] at hs
    by_cases c2 : 97 ≤ c ∧ c ≤ 104
    · rw [if_pos c2] at hs
      cases hs
      obtain ⟨d1, d2, d3, d4, d5, d6⟩ := hlet c c2
      exact ⟨by omega, by omega, p3, p4, p5, app_ne0 d1 p6, fun _ => snoc c (by omega) d1 d2 d3 d4 d5 (fun h => absurd h d6), fun h => by omega⟩
    · rw [if_neg c2] at hs
      by_cases c3 : c = 40 ∧ o < 4
      · rw [if_pos c3] at hs
        cases hs
        obtain ⟨rfl, ho⟩ := c3
        obtain ⟨q1, q2⟩ := p7 (by omega)
        refine ⟨by omega, by omega, by omega, p4, p5, app_ne0 (by decide) p6, fun _ => ⟨WFb_app q1 ⟨by decide, by decide, fun _ => by rw [q2]; omega, fun h => by rcases h with h | h <;> exact absurd h (by decide)⟩, ?_⟩, fun h => by omega⟩
        rw [dep_app, if_pos rfl, q2]
      · rw [if_neg c3] at hs; cases hs
  rw [if_neg e1] at hs
  by_cases e2 : h9 = 2
  · rw [if_pos e2] at hs
    obtain ⟨q1, q2⟩ := p7 (by omega)
    by_cases c1 : c = 43
    · rw [if_pos c1] at hs
      cases hs
      subst c1
      exact ⟨by omega, by omega, p3, p4, p5, app_ne0 (by decide) p6, fun _ => snoc 43 (by omega) (by decide) (by decide) (by decide) (by decide) (by decide) (fun h => absurd h (by decide)), fun h => by omega⟩
    · rw [if_neg c1] at hs
      by_cases c2 : c = 124 ∧ 0 < o
      · rw [if_pos c2] at hs
        cases hs
        obtain ⟨rfl, ho⟩ := c2
        exact ⟨by omega, by omega, p3, p4, p5, app_ne0 (by decide) p6, fun _ => snoc 124 (by omega) (by decide) (by decide) (by decide) (by decide) (by decide) (fun _ => ho), fun h => by omega⟩
      · rw [if_neg c2] at hs
        by_cases c3 : c = 41 ∧ 0 < o
        · rw [if_pos c3] at hs
          cases hs
          obtain ⟨rfl, ho⟩ := c3
          refine ⟨by omega, by omega, by omega, p4, p5, app_ne0 (by decide) p6, fun _ => ⟨WFb_app q1 ⟨by decide, by decide, fun h => absurd h (by decide), fun _ => by rw [q2]; exact ho⟩, ?_⟩, fun h => by omega⟩
          rw [dep_app, if_neg (by decide), if_pos rfl, q2]
        · rw [if_neg c3] at hs
          by_cases c4 : c = 60 ∧ o = 0
          · rw [if_pos c4] at hs
            cases hs
            obtain ⟨rfl, ho⟩ := c4
            have hc : ∀ j, j < n → w j = app w n 60 j := fun j hj => (app_n (by omega)).symm
            refine ⟨by omega, by omega, p3, p4, p5, app_ne0 (by decide) p6, fun h => by omega, fun _ => ⟨by omega, ?_, ?_, ho, ?_⟩⟩
            · rw [Nat.add_sub_cancel]; exact WFb_cong hc q1
            · rw [Nat.add_sub_cancel]; exact app_s
            · rw [Nat.add_sub_cancel, ← dep_cong n hc, q2]; exact ho
          · rw [if_neg c4] at hs; cases hs
  rw [if_neg e2] at hs
  by_cases e3 : h9 = 3
  · rw [if_pos e3] at hs
    by_cases c1 : 48 ≤ c ∧ c ≤ 57
    · rw [if_pos c1] at hs
      cases hs
      obtain ⟨x, hx, -, hx2, -⟩ := dig9 c1
      exact ⟨by omega, by omega, p3, by rw [hx2]; exact hx, p5, p6, fun h => by omega, fun _ => p8 (by omega)⟩
    · rw [if_neg c1] at hs; cases hs
  rw [if_neg e3] at hs
  by_cases e4 : h9 = 4
  · rw [if_pos e4] at hs
    by_cases c1 : 48 ≤ c ∧ c ≤ 57
    · rw [if_pos c1] at hs
      cases hs
      obtain ⟨x, hx, -, hx2, -⟩ := dig9 c1
      exact ⟨by omega, by omega, p3, p4, by rw [hx2]; exact hx, p6, fun h => by omega, fun _ => p8 (by omega)⟩
    · rw [if_neg c1] at hs; cases hs
  · rw [if_neg e4] at hs; cases hs
