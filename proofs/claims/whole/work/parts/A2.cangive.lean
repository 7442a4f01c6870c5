/-! PURE: whether an answer can be given to a reader, on both sides. By hand. -/
def A.pr (s : A) (r a : Nat) (j : Nat) : Bool := decide (s.ans j = a ∧ s.rby j = r ∧ s.cts j = true)
/-- a reading of the answer by the reader counts -/
def A.hrb (s : A) (r a : Nat) : Bool := (List.range s.n).any (s.pr r a)
/-- how many have it at hand -/
def A.hold (s : A) (a : Nat) : Nat := ((List.range s.R).filter (fun j => decide (s.hc j = a + 1))).length
def A.pd (s : A) (a : Nat) : Bool := decide ((if s.tw (a % 4) = 0 then 1 else 2) ≤ (s.CL a 0).length)
def A.cg (s : A) (r a : Nat) : Bool := decide (s.lkb a = 0 ∧ s.sch (a / 4) ≠ s.rs r ∧ s.rq r / 2 ^ (a % 4) % 2 = 1 ∧ 0 < s.V (a % 4) ∧ s.hrb r a = false ∧ s.hold a < s.wnt a ∧ (s.sen r ≠ 0 ∨ s.pd a = false))
theorem any_fil (p q : Nat → Bool) (l : List Nat) : (l.filter p).any q = l.any (fun a => p a && q a) := by
  induction l with
  | nil => rfl
  | cons a l ih =>
    by_cases h : p a = true
    · rw [List.filter_cons_of_pos h, List.any_cons, List.any_cons, ih, h, Bool.true_and]
    · rw [List.filter_cons_of_neg h, List.any_cons, ih, Bool.eq_false_iff.mpr h, Bool.false_and, Bool.false_or]
theorem hrb_e {s : A} {r a : Nat} : s.hrb r a = (s.L a).any (fun j => decide (s.rby j = r ∧ s.cts j = true)) := by
  unfold A.hrb A.L
  rw [any_fil]
  congr 1
  funext j
  unfold A.pr
  by_cases h1 : s.ans j = a
  · by_cases h2 : s.rby j = r ∧ s.cts j = true
    · rw [decide_eq_true (show s.ans j = a ∧ s.rby j = r ∧ s.cts j = true from ⟨h1, h2⟩), decide_eq_true h1, decide_eq_true h2]; rfl
    · rw [decide_eq_false (show ¬ (s.ans j = a ∧ s.rby j = r ∧ s.cts j = true) from fun h => h2 h.2), decide_eq_true h1, decide_eq_false h2]; rfl
  · rw [decide_eq_false (show ¬ (s.ans j = a ∧ s.rby j = r ∧ s.cts j = true) from fun h => h1 h.1), decide_eq_false h1]; rfl
theorem c_hr {σ : Mem} {s : A} (hW : WF s) (h6 : RC6 σ s) {r N : Nat} (hr : r < 6) (hN : N < 1000) : ∀ (l : List Nat) (i : Nat) (cur : Int32), i + l.length = N → (∀ k, l.head? = some k → cur = nI k) → lnk (σ 9) l → (∀ k, k ∈ l → k < s.n) → ∀ M, f_X9_hasReadingBy_28 (M + l.length + 1) (nI r) (nI N) cur (nI i) σ = some (if l.any (fun j => decide (s.rby j = r ∧ s.cts j = true)) = true then 1 else 0, σ) := by
  have hn := hW.n
  have hR := hW.R
  intro l
  induction l with
  | nil =>
    intro i cur hi _ _ _ M
    have e : i = N := by simpa using hi
    subst e
    show (if nI i ≤ nI i then _ else _) = _
    rw [if_pos (nI_le (Nat.le_refl _) (by omega)), gdz0]
    rfl
  | cons a l ih =>
    intro i cur hi hc hl hm M
    have ea : cur = nI a := hc a rfl
    have han : a < s.n := hm a (List.mem_cons_self ..)
    obtain ⟨c1, c2, c3, c4, c5, c6⟩ := h6.2.1 a han
    have hb := hW.rby a han
    rw [List.length_cons] at hi
    have nx : ∀ k, l.head? = some k → σ 9 a = nI k := by
      intro k hk
      cases l with
      | nil => cases hk
      | cons b l' => cases hk; exact hl.1
    have hl' : lnk (σ 9) l := by
      cases l with
      | nil => exact trivial
      | cons b l' => exact hl.2
    have i1 := ih (i + 1) (σ 9 a) (by omega) nx hl' (fun k hk => hm k (List.mem_cons_of_mem _ hk)) M
    rw [List.length_cons, ea]
    show (if nI N ≤ nI i then _ else _) = _
    rw [if_neg (nle (by omega) (by omega) (by omega)), rget_n (show a < 300 by omega) (by decide), rget_n (show a < 300 by omega) (by decide), c2, c6, List.any_cons]
    unfold f_X9_hasReadingBy_68
    rw [rget_n (show a < 300 by omega) (by decide)]
    simp only [nv]
    rw [nI_1]
    by_cases h1 : s.rby a = r
    · rw [if_pos (show nI (s.rby a) = nI r by rw [h1])]
      unfold A.worth
      by_cases h2 : s.cts a = true
      · have b := mkr_le hW han
        rw [if_pos h2, if_neg (nm1 (show s.mkr a < 2 ^ 31 by omega)), gdz1, decide_eq_true (show s.rby a = r ∧ s.cts a = true from ⟨h1, h2⟩), Bool.true_or, if_pos rfl]
      · rw [if_neg h2, if_pos rfl, decide_eq_false (show ¬ (s.rby a = r ∧ s.cts a = true) from fun h => h2 h.2), Bool.false_or]
        exact i1
    · rw [if_neg (show ¬ nI (s.rby a) = nI r from nne (by omega) (by omega) h1), decide_eq_false (show ¬ (s.rby a = r ∧ s.cts a = true) from fun h => h1 h.1), Bool.false_or]
      exact i1
theorem c_hrb {σ : Mem} {s : A} (hW : WF s) (hC : RelC σ s) {r a : Nat} (hr : r < 6) (ha : a < 64) : f_X9_hasReadingBy (nI r) (nI a) σ = some (if s.hrb r a = true then 1 else 0, σ) := by
  have hn := hW.n
  obtain ⟨l1, l2, l3, l4⟩ := hC.c7 a ha
  have ln : (s.L a).length ≤ s.n := cl_le _ _
  unfold f_X9_hasReadingBy
  rw [rget_n (show a < 64 from ha) (by decide), rget_n (show a < 64 from ha) (by decide), l1]
  simp only [nv]
  obtain ⟨M, hM⟩ : ∃ M, FUEL = M + (s.L a).length + 1 := ⟨99999 - (s.L a).length, by unfold FUEL; omega⟩
  rw [hM, hrb_e]
  exact c_hr hW hC.c6 hr (N := (s.L a).length) (by omega) (s.L a) 0 _ (by omega) l3 l2 (fun k hk => List.mem_range.mp (List.mem_filter.mp hk).1) M
theorem hand_e {s : A} (hW : WF s) {j p q : Nat} (hj : j < s.R) (hp : p < 16) (hq : q < 4) : (s.hand j = nI (10 * p + q)) ↔ s.hc j = 4 * p + q + 1 := by
  have hS := hW.S
  have hP := hW.P
  unfold A.hand
  rcases hW.hc j hj with h | h | h
  · rw [if_pos h]
    exact ⟨fun e => absurd e.symm (nm1 (by omega)), fun e => by omega⟩
  · by_cases z : s.hc j = 0
    · rw [if_pos z]
      exact ⟨fun e => absurd e.symm (nm1 (by omega)), fun e => by omega⟩
    · rw [if_neg z, if_pos (show s.hc j ≤ 100 by omega), nI_eq (by omega) (by omega)]
      omega
  · have hs := hW.sq (s.hc j - 101) (by omega)
    rw [if_neg (by omega), if_neg (by omega), nI_eq (by omega) (by omega)]
    omega
theorem c_hold {σ : Mem} {s : A} (hW : WF s) (h4 : RC4 σ s) {p q : Nat} (hp : p < 16) (hq : q < 4) : f_X4_holding (nI (10 * p + q)) σ = some (nI (s.hold (4 * p + q)), σ) := by
  have hR := hW.R
  have loop : ∀ d k, k + d = s.R → ∀ N, f_X4_holding_4 (N + d + 1) (nI (10 * p + q)) (nI ((List.range k).filter (fun j => decide (s.hc j = 4 * p + q + 1))).length) (nI k) σ = some (nI (s.hold (4 * p + q)), σ) := by
    intro d
    induction d with
    | zero =>
      intro k hk N
      have e : k = s.R := by omega
      subst e
      show (if σ 76 8 ≤ nI s.R then _ else _) = _
      rw [h4.1, if_pos (nI_le (Nat.le_refl _) (by omega))]
      rfl
    | succ d ih =>
      intro k hk N
      have hkR : k < s.R := by omega
      have i := ih (k + 1) (by omega) N
      rw [cl_s] at i
      show (if σ 76 8 ≤ nI k then _ else _) = _
      rw [h4.1, if_neg (nle (by omega) (by omega) hkR), rget_n (show k < 6 by omega) (by decide), (h4.2.1 k hkR).2.2.2.1]
      unfold f_X4_holding_27
      rw [nI_1, nI_1]
      by_cases c : s.hc k = 4 * p + q + 1
      · rw [if_pos (decide_eq_true c)] at i
        rw [if_pos ((hand_e hW hkR hp hq).mpr c)]
        exact i
      · rw [if_neg (fun h => c (of_decide_eq_true h))] at i
        rw [if_neg (fun h => c ((hand_e hW hkR hp hq).mp h))]
        exact i
  obtain ⟨N, hN⟩ : ∃ N, FUEL = N + s.R + 1 := ⟨99999 - s.R, by unfold FUEL; omega⟩
  unfold f_X4_holding
  rw [hN]
  exact loop s.R 0 (by omega) N
theorem c_isFor {σ : Mem} {s : A} (hW : WF s) (h4 : RC4 σ s) {r q : Nat} (hr : r < s.R) (hq : q < 4) : f_X4_isFor (nI r) (nI q) σ = some (if s.rq r / 2 ^ q % 2 = 1 then 1 else 0, σ) := by
  have hR := hW.R
  have hl := hW.rq r hr
  unfold f_X4_isFor f_X4_isFor_20
  rw [rget_n (show r < 6 by omega) (by decide), (h4.2.1 r hr).2.1, bitI (by omega) (by omega)]
  by_cases c : s.rq r / 2 ^ q % 2 = 1
  · rw [if_neg (show ¬ nI (s.rq r / 2 ^ q % 2) = (0 : Int32) by rw [c]; decide), if_pos c, gdz1]
  · rw [if_pos (show nI (s.rq r / 2 ^ q % 2) = (0 : Int32) by rw [show s.rq r / 2 ^ q % 2 = 0 by omega]; rfl), if_neg c, gdz0]
theorem c_pd {τ : Mem} {s : A} (hW : WF s) {a : Nat} (hT : RT τ (s.tal a s.n)) : f_X8_isPastDue (nI (s.tw (a % 4))) τ = some (if s.pd a = true then 1 else 0, τ) := by
  obtain ⟨-, -, r3, -⟩ := RT_e hT
  have hn := hW.n
  have hlen := CL_len (s := s) (a := a) (ap := 0)
  unfold A.pd
  rcases tw01 hW a with t | t
  · rw [show nI (s.tw (a % 4)) = (0 : Int32) by rw [t]; rfl, c_past0 r3 (by omega), if_pos t]
    by_cases c : 1 ≤ (s.CL a 0).length
    · rw [if_pos c, if_pos (decide_eq_true c)]
    · rw [if_neg c, if_neg (fun h => c (of_decide_eq_true h))]
  · rw [show nI (s.tw (a % 4)) = (1 : Int32) by rw [t]; rfl, c_past1 r3 (by omega), if_neg (show ¬ s.tw (a % 4) = 0 by omega)]
    by_cases c : 2 ≤ (s.CL a 0).length
    · rw [if_pos c, if_pos (decide_eq_true c)]
    · rw [if_neg c, if_neg (fun h => c (of_decide_eq_true h))]
theorem c_can {σ : Mem} {s : A} (hW : WF s) (hC : RelC σ s) {r p q : Nat} (hr : r < s.R) (hp : p < s.P) (hq : q < 4) : ∃ u, f_X9_canBeGiven (nI r) (nI p) (nI q) σ = some (if s.cg r (4 * p + q) = true then 1 else 0, u) ∧ eqv σ u ∧ (s.cg r (4 * p + q) = true → RT u (s.tal (4 * p + q) s.n)) := by
  have hR := hW.R
  have hP := hW.P
  have hV := hW.V q hq
  have e4 : (4 * p + q) % 4 = q := by omega
  have d4 : (4 * p + q) / 4 = p := by omega
  unfold f_X9_canBeGiven f_X9_canBeGiven_37 f_X9_canBeGiven_62 f_X9_canBeGiven_134 f_X9_canBeGiven_139
  rw [c_lk hW hC.c2 hp hq, bd_some]
  by_cases h1 : s.lkb (4 * p + q) = 0
  · rw [if_pos h1, if_pos rfl, rget_n (show p < 16 by omega) (by decide), rget_n (show r < 6 by omega) (by decide), (hC.c2.2.1 p hp).1, (hC.c4.2.1 r hr).1]
    by_cases h2 : s.sch p = s.rs r
    · have n : ¬ s.cg r (4 * p + q) = true := fun z => (of_decide_eq_true z).2.1 (by rw [d4]; exact h2)
      rw [if_pos h2, if_neg n, gdz0]
      exact ⟨σ, rfl, eqv.rfl, fun z => absurd z n⟩
    · rw [if_neg h2, c_isFor hW hC.c4 hr hq, bd_some]
      by_cases h3 : s.rq r / 2 ^ q % 2 = 1
      · rw [if_pos h3, if_neg i10, holds_n hq (by omega) (hC.c3.1 q hq), bd_some]
        by_cases h4 : 0 < s.V q
        · rw [if_pos h4, if_neg i10]
          unfold f_X9_answerOf f_X9_codeOf
          rw [bd_some, show (4 : Int32) = nI 4 from rfl, pk_mul, nI_add, show p * 4 + q = 4 * p + q by omega, c_hrb hW hC (show r < 6 by omega) (by omega), bd_some]
          by_cases h5 : s.hrb r (4 * p + q) = true
          · have n : ¬ s.cg r (4 * p + q) = true := fun z => by
              have := (of_decide_eq_true z).2.2.2.2.1
              rw [h5] at this
              cases this
            rw [if_pos h5, if_neg i10, if_neg n, gdz0]
            exact ⟨σ, rfl, eqv.rfl, fun z => absurd z n⟩
          · obtain ⟨u, d1, d2, d3⟩ := c_wanted hW hC hp hq
            have C1 := hC.ev d2
            have T := d3 h1
            have hw : s.wnt (4 * p + q) ≤ 2 := by
              have := wf_le (s := s) (a := 4 * p + q)
              unfold A.wnt
              split
              · split
                · omega
                · split <;> omega
              · omega
            have hh : s.hold (4 * p + q) ≤ s.R := cl_le _ _
            rw [if_neg h5, if_pos rfl, d1, bd_some, bd_some, show (10 : Int32) = nI 10 from rfl, pk_mul, nI_add, c_hold hW C1.c4 (show p < 16 by omega) hq, bd_some]
            by_cases h6 : s.hold (4 * p + q) < s.wnt (4 * p + q)
            · rw [if_pos ((nI_ltI (by omega) (by omega)).mpr h6), ris_n (show r < 6 by omega) (by decide), (C1.c4.2.1 r hr).2.2.1, ris_b (hW.sen r hr)]
              have hsn := hW.sen r hr
              by_cases h7 : s.sen r = 0
              · have pe := c_pd hW T
                rw [e4] at pe
                rw [if_pos (show nI (s.sen r) = (0 : Int32) by rw [h7]; rfl), ris_n (show q < 4 from hq) (by decide), C1.c5.2.2.1 q hq, ris_b (hW.tw q hq), pe, bd_some]
                by_cases h8 : s.pd (4 * p + q) = true
                · have n : ¬ s.cg r (4 * p + q) = true := fun z => by
                    rcases (of_decide_eq_true z).2.2.2.2.2.2 with h | h
                    · exact h h7
                    · rw [h8] at h; cases h
                  rw [if_pos h8, if_neg i10, if_neg n, gdz0]
                  exact ⟨u, rfl, d2, fun z => absurd z n⟩
                · have y : s.cg r (4 * p + q) = true := decide_eq_true ⟨h1, by rw [d4]; exact h2, by rw [e4]; exact h3, by rw [e4]; exact h4, Bool.eq_false_iff.mpr h5, h6, Or.inr (Bool.eq_false_iff.mpr h8)⟩
                  rw [if_neg h8, if_pos rfl, if_pos y, gdz1]
                  exact ⟨u, rfl, d2, fun _ => T⟩
              · have y : s.cg r (4 * p + q) = true := decide_eq_true ⟨h1, by rw [d4]; exact h2, by rw [e4]; exact h3, by rw [e4]; exact h4, Bool.eq_false_iff.mpr h5, h6, Or.inl h7⟩
                rw [if_neg (show ¬ nI (s.sen r) = (0 : Int32) from nne (b := 0) (by omega) (by decide) h7), if_pos y, gdz1]
                exact ⟨u, rfl, d2, fun _ => T⟩
            · have n : ¬ s.cg r (4 * p + q) = true := fun z => h6 (of_decide_eq_true z).2.2.2.2.2.1
              rw [if_neg (nlt (by omega) (by omega) (by omega)), if_neg n, gdz0]
              exact ⟨u, rfl, d2, fun z => absurd z n⟩
        · have n : ¬ s.cg r (4 * p + q) = true := fun z => h4 (by have := (of_decide_eq_true z).2.2.2.1; rw [e4] at this; exact this)
          rw [if_neg h4, if_pos rfl, if_neg n, gdz0]
          exact ⟨σ, rfl, eqv.rfl, fun z => absurd z n⟩
      · have n : ¬ s.cg r (4 * p + q) = true := fun z => h3 (by have := (of_decide_eq_true z).2.2.1; rw [e4] at this; exact this)
        rw [if_neg h3, if_pos rfl, if_neg n, gdz0]
        exact ⟨σ, rfl, eqv.rfl, fun z => absurd z n⟩
  · have n : ¬ s.cg r (4 * p + q) = true := fun z => h1 (of_decide_eq_true z).1
    rw [if_neg h1, if_neg i10, if_neg n, gdz0]
    exact ⟨σ, rfl, eqv.rfl, fun z => absurd z n⟩
