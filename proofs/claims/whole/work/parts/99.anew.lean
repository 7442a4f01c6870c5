/-! PURE: the mark found anew from the log; markAnew. By hand. -/
/-- the counting readings of an answer from a place of the log on -/
def A.CF (s : A) (a ap f : Nat) : List Nat := (List.range' f (s.n - f)).filter (s.pc a ap)
theorem CF_0 {s : A} {a ap : Nat} : s.CF a ap 0 = s.CL a ap := by
  unfold A.CF A.CL
  rw [Nat.sub_zero, List.range_eq_range']
theorem rng_c (P : Nat → Bool) : ∀ m f j l, (List.range' f m).filter P = j :: l → f ≤ j ∧ j < f + m ∧ (List.range' (j + 1) (f + m - (j + 1))).filter P = l := by
  intro m
  induction m with
  | zero => intro f j l h; cases h
  | succ m ih =>
    intro f j l h
    rw [show List.range' f (m + 1) = f :: List.range' (f + 1) m from rfl] at h
    by_cases c : P f = true
    · rw [List.filter_cons_of_pos c] at h
      have h1 := List.cons.inj h
      refine ⟨by omega, by omega, ?_⟩
      rw [← h1.1, show f + (m + 1) - (f + 1) = m by omega]
      exact h1.2
    · rw [List.filter_cons_of_neg c] at h
      obtain ⟨a1, a2, a3⟩ := ih (f + 1) j l h
      refine ⟨by omega, by omega, ?_⟩
      rw [show f + (m + 1) - (j + 1) = f + 1 + m - (j + 1) by omega]
      exact a3
theorem CF_c {s : A} {a ap f j : Nat} {l : List Nat} (h : s.CF a ap f = j :: l) : f ≤ j ∧ j < s.n ∧ s.CF a ap (j + 1) = l := by
  have h' : (List.range' f (s.n - f)).filter (s.pc a ap) = j :: l := h
  obtain ⟨a1, a2, a3⟩ := rng_c _ _ _ _ _ h'
  refine ⟨a1, by omega, ?_⟩
  unfold A.CF
  rw [show s.n - (j + 1) = f + (s.n - f) - (j + 1) by omega]
  exact a3
/-- what is looked for -/
def A.lf (s : A) (a ap sn : Nat) (k : Nat) : Bool := s.pc a ap k && decide (sn = 0 ∨ s.sen (s.rby k) ≠ 0)
theorem c_find {σ : Mem} {s : A} (hW : WF s) (hC : RelC σ s) {a ap sn : Nat} (ha : a < 64) (hap : ap ≤ 1) (hsn : sn ≤ 1) : ∀ d f, f + d = s.n → ∀ N, f_X9_findReading_3 (N + d + 1) (nI a) (nI ap) (nI sn) (nI f) σ = some (nI (((List.range' f d).find? (s.lf a ap sn)).getD s.n), σ) := by
  have hn := hW.n
  have hP := hW.P
  have hR := hW.R
  intro d
  induction d with
  | zero =>
    intro f hf N
    show (if σ 76 6 ≤ nI f then _ else _) = _
    rw [hC.c6.1, if_pos (nI_le (by omega) (by omega))]
    rfl
  | succ d ih =>
    intro f hf N
    have hfn : f < s.n := by omega
    obtain ⟨c1, c2, c3, c4, c5, c6⟩ := hC.c6.2.1 f hfn
    have hak := (hW.ans f hfn).1
    have hpk := hW.apr f hfn
    have hb := hW.rby f hfn
    have hsk := hW.sen _ hb
    have i := ih (f + 1) (by omega) N
    have no : s.lf a ap sn f = false → f_X9_findReading_98 (f_X9_findReading_3 (N + d + 1)) (nI a) (nI ap) (nI sn) (nI f) σ = some (nI (((List.range' f (d + 1)).find? (s.lf a ap sn)).getD s.n), σ) := by
      intro h
      rw [show List.range' f (d + 1) = f :: List.range' (f + 1) d from rfl, List.find?_cons_of_neg (by rw [h]; decide)]
      unfold f_X9_findReading_98
      rw [nI_1]
      exact i
    have yes : s.lf a ap sn f = true → some (nI f, σ) = some (nI (((List.range' f (d + 1)).find? (s.lf a ap sn)).getD s.n), σ) := by
      intro h
      rw [show List.range' f (d + 1) = f :: List.range' (f + 1) d from rfl, List.find?_cons_of_pos h]
      rfl
    have e83 : s.ans f = a → s.apr f = ap → (sn = 0 ∨ s.sen (s.rby f) ≠ 0) → f_X9_findReading_83 (f_X9_findReading_3 (N + d + 1)) (nI a) (nI ap) (nI sn) (nI f) σ = some (nI (((List.range' f (d + 1)).find? (s.lf a ap sn)).getD s.n), σ) := by
      intro h1 h2 h3
      unfold f_X9_findReading_83
      rw [md4 ha, ← h1, c_counts hW hC.c3 hC.c6 hfn, bd_some, h1]
      by_cases c : s.cts f = true
      · rw [if_pos c, if_neg i10]
        refine yes ?_
        unfold A.lf A.pc
        rw [decide_eq_true ⟨h1, h2, c⟩, decide_eq_true h3]
        rfl
      · rw [if_neg c, if_pos rfl]
        refine no ?_
        unfold A.lf A.pc
        rw [decide_eq_false (fun h => c h.2.2)]
        rfl
    show (if σ 76 6 ≤ nI f then _ else _) = _
    rw [hC.c6.1, if_neg (nle (by omega) (by omega) hfn), rget_n (show f < 300 by omega) (by decide), c1]
    by_cases h1 : s.ans f = a
    · rw [if_pos (show nI (s.ans f) = nI a by rw [h1]), ris_n (show f < 300 by omega) (by decide), c5, ris_b hpk]
      by_cases h2 : s.apr f = ap
      · rw [if_pos (show nI (s.apr f) = nI ap by rw [h2])]
        by_cases h3 : sn = 0
        · rw [if_pos (show nI sn = (0 : Int32) by rw [h3]; rfl)]
          exact e83 h1 h2 (Or.inl h3)
        · rw [if_neg (show ¬ nI sn = (0 : Int32) from nne (b := 0) (by omega) (by decide) h3), rget_n (show f < 300 by omega) (by decide), c2, ris_n (show s.rby f < 6 by omega) (by decide), (hC.c4.2.1 _ hb).2.2.1, ris_b hsk]
          by_cases h4 : s.sen (s.rby f) = 0
          · rw [if_pos (show nI (s.sen (s.rby f)) = (0 : Int32) by rw [h4]; rfl)]
            refine no ?_
            unfold A.lf
            rw [decide_eq_false (show ¬ (sn = 0 ∨ s.sen (s.rby f) ≠ 0) from fun h => h.elim h3 (fun g => g h4)), Bool.and_false]
          · rw [if_neg (show ¬ nI (s.sen (s.rby f)) = (0 : Int32) from nne (b := 0) (by omega) (by decide) h4)]
            exact e83 h1 h2 (Or.inr h4)
      · rw [if_neg (show ¬ nI (s.apr f) = nI ap from nne (by omega) (by omega) h2)]
        refine no ?_
        unfold A.lf A.pc
        rw [decide_eq_false (fun h => h2 h.2.1)]
        rfl
    · rw [if_neg (show ¬ nI (s.ans f) = nI a from nne (by omega) (by omega) h1)]
      refine no ?_
      unfold A.lf A.pc
      rw [decide_eq_false (fun h => h1 h.1)]
      rfl
theorem find_fil (p q : Nat → Bool) (l : List Nat) : (l.filter p).find? q = l.find? (fun a => p a && q a) := by
  induction l with
  | nil => rfl
  | cons a l ih =>
    by_cases h : p a = true
    · rw [List.filter_cons_of_pos h]
      by_cases g : q a = true
      · rw [List.find?_cons_of_pos g, List.find?_cons_of_pos (p := fun a => p a && q a) (show (p a && q a) = true by rw [h, g]; rfl)]
      · rw [List.find?_cons_of_neg g, List.find?_cons_of_neg (p := fun a => p a && q a) (show ¬ (p a && q a) = true by rw [Bool.eq_false_iff.mpr g, Bool.and_false]; decide), ih]
    · rw [List.filter_cons_of_neg h, List.find?_cons_of_neg (p := fun a => p a && q a) (show ¬ (p a && q a) = true by rw [Bool.eq_false_iff.mpr h, Bool.false_and]; decide), ih]
theorem c_findR {σ : Mem} {s : A} (hW : WF s) (hC : RelC σ s) {a ap sn f : Nat} (ha : a < 64) (hap : ap ≤ 1) (hsn : sn ≤ 1) (hf : f ≤ s.n + 1) : f_X9_findReading (nI a) (nI f) (nI ap) (nI sn) σ = some (nI (((s.CF a ap f).find? (fun k => decide (sn = 0 ∨ s.sen (s.rby k) ≠ 0))).getD s.n), σ) := by
  have hn := hW.n
  unfold A.CF
  rw [find_fil]
  by_cases h : f ≤ s.n
  · obtain ⟨N, hN⟩ : ∃ N, FUEL = N + (s.n - f) + 1 := ⟨99999 - (s.n - f), by unfold FUEL; omega⟩
    unfold f_X9_findReading
    rw [hN]
    exact c_find hW hC ha hap hsn (s.n - f) f (by omega) N
  · rw [show s.n - f = 0 by omega]
    have e : f_X9_findReading (nI a) (nI f) (nI ap) (nI sn) σ = f_X9_findReading_3 (99999 + 1) (nI a) (nI ap) (nI sn) (nI f) σ := rfl
    rw [e]
    show (if σ 76 6 ≤ nI f then _ else _) = _
    rw [hC.c6.1, if_pos (nI_le (by omega) (by omega))]
    rfl
theorem fa_0 {s : A} {l : List Nat} : l.find? (fun k => decide ((0 : Nat) = 0 ∨ s.sen (s.rby k) ≠ 0)) = l.head? := by
  cases l with
  | nil => rfl
  | cons a l => rw [List.find?_cons_of_pos (by exact decide_eq_true (Or.inl rfl))]; rfl
theorem fa_1 {s : A} {l : List Nat} : l.find? (fun k => decide ((1 : Nat) = 0 ∨ s.sen (s.rby k) ≠ 0)) = l.find? (fun j => decide (s.sen (s.rby j) ≠ 0)) := by
  congr 1
  funext k
  by_cases h : s.sen (s.rby k) = 0
  · rw [decide_eq_false (show ¬ ((1 : Nat) = 0 ∨ s.sen (s.rby k) ≠ 0) from fun z => z.elim (by decide) (fun g => g h)), decide_eq_false (fun g => g h)]
  · rw [decide_eq_true (show (1 : Nat) = 0 ∨ s.sen (s.rby k) ≠ 0 from Or.inr h), decide_eq_true h]
/-- where the second, the third are looked for -/
theorem CF_1 {s : A} {a : Nat} : (s.CF a 0 (((s.CL a 0).head?).getD s.n + 1)) = (s.CL a 0).drop 1 := by
  cases e : s.CL a 0 with
  | nil =>
    show s.CF a 0 (s.n + 1) = []
    unfold A.CF
    rw [show s.n - (s.n + 1) = 0 by omega]
    rfl
  | cons j l =>
    rw [← CF_0] at e
    exact (CF_c e).2.2
theorem CF_2 {s : A} {a : Nat} : (s.CF a 0 ((((s.CL a 0).drop 1).head?).getD s.n + 1)) = (s.CL a 0).drop 2 := by
  cases e : s.CL a 0 with
  | nil =>
    show s.CF a 0 (s.n + 1) = []
    unfold A.CF
    rw [show s.n - (s.n + 1) = 0 by omega]
    rfl
  | cons j l =>
    rcases l with _ | ⟨k, m⟩
    · show s.CF a 0 (s.n + 1) = []
      unfold A.CF
      rw [show s.n - (s.n + 1) = 0 by omega]
      rfl
    · rw [← CF_0] at e
      have h := (CF_c e).2.2
      exact (CF_c h).2.2
theorem c_mf {σ : Mem} {s : A} (hW : WF s) (hC : RelC σ s) {o : Option Nat} (ho : ∀ k, o = some k → k < s.n) : ∃ u, f_X9_markFound (nI (o.getD s.n)) σ = some (s.wl o, u) ∧ eqv σ u := by
  have hn := hW.n
  have hP := hW.P
  unfold f_X9_markFound f_X9_markFound_46
  rw [hC.c6.1]
  cases o with
  | none =>
    show ∃ u, (if nI s.n ≤ nI s.n then _ else _) = _ ∧ _
    rw [if_pos (nI_le (Nat.le_refl _) (by omega))]
    exact ⟨σ, rfl, eqv.rfl⟩
  | some k =>
    have hk := ho k rfl
    obtain ⟨ha, hv⟩ := hW.ans k hk
    obtain ⟨c1, c2, c3, c4, c5, c6⟩ := hC.c6.2.1 k hk
    have hV := hW.V (s.ans k % 4) (by omega)
    obtain ⟨u, d1, d2⟩ := cMark (p := s.pts k) hW hC.c3 (show s.ans k % 4 < 4 by omega) (show s.V (s.ans k % 4) - 1 < s.V (s.ans k % 4) by omega) (by have := (hW.pts k hk).1; omega)
    show ∃ u, (if nI s.n ≤ nI k then _ else _) = _ ∧ _
    rw [if_neg (nle (by omega) (by omega) hk)]
    refine ⟨u, ?_, d2⟩
    show bd (f_X6_markByLatest (rget 2 (nI k) σ - rget 2 (nI k) σ / 4 * 4) (rget 4 (nI k) σ) σ) _ = _
    unfold f_X6_markByLatest
    rw [rget_n (show k < 300 by omega) (by decide), rget_n (show k < 300 by omega) (by decide), c1, c3, md4 (by omega), rget_n (show s.ans k % 4 < 4 by omega) (by decide), hC.c3.1 _ (by omega), show (1 : Int32) = nI 1 from rfl, pk_sub (by omega), d1, bd_some, bd_some]
    show some (nI (mk9 (s.pts k) (s.txt (6 * (s.ans k % 4) + (s.V (s.ans k % 4) - 1))) (s.tm (6 * (s.ans k % 4) + (s.V (s.ans k % 4) - 1))) (s.most (6 * (s.ans k % 4) + (s.V (s.ans k % 4) - 1)))), u) = some (nI (s.mkr k), u)
    unfold A.mkr
    rw [at9_e hv]
theorem hd_in {s : A} {a ap : Nat} {o : Option Nat} {i : Nat} (h : o = (s.CL a ap)[i]?) : ∀ k, o = some k → k < s.n := fun k e => (CL_in (h.symm.trans e)).1
theorem hd_0 (l : List Nat) : l.head? = l[0]? := by cases l <;> rfl
theorem hd_1 (l : List Nat) : (l.drop 1).head? = l[1]? := by
  cases l with
  | nil => rfl
  | cons a l => cases l <;> rfl
theorem c_double {σ : Mem} {s : A} (hW : WF s) (hC : RelC σ s) {a : Nat} (ha : a < 64) (t : ¬ s.tw (a % 4) = 0) : ∃ u, f_X9_doubleFromLog (nI a) σ = some (oi (s.pln a), u) ∧ eqv σ u := by
  have hn := hW.n
  have htol := hW.tol
  have r1 := c_findR hW hC (a := a) (ap := 0) (sn := 0) (f := 0) ha (by omega) (by omega) (by omega)
  rw [fa_0, CF_0] at r1
  have g1 : ((s.CL a 0).head?).getD s.n ≤ s.n := by
    cases e : (s.CL a 0).head? with
    | none => exact Nat.le_refl _
    | some k =>
      rw [hd_0] at e
      have := (CL_in e).1
      show k ≤ s.n
      omega
  have g2 : (((s.CL a 0).drop 1).head?).getD s.n ≤ s.n := by
    cases e : ((s.CL a 0).drop 1).head? with
    | none => exact Nat.le_refl _
    | some k =>
      rw [hd_1] at e
      have := (CL_in e).1
      show k ≤ s.n
      omega
  have r2 := c_findR hW hC (a := a) (ap := 0) (sn := 0) (f := ((s.CL a 0).head?).getD s.n + 1) ha (by omega) (by omega) (by omega)
  rw [fa_0, CF_1] at r2
  obtain ⟨u1, d1, d2⟩ := c_mf hW hC (o := (s.CL a 0).head?) (hd_in (hd_0 _))
  obtain ⟨u2, e1, e2⟩ := c_mf hW (hC.ev d2) (o := ((s.CL a 0).drop 1).head?) (hd_in (hd_1 _))
  have C2 := (hC.ev d2).ev e2
  have r3 := c_findR hW C2 (a := a) (ap := 0) (sn := 1) (f := (((s.CL a 0).drop 1).head?).getD s.n + 1) ha (by omega) (by omega) (by omega)
  rw [fa_1, CF_2] at r3
  have r3' : f_X9_findReading (nI a) (nI ((((s.CL a 0).drop 1).head?).getD s.n + 1)) 0 1 u2 = some (nI ((s.thr (s.CL a 0)).getD s.n), u2) := r3
  have r1' : f_X9_findReading (nI a) 0 0 0 σ = some (nI (((s.CL a 0).head?).getD s.n), σ) := r1
  have r2' : f_X9_findReading (nI a) (nI (((s.CL a 0).head?).getD s.n + 1)) 0 0 σ = some (nI ((((s.CL a 0).drop 1).head?).getD s.n), σ) := r2
  obtain ⟨u3, m1, m2⟩ := c_mf hW C2 (o := s.thr (s.CL a 0)) (fun k e => thr_in e)
  have h17 : u2 76 17 = nI s.tol := C2.c5.2.2.2.1
  unfold f_X9_doubleFromLog f_X9_doubleFromLog_46
  rw [r1', bd_some, nI_1, r2', bd_some, d1, bd_some, e1, bd_some, hd_0 (s.CL a 0), hd_1 (s.CL a 0), h17]
  rw [hd_1 (s.CL a 0)] at r3'
  unfold A.pln A.wf
  rw [if_neg t, if_neg t]
  cases e0 : (s.CL a 0)[0]? with
  | none =>
    have l0 := List.getElem?_eq_none_iff.mp e0
    rw [wl_n, if_pos rfl, if_pos (show (s.CL a 0).length < 2 by omega), if_pos (show 0 < 2 - (s.CL a 0).length by omega)]
    exact ⟨u2, rfl, d2.trans e2⟩
  | some j0 =>
    have b0 := mkr_le hW (CL_in e0).1
    rw [wl_s, if_neg (nm1 (show s.mkr j0 < 2 ^ 31 by omega))]
    cases f1 : (s.CL a 0)[1]? with
    | none =>
      have l1 := List.getElem?_eq_none_iff.mp f1
      rw [wl_n, if_pos rfl, if_pos (show (s.CL a 0).length < 2 by omega), if_pos (show 0 < 2 - (s.CL a 0).length by omega)]
      exact ⟨u2, rfl, d2.trans e2⟩
    | some j1 =>
      have l1 := (List.getElem?_eq_some_iff.mp f1).1
      have b1 := mkr_le hW (CL_in f1).1
      rw [wl_s, if_neg (nm1 (show s.mkr j1 < 2 ^ 31 by omega)), if_neg (show ¬ (s.CL a 0).length < 2 by omega), mk0_e e0, mk0_e f1]
      rcases c_apart (σ := u2) (x := s.mkr j0) (y := s.mkr j1) (t := s.tol) (by omega) (by omega) (by omega) with ⟨h, ca⟩ | ⟨h, ca⟩
      · rw [ca, bd_some, if_neg i10, if_neg (near_n h), if_neg (near_n h), nI_1]
        rw [f1] at r3'
        rw [r3', bd_some, m1, bd_some]
        refine ⟨u3, ?_, (d2.trans e2).trans m2⟩
        cases tt : s.thr (s.CL a 0) with
        | none => rfl
        | some j => rfl
      · rw [ca, bd_some, if_pos rfl, if_pos (near_y h), if_pos (near_y h), if_neg (show ¬ 0 < 0 by omega), nI_add, nI_1, show (2 : Int32) = nI 2 from rfl, pk_div (by omega) (by decide) (by decide)]
        exact ⟨u2, rfl, d2.trans e2⟩
theorem c_51 {σ : Mem} {s : A} (hW : WF s) (hC : RelC σ s) {a : Nat} (ha : a < 64) : ∃ u, f_X9_markAnew_77 (nI a) (oi (s.pln a)) σ = some ((0, oi (s.mkn a)), u) ∧ eqv σ u := by
  have hn := hW.n
  have htol := hW.tol
  have r1 := c_findR hW hC (a := a) (ap := 1) (sn := 0) (f := 0) ha (by omega) (by omega) (by omega)
  rw [fa_0, CF_0, hd_0] at r1
  have r1' : f_X9_findReading (nI a) 0 1 0 σ = some (nI (((s.CL a 1)[0]?).getD s.n), σ) := r1
  obtain ⟨u1, d1, d2⟩ := c_mf hW hC (o := (s.CL a 1)[0]?) (hd_in rfl)
  have h17 : u1 76 17 = nI s.tol := (hC.ev d2).c5.2.2.2.1
  refine ⟨u1, ?_, d2⟩
  unfold f_X9_markAnew_77 f_X9_markAnew_124 f_X9_markAnew_126 A.mkn
  rw [r1', bd_some, d1, bd_some, h17]
  cases e : s.pln a with
  | none => rw [if_pos oi_n]; rfl
  | some x =>
    have hx := pln_le hW e
    rw [if_neg (oi_s (show x < 2 ^ 31 by omega))]
    show _ = some ((0, nI (s.apm a x)), u1)
    unfold A.apm
    cases f : (s.CL a 1)[0]? with
    | none => rw [wl_n, if_pos rfl]; rfl
    | some k =>
      have b := mkr_le hW (CL_in f).1
      rw [wl_s, if_neg (nm1 (show s.mkr k < 2 ^ 31 by omega))]
      show bd (f_X9_areApart (nI x) (nI (s.mkr k)) (nI s.tol) u1) _ = some ((0, nI (if s.near x (s.mkr k) = true then x else s.mkr k)), u1)
      rcases c_apart (σ := u1) (x := x) (y := s.mkr k) (t := s.tol) (by omega) (by omega) (by omega) with ⟨h, ca⟩ | ⟨h, ca⟩
      · rw [ca, bd_some, if_neg i10, if_neg (near_n h)]
      · rw [ca, bd_some, if_pos rfl, if_pos (near_y h)]
        all_goals rfl
theorem c_markAnew {σ : Mem} {s : A} (hW : WF s) (hC : RelC σ s) {p q : Nat} (hp : p < s.P) (hq : q < 4) : ∃ u, f_X9_markAnew (nI p) (nI q) σ = some ((0, oi (s.mka (4 * p + q))), u) ∧ eqv σ u := by
  have hP := hW.P
  have ha64 : 4 * p + q < 64 := by omega
  unfold f_X9_markAnew A.mka f_X9_answerOf
  rw [cP_y hC.c2.1 hp (by omega), bd_some, if_neg i10, cQ_y hq, bd_some, if_neg i10, c_lk hW hC.c2 hp hq, bd_some]
  by_cases c : s.lkb (4 * p + q) = 0
  · rw [if_pos c, if_pos rfl, if_pos c, bd_some, show (4 : Int32) = nI 4 from rfl, pk_mul, nI_add, show p * 4 + q = 4 * p + q by omega, ris_n (show q < 4 from hq) (by decide), hC.c5.2.2.1 q hq, ris_b (hW.tw q hq)]
    have eq : (4 * p + q) % 4 = q := by omega
    have t1 := hW.tw q hq
    by_cases t : s.tw q = 0
    · have r1 := c_findR hW hC (a := 4 * p + q) (ap := 0) (sn := 0) (f := 0) ha64 (by omega) (by omega) (by omega)
      rw [fa_0, CF_0, hd_0] at r1
      have r1' : f_X9_findReading (nI (4 * p + q)) 0 0 0 σ = some (nI (((s.CL (4 * p + q) 0)[0]?).getD s.n), σ) := r1
      obtain ⟨u1, d1, d2⟩ := c_mf hW hC (o := (s.CL (4 * p + q) 0)[0]?) (hd_in rfl)
      have hw : s.wl ((s.CL (4 * p + q) 0)[0]?) = oi (s.pln (4 * p + q)) := by
        unfold A.pln A.wf
        rw [eq, if_pos t, if_pos t]
        cases e : (s.CL (4 * p + q) 0)[0]? with
        | none =>
          have l0 := List.getElem?_eq_none_iff.mp e
          rw [if_pos (show 0 < 1 - (s.CL (4 * p + q) 0).length by omega)]
          rfl
        | some j =>
          have l0 := (List.getElem?_eq_some_iff.mp e).1
          rw [if_neg (show ¬ 0 < 1 - (s.CL (4 * p + q) 0).length by omega), mk0_e e]
          rfl
      rw [hw] at d1
      obtain ⟨u2, m1, m2⟩ := c_51 hW (hC.ev d2) ha64
      rw [if_pos (show nI (s.tw q) = (0 : Int32) by rw [t]; rfl), r1', bd_some, d1, bd_some]
      exact ⟨u2, m1, d2.trans m2⟩
    · obtain ⟨u1, d1, d2⟩ := c_double hW hC ha64 (by rw [eq]; exact t)
      obtain ⟨u2, m1, m2⟩ := c_51 hW (hC.ev d2) ha64
      rw [if_neg (show ¬ nI (s.tw q) = (0 : Int32) from nne (b := 0) (by omega) (by decide) t), d1, bd_some]
      exact ⟨u2, m1, d2.trans m2⟩
  · rw [if_neg c, if_neg i10, if_neg c]
    exact ⟨σ, rfl, eqv.rfl⟩
/-- markAnew -/
theorem step_markAnew (x y : Int32) {σ : Mem} (hI : Inv9 σ) : StpG Inv9 (f_X9_markAnew x y) (f_X10_markAnew x y) [3] σ := by
  obtain ⟨s, hW, hC, hM⟩ := hI
  have hP := hW.P
  have no : ∀ u, f_X10_markAnew_21 x y 0 u = some (0, ask 1 u) := by
    intro u
    unfold f_X10_markAnew_21 f_X10_markAnew_40
    rw [aa1, bd_some, if_pos rfl]
  rcases idx x s.P with ⟨p, hp, rfl⟩ | hx
  · rcases idx y 4 with ⟨q, hq, rfl⟩ | hy
    · obtain ⟨u1, c1, c2⟩ := c_markAnew hW hC hp hq
      refine stepS (oc := (0, oi (s.mka (4 * p + q)))) hW hC hM ⟨u1, ?_, c2⟩ (fun u hu => ?_) (Or.inl rfl)
      · exact c1
      · obtain ⟨u2, m1, m2⟩ := m_marked hW (hu.ask (c := 0)) (show 4 * p + q < 4 * s.P by omega)
        refine ⟨oi (s.mka (4 * p + q)), u2, ?_, m2.2.trans ask_22, m2.1.trans core_ask, fun _ => rfl⟩
        unfold f_X10_markAnew f_X10_markAnew_21 f_X10_markAnew_40
        rw [mP_y hu.m2.1 hp (by omega), bd_some, if_neg i10, mQ_y hq, bd_some, if_neg i10, aa0, bd_some, if_neg i10, show (4 : Int32) = nI 4 from rfl, pk_mul, nI_add, m1, bd_some]
    · refine stepS (oc := (3, 0)) hW hC hM ⟨σ, ?_, eqv.rfl⟩ (fun u hu => ⟨0, ask 1 u, ?_, ask_22, core_ask, fun h => absurd h (by decide)⟩) (Or.inr (by decide))
      · unfold f_X9_markAnew f_X9_markAnew_18
        rw [cP_y hC.c2.1 hp (by omega), bd_some, if_neg i10, cQ_n hy, bd_some, if_pos rfl]
      · unfold f_X10_markAnew f_X10_markAnew_20
        rw [mP_y hu.m2.1 hp (by omega), bd_some, if_neg i10, mQ_n hy, bd_some, if_pos rfl]
        exact no u
  · refine stepS (oc := (3, 0)) hW hC hM ⟨σ, ?_, eqv.rfl⟩ (fun u hu => ⟨0, ask 1 u, ?_, ask_22, core_ask, fun h => absurd h (by decide)⟩) (Or.inr (by decide))
    · unfold f_X9_markAnew f_X9_markAnew_18
      rw [cP_n hC.c2.1 (by omega) hx, bd_some, if_pos rfl]
    · unfold f_X10_markAnew f_X10_markAnew_20
      rw [mP_n hu.m2.1 (by omega) hx, bd_some, if_pos rfl]
      exact no u
