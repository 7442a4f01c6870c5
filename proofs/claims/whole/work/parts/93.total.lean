/-! PURE: totals, grades, on both sides; total, grade. By hand. -/
theorem mka_le {s : A} (hW : WF s) {a x : Nat} (h : s.mka a = some x) : x ≤ 99 := by
  unfold A.mka at h
  split at h
  · unfold A.mkn at h
    cases e : s.pln a with
    | none => rw [e] at h; cases h
    | some y => rw [e] at h; cases h; exact apm_le hW (pln_le hW e)
  · cases h; exact Nat.zero_le _
/-- the total of a pupil -/
def A.tot (s : A) (p : Nat) : Option Nat := match s.mka (4 * p), s.mka (4 * p + 1), s.mka (4 * p + 2), s.mka (4 * p + 3) with
  | some a, some b, some c, some d => some (a + b + max c d + s.gift p)
  | _, _, _, _ => none
theorem tot_le {s : A} (hW : WF s) {p x : Nat} (hp : p < 16) (h : s.tot p = some x) : x ≤ 306 := by
  have hg := hW.gift p hp
  unfold A.tot at h
  cases e0 : s.mka (4 * p) with
  | none => rw [e0] at h; cases h
  | some a =>
    cases e1 : s.mka (4 * p + 1) with
    | none => rw [e0, e1] at h; cases h
    | some b =>
      cases e2 : s.mka (4 * p + 2) with
      | none => rw [e0, e1, e2] at h; cases h
      | some c =>
        cases e3 : s.mka (4 * p + 3) with
        | none => rw [e0, e1, e2, e3] at h; cases h
        | some d =>
          rw [e0, e1, e2, e3] at h
          have h' : some (a + b + max c d + s.gift p) = some x := h
          cases h'
          have b0 := mka_le hW e0
          have b1 := mka_le hW e1
          have b2 := mka_le hW e2
          have b3 := mka_le hW e3
          omega
theorem maxI2 {a b : Nat} (ha : a < 2 ^ 31) (hb : b < 2 ^ 31) : (if nI a < nI b then nI b else nI a) = nI (max a b) := maxI ha hb
theorem c_total {σ : Mem} {s : A} (hW : WF s) (hC : RelC σ s) {p : Nat} (hp : p < s.P) : ∃ u, f_X9_totalNow (nI p) σ = some (oi (s.tot p), u) ∧ eqv σ u := by
  have hP := hW.P
  obtain ⟨u0, a0, k0⟩ := c_markNow hW hC hp (q := 0) (by decide)
  obtain ⟨u1, a1, k1⟩ := c_markNow hW (hC.ev k0) hp (q := 1) (by decide)
  obtain ⟨u2, a2, k2⟩ := c_markNow hW ((hC.ev k0).ev k1) hp (q := 2) (by decide)
  obtain ⟨u3, a3, k3⟩ := c_markNow hW (((hC.ev k0).ev k1).ev k2) hp (q := 3) (by decide)
  have k := ((k0.trans k1).trans k2).trans k3
  refine ⟨u3, ?_, k⟩
  rw [show nI 0 = (0 : Int32) from rfl] at a0
  rw [show nI 1 = (1 : Int32) from rfl] at a1
  rw [show nI 2 = (2 : Int32) from rfl] at a2
  rw [show nI 3 = (3 : Int32) from rfl] at a3
  unfold f_X9_totalNow f_X9_totalNow_52
  rw [a0, bd_some, a1, bd_some, a2, bd_some, a3, bd_some]
  show (if oi (s.mka (4 * p)) = -1 then _ else if oi (s.mka (4 * p + 1)) = -1 then _ else if oi (s.mka (4 * p + 2)) = -1 then _ else if oi (s.mka (4 * p + 3)) = -1 then _ else _) = _
  unfold A.tot
  cases e0 : s.mka (4 * p) with
  | none => rw [if_pos oi_n]; rfl
  | some a =>
    have b0 := mka_le hW e0
    rw [if_neg (oi_s (show a < 2 ^ 31 by omega))]
    cases e1 : s.mka (4 * p + 1) with
    | none => rw [if_pos oi_n]; rfl
    | some b =>
      have b1 := mka_le hW e1
      rw [if_neg (oi_s (show b < 2 ^ 31 by omega))]
      cases e2 : s.mka (4 * p + 2) with
      | none => rw [if_pos oi_n]; rfl
      | some c =>
        have b2 := mka_le hW e2
        rw [if_neg (oi_s (show c < 2 ^ 31 by omega))]
        cases e3 : s.mka (4 * p + 3) with
        | none => rw [if_pos oi_n]; rfl
        | some d =>
          have b3 := mka_le hW e3
          rw [if_neg (oi_s (show d < 2 ^ 31 by omega)), rget_n (show p < 16 by omega) (by decide), k.at rfl, (hC.c2.2.2 p (by omega)).1]
          show some (nI a + nI b + (if nI c < nI d then nI d else nI c) + nI (s.gift p), u3) = some (nI (a + b + max c d + s.gift p), u3)
          rw [maxI (by omega) (by omega), nI_add, nI_add, nI_add]
/-- one round of the reference's sum -/
theorem m_tot1 {σ : Mem} {s : A} (hW : WF s) (hM : RelM σ s) {p q : Nat} (hp : p < s.P) (hq : q < 4) {v2 v3 v4 : Int32} (N : Nat) : ∃ u, f_X10_totalOf_10 (N + 1) (nI p) v2 v3 v4 (nI q) σ = f_X10_totalOf_10 N (nI p) (v2 + (if q < 2 then oi (s.mka (4 * p + q)) else 0)) (if v3 = 0 then 0 else if oi (s.mka (4 * p + q)) = -1 then 0 else 1) (if q < 2 then v4 else if oi (s.mka (4 * p + q)) ≤ v4 then v4 else oi (s.mka (4 * p + q))) (nI (q + 1)) u ∧ eqv σ u := by
  have hP := hW.P
  obtain ⟨u, d1, d2⟩ := m_marked hW hM (show 4 * p + q < 4 * s.P by omega)
  refine ⟨u, ?_, d2⟩
  show (if (4 : Int32) ≤ nI q then _ else _) = _
  rw [if_neg (show ¬ (4 : Int32) ≤ nI q from nle (a := 4) (by decide) (by omega) (by omega)), show (4 : Int32) = nI 4 from rfl, pk_mul, nI_add, d1, bd_some]
  generalize oi (s.mka (4 * p + q)) = y
  unfold f_X10_totalOf_42 f_X10_totalOf_43 f_X10_totalOf_57 f_X10_totalOf_77 f_X10_totalOf_79
  simp only [nv]
  rw [nI_1]
  by_cases h2 : q < 2
  · have g1 : ¬ (2 : Int32) ≤ nI q := nle (a := 2) (by decide) (by omega) (by omega)
    have g2 : nI q < (2 : Int32) := (nI_ltI (b := 2) (by omega) (by decide)).mpr h2
    simp only [if_neg g1, if_pos g2, if_pos h2]
    by_cases h3 : v3 = 0
    · simp only [if_pos h3]
    · simp only [if_neg h3]
      by_cases hy : y = -1
      · simp only [if_pos hy]
      · simp only [if_neg hy]
  · have g1 : (2 : Int32) ≤ nI q := (nI_leI (a := 2) (by decide) (by omega)).mpr (by omega)
    have g2 : ¬ nI q < (2 : Int32) := nlt (b := 2) (by omega) (by decide) (by omega)
    simp only [if_pos g1, if_neg g2, if_neg h2]
    by_cases h4 : y ≤ v4
    · simp only [if_pos h4]
      by_cases h3 : v3 = 0
      · simp only [if_pos h3]
      · simp only [if_neg h3]
        by_cases hy : y = -1
        · simp only [if_pos hy]
        · simp only [if_neg hy]
    · simp only [if_neg h4]
      by_cases h3 : v3 = 0
      · simp only [if_pos h3]
      · simp only [if_neg h3]
        by_cases hy : y = -1
        · simp only [if_pos hy]
        · simp only [if_neg hy]
theorem m_totz {σ : Mem} {s : A} (hW : WF s) (hM : RelM σ s) {p : Nat} (hp : p < s.P) : ∀ d q, q + d = 4 → ∀ τ, eqv σ τ → ∀ (v2 v4 : Int32) (N : Nat), ∃ u, f_X10_totalOf_10 (N + d + 1) (nI p) v2 0 v4 (nI q) τ = some (-1, u) ∧ eqv σ u := by
  intro d
  induction d with
  | zero =>
    intro q hq τ ht v2 v4 N
    have e : q = 4 := by omega
    subst e
    refine ⟨τ, ?_, ht⟩
    show (if (4 : Int32) ≤ nI 4 then (if (0 : Int32) = 0 then _ else _) else _) = _
    rw [if_pos (show (4 : Int32) ≤ nI 4 by decide), if_pos rfl]
    rfl
  | succ d ih =>
    intro q hq τ ht v2 v4 N
    obtain ⟨u1, d1, d2⟩ := m_tot1 hW (hM.ev ht) hp (show q < 4 by omega) (v2 := v2) (v3 := 0) (v4 := v4) (N + d + 1)
    rw [if_pos rfl] at d1
    obtain ⟨u2, e1, e2⟩ := ih (q + 1) (by omega) u1 (ht.trans d2) _ _ N
    exact ⟨u2, d1.trans e1, e2⟩
theorem m_totn {σ : Mem} {s : A} (hW : WF s) (hM : RelM σ s) {p q : Nat} (hp : p < s.P) (hq : q < 4) (e : s.mka (4 * p + q) = none) (v2 v4 : Int32) (N : Nat) : ∃ u v2' v4', f_X10_totalOf_10 (N + 1) (nI p) v2 1 v4 (nI q) σ = f_X10_totalOf_10 N (nI p) v2' 0 v4' (nI (q + 1)) u ∧ eqv σ u := by
  obtain ⟨u, d1, d2⟩ := m_tot1 hW hM hp hq (v2 := v2) (v3 := 1) (v4 := v4) N
  rw [e, if_neg i10, if_pos oi_n] at d1
  exact ⟨u, _, _, d1, d2⟩
theorem m_tots {σ : Mem} {s : A} (hW : WF s) (hM : RelM σ s) {p q x y z : Nat} (hp : p < s.P) (hq : q < 4) (e : s.mka (4 * p + q) = some y) (hz : z < 1000) (N : Nat) : ∃ u, f_X10_totalOf_10 (N + 1) (nI p) (nI x) 1 (nI z) (nI q) σ = f_X10_totalOf_10 N (nI p) (nI (x + if q < 2 then y else 0)) 1 (nI (if q < 2 then z else max z y)) (nI (q + 1)) u ∧ eqv σ u := by
  have hy := mka_le hW e
  obtain ⟨u, d1, d2⟩ := m_tot1 hW hM hp hq (v2 := nI x) (v3 := 1) (v4 := nI z) N
  rw [e, if_neg i10, if_neg (oi_s (show y < 2 ^ 31 by omega))] at d1
  have e2 : nI x + (if q < 2 then oi (some y) else 0) = nI (x + if q < 2 then y else 0) := by
    by_cases h : q < 2
    · rw [if_pos h, if_pos h]; exact nI_add x y
    · rw [if_neg h, if_neg h]; exact nI_add x 0
  have e3 : (if q < 2 then nI z else if oi (some y) ≤ nI z then nI z else oi (some y)) = nI (if q < 2 then z else max z y) := by
    by_cases h : q < 2
    · rw [if_pos h, if_pos h]
    · rw [if_neg h, if_neg h]
      show (if nI y ≤ nI z then nI z else nI y) = _
      by_cases c : y ≤ z
      · rw [if_pos ((nI_leI (by omega) (by omega)).mpr c)]; congr 1; omega
      · rw [if_neg (nle (by omega) (by omega) (by omega))]; congr 1; omega
  rw [e2, e3] at d1
  exact ⟨u, d1, d2⟩
theorem m_total {σ : Mem} {s : A} (hW : WF s) (hM : RelM σ s) {p : Nat} (hp : p < s.P) : ∃ u, f_X10_totalOf (nI p) σ = some (oi (s.tot p), u) ∧ eqv σ u := by
  have hP := hW.P
  have start : f_X10_totalOf (nI p) σ = f_X10_totalOf_10 (99995 + 1 + 1 + 1 + 1 + 1) (nI p) (nI 0) 1 (nI 0) (nI 0) σ := rfl
  rw [start]
  cases e0 : s.mka (4 * p) with
  | none =>
    have tn : s.tot p = none := by unfold A.tot; rw [e0]
    obtain ⟨u, x, z, a, k⟩ := m_totn hW hM hp (q := 0) (by decide) e0 (nI 0) (nI 0) (99995 + 1 + 1 + 1 + 1)
    obtain ⟨u', a', k'⟩ := m_totz hW hM hp 3 1 (by omega) u k x z 99995
    rw [tn]
    exact ⟨u', a.trans a', k'⟩
  | some a =>
    have b0 := mka_le hW e0
    obtain ⟨u0, a0, k0⟩ := m_tots hW hM hp (q := 0) (x := 0) (z := 0) (by decide) e0 (by decide) (99995 + 1 + 1 + 1 + 1)
    have M0 := hM.ev k0
    cases e1 : s.mka (4 * p + 1) with
    | none =>
      have tn : s.tot p = none := by unfold A.tot; rw [e0, e1]
      obtain ⟨u, x, z, c, k⟩ := m_totn hW M0 hp (q := 1) (by decide) e1 (nI (0 + if 0 < 2 then a else 0)) (nI (if 0 < 2 then 0 else max 0 a)) (99995 + 1 + 1 + 1)
      obtain ⟨u', a', k'⟩ := m_totz hW hM hp 2 2 (by omega) u (k0.trans k) x z 99995
      rw [tn]
      exact ⟨u', a0.trans (c.trans a'), k'⟩
    | some b =>
      have b1 := mka_le hW e1
      obtain ⟨u1, a1, k1⟩ := m_tots hW M0 hp (q := 1) (x := 0 + if 0 < 2 then a else 0) (z := if 0 < 2 then 0 else max 0 a) (by decide) e1 (by rw [if_pos (show 0 < 2 by decide)]; decide) (99995 + 1 + 1 + 1)
      have M1 := M0.ev k1
      cases e2 : s.mka (4 * p + 2) with
      | none =>
        have tn : s.tot p = none := by unfold A.tot; rw [e0, e1, e2]
        obtain ⟨u, x, z, c, k⟩ := m_totn hW M1 hp (q := 2) (by decide) e2 (nI (0 + (if 0 < 2 then a else 0) + if 1 < 2 then b else 0)) (nI (if 1 < 2 then (if 0 < 2 then 0 else max 0 a) else max (if 0 < 2 then 0 else max 0 a) b)) (99995 + 1 + 1)
        obtain ⟨u', a', k'⟩ := m_totz hW hM hp 1 3 (by omega) u ((k0.trans k1).trans k) x z 99995
        rw [tn]
        exact ⟨u', a0.trans (a1.trans (c.trans a')), k'⟩
      | some c =>
        have b2 := mka_le hW e2
        obtain ⟨u2, a2, k2⟩ := m_tots hW M1 hp (q := 2) (x := 0 + (if 0 < 2 then a else 0) + if 1 < 2 then b else 0) (z := if 1 < 2 then (if 0 < 2 then 0 else max 0 a) else max (if 0 < 2 then 0 else max 0 a) b) (by decide) e2 (by rw [if_pos (show 1 < 2 by decide), if_pos (show 0 < 2 by decide)]; decide) (99995 + 1 + 1)
        have M2 := M1.ev k2
        have a2' := a0.trans (a1.trans a2)
        rw [show nI (0 + (if 0 < 2 then a else 0) + (if 1 < 2 then b else 0) + if 2 < 2 then c else 0) = nI (a + b) from congrArg nI (show 0 + a + b + 0 = a + b by omega), show nI (if 2 < 2 then (if 1 < 2 then (if 0 < 2 then 0 else max 0 a) else max (if 0 < 2 then 0 else max 0 a) b) else max (if 1 < 2 then (if 0 < 2 then 0 else max 0 a) else max (if 0 < 2 then 0 else max 0 a) b) c) = nI c from congrArg nI (show max 0 c = c by omega)] at a2'
        cases e3 : s.mka (4 * p + 3) with
        | none =>
          have tn : s.tot p = none := by unfold A.tot; rw [e0, e1, e2, e3]
          obtain ⟨u, x, z, f, k⟩ := m_totn hW M2 hp (q := 3) (by decide) e3 (nI (a + b)) (nI c) (99995 + 1)
          obtain ⟨u', a', k'⟩ := m_totz hW hM hp 0 4 (by omega) u (((k0.trans k1).trans k2).trans k) x z 99995
          rw [tn]
          exact ⟨u', a2'.trans (f.trans a'), k'⟩
        | some d =>
          have b3 := mka_le hW e3
          have ts : s.tot p = some (a + b + max c d + s.gift p) := by unfold A.tot; rw [e0, e1, e2, e3]
          obtain ⟨u3, a3, k3⟩ := m_tots hW M2 hp (q := 3) (x := a + b) (z := c) (by decide) e3 (by omega) (99995 + 1)
          have k := ((k0.trans k1).trans k2).trans k3
          have a3' := a2'.trans a3
          rw [show nI (a + b + if 3 < 2 then d else 0) = nI (a + b) from rfl, show nI (if 3 < 2 then c else max c d) = nI (max c d) from rfl] at a3'
          refine ⟨u3, a3'.trans ?_, k⟩
          rw [ts]
          show (if (4 : Int32) ≤ nI 4 then (if (1 : Int32) = 0 then _ else gd (inb (nI p) (rlen 47)) _) else _) = _
          rw [if_pos (show (4 : Int32) ≤ nI 4 by decide), if_neg i10, gd_r (show p < 16 by omega) (by decide)]
          unfold f_X10_totalOf_106
          rw [na_nI (by omega), k.at rfl, (hM.m2.2.2 p (by omega)).1, nI_add, nI_add]
          rfl
/-- the grade of a pupil as it is now -/
def A.grt (s : A) (t : Nat) : Int32 := if t < s.b0 then (if t < s.b1 then (if t < s.b2 then 0 else 1) else 2) else 3
def A.grd (s : A) (p : Nat) : Int32 := match s.tot p with
  | none => -1
  | some t => s.grt t
theorem c_grade {σ : Mem} {s : A} (hW : WF s) (hC : RelC σ s) {p : Nat} (hp : p < s.P) : ∃ u, f_X9_gradeNow (nI p) σ = some (s.grd p, u) ∧ eqv σ u := by
  have hP := hW.P
  have g0 := hW.b0
  have g1 := hW.b1
  have g2 := hW.b2
  obtain ⟨u, d1, d2⟩ := c_total hW hC hp
  refine ⟨u, ?_, d2⟩
  have h5 := (hC.ev d2).c5
  unfold f_X9_gradeNow f_X9_gradeNow_46 A.grd
  rw [d1, bd_some]
  cases e : s.tot p with
  | none => rw [if_pos oi_n]
  | some t =>
    have ht := tot_le hW (show p < 16 by omega) e
    rw [if_neg (oi_s (show t < 2 ^ 31 by omega)), h5.2.2.2.2.2.1, h5.2.2.2.2.2.2.1, h5.2.2.2.2.2.2.2, show oi (some t) = nI t from rfl]
    show _ = some (s.grt t, u)
    unfold A.grt
    by_cases c0 : t < s.b0
    · rw [if_pos ((nI_ltI (by omega) (by omega)).mpr c0), if_pos c0]
      by_cases c1 : t < s.b1
      · rw [if_pos ((nI_ltI (by omega) (by omega)).mpr c1), if_pos c1]
        by_cases c2 : t < s.b2
        · rw [if_pos ((nI_ltI (by omega) (by omega)).mpr c2), if_pos c2]
        · rw [if_neg (nlt (by omega) (by omega) (by omega)), if_neg c2]
      · rw [if_neg (nlt (by omega) (by omega) (by omega)), if_neg c1]
    · rw [if_neg (nlt (by omega) (by omega) (by omega)), if_neg c0]
theorem m_grade {σ : Mem} {s : A} (hW : WF s) (hM : RelM σ s) {p : Nat} (hp : p < s.P) : ∃ u, f_X10_gradeOf (nI p) σ = some (s.grd p, u) ∧ eqv σ u := by
  have hP := hW.P
  have g0 := hW.b0
  have g1 := hW.b1
  have g2 := hW.b2
  obtain ⟨u, d1, d2⟩ := m_total hW hM hp
  refine ⟨u, ?_, d2⟩
  have h5 := (hM.ev d2).m5
  unfold f_X10_gradeOf f_X10_gradeOf_58 A.grd
  rw [d1, bd_some]
  cases e : s.tot p with
  | none => rw [if_pos oi_n]
  | some t =>
    have ht := tot_le hW (show p < 16 by omega) e
    rw [if_neg (oi_s (show t < 2 ^ 31 by omega)), show Int32.toNatClampNeg 0 = 0 from rfl, show Int32.toNatClampNeg 1 = 1 from rfl, show Int32.toNatClampNeg 2 = 2 from rfl, h5.2.2.2.2.2.1, h5.2.2.2.2.2.2.1, h5.2.2.2.2.2.2.2, show oi (some t) = nI t from rfl, show inb 0 (rlen 50) = true from rfl, show inb 1 (rlen 50) = true from rfl, show inb 2 (rlen 50) = true from rfl]
    simp only [gd_t]
    show _ = some (s.grt t, u)
    unfold A.grt
    by_cases c0 : t < s.b0
    · rw [if_pos ((nI_ltI (by omega) (by omega)).mpr c0), if_pos c0]
      by_cases c1 : t < s.b1
      · rw [if_pos ((nI_ltI (by omega) (by omega)).mpr c1), if_pos c1]
        by_cases c2 : t < s.b2
        · rw [if_pos ((nI_ltI (by omega) (by omega)).mpr c2), if_pos c2]
        · rw [if_neg (nlt (by omega) (by omega) (by omega)), if_neg c2]
      · rw [if_neg (nlt (by omega) (by omega) (by omega)), if_neg c1]
    · rw [if_neg (nlt (by omega) (by omega) (by omega)), if_neg c0]
/-- total -/
theorem step_total (x : Int32) {σ : Mem} (hI : Inv9 σ) : StpG Inv9 (f_X9_total x) (f_X10_total x) [3] σ := by
  obtain ⟨s, hW, hC, hM⟩ := hI
  have hP := hW.P
  rcases idx x s.P with ⟨p, hp, rfl⟩ | hx
  · obtain ⟨u1, c1, c2⟩ := c_total hW hC hp
    refine stepS (oc := (0, oi (s.tot p))) hW hC hM ⟨u1, ?_, c2⟩ (fun u hu => ?_) (Or.inl rfl)
    · unfold f_X9_total
      rw [cP_y hC.c2.1 hp (by omega), bd_some, if_neg i10, c1, bd_some]
    · obtain ⟨u2, m1, m2⟩ := m_total hW (hu.ask (c := 0)) hp
      refine ⟨oi (s.tot p), u2, ?_, m2.2.trans ask_22, m2.1.trans core_ask, fun _ => rfl⟩
      unfold f_X10_total f_X10_total_21
      rw [mP_y hu.m2.1 hp (by omega), bd_some, aa0, bd_some, if_neg i10, m1, bd_some]
  · refine stepS (oc := (3, 0)) hW hC hM ⟨σ, ?_, eqv.rfl⟩ (fun u hu => ⟨0, ask 1 u, ?_, ask_22, core_ask, fun h => absurd h (by decide)⟩) (Or.inr (by decide))
    · unfold f_X9_total
      rw [cP_n hC.c2.1 (by omega) hx, bd_some, if_pos rfl]
    · unfold f_X10_total f_X10_total_21
      rw [mP_n hu.m2.1 (by omega) hx, bd_some, aa1, bd_some, if_pos rfl]
/-- grade -/
theorem step_grade (x y : Int32) {σ : Mem} (hI : Inv9 σ) : StpG Inv9 (f_X9_grade x (bz y)) (f_X10_grade x (bz y)) [3] σ := by
  obtain ⟨s, hW, hC, hM⟩ := hI
  have hP := hW.P
  rcases idx x s.P with ⟨p, hp, rfl⟩ | hx
  · rcases bz01 y with hb | hb
    · rw [hb]
      obtain ⟨u1, c1, c2⟩ := c_grade hW hC hp
      refine stepS (oc := (0, s.grd p)) hW hC hM ⟨u1, ?_, c2⟩ (fun u hu => ?_) (Or.inl rfl)
      · unfold f_X9_grade f_X9_grade_42
        rw [cP_y hC.c2.1 hp (by omega), bd_some, if_neg i10, if_pos rfl, c1, bd_some]
      · obtain ⟨u2, m1, m2⟩ := m_grade hW (hu.ask (c := 0)) hp
        refine ⟨s.grd p, u2, ?_, m2.2.trans ask_22, m2.1.trans core_ask, fun _ => rfl⟩
        unfold f_X10_grade f_X10_grade_34
        rw [mP_y hu.m2.1 hp (by omega), bd_some, aa0, bd_some, if_neg i10, if_pos rfl, m1, bd_some]
    · rw [hb]
      refine stepS (oc := (0, s.rel p)) hW hC hM ⟨σ, ?_, eqv.rfl⟩ (fun u hu => ⟨s.rel p, ask 0 u, ?_, ask_22, core_ask, fun _ => rfl⟩) (Or.inl rfl)
      · unfold f_X9_grade f_X9_grade_42
        rw [cP_y hC.c2.1 hp (by omega), bd_some, if_neg i10, if_neg i10, rget_n (show p < 16 by omega) (by decide), (hC.c2.2.1 p hp).2.2.2]
      · unfold f_X10_grade f_X10_grade_34
        rw [mP_y hu.m2.1 hp (by omega), bd_some, aa0, bd_some, if_neg i10, if_neg i10, gd_r (show p < 16 by omega) (by decide), na_nI (by omega), ask_at rfl, (hu.m2.2.2 p (by omega)).2.1]
  · refine stepS (oc := (3, 0)) hW hC hM ⟨σ, ?_, eqv.rfl⟩ (fun u hu => ⟨0, ask 1 u, ?_, ask_22, core_ask, fun h => absurd h (by decide)⟩) (Or.inr (by decide))
    · unfold f_X9_grade f_X9_grade_42
      rw [cP_n hC.c2.1 (by omega) hx, bd_some, if_pos rfl]
    · unfold f_X10_grade f_X10_grade_34
      rw [mP_n hu.m2.1 (by omega) hx, bd_some, aa1, bd_some, if_pos rfl]
