/-! PURE: the mark of an answer, on both sides; mark. By hand. -/
theorem RelM.ask {u : Mem} {s : A} {c : Nat} (h : RelM u s) : RelM (ask c u) s := h.fr (fun _ _ => ck core_ask (by omega))
theorem m_has {σ : Mem} {s : A} (hW : WF s) (h2 : RM2 σ s) {a : Nat} (ha : a < 4 * s.P) : f_X10_hasAnswer (nI a) σ = some (if s.lkb a = 0 then 1 else 0, σ) := by
  have hP := hW.P
  have hl := hW.lack (a / 4) (by omega)
  unfold f_X10_hasAnswer f_X10_hasAnswer_22
  rw [md4 (by omega), dv4 a (by omega), gd_r (show a / 4 < 16 by omega) (by decide), na_nI (by omega), (h2.2.1 (a / 4) (by omega)).2.1, bitI (by omega) (by omega)]
  unfold A.lkb
  by_cases c : s.lack (a / 4) / 2 ^ (a % 4) % 2 = 0
  · rw [if_pos (show nI (s.lack (a / 4) / 2 ^ (a % 4) % 2) = (0 : Int32) by rw [c]; rfl), if_pos c, gdz1]
  · rw [if_neg (show ¬ nI (s.lack (a / 4) / 2 ^ (a % 4) % 2) = (0 : Int32) from nne (b := 0) (by omega) (by decide) c), if_neg c, gdz0]
theorem lkb_e {s : A} {p q : Nat} (hq : q < 4) : s.lkb (4 * p + q) = s.lack p / 2 ^ q % 2 := by
  unfold A.lkb
  rw [show (4 * p + q) / 4 = p by omega, show (4 * p + q) % 4 = q by omega]
theorem apb_e {s : A} {p q : Nat} (hq : q < 4) : s.apb (4 * p + q) = s.app p / 2 ^ q % 2 := by
  unfold A.apb
  rw [show (4 * p + q) / 4 = p by omega, show (4 * p + q) % 4 = q by omega]
theorem c_lk {σ : Mem} {s : A} (hW : WF s) (h2 : RC2 σ s) {p q : Nat} (hp : p < s.P) (hq : q < 4) : f_X3_isLacking (nI p) (nI q) σ = some (if s.lkb (4 * p + q) = 0 then 0 else 1, σ) := by
  have hP := hW.P
  have hl := hW.lack p hp
  unfold f_X3_isLacking f_X3_isLacking_20
  rw [rget_n (show p < 16 by omega) (by decide), (h2.2.1 p hp).2.1, bitI (by omega) (by omega), lkb_e hq]
  by_cases c : s.lack p / 2 ^ q % 2 = 0
  · rw [if_pos (show nI (s.lack p / 2 ^ q % 2) = (0 : Int32) by rw [c]; rfl), if_pos c, gdz0]
  · rw [if_neg (show ¬ nI (s.lack p / 2 ^ q % 2) = (0 : Int32) from nne (b := 0) (by omega) (by decide) c), if_neg c, gdz1]
theorem c_ap {σ : Mem} {s : A} (hW : WF s) (h2 : RC2 σ s) {p q : Nat} (hp : p < 16) (hq : q < 4) : f_X3_isAppealed (nI p) (nI q) σ = some (if s.apb (4 * p + q) = 0 then 0 else 1, σ) := by
  have hl := hW.app p hp
  unfold f_X3_isAppealed f_X3_isAppealed_20
  rw [rget_n (show p < 16 from hp) (by decide), (h2.2.2 p hp).2, bitI (by omega) (by omega), apb_e hq]
  by_cases c : s.app p / 2 ^ q % 2 = 0
  · rw [if_pos (show nI (s.app p / 2 ^ q % 2) = (0 : Int32) by rw [c]; rfl), if_pos c, gdz0]
  · rw [if_neg (show ¬ nI (s.app p / 2 ^ q % 2) = (0 : Int32) from nne (b := 0) (by omega) (by decide) c), if_neg c, gdz1]
theorem m_app {σ : Mem} {s : A} (h2 : RM2 σ s) {a : Nat} (ha : a < 64) : σ 48 a = nI (s.apb a) := by
  have h := (h2.2.2 (a / 4) (by omega)).2.2 (a % 4) (by omega)
  rw [show 4 * (a / 4) + a % 4 = a by omega] at h
  exact h
/-- the mark of an answer -/
def A.mka (s : A) (a : Nat) : Option Nat := if s.lkb a = 0 then s.mkn a else some 0
theorem c_tal {σ : Mem} {s : A} (hW : WF s) (hC : RelC σ s) {p q : Nat} (hp : p < 16) (hq : q < 4) : ∃ u, f_X9_tallyUp (nI p) (nI q) σ = some (0, u) ∧ eqv σ u ∧ RT u (s.tal (4 * p + q) s.n) := by
  obtain ⟨u, d1, d2, d3⟩ := c_tallyUp hW hC hp hq
  have h := tal_fold hW (4 * p + q) s.n (Nat.le_refl _)
  rw [show s.Lk (4 * p + q) s.n = s.L (4 * p + q) from rfl] at h
  rw [h] at d3
  exact ⟨u, d1, d2, d3⟩
theorem c_markNow {σ : Mem} {s : A} (hW : WF s) (hC : RelC σ s) {p q : Nat} (hp : p < s.P) (hq : q < 4) : ∃ u, f_X9_markNow (nI p) (nI q) σ = some (oi (s.mka (4 * p + q)), u) ∧ eqv σ u := by
  have hP := hW.P
  unfold f_X9_markNow A.mka
  rw [c_lk hW hC.c2 hp hq, bd_some]
  by_cases c : s.lkb (4 * p + q) = 0
  · rw [if_pos c, if_pos rfl, if_pos c]
    obtain ⟨u, d1, d2, d3⟩ := c_tal hW hC (show p < 16 by omega) hq
    have o := c_outcome hW d3
    rw [show (4 * p + q) % 4 = q by omega] at o
    refine ⟨u, ?_, d2⟩
    rw [d1, bd_some, ris_n (show q < 4 from hq) (by decide), d2.at rfl, d2.at rfl, hC.c5.2.2.1 q hq, ris_b (hW.tw q hq), hC.c5.2.2.2.1, o, bd_some]
  · rw [if_neg c, if_neg i10, if_neg c]
    exact ⟨σ, rfl, eqv.rfl⟩
theorem m_plain {σ : Mem} {s : A} (hW : WF s) (hM : RelM σ s) {a : Nat} (ha : a < 4 * s.P) : ∃ u, f_X10_plain (nI a) σ = some (oi (if s.lkb a = 0 then s.pln a else some 0), u) ∧ eqv σ u := by
  have hP := hW.P
  have hn := hW.n
  have ha64 : a < 64 := by omega
  unfold f_X10_plain f_X10_plain_82
  rw [m_has hW hM.m2 ha, bd_some]
  by_cases c : s.lkb a = 0
  · rw [if_pos c, if_neg i10, if_pos c]
    obtain ⟨u1, d1, d2⟩ := m_wf hW hM.m3 hM.m4.sn hM.m5 hM.m6 ha64
    rw [d1, bd_some]
    have M1 := hM.ev d2
    have wb : s.wf a ≤ 2 := by
      unfold A.wf
      split
      · omega
      · split
        · omega
        · split
          · omega
          · split <;> omega
    unfold A.pln
    by_cases w : 0 < s.wf a
    · rw [if_neg (show ¬ nI (s.wf a) ≤ (0 : Int32) from nle (b := 0) (by omega) (by decide) w), if_pos w]
      exact ⟨u1, rfl, d2⟩
    · have w0 : s.wf a = 0 := by omega
      rw [if_pos (show nI (s.wf a) ≤ (0 : Int32) from (nI_leI (b := 0) (by omega) (by decide)).mpr (by omega)), if_neg w]
      obtain ⟨rd0, -, -⟩ := m_rd hW M1.m3 M1.m6 ha64
      have l1 : 1 ≤ (s.CL a 0).length := by
        by_cases t : s.tw (a % 4) = 0
        · exact wf0_1 w0 t
        · have := (wf0_2 w0 t).1
          omega
      obtain ⟨j0, e0⟩ := get_y (l := s.CL a 0) (i := 0) (by omega)
      have b0 := mkr_le hW (CL_in e0).1
      obtain ⟨u2, f1, f2⟩ := m_markBy hW M1.m3 M1.m6 (CL_in e0).1
      rw [rd0, bd_some, e0, show oi (some j0) = nI j0 from rfl, f1, bd_some, md4 ha64, gd_r (show a % 4 < 4 by omega) (by decide), na_nI (by omega), f2.at rfl, d2.at rfl, hM.m5.2.2.1 (a % 4) (by omega)]
      by_cases t : s.tw (a % 4) = 0
      · rw [if_pos (show nI (s.tw (a % 4)) = (0 : Int32) by rw [t]; rfl), if_pos t, mk0_e e0]
        exact ⟨u2, rfl, d2.trans f2⟩
      · have t1 := hW.tw (a % 4) (by omega)
        obtain ⟨l2, l3⟩ := wf0_2 w0 t
        obtain ⟨j1, e1⟩ := get_y (l := s.CL a 0) (i := 1) (by omega)
        have b1 := mkr_le hW (CL_in e1).1
        rw [if_neg (show ¬ nI (s.tw (a % 4)) = (0 : Int32) from nne (b := 0) (by omega) (by decide) t), if_neg t, mk0_e e0, mk0_e e1]
        rw [mk0_e e0, mk0_e e1] at l3
        have M2 := M1.ev f2
        obtain ⟨u3, g1, g2⟩ := m_isApart hW M2.m3 M2.m5 M2.m6 ha64 e0 e1
        have M3 := M2.ev g2
        rw [g1, bd_some]
        by_cases n : s.mkr j0 - s.mkr j1 + (s.mkr j1 - s.mkr j0) ≤ s.tol
        · have ny : s.near (s.mkr j0) (s.mkr j1) = true := decide_eq_true n
          obtain ⟨-, r1, -⟩ := m_rd hW M3.m3 M3.m6 ha64
          obtain ⟨u4, k1, k2⟩ := m_markBy hW M3.m3 M3.m6 (CL_in e1).1
          rw [if_pos n, if_pos rfl, if_pos ny, r1, bd_some, e1, show oi (some j1) = nI j1 from rfl, k1, bd_some, nI_add, nI_1, show (2 : Int32) = nI 2 from rfl, pk_div (by omega) (by decide) (by decide)]
          exact ⟨u4, rfl, ((d2.trans f2).trans g2).trans k2⟩
        · have ny : ¬ s.near (s.mkr j0) (s.mkr j1) = true := fun h => n (of_decide_eq_true h)
          obtain ⟨j, tt⟩ := l3.resolve_left ny
          obtain ⟨u4, k1, k2⟩ := m_markBy hW M3.m3 M3.m6 (thr_in tt)
          rw [if_neg n, if_neg i10, if_neg ny, m_third hW M3.m3 M3.m4.sn M3.m6 ha64, bd_some, tt, show oi (some j) = nI j from rfl, k1, bd_some]
          exact ⟨u4, rfl, ((d2.trans f2).trans g2).trans k2⟩
  · rw [if_neg c, if_pos rfl, if_neg c]
    exact ⟨σ, rfl, eqv.rfl⟩
theorem m_45 (v : Int32) (τ : Mem) : f_X10_marked_45 v τ = some (v, τ) := by
  unfold f_X10_marked_45 f_X10_marked_46 f_X10_marked_67 f_X10_apart f_X10_apart_14
  rw [ite_self, bd_some, ite_self]
theorem m_26a (v : Int32) (τ : Mem) : f_X10_marked_26 (-1) v τ = some (-1, τ) := by
  unfold f_X10_marked_26
  rw [if_pos rfl, m_45]
theorem m_26b (v : Int32) (τ : Mem) : f_X10_marked_26 v (-1) τ = some (v, τ) := by
  unfold f_X10_marked_26
  rw [m_45, if_pos (show (-1 : Int32) = -1 from rfl), ite_self]
theorem m_marked {σ : Mem} {s : A} (hW : WF s) (hM : RelM σ s) {a : Nat} (ha : a < 4 * s.P) : ∃ u, f_X10_marked (nI a) σ = some (oi (s.mka a), u) ∧ eqv σ u := by
  have hP := hW.P
  have hn := hW.n
  have htol := hW.tol
  have ha64 : a < 64 := by omega
  obtain ⟨u1, d1, d2⟩ := m_plain hW hM ha
  have M1 := hM.ev d2
  obtain ⟨-, -, rd⟩ := m_rd hW M1.m3 M1.m6 ha64
  unfold f_X10_marked A.mka
  rw [d1, bd_some, gd_r (show a < 64 from ha64) (by decide), na_nI (by omega), m_app M1.m2 ha64]
  by_cases c : s.lkb a = 0
  · rw [if_pos c, if_pos c]
    unfold A.mkn
    cases e : s.pln a with
    | none =>
      rw [oi_n, m_26a, rd, bd_some, m_26a, ite_self]
      exact ⟨u1, rfl, d2⟩
    | some x =>
      have hx := pln_le hW e
      show ∃ u, _ = some (nI (s.apm a x), u) ∧ _
      unfold A.apm
      rw [show oi (some x) = nI x from rfl, m_26b, rd, bd_some]
      cases e1 : (s.CL a 1)[0]? with
      | none =>
        rw [oi_n, m_26b, ite_self]
        exact ⟨u1, rfl, d2⟩
      | some k =>
        obtain ⟨k1, k2, k3, -⟩ := CL_in e1
        have b := mkr_le hW k1
        have hb := hW.ar k k1 k3
        rw [k2] at hb
        obtain ⟨u2, f1, f2⟩ := m_markBy hW M1.m3 M1.m6 k1
        refine ⟨u2, ?_, d2.trans f2⟩
        rw [if_neg (show ¬ nI (s.apb a) = (0 : Int32) by rw [hb]; decide), show oi (some k) = nI k from rfl]
        unfold f_X10_marked_26 f_X10_marked_46 f_X10_marked_67
        rw [if_neg (nm1 (by omega)), if_neg (nm1 (by omega)), f1, bd_some, m_apart (by omega) (by omega), bd_some, f2.at rfl, M1.m5.2.2.2.1]
        show _ = some (nI (if s.near x (s.mkr k) = true then x else s.mkr k), u2)
        by_cases n : x - s.mkr k + (s.mkr k - x) ≤ s.tol
        · rw [if_pos ((nI_leI (by omega) (by omega)).mpr n), if_pos (show s.near x (s.mkr k) = true from decide_eq_true n)]
        · rw [if_neg (nle (by omega) (by omega) (by omega)), if_neg (show ¬ s.near x (s.mkr k) = true from fun h => n (of_decide_eq_true h))]
  · have hb : s.apb a = 0 := by
      have h1 := hW.al a ha
      have h2 : s.apb a ≤ 1 := by unfold A.apb; omega
      by_cases z : s.apb a = 1
      · exact absurd (h1 z) c
      · omega
    rw [if_neg c, if_neg c, if_pos (show nI (s.apb a) = (0 : Int32) by rw [hb]; rfl), m_26b]
    exact ⟨u1, rfl, d2⟩
/-- mark -/
theorem step_mark (x y : Int32) {σ : Mem} (hI : Inv9 σ) : StpG Inv9 (f_X9_mark x y) (f_X10_mark x y) [3] σ := by
  obtain ⟨s, hW, hC, hM⟩ := hI
  have hP := hW.P
  have no : ∀ u, f_X10_mark_21 x y 0 u = some (0, ask 1 u) := by
    intro u
    unfold f_X10_mark_21 f_X10_mark_40
    rw [aa1, bd_some, if_pos rfl]
  rcases idx x s.P with ⟨p, hp, rfl⟩ | hx
  · rcases idx y 4 with ⟨q, hq, rfl⟩ | hy
    · obtain ⟨u1, c1, c2⟩ := c_markNow hW hC hp hq
      refine stepS (oc := (0, oi (s.mka (4 * p + q)))) hW hC hM ⟨u1, ?_, c2⟩ (fun u hu => ?_) (Or.inl rfl)
      · unfold f_X9_mark
        rw [cP_y hC.c2.1 hp (by omega), bd_some, if_neg i10, cQ_y hq, bd_some, if_neg i10, c1, bd_some]
      · obtain ⟨u2, m1, m2⟩ := m_marked hW (hu.ask (c := 0)) (show 4 * p + q < 4 * s.P by omega)
        refine ⟨oi (s.mka (4 * p + q)), u2, ?_, m2.2.trans ask_22, m2.1.trans core_ask, fun _ => rfl⟩
        unfold f_X10_mark f_X10_mark_21 f_X10_mark_40
        rw [mP_y hu.m2.1 hp (by omega), bd_some, if_neg i10, mQ_y hq, bd_some, if_neg i10, aa0, bd_some, if_neg i10, show (4 : Int32) = nI 4 from rfl, pk_mul, nI_add, m1, bd_some]
    · refine stepS (oc := (3, 0)) hW hC hM ⟨σ, ?_, eqv.rfl⟩ (fun u hu => ⟨0, ask 1 u, ?_, ask_22, core_ask, fun h => absurd h (by decide)⟩) (Or.inr (by decide))
      · unfold f_X9_mark f_X9_mark_18
        rw [cP_y hC.c2.1 hp (by omega), bd_some, if_neg i10, cQ_n hy, bd_some, if_pos rfl]
      · unfold f_X10_mark f_X10_mark_20
        rw [mP_y hu.m2.1 hp (by omega), bd_some, if_neg i10, mQ_n hy, bd_some, if_pos rfl]
        exact no u
  · refine stepS (oc := (3, 0)) hW hC hM ⟨σ, ?_, eqv.rfl⟩ (fun u hu => ⟨0, ask 1 u, ?_, ask_22, core_ask, fun h => absurd h (by decide)⟩) (Or.inr (by decide))
    · unfold f_X9_mark f_X9_mark_18
      rw [cP_n hC.c2.1 (by omega) hx, bd_some, if_pos rfl]
    · unfold f_X10_mark f_X10_mark_20
      rw [mP_n hu.m2.1 (by omega) hx, bd_some, if_pos rfl]
      exact no u
