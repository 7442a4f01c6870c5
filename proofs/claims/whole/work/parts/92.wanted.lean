/-! PURE: how many readings an answer wants, on both sides; wanted. By hand. -/
theorem wf_le {s : A} {a : Nat} : s.wf a ≤ 2 := by
  unfold A.wf
  split
  · omega
  · split
    · omega
    · split
      · omega
      · split <;> omega
/-- how many readings an answer wants still -/
def A.wnt (s : A) (a : Nat) : Nat := if s.lkb a = 0 then (if 0 < s.wf a then s.wf a else if s.apb a = 1 ∧ (s.CL a 1).length = 0 then 1 else 0) else 0
theorem apb_le {s : A} {a : Nat} : s.apb a ≤ 1 := by unfold A.apb; omega
theorem lkb_le {s : A} {a : Nat} : s.lkb a ≤ 1 := by unfold A.lkb; omega
theorem m_17w {u : Mem} {s : A} (hW : WF s) (M : RelM u s) {a w : Nat} (ha : a < 64) (hw : w ≤ 2) : f_X10_wants_17 (nI a) (nI w) u = some (nI (if 0 < w then w else if s.apb a = 1 ∧ (s.CL a 1).length = 0 then 1 else 0), u) := by
  obtain ⟨-, -, rd⟩ := m_rd hW M.m3 M.m6 ha
  have hb := apb_le (s := s) (a := a)
  unfold f_X10_wants_17 f_X10_wants_46 f_X10_wants_47
  rw [gd_r (show a < 64 from ha) (by decide), na_nI (by omega), m_app M.m2 ha]
  by_cases c : 0 < w
  · rw [if_neg (show ¬ nI w = (0 : Int32) from nne (b := 0) (by omega) (by decide) (by omega)), if_pos c]
  · have w0 : w = 0 := by omega
    subst w0
    rw [if_pos (show nI 0 = (0 : Int32) from rfl), if_neg c]
    by_cases d : s.apb a = 0
    · rw [if_pos (show nI (s.apb a) = (0 : Int32) by rw [d]; rfl), if_neg (fun h => by omega)]
    · rw [if_neg (show ¬ nI (s.apb a) = (0 : Int32) from nne (b := 0) (by omega) (by decide) d), rd, bd_some]
      cases e : (s.CL a 1)[0]? with
      | none =>
        have l0 := List.getElem?_eq_none_iff.mp e
        rw [if_pos oi_n, if_pos ⟨by omega, by omega⟩]
        all_goals rfl
      | some k =>
        have l0 := (List.getElem?_eq_some_iff.mp e).1
        rw [if_neg (oi_s (CL_lt hW e)), if_neg (fun h => by omega)]
theorem m_wants {σ : Mem} {s : A} (hW : WF s) (hM : RelM σ s) {a : Nat} (ha : a < 4 * s.P) : ∃ u, f_X10_wants (nI a) σ = some (nI (s.wnt a), u) ∧ eqv σ u := by
  have hP := hW.P
  have ha64 : a < 64 := by omega
  unfold f_X10_wants A.wnt
  rw [m_has hW hM.m2 ha, bd_some]
  by_cases c : s.lkb a = 0
  · rw [if_pos c, if_neg i10, if_pos c]
    obtain ⟨u1, d1, d2⟩ := m_wf hW hM.m3 hM.m4.sn hM.m5 hM.m6 ha64
    rw [d1, bd_some, m_17w hW (hM.ev d2) ha64 wf_le]
    exact ⟨u1, rfl, d2⟩
  · have hb : s.apb a = 0 := by
      have h1 := hW.al a ha
      have h2 := apb_le (s := s) (a := a)
      by_cases z : s.apb a = 1
      · exact absurd (h1 z) c
      · omega
    rw [if_neg c, if_pos rfl, if_neg c]
    have h := m_17w hW hM ha64 (w := 0) (by omega)
    rw [if_neg (show ¬ 0 < 0 by omega), if_neg (show ¬ (s.apb a = 1 ∧ (s.CL a 1).length = 0) from fun h => by omega)] at h
    exact ⟨σ, h, eqv.rfl⟩
theorem c_wanted {σ : Mem} {s : A} (hW : WF s) (hC : RelC σ s) {p q : Nat} (hp : p < s.P) (hq : q < 4) : ∃ u, f_X9_wantedBy (nI p) (nI q) σ = some (nI (s.wnt (4 * p + q)), u) ∧ eqv σ u ∧ (s.lkb (4 * p + q) = 0 → RT u (s.tal (4 * p + q) s.n)) := by
  have hP := hW.P
  have hb := apb_le (s := s) (a := 4 * p + q)
  unfold f_X9_wantedBy f_X9_wantedBy_73 f_X9_wantedBy_74 A.wnt
  rw [c_lk hW hC.c2 hp hq, bd_some]
  by_cases c : s.lkb (4 * p + q) = 0
  · rw [if_pos c, if_pos rfl, if_pos c]
    obtain ⟨u, d1, d2, d3⟩ := c_tal hW hC (show p < 16 by omega) hq
    have o := c_lack hW d3
    rw [show (4 * p + q) % 4 = q by omega] at o
    refine ⟨u, ?_, d2, fun _ => d3⟩
    rw [d1, bd_some, ris_n (show q < 4 from hq) (by decide), d2.at rfl, d2.at rfl, hC.c5.2.2.1 q hq, ris_b (hW.tw q hq), hC.c5.2.2.2.1, o, bd_some]
    have wl := wf_le (s := s) (a := 4 * p + q)
    by_cases w : 0 < s.wf (4 * p + q)
    · rw [if_neg (show ¬ nI (s.wf (4 * p + q)) ≤ (0 : Int32) from nle (b := 0) (by omega) (by decide) w), if_pos w]
    · rw [if_pos (show nI (s.wf (4 * p + q)) ≤ (0 : Int32) from (nI_leI (b := 0) (by omega) (by decide)).mpr (by omega)), if_neg w, c_ap hW (hC.ev d2).c2 (show p < 16 by omega) hq, bd_some]
      by_cases d : s.apb (4 * p + q) = 0
      · rw [if_pos d, if_pos rfl, if_neg (fun h => by omega)]
        all_goals rfl
      · obtain ⟨-, -, -, -, -, -, r7⟩ := RT_e d3
        rw [if_neg d, if_neg i10, r7]
        cases e : (s.CL (4 * p + q) 1)[0]? with
        | none =>
          have l0 := List.getElem?_eq_none_iff.mp e
          rw [wl_n, if_pos rfl, if_pos ⟨by omega, by omega⟩]
          all_goals rfl
        | some k =>
          have l0 := (List.getElem?_eq_some_iff.mp e).1
          have b := mkr_le hW (CL_in e).1
          rw [wl_s, if_neg (nm1 (by omega)), if_neg (fun h => by omega)]
          all_goals rfl
  · rw [if_neg c, if_neg i10, if_neg c]
    exact ⟨σ, rfl, eqv.rfl, fun h => absurd h c⟩
def A.wsum (s : A) : Nat → Nat
  | 0 => 0
  | k + 1 => s.wsum k + s.wnt k
theorem c_w17 {σ : Mem} {s : A} (hW : WF s) (hC : RelC σ s) {k4 : Int32 → Int32 → Mem → Option (Int32 × Mem)} {p : Nat} (hp : p < s.P) : ∀ d q, q + d = 4 → ∀ N τ, eqv σ τ → ∃ u, f_X9_wanted_17 k4 (N + d + 1) (nI (s.wsum (4 * p + q))) (nI p) (nI q) τ = k4 (nI (s.wsum (4 * p + 4))) (nI (p + 1)) u ∧ eqv σ u := by
  intro d
  induction d with
  | zero =>
    intro q hq N τ ht
    have e : q = 4 := by omega
    subst e
    refine ⟨τ, ?_, ht⟩
    show (if (4 : Int32) ≤ nI 4 then _ else _) = _
    rw [if_pos (show (4 : Int32) ≤ nI 4 by decide), nI_1]
  | succ d ih =>
    intro q hq N τ ht
    obtain ⟨u1, d1, d2, -⟩ := c_wanted hW (hC.ev ht) hp (show q < 4 by omega)
    obtain ⟨u2, e1, e2⟩ := ih (q + 1) (by omega) N u1 (ht.trans d2)
    refine ⟨u2, ?_, e2⟩
    rw [show s.wsum (4 * p + (q + 1)) = s.wsum (4 * p + q) + s.wnt (4 * p + q) from rfl] at e1
    rw [← e1]
    show (if (4 : Int32) ≤ nI q then _ else _) = _
    rw [if_neg (show ¬ (4 : Int32) ≤ nI q from nle (a := 4) (by decide) (by omega) (by omega)), d1, bd_some]
    simp only [nv]
    rw [nI_add, nI_1]
    all_goals rfl
theorem c_wsum {σ : Mem} {s : A} (hW : WF s) (hC : RelC σ s) : ∀ d p, p + d = s.P → ∀ N τ, eqv σ τ → ∃ u, f_X9_wanted_4 (N + d + 1) (nI (s.wsum (4 * p))) (nI p) τ = some (nI (s.wsum (4 * s.P)), u) ∧ eqv σ u := by
  have hP := hW.P
  intro d
  induction d with
  | zero =>
    intro p hp N τ ht
    have e : p = s.P := by omega
    subst e
    refine ⟨τ, ?_, ht⟩
    show (if τ 76 7 ≤ nI s.P then _ else _) = _
    rw [(hC.ev ht).c2.1, if_pos (nI_le (Nat.le_refl _) (by omega))]
  | succ d ih =>
    intro p hp N τ ht
    obtain ⟨u1, d1, d2⟩ := c_w17 hW hC (k4 := f_X9_wanted_4 (N + d + 1)) (show p < s.P by omega) 4 0 (by omega) 99995 τ ht
    obtain ⟨u2, e1, e2⟩ := ih (p + 1) (by omega) N u1 d2
    rw [show 4 * (p + 1) = 4 * p + 4 by omega] at e1
    refine ⟨u2, ?_, e2⟩
    show (if τ 76 7 ≤ nI p then _ else f_X9_wanted_17 (f_X9_wanted_4 (N + d + 1)) FUEL (nI (s.wsum (4 * p))) (nI p) 0 τ) = _
    rw [(hC.ev ht).c2.1, if_neg (nle (by omega) (by omega) (by omega))]
    exact d1.trans e1
theorem m_wsum {σ : Mem} {s : A} (hW : WF s) (hM : RelM σ s) : ∀ d a, a + d = 4 * s.P → ∀ N τ, eqv σ τ → ∃ u, f_X10_wanted_9 (N + d + 1) (nI (s.wsum a)) (nI a) τ = some (nI (s.wsum (4 * s.P)), u) ∧ eqv σ u := by
  have hP := hW.P
  intro d
  induction d with
  | zero =>
    intro a ha N τ ht
    have e : a = 4 * s.P := by omega
    subst e
    refine ⟨τ, ?_, ht⟩
    show (if (4 : Int32) * τ 76 25 ≤ nI (4 * s.P) then _ else _) = _
    rw [(hM.ev ht).m2.1, show (4 : Int32) = nI 4 from rfl, pk_mul, if_pos (nI_le (Nat.le_refl _) (by omega))]
  | succ d ih =>
    intro a ha N τ ht
    obtain ⟨u1, d1, d2⟩ := m_wants hW (hM.ev ht) (show a < 4 * s.P by omega)
    obtain ⟨u2, e1, e2⟩ := ih (a + 1) (by omega) N u1 (ht.trans d2)
    refine ⟨u2, ?_, e2⟩
    rw [show s.wsum (a + 1) = s.wsum a + s.wnt a from rfl] at e1
    rw [← e1]
    show (if (4 : Int32) * τ 76 25 ≤ nI a then _ else _) = _
    rw [(hM.ev ht).m2.1, show (4 : Int32) = nI 4 from rfl, pk_mul, if_neg (nle (by omega) (by omega) (by omega)), d1, bd_some]
    simp only [nv]
    rw [nI_add, nI_1]
    all_goals rfl
/-- wanted -/
theorem step_wanted {σ : Mem} (hI : Inv9 σ) : StpQ Inv9 f_X9_wanted f_X10_wanted σ := by
  obtain ⟨s, hW, hC, hM⟩ := hI
  have hP := hW.P
  obtain ⟨N, hN⟩ : ∃ N, FUEL = N + s.P + 1 := ⟨99999 - s.P, by unfold FUEL; omega⟩
  obtain ⟨K, hK⟩ : ∃ K, FUEL = K + 4 * s.P + 1 := ⟨99999 - 4 * s.P, by unfold FUEL; omega⟩
  obtain ⟨u1, a1, a2⟩ := c_wsum hW hC s.P 0 (by omega) N σ eqv.rfl
  have M1 := (hM.ev a2).ask (c := 0)
  obtain ⟨u2, b1, b2⟩ := m_wsum hW M1 (4 * s.P) 0 (by omega) K _ eqv.rfl
  refine ⟨nI (s.wsum (4 * s.P)), u1, u2, ?_, ?_, s, hW, ?_, M1.ev b2⟩
  · unfold f_X9_wanted
    rw [hN]
    exact a1
  · unfold f_X10_wanted
    rw [hK]
    simp only [nw]
    exact b1
  · exact ((hC.ev a2).fr (fun i h1 h2 => ck core_ask (by omega))).ev b2
