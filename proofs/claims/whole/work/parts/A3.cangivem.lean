/-! PURE: the reference's canGive. By hand. -/
theorem m_wa {σ : Mem} {s : A} (hW : WF s) (h3 : RM3 σ s) (h57 : ∀ r, r < s.R → σ 57 r = nI (s.sen r)) (h5 : RM5 σ s) (h6 : RM6 σ s) {a : Nat} (ha : a < 64) : ∃ u, f_X10_wantsAppeal (nI a) σ = some (if s.wf a = 0 then 1 else 0, u) ∧ eqv σ u := by
  obtain ⟨u, d1, d2⟩ := m_wf hW h3 h57 h5 h6 ha
  have wb := wf_le (s := s) (a := a)
  refine ⟨u, ?_, d2⟩
  unfold f_X10_wantsAppeal f_X10_wantsAppeal_13
  rw [d1, bd_some]
  by_cases c : s.wf a = 0
  · rw [if_pos (show nI (s.wf a) = (0 : Int32) by rw [c]; rfl), if_pos c, gdz1]
  · rw [if_neg (show ¬ nI (s.wf a) = (0 : Int32) from nne (b := 0) (by omega) (by decide) c), if_neg c, gdz0]
theorem m_ws {σ : Mem} {s : A} (hW : WF s) (hM : RelM σ s) {a : Nat} (ha : a < 64) : ∃ u, f_X10_wantsSenior (nI a) σ = some (if s.pd a = true then 1 else 0, u) ∧ eqv σ u := by
  obtain ⟨u, d1, d2⟩ := m_wa hW hM.m3 hM.m4.sn hM.m5 hM.m6 ha
  have M1 := hM.ev d2
  obtain ⟨-, r1, -⟩ := m_rd hW M1.m3 M1.m6 ha
  have tw1 := hW.tw (a % 4) (by omega)
  refine ⟨u, ?_, d2⟩
  unfold f_X10_wantsSenior f_X10_wantsSenior_30 f_X10_wantsSenior_34 f_X10_wantsSenior_35
  rw [d1, bd_some]
  by_cases c : s.wf a = 0
  · have y : s.pd a = true := by
      refine decide_eq_true ?_
      by_cases t : s.tw (a % 4) = 0
      · rw [if_pos t]; exact wf0_1 c t
      · rw [if_neg t]; exact (wf0_2 c t).1
    rw [if_pos c, if_neg i10, if_pos y, gdz1]
  · rw [if_neg c, if_pos rfl, md4 ha, gd_r (show a % 4 < 4 by omega) (by decide), na_nI (by omega), M1.m5.2.2.1 _ (by omega)]
    by_cases t : s.tw (a % 4) = 0
    · have n : ¬ s.pd a = true := fun z => by
        have h := of_decide_eq_true z
        rw [if_pos t] at h
        refine c ?_
        unfold A.wf
        rw [if_pos t]
        omega
      rw [if_pos (show nI (s.tw (a % 4)) = (0 : Int32) by rw [t]; rfl), if_neg n, gdz0]
    · rw [if_neg (show ¬ nI (s.tw (a % 4)) = (0 : Int32) from nne (b := 0) (by omega) (by decide) t), r1, bd_some]
      cases e : (s.CL a 0)[1]? with
      | none =>
        have l1 := List.getElem?_eq_none_iff.mp e
        have n : ¬ s.pd a = true := fun z => by
          have h := of_decide_eq_true z
          rw [if_neg t] at h
          omega
        rw [if_pos oi_n, if_neg n, gdz0]
      | some k =>
        have l1 := (List.getElem?_eq_some_iff.mp e).1
        have y : s.pd a = true := by
          refine decide_eq_true ?_
          rw [if_neg t]
          omega
        rw [if_neg (oi_s (CL_lt hW e)), if_pos y, gdz1]
theorem any_s (P : Nat → Bool) (k : Nat) : (List.range (k + 1)).any P = ((List.range k).any P || P k) := by
  rw [List.range_succ, List.any_append]
  congr 1
  exact Bool.or_false _
theorem m_111 {σ : Mem} {s : A} (hW : WF s) (hM : RelM σ s) {r a : Nat} (hr : r < 6) (ha : a < 64) {v : Int32} : ∀ d k, k + d = s.n → ∀ N, f_X10_canGive_111 (N + d + 1) (nI r) (nI a) (if (List.range k).any (s.pr r a) = true then 0 else 1) v (nI k) σ = f_X10_canGive_111 (N + 1) (nI r) (nI a) (if s.hrb r a = true then 0 else 1) v (nI s.n) σ := by
  have hn := hW.n
  have hP := hW.P
  have hR := hW.R
  intro d
  induction d with
  | zero =>
    intro k hk N
    have e : k = s.n := by omega
    subst e
    rfl
  | succ d ih =>
    intro k hk N
    have hkn : k < s.n := by omega
    have hak := (hW.ans k hkn).1
    have hb := hW.rby k hkn
    have i := ih (k + 1) (by omega) N
    rw [any_s] at i
    refine Eq.trans ?_ i
    show (if σ 76 29 ≤ nI k then _ else _) = _
    unfold f_X10_canGive_156 f_X10_canGive_160 f_X10_canGive_161
    simp only [na_nI (show k < 2 ^ 31 by omega)]
    rw [hM.m6.1, if_neg (nle (by omega) (by omega) hkn), gd_r (show k < 300 by omega) (by decide), gd_r (show k < 300 by omega) (by decide), (hM.m6.2.1 k hkn).1, (hM.m6.2.1 k hkn).2.1, nI_1]
    by_cases c0 : (List.range k).any (s.pr r a) = true
    · rw [if_pos c0, if_pos rfl, c0, Bool.true_or, if_pos rfl]
      all_goals rfl
    · rw [if_neg c0, if_neg i10, Bool.eq_false_iff.mpr c0, Bool.false_or]
      by_cases c1 : s.ans k = a
      · rw [if_pos (show nI (s.ans k) = nI a by rw [c1])]
        by_cases c2 : s.rby k = r
        · rw [if_pos (show nI (s.rby k) = nI r by rw [c2]), m_counts hW hM.m3 hM.m6 hkn, bd_some]
          by_cases c3 : s.cts k = true
          · rw [if_pos c3, if_neg i10, if_pos (show s.pr r a k = true from decide_eq_true ⟨c1, c2, c3⟩)]
            all_goals rfl
          · rw [if_neg c3, if_pos rfl, if_neg (show ¬ s.pr r a k = true from fun h => c3 (of_decide_eq_true h).2.2)]
            all_goals rfl
        · rw [if_neg (show ¬ nI (s.rby k) = nI r from nne (by omega) (by omega) c2), if_neg (show ¬ s.pr r a k = true from fun h => c2 (of_decide_eq_true h).2.1)]
          all_goals rfl
      · rw [if_neg (show ¬ nI (s.ans k) = nI a from nne (by omega) (by omega) c1), if_neg (show ¬ s.pr r a k = true from fun h => c1 (of_decide_eq_true h).1)]
        all_goals rfl
theorem m_72 {σ : Mem} {s : A} (hW : WF s) (hM : RelM σ s) {r a : Nat} (ha : a < 64) {v : Int32} : ∀ d k, k + d = s.R → ∀ N, f_X10_canGive_72 (N + d + 1) (nI r) (nI a) v (nI ((List.range k).filter (fun j => decide (s.hc j = a + 1))).length) (nI k) σ = f_X10_canGive_111 FUEL (nI r) (nI a) v (nI (s.hold a)) 0 σ := by
  have hR := hW.R
  intro d
  induction d with
  | zero =>
    intro k hk N
    have e : k = s.R := by omega
    subst e
    show (if σ 76 27 ≤ nI s.R then _ else _) = _
    rw [hM.m4.1, if_pos (nI_le (Nat.le_refl _) (by omega))]
    rfl
  | succ d ih =>
    intro k hk N
    have hkR : k < s.R := by omega
    have i := ih (k + 1) (by omega) N
    rw [cl_s] at i
    have hb : s.hc k < 200 := by
      have := hW.P
      have := hW.S
      rcases hW.hc k hkR with h | h | h <;> omega
    show (if σ 76 27 ≤ nI k then _ else _) = _
    rw [hM.m4.1, if_neg (nle (by omega) (by omega) hkR), gd_r (show k < 6 by omega) (by decide), na_nI (by omega), (hM.m4.2.1 k hkR).2.2.2.1]
    unfold f_X10_canGive_99
    simp only [nv]
    rw [nI_1 k]
    have iff : (nI (s.hc k) - 1 = nI a) ↔ s.hc k = a + 1 := by
      by_cases z : s.hc k = 0
      · rw [z]
        exact ⟨fun e => absurd e.symm (nm1 (by omega)), fun e => by omega⟩
      · obtain ⟨c, hc⟩ : ∃ c, s.hc k = c + 1 := ⟨s.hc k - 1, by omega⟩
        rw [hc, nI_pred, nI_eq (by omega) (by omega)]
        omega
    by_cases c : s.hc k = a + 1
    · rw [if_pos (decide_eq_true c)] at i
      rw [if_pos (iff.mpr c), show (1 : Int32) = nI 1 from rfl, nI_add]
      exact i
    · rw [if_neg (fun h => c (of_decide_eq_true h))] at i
      rw [if_neg (fun h => c (iff.mp h)), show (0 : Int32) = nI 0 from rfl, nI_add]
      exact i
theorem wnt_le {s : A} {a : Nat} : s.wnt a ≤ 2 := by
  have := wf_le (s := s) (a := a)
  unfold A.wnt
  split
  · split
    · omega
    · split <;> omega
  · omega
theorem m_can3 {σ : Mem} {s : A} (hW : WF s) (hM : RelM σ s) {r a : Nat} (hr : r < s.R) (ha : a < 4 * s.P) : ∃ u, f_X10_canGive (nI r) (nI a) σ = some (if s.cg r a = true then 1 else 0, u) ∧ eqv σ u := by
  have hR := hW.R
  have hP := hW.P
  have hn := hW.n
  have ha64 : a < 64 := by omega
  have hV := hW.V (a % 4) (by omega)
  have hq := hW.rq r hr
  unfold f_X10_canGive f_X10_canGive_56 f_X10_canGive_57
  simp only [nv]
  rw [m_has hW hM.m2 ha, bd_some]
  by_cases h1 : s.lkb a = 0
  · rw [if_pos h1, if_neg i10, md4 ha64, dv4 a ha64, gd_r (show a / 4 < 16 by omega) (by decide), gd_r (show r < 6 by omega) (by decide), na_nI (by omega), na_nI (by omega), (hM.m2.2.1 _ (show a / 4 < s.P by omega)).1, (hM.m4.2.1 r hr).1]
    by_cases h2 : s.sch (a / 4) = s.rs r
    · have n : ¬ s.cg r a = true := fun z => (of_decide_eq_true z).2.1 h2
      rw [if_pos h2, if_pos trivial, if_neg n, gdz0]
      exact ⟨σ, rfl, eqv.rfl⟩
    · rw [if_neg h2, gd_r (show r < 6 by omega) (by decide), (hM.m4.2.1 r hr).2.1, bitI (by omega) (by omega)]
      by_cases h3 : s.rq r / 2 ^ (a % 4) % 2 = 1
      · rw [if_pos (show nI (s.rq r / 2 ^ (a % 4) % 2) = (1 : Int32) by rw [h3]; rfl), gd_r (show a % 4 < 4 by omega) (by decide), na_nI (by omega), hM.m3.1 _ (by omega)]
        by_cases h4 : 0 < s.V (a % 4)
        · rw [if_neg (show ¬ nI (s.V (a % 4)) ≤ (0 : Int32) from nle (b := 0) (by omega) (by decide) h4), if_neg i10]
          obtain ⟨N, hN⟩ : ∃ N, FUEL = N + s.R + 1 := ⟨99999 - s.R, by unfold FUEL; omega⟩
          obtain ⟨K, hK⟩ : ∃ K, FUEL = K + s.n + 1 := ⟨99999 - s.n, by unfold FUEL; omega⟩
          have e72 : f_X10_canGive_72 FUEL (nI r) (nI a) 1 0 0 σ = f_X10_canGive_111 (K + 1) (nI r) (nI a) (if s.hrb r a = true then 0 else 1) (nI (s.hold a)) (nI s.n) σ := by
            have i := m_72 hW hM (r := r) (v := 1) ha64 s.R 0 (by omega) N
            have j := m_111 hW hM (r := r) (v := nI (s.hold a)) (show r < 6 by omega) ha64 s.n 0 (by omega) K
            rw [hK] at i
            rw [hN]
            exact Eq.trans i j
          rw [e72]
          obtain ⟨u1, d1, d2⟩ := m_wants hW hM ha
          have M1 := hM.ev d2
          have e111 : f_X10_canGive_111 (K + 1) (nI r) (nI a) (if s.hrb r a = true then 0 else 1) (nI (s.hold a)) (nI s.n) σ = if (if s.hrb r a = true then (0 : Int32) else 1) = 0 then f_X10_canGive_209 u1 else if nI (s.wnt a) ≤ nI (s.hold a) then f_X10_canGive_209 u1 else gd (inb (nI r) (rlen 57)) (if u1 57 (Int32.toNatClampNeg (nI r)) = 0 then bd (f_X10_wantsSenior (nI a) u1) (fun y3 τ4 => if y3 = 0 then f_X10_canGive_205 τ4 else f_X10_canGive_209 τ4) else f_X10_canGive_205 u1) := by
            show (if σ 76 29 ≤ nI s.n then bd (f_X10_wants (nI a) σ) _ else _) = _
            rw [hM.m6.1, if_pos (nI_le (Nat.le_refl _) (by omega)), d1, bd_some]
          rw [e111]
          unfold f_X10_canGive_205 f_X10_canGive_209 f_X10_canGive_210
          have hh : s.hold a ≤ s.R := cl_le _ _
          have hw := wnt_le (s := s) (a := a)
          by_cases h5 : s.hrb r a = true
          · have n : ¬ s.cg r a = true := fun z => by
              have := (of_decide_eq_true z).2.2.2.2.1
              rw [h5] at this
              cases this
            rw [if_pos h5, if_pos rfl, if_neg n, gdz0]
            exact ⟨u1, rfl, d2⟩
          · rw [if_neg h5, if_neg i10]
            by_cases h6 : s.hold a < s.wnt a
            · rw [if_neg (nle (by omega) (by omega) h6), gd_r (show r < 6 by omega) (by decide), na_nI (by omega), (M1.m4.2.1 r hr).2.2.1]
              have hsn := hW.sen r hr
              by_cases h7 : s.sen r = 0
              · obtain ⟨u2, f1, f2⟩ := m_ws hW M1 ha64
                rw [if_pos (show nI (s.sen r) = (0 : Int32) by rw [h7]; rfl), f1, bd_some]
                by_cases h8 : s.pd a = true
                · have n : ¬ s.cg r a = true := fun z => by
                    rcases (of_decide_eq_true z).2.2.2.2.2.2 with h | h
                    · exact h h7
                    · rw [h8] at h; cases h
                  rw [if_pos h8, if_neg i10, if_neg n, gdz0]
                  exact ⟨u2, rfl, d2.trans f2⟩
                · have y : s.cg r a = true := decide_eq_true ⟨h1, h2, h3, h4, Bool.eq_false_iff.mpr h5, h6, Or.inr (Bool.eq_false_iff.mpr h8)⟩
                  rw [if_neg h8, if_pos rfl, if_pos y, gdz1]
                  exact ⟨u2, rfl, d2.trans f2⟩
              · have y : s.cg r a = true := decide_eq_true ⟨h1, h2, h3, h4, Bool.eq_false_iff.mpr h5, h6, Or.inl h7⟩
                rw [if_neg (show ¬ nI (s.sen r) = (0 : Int32) from nne (b := 0) (by omega) (by decide) h7), if_pos y, gdz1]
                exact ⟨u1, rfl, d2⟩
            · have n : ¬ s.cg r a = true := fun z => h6 (of_decide_eq_true z).2.2.2.2.2.1
              rw [if_pos ((nI_leI (by omega) (by omega)).mpr (by omega)), if_neg n, gdz0]
              exact ⟨u1, rfl, d2⟩
        · have n : ¬ s.cg r a = true := fun z => h4 (of_decide_eq_true z).2.2.2.1
          rw [if_pos (show nI (s.V (a % 4)) ≤ (0 : Int32) from (nI_leI (b := 0) (by omega) (by decide)).mpr (by omega)), if_pos trivial, if_neg n, gdz0]
          exact ⟨σ, rfl, eqv.rfl⟩
      · have n : ¬ s.cg r a = true := fun z => h3 (of_decide_eq_true z).2.2.1
        rw [if_neg (show ¬ nI (s.rq r / 2 ^ (a % 4) % 2) = (1 : Int32) from nne (b := 1) (by omega) (by decide) h3), if_pos trivial, if_neg n, gdz0]
        exact ⟨σ, rfl, eqv.rfl⟩
  · have n : ¬ s.cg r a = true := fun z => h1 (of_decide_eq_true z).1
    rw [if_neg h1, if_pos rfl, if_pos trivial, if_neg n, gdz0]
    exact ⟨σ, rfl, eqv.rfl⟩
