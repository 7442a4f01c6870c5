/-! PURE: goOn. By hand; long conjunctions by wfmk.py. -/
theorem cl_s (p : Nat → Bool) (k : Nat) : ((List.range (k + 1)).filter p).length = ((List.range k).filter p).length + if p k = true then 1 else 0 := by
  rw [List.range_succ, List.filter_append, List.length_append]
  congr 1
  by_cases h : p k = true
  · rw [if_pos h, List.filter_cons_of_pos h]; rfl
  · rw [if_neg h, List.filter_cons_of_neg h]; rfl
theorem cl_le (p : Nat → Bool) (k : Nat) : ((List.range k).filter p).length ≤ k := by
  have := List.length_filter_le p (List.range k)
  rw [List.length_range] at this
  exact this
theorem m_voids {σ : Mem} {s : A} {r : Nat} (hW : WF s) (hM : RM6 σ s) (hr : r < 6) : f_X10_voids (nI r) σ = some (nI (s.nvoid r), σ) := by
  have hn := hW.n
  have loop : ∀ d k, k + d = s.n → ∀ N, f_X10_voids_4 (N + d + 1) (nI r) (nI ((List.range k).filter (fun j => decide (s.rby j = r ∧ s.voi j ≠ 0))).length) (nI k) σ = some (nI (s.nvoid r), σ) := by
    intro d
    induction d with
    | zero =>
      intro k hk N
      have e : k = s.n := by omega
      subst e
      show (if σ 76 29 ≤ nI s.n then _ else _) = _
      rw [hM.1, if_pos (nI_le (Nat.le_refl _) (by omega))]
      rfl
    | succ d ih =>
      intro k hk N
      have hkn : k < s.n := by omega
      have ih' := ih (k + 1) (by omega) N
      rw [cl_s] at ih'
      have hb := hW.rby k hkn
      have hR := hW.R
      show (if σ 76 29 ≤ nI k then _ else _) = _
      rw [hM.1, if_neg (nle (by omega) (by omega) hkn), gd_r (show k < 300 by omega) (by decide), na_nI (by omega), (hM.2.1 k hkn).2.1]
      unfold f_X10_voids_36 f_X10_voids_37
      simp only [nv]
      by_cases e : s.rby k = r
      · rw [if_pos (show nI (s.rby k) = nI r by rw [e]), gd_r (show k < 300 by omega) (by decide), hM.2.2 k (by omega)]
        by_cases v : s.voi k = 0
        · rw [if_pos (show nI (s.voi k) = (0 : Int32) by rw [v]; rfl), nI_1, show (0 : Int32) = nI 0 from rfl, nI_add]
          rw [if_neg (by simp [e, v])] at ih'
          exact ih'
        · rw [if_neg (show ¬ nI (s.voi k) = (0 : Int32) from nne (b := 0) (by have := hW.voi k (by omega); omega) (by decide) v), nI_1, nI_1]
          rw [if_pos (by simp [e, v])] at ih'
          exact ih'
      · rw [if_neg (show ¬ nI (s.rby k) = nI r from nne (by omega) (by omega) e), nI_1, show (0 : Int32) = nI 0 from rfl, nI_add]
        rw [if_neg (by simp [e])] at ih'
        exact ih'
  obtain ⟨N, hN⟩ : ∃ N, FUEL = N + s.n + 1 := ⟨99999 - s.n, by unfold FUEL; omega⟩
  unfold f_X10_voids
  rw [hN]
  exact loop s.n 0 (by omega) N
theorem step_goOn (x : Int32) {σ : Mem} (hI : Inv9 σ) : StpG Inv9 (f_X9_goOn x) (f_X10_goOn x) [3, 2] σ := by
  obtain ⟨s, hW, hC, hM⟩ := hI
  have hR := hW.R
  have hn := hW.n
  rcases idx x s.R with ⟨r, hr, rfl⟩ | hx
  · have hr6 : r < 6 := by omega
    have hst := hW.stp r hr6
    by_cases hs : s.stp r = 0
    · refine stepS (oc := (2, 0)) hW hC hM ⟨σ, ?_, eqv.rfl⟩ (fun u hu => ⟨0, ask 2 u, ?_, ask_22, core_ask, fun h => absurd h (by decide)⟩) (Or.inr (by decide))
      · unfold f_X9_goOn
        rw [cR_y hC.c4.1 hr (by omega), bd_some, if_neg (by decide), ris_n (show r < 6 from hr6) (by decide), (hC.c4.2.2 r hr6).1, hs]
        exact if_pos (by decide)
      · unfold f_X10_goOn f_X10_goOn_25 f_X10_goOn_26
        rw [mR_y hu.m4.1 hr (by omega), bd_some, if_neg (by decide), gd_r (show r < 6 from hr6) (by decide), na_nI (by omega), (hu.m4.2.2 r hr6).1, hs, if_pos (show nI 0 = (0 : Int32) from rfl), ak2, bd_some, if_pos rfl]
    · have s1 : s.stp r = 1 := by omega
      have d1 : ∀ j, (((s.u1 18 r 0).u1 21 r 0).u1 22 r s.n).stp j = if j = r then 0 else s.stp j := fun j => rfl
      have d2 : ∀ j, (((s.u1 18 r 0).u1 21 r 0).u1 22 r s.n).since j = if j = r then 0 else s.since j := fun j => rfl
      have d3 : ∀ j, (((s.u1 18 r 0).u1 21 r 0).u1 22 r s.n).good j = if j = r then s.n else s.good j := fun j => rfl
      have ng : ∀ j, s.R ≤ j → ¬ j = r := fun j h e => by omega
      refine stepG (s' := ((s.u1 18 r 0).u1 21 r 0).u1 22 r s.n) (oc := (0, nI (s.nvoid r))) (r := nI (s.nvoid r)) (s := s) ⟨hW.m, hW.P, hW.lack, hW.urg, hW.gift, hW.app, hW.fresh, hW.V, hW.T, hW.R, hW.rq, hW.sen, ?_, hW.hap, hW.given, ?_, ?_, ?_, hW.hc, ?_, hW.S, hW.sq, hW.tw, hW.tol, hW.isr, hW.b0, hW.b1, hW.b2, hW.n, hW.ans, hW.rby, hW.pts, hW.voi, hW.freshL, hW.apr, ?_, hW.al, hW.ah, hW.ar⟩ hM ?_ ?_ (Or.inl rfl) (fun _ => rfl)
      · intro j hj
        rw [d1]
        split
        · omega
        · exact hW.stp j hj
      · intro j hj
        rw [d2]
        split
        · exact Nat.zero_le _
        · exact hW.since j hj
      · intro j hj
        rw [d3]
        split
        · exact Nat.le_refl _
        · exact hW.good j hj
      · intro j h1 h2
        rw [d1, d2, d3, if_neg (ng j h1), if_neg (ng j h1), if_neg (ng j h1)]
        exact hW.freshR j h1 h2
      · intro j hj h1
        rw [d1] at h1
        by_cases e : j = r
        · rw [if_pos e] at h1; exact absurd h1 (by decide)
        · rw [if_neg e] at h1; exact hW.stop j hj h1
      · intro k hk h1 h2
        have hk' : k < s.n := hk
        rw [d1] at h1
        rw [d3] at h2
        by_cases e : s.rby k = r
        · have e' : (((s.u1 18 r 0).u1 21 r 0).u1 22 r s.n).rby k = r := e
          rw [if_pos e'] at h2
          omega
        · have e' : ¬ (((s.u1 18 r 0).u1 21 r 0).u1 22 r s.n).rby k = r := e
          rw [if_neg e'] at h1 h2
          exact hW.clean k hk h1 h2
      · have kC : ∀ i, i ≠ 4 → keep i σ (wr (wr (wr σ 21 r 0) 27 r 0) 28 r (nI s.n)) := fun i hi => keep.w (show (4 : Nat) ≠ i by omega) (keep.w (show (4 : Nat) ≠ i by omega) (keep.w (show (4 : Nat) ≠ i by omega) keep.rf))
        refine ⟨wr (wr (wr σ 21 r 0) 27 r 0) 28 r (nI s.n), ?_, ⟨hC.c1.k (kC _ (by decide)), hC.c2.k (kC _ (by decide)), hC.c3.k (kC _ (by decide)), ⟨by simp [wr_at]; exact hC.c4.1, fun j hj => by simp [wr_at]; exact hC.c4.2.1 j hj, fun j hj => ?_⟩, hC.c5.k (kC _ (by decide)), hC.c6.k (kC _ (by decide)), hC.c7.k (kC _ (by decide))⟩, fun i hi => kC i (by omega)⟩
        · unfold f_X9_goOn f_X4_startAnew
          rw [cR_y hC.c4.1 hr (by omega), bd_some, if_neg (by decide), ris_n (show r < 6 from hr6) (by decide), (hC.c4.2.2 r hr6).1, s1, if_neg (by decide), rput_n (show r < 6 from hr6) (by decide), show (if (0 : Int32) = 0 then (0 : Int32) else 1) = 0 from rfl]
          simp only [nw]
          rw [rset_n (show r < 6 from hr6) (by decide), rset_n (show r < 6 from hr6) (by decide), bd_some, rget_n (show r < 6 from hr6) (by decide), show (wr σ 21 r 0) 76 6 = nI s.n by simp [wr_at]; exact hC.c6.1]
          simp [wr_at]
          exact (hC.c6.2.2.2 r hr6).2
        · obtain ⟨a1, a2, a3, a4⟩ := hC.c4.2.2 j hj
          rw [d1, d2, d3]
          by_cases e : j = r
          · rw [if_pos e, if_pos e, if_pos e]
            simp [wr_at, e]
            exact ⟨rfl, (hC.c4.2.2 r hr6).2.2.1⟩
          · rw [if_neg e, if_neg e, if_neg e]
            simp [wr_at, e]
            exact ⟨a1, a2, a3, a4⟩
      · intro u hu
        have hv : RM6 (wr (wr (wr (ask 0 u) 58 r 0) 61 r 0) 62 r (nI s.n)) s := hu.m6.k (keep.w (show (14 : Nat) ≠ _ by decide) (keep.w (show (14 : Nat) ≠ _ by decide) (keep.w (show (14 : Nat) ≠ _ by decide) (ck core_ask (by decide)))))
        refine ⟨wr (wr (wr (ask 0 u) 58 r 0) 61 r 0) 62 r (nI s.n), ?_, by simp [wr_at]; exact ask_22, ⟨hu.m1.k (keep.w (show (14 : Nat) ≠ _ by decide) (keep.w (show (14 : Nat) ≠ _ by decide) (keep.w (show (14 : Nat) ≠ _ by decide) (ck core_ask (by decide))))), hu.m2.k (keep.w (show (14 : Nat) ≠ _ by decide) (keep.w (show (14 : Nat) ≠ _ by decide) (keep.w (show (14 : Nat) ≠ _ by decide) (ck core_ask (by decide))))), hu.m3.k (keep.w (show (14 : Nat) ≠ _ by decide) (keep.w (show (14 : Nat) ≠ _ by decide) (keep.w (show (14 : Nat) ≠ _ by decide) (ck core_ask (by decide))))), ⟨by simp [wr_at]; rw [ask_at rfl]; exact hu.m4.1, fun j hj => by simp [wr_at]; rw [ask_at rfl, ask_at rfl, ask_at rfl, ask_at rfl, ask_at rfl]; exact hu.m4.2.1 j hj, fun j hj => ?_⟩, hu.m5.k (keep.w (show (14 : Nat) ≠ _ by decide) (keep.w (show (14 : Nat) ≠ _ by decide) (keep.w (show (14 : Nat) ≠ _ by decide) (ck core_ask (by decide))))), hu.m6.k (keep.w (show (14 : Nat) ≠ _ by decide) (keep.w (show (14 : Nat) ≠ _ by decide) (keep.w (show (14 : Nat) ≠ _ by decide) (ck core_ask (by decide)))))⟩, fun i h1 h2 => keep.w (show (14 : Nat) ≠ i by omega) (keep.w (show (14 : Nat) ≠ i by omega) (keep.w (show (14 : Nat) ≠ i by omega) (keepA core_ask h1)))⟩
        · unfold f_X10_goOn f_X10_goOn_26
          rw [mR_y hu.m4.1 hr (by omega), bd_some, if_neg (by decide), gd_r (show r < 6 from hr6) (by decide), na_nI (by omega), (hu.m4.2.2 r hr6).1, s1, if_neg (by decide), ak0, bd_some, if_neg (by decide), gd_r (show r < 6 from hr6) (by decide)]
          simp only [nw]
          rw [gd_r (show r < 6 from hr6) (by decide), gd_r (show r < 6 from hr6) (by decide), show vp_nar .boolean (0 : Int32) = 0 from rfl, show (wr (wr (ask 0 u) 58 r 0) 61 r 0) 76 29 = nI s.n by simp [wr_at]; rw [ask_at rfl]; exact hu.m6.1, m_voids hW hv hr6, bd_some]
        · obtain ⟨a1, a2, a3, a4⟩ := hu.m4.2.2 j hj
          rw [d1, d2, d3]
          by_cases e : j = r
          · rw [if_pos e, if_pos e, if_pos e]
            simp [wr_at, e]
            exact ⟨rfl, by rw [ask_at rfl]; exact (hu.m4.2.2 r hr6).2.2.1⟩
          · rw [if_neg e, if_neg e, if_neg e]
            simp [wr_at, e]
            rw [ask_at rfl, ask_at rfl, ask_at rfl, ask_at rfl]
            exact ⟨a1, a2, a3, a4⟩
  · refine stepS (oc := (3, 0)) hW hC hM ⟨σ, ?_, eqv.rfl⟩ (fun u hu => ⟨0, ask 1 u, ?_, ask_22, core_ask, fun h => absurd h (by decide)⟩) (Or.inr (by decide))
    · unfold f_X9_goOn
      rw [cR_n hC.c4.1 (by omega) hx, bd_some, if_pos rfl]
    · unfold f_X10_goOn f_X10_goOn_25 f_X10_goOn_26
      rw [mR_n hu.m4.1 (by omega) hx, bd_some, if_pos rfl, ak1, bd_some, if_pos rfl]
