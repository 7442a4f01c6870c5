/-! PURE: lines. By hand; long conjunctions by wfmk.py. -/
theorem grt3 {s : A} {t : Nat} : (s.grt t = 3) ↔ s.b0 ≤ t := by
  unfold A.grt
  by_cases h : t < s.b0
  · rw [if_pos h]
    refine ⟨fun z => ?_, fun z => by omega⟩
    exfalso
    by_cases h1 : t < s.b1
    · rw [if_pos h1] at z
      by_cases h2 : t < s.b2
      · rw [if_pos h2] at z; exact absurd z (by decide)
      · rw [if_neg h2] at z; exact absurd z (by decide)
    · rw [if_neg h1] at z; exact absurd z (by decide)
  · rw [if_neg h]
    exact ⟨fun _ => by omega, fun _ => rfl⟩
theorem m_ln {σ : Mem} {s : A} (hW : WF s) (hM : RelM σ s) : ∀ d p, p + d = s.P → ∀ N τ, eqv σ τ → ∃ u, f_X10_lines_86 (N + d + 1) (nI (cge s.b0 (s.TL p))) (nI p) τ = some (nI (cge s.b0 (s.TL s.P)), u) ∧ eqv σ u := by
  have hP := hW.P
  intro d
  induction d with
  | zero =>
    intro p hp N τ ht
    have e : p = s.P := by omega
    subst e
    refine ⟨τ, ?_, ht⟩
    show (if τ 76 25 ≤ nI s.P then _ else _) = _
    rw [(hM.ev ht).m2.1, if_pos (nI_le (Nat.le_refl _) (by omega))]
  | succ d ih =>
    intro p hp N τ ht
    have M1 := hM.ev ht
    have hs := TL_s s p
    obtain ⟨u1, d1, d2⟩ := m_grade hW M1 (show p < s.P by omega)
    obtain ⟨u2, e1, e2⟩ := ih (p + 1) (by omega) N u1 (ht.trans d2)
    refine ⟨u2, ?_, e2⟩
    show (if τ 76 25 ≤ nI p then _ else _) = _
    rw [M1.m2.1, if_neg (nle (by omega) (by omega) (by omega)), d1, bd_some]
    unfold f_X10_lines_112
    simp only [nv]
    rw [nI_1 p]
    unfold A.grd
    cases e : s.tot p with
    | none =>
      rw [e] at hs
      have hs' : s.TL (p + 1) = s.TL p := hs
      rw [hs'] at e1
      show (if (-1 : Int32) = 3 then _ else _) = _
      rw [if_neg (by decide), show (0 : Int32) = nI 0 from rfl, nI_add]
      exact e1
    | some t =>
      rw [e] at hs
      have hs' : s.TL (p + 1) = s.TL p ++ [t] := hs
      have h1 : cge s.b0 (s.TL (p + 1)) = cge s.b0 (s.TL p) + if s.b0 ≤ t then 1 else 0 := by
        rw [hs', cge_a, cge_c]
        rfl
      rw [h1] at e1
      show (if s.grt t = 3 then _ else _) = _
      by_cases c : s.b0 ≤ t
      · rw [if_pos c] at e1
        rw [if_pos (grt3.mpr c), show (1 : Int32) = nI 1 from rfl, nI_add]
        exact e1
      · rw [if_neg c] at e1
        rw [if_neg (fun h => c (grt3.mp h)), show (0 : Int32) = nI 0 from rfl, nI_add]
        exact e1
/-- lines -/
theorem step_lines (x y z : Int32) {σ : Mem} (hI : Inv9 σ) : StpG Inv9 (f_X9_lines x y z) (f_X10_lines x y z) [1, 2] σ := by
  obtain ⟨s, hW, hC, hM⟩ := hI
  have hP := hW.P
  have no : ∀ u, f_X10_lines_33 x y z u = some (0, ask 1 u) := by
    intro u
    unfold f_X10_lines_33 f_X10_lines_34 f_X10_lines_51
    rw [ak1, ak1, bd_some, if_pos rfl, ite_self]
  have i999 : (999 : Int32) = nI 1000 - 1 := rfl
  rcases idx x 1000 with ⟨a, ha, rfl⟩ | hx
  · have xa1 : ¬ nI a < (0 : Int32) := nI_pos (by omega)
    have xa2 : nI a ≤ (999 : Int32) := (nI_leI (b := 999) (by omega) (by decide)).mpr (by omega)
    rcases idx y (a + 1) with ⟨b, hb, rfl⟩ | hy
    · have yb1 : ¬ nI b < (0 : Int32) := nI_pos (by omega)
      have yb2 : ¬ nI a < nI b := nlt (by omega) (by omega) (by omega)
      rcases idx z (b + 1) with ⟨c, hc, rfl⟩ | hz
      · have zc1 : ¬ nI c < (0 : Int32) := nI_pos (by omega)
        have zc2 : nI c ≤ nI b := (nI_leI (by omega) (by omega)).mpr (by omega)
        have cl : ∀ σ : Mem, f_X9_lines (nI a) (nI b) (nI c) σ = if σ 76 21 = 0 then nw (wr σ 76 18 (nI a)) (fun τ1 => nw (wr τ1 76 19 (nI b)) (fun τ2 => nw (wr τ2 76 20 (nI c)) (fun τ3 => bd (f_X9_gatherTotals τ3) (fun y4 τ5 => bd (f_X9_pupilsFrom (nI a) y4 τ5) (fun y6 τ7 => some ((0, y6), τ7)))))) else some ((2, 0), σ) := by
          intro σ
          unfold f_X9_lines
          rw [if_neg xa1, if_pos xa2, if_neg yb1, if_neg yb2, if_neg zc1, if_pos zc2]
        have ml : ∀ u : Mem, f_X10_lines (nI a) (nI b) (nI c) u = f_X10_lines_34 (nI a) (nI b) (nI c) 1 u := by
          intro u
          unfold f_X10_lines
          rw [i999, in_y ha (by decide), bd_some, if_neg i10, show nI a = nI (a + 1) - 1 from (nI_pred a).symm, in_y hb (by omega), bd_some, if_neg i10, show nI b = nI (b + 1) - 1 from (nI_pred b).symm, in_y hc (by omega), bd_some, if_neg i10]
        by_cases hr : s.isr = 0
        · have hW' : WF (((s.u1 30 0 a).u1 31 0 b).u1 32 0 c) := ⟨hW.m, hW.P, hW.lack, hW.urg, hW.gift, hW.app, hW.fresh, hW.V, hW.T, hW.R, hW.rq, hW.sen, hW.stp, hW.hap, hW.given, hW.since, hW.good, hW.freshR, hW.hc, hW.stop, hW.S, hW.sq, hW.tw, hW.tol, hW.isr, (show a ≤ 999 by omega), (show b ≤ a by omega), (show c ≤ b by omega), hW.n, hW.ans, hW.rby, hW.pts, hW.voi, hW.freshL, hW.apr, hW.clean, hW.al, hW.ah, hW.ar⟩
          have kC : ∀ i, i ≠ 5 → keep i σ (wr (wr (wr σ 76 18 (nI a)) 76 19 (nI b)) 76 20 (nI c)) := fun i hi => keep.w (show (5 : Nat) ≠ i by omega) (keep.w (show (5 : Nat) ≠ i by omega) (keep.w (show (5 : Nat) ≠ i by omega) keep.rf))
          have hC' : RelC (wr (wr (wr σ 76 18 (nI a)) 76 19 (nI b)) 76 20 (nI c)) (((s.u1 30 0 a).u1 31 0 b).u1 32 0 c) := by
            refine ⟨hC.c1.k (kC _ (by decide)), hC.c2.k (kC _ (by decide)), hC.c3.k (kC _ (by decide)), hC.c4.k (kC _ (by decide)), ?_, hC.c6.k (kC _ (by decide)), hC.c7.k (kC _ (by decide))⟩
            obtain ⟨a1, a2, a3, a4, a5, a6, a7, a8⟩ := hC.c5
            exact ⟨by simp [wr_at]; exact a1, fun k hk => by simp [wr_at]; exact a2 k hk, fun k hk => by simp [wr_at]; exact a3 k hk, by simp [wr_at]; exact a4, by simp [wr_at]; exact a5, by simp [wr_at]; rfl, by simp [wr_at]; rfl, by simp [wr_at]; rfl⟩
          obtain ⟨u1, d1, d2, d3⟩ := c_gath hW' hC'
          have d4 := c_pf hW' d3 (b := a) (by omega)
          refine stepG (s' := ((s.u1 30 0 a).u1 31 0 b).u1 32 0 c) (oc := (0, nI (cge a ((((s.u1 30 0 a).u1 31 0 b).u1 32 0 c).TL s.P)))) (r := nI (cge a ((((s.u1 30 0 a).u1 31 0 b).u1 32 0 c).TL s.P))) (s := s) hW' hM ?_ ?_ (Or.inl rfl) (fun _ => rfl)
          · refine ⟨u1, ?_, hC'.ev d2, fun i hi => (kC i (by omega)).tr (d2.keep (by omega))⟩
            rw [cl, hC.c5.2.2.2.2.1, hr, if_pos (show nI 0 = (0 : Int32) from rfl)]
            simp only [nw]
            rw [d1, bd_some]
            have d4' : f_X9_pupilsFrom (nI a) (nI ((((s.u1 30 0 a).u1 31 0 b).u1 32 0 c).TL s.P).length) u1 = some (nI (cge a ((((s.u1 30 0 a).u1 31 0 b).u1 32 0 c).TL s.P)), u1) := d4
            exact (congrArg (fun t => bd t (fun y6 τ7 => some (((0 : Nat), y6), τ7))) d4').trans rfl
          · intro u hu
            have kM : ∀ i, i ≠ 15 → i ≠ 0 → keep i u (wr (wr (wr (ask 0 u) 50 0 (nI a)) 50 1 (nI b)) 50 2 (nI c)) := fun i hi h0 => keep.w (show (15 : Nat) ≠ i by omega) (keep.w (show (15 : Nat) ≠ i by omega) (keep.w (show (15 : Nat) ≠ i by omega) (ck core_ask h0)))
            have hM' : RelM (wr (wr (wr (ask 0 u) 50 0 (nI a)) 50 1 (nI b)) 50 2 (nI c)) (((s.u1 30 0 a).u1 31 0 b).u1 32 0 c) := by
              refine ⟨hu.m1.k (kM _ (by decide) (by decide)), hu.m2.k (kM _ (by decide) (by decide)), hu.m3.k (kM _ (by decide) (by decide)), hu.m4.k (kM _ (by decide) (by decide)), ?_, hu.m6.k (kM _ (by decide) (by decide))⟩
              obtain ⟨a1, a2, a3, a4, a5, a6, a7, a8⟩ := hu.m5
              exact ⟨by simp [wr_at]; rw [ask_at rfl]; exact a1, fun k hk => by simp [wr_at]; rw [ask_at rfl, ask_at rfl]; exact a2 k hk, fun k hk => by simp [wr_at]; rw [ask_at rfl]; exact a3 k hk, by simp [wr_at]; rw [ask_at rfl]; exact a4, by simp [wr_at]; rw [ask_at rfl]; exact a5, by simp [wr_at]; rfl, by simp [wr_at]; rfl, by simp [wr_at]; rfl⟩
            obtain ⟨N, hN⟩ : ∃ N, FUEL = N + s.P + 1 := ⟨99999 - s.P, by unfold FUEL; omega⟩
            obtain ⟨u2, e1, e2⟩ := m_ln hW' hM' s.P 0 (by show 0 + s.P = s.P; omega) N _ eqv.rfl
            refine ⟨u2, ?_, ?_, hM'.ev e2, fun i h1 h2 => (kM i (by omega) (by omega)).tr (e2.keep (by omega))⟩
            · rw [ml]
              unfold f_X10_lines_34 f_X10_lines_51
              rw [hu.m5.2.2.2.2.1, hr, if_pos (show nI 0 = (0 : Int32) from rfl), ak0, bd_some, if_neg i10, show inb 0 (rlen 50) = true from rfl, show inb 1 (rlen 50) = true from rfl, show inb 2 (rlen 50) = true from rfl, show Int32.toNatClampNeg 0 = 0 from rfl, show Int32.toNatClampNeg 1 = 1 from rfl, show Int32.toNatClampNeg 2 = 2 from rfl]
              simp only [gd_t, nw]
              rw [hN]
              exact e1
            · rw [e2.2]
              simp [wr_at]
              exact ask_22
        · have h1 := hW.isr
          refine stepS (oc := (2, 0)) hW hC hM ⟨σ, ?_, eqv.rfl⟩ (fun u hu => ⟨0, ask 2 u, ?_, ask_22, core_ask, fun h => absurd h (by decide)⟩) (Or.inr (by decide))
          · rw [cl, hC.c5.2.2.2.2.1, if_neg (show ¬ nI s.isr = (0 : Int32) from nne (b := 0) (by omega) (by decide) hr)]
          · rw [ml]
            unfold f_X10_lines_34 f_X10_lines_51
            rw [hu.m5.2.2.2.2.1, if_neg (show ¬ nI s.isr = (0 : Int32) from nne (b := 0) (by omega) (by decide) hr), ak2, bd_some, if_pos rfl]
      · refine stepS (oc := (1, 0)) hW hC hM ⟨σ, ?_, eqv.rfl⟩ (fun u hu => ⟨0, ask 1 u, ?_, ask_22, core_ask, fun h => absurd h (by decide)⟩) (Or.inr (by decide))
        · unfold f_X9_lines f_X9_lines_37
          rw [if_neg xa1, if_pos xa2, if_neg yb1, if_neg yb2]
          rcases idx_n (by omega) hz with h | h
          · rw [if_pos h]
          · have h2 : ¬ z ≤ nI b := by
              rw [le_int, nI_toInt (by omega)] at h ⊢
              omega
            rw [if_neg h2, ite_self]
        · unfold f_X10_lines
          rw [i999, in_y ha (by decide), bd_some, if_neg i10, show nI a = nI (a + 1) - 1 from (nI_pred a).symm, in_y hb (by omega), bd_some, if_neg i10, show nI b = nI (b + 1) - 1 from (nI_pred b).symm, in_n (by omega) hz, bd_some, if_pos rfl, nI_pred, nI_pred]
          exact no u
    · refine stepS (oc := (1, 0)) hW hC hM ⟨σ, ?_, eqv.rfl⟩ (fun u hu => ⟨0, ask 1 u, ?_, ask_22, core_ask, fun h => absurd h (by decide)⟩) (Or.inr (by decide))
      · unfold f_X9_lines f_X9_lines_37
        rw [if_neg xa1, if_pos xa2]
        rcases idx_n (by omega) hy with h | h
        · rw [if_pos h]
        · have h2 : nI a < y := by
            rw [le_int, nI_toInt (by omega)] at h
            rw [lt_int, nI_toInt (by omega)]
            omega
          rw [if_pos h2, ite_self]
      · unfold f_X10_lines
        rw [i999, in_y ha (by decide), bd_some, if_neg i10, show nI a = nI (a + 1) - 1 from (nI_pred a).symm, in_n (by omega) hy, bd_some, if_pos rfl, nI_pred]
        exact no u
  · refine stepS (oc := (1, 0)) hW hC hM ⟨σ, ?_, eqv.rfl⟩ (fun u hu => ⟨0, ask 1 u, ?_, ask_22, core_ask, fun h => absurd h (by decide)⟩) (Or.inr (by decide))
    · unfold f_X9_lines f_X9_lines_11
      rcases idx_n (by decide) hx with h | h
      · rw [if_pos h]
      · have h2 : ¬ x ≤ 999 := by
          rw [le_int, nI_toInt (by omega)] at h
          rw [le_int]
          have : (999 : Int32).toInt = 999 := rfl
          omega
        rw [if_neg h2, ite_self]
    · unfold f_X10_lines
      rw [i999, in_n (by decide) hx, bd_some, if_pos rfl]
      exact no u
