/-! PURE: appeal. By hand; long conjunctions by wfmk.py. -/
theorem ap_or : ∀ a, a < 16 → ∀ q, q < 4 → a / 2 ^ q % 2 = 0 → nI a ||| ((1 : Int32) <<< (nI q &&& 31)) = nI (a + 2 ^ q) ∧ a + 2 ^ q ≤ 15 ∧ ∀ j, j < 4 → (a + 2 ^ q) / 2 ^ j % 2 = if j = q then 1 else a / 2 ^ j % 2 := by decide +kernel
/-- appeal -/
theorem step_appeal (x y : Int32) {σ : Mem} (hI : Inv9 σ) : StpG Inv9 (f_X9_appeal x y) (f_X10_appeal x y) [3, 2] σ := by
  obtain ⟨s, hW, hC, hM⟩ := hI
  have hP := hW.P
  have hr1 := hW.isr
  have no1 : ∀ u, f_X10_appeal_19 x y u = some (0, ask 1 u) := by
    intro u
    unfold f_X10_appeal_19 f_X10_appeal_20 f_X10_appeal_34 f_X10_appeal_82 f_X10_appeal_83
    rw [if_pos rfl, if_pos rfl, ak1, bd_some, if_pos rfl]
  have no2 : ∀ a u, f_X10_appeal_82 a 1 u = some (0, ask 2 u) := by
    intro a u
    unfold f_X10_appeal_82 f_X10_appeal_83
    rw [ak2, bd_some, if_pos rfl]
  rcases idx x s.P with ⟨p, hp, rfl⟩ | hx
  · rcases idx y 4 with ⟨q, hq, rfl⟩ | hy
    · have ha : 4 * p + q < 4 * s.P := by omega
      have ha64 : 4 * p + q < 64 := by omega
      have cl : f_X9_appeal (nI p) (nI q) σ = if nI s.isr = 0 then some ((2, 0), σ) else bd (f_X3_isLacking (nI p) (nI q) σ) (fun y5 τ6 => if y5 = 0 then bd (f_X9_markNow (nI p) (nI q) τ6) (fun y7 τ8 => bd (f_X3_isAppealed (nI p) (nI q) τ8) (fun y9 τ10 => if y9 = 0 then (if y7 = -1 then some ((2, 0), τ10) else bd (f_X3_noteAppeal (nI p) (nI q) τ10) (fun _ τ12 => some ((0, y7), τ12))) else some ((2, 0), τ10))) else some ((2, 0), τ6)) := by
        unfold f_X9_appeal f_X9_appeal_18 f_X9_appeal_45 f_X9_appeal_77
        rw [cP_y hC.c2.1 hp (by omega), bd_some, if_neg i10, cQ_y hq, bd_some, if_neg i10, hC.c5.2.2.2.2.1]
      have ml : ∀ u, RelM u s → f_X10_appeal (nI p) (nI q) u = if nI s.isr = 0 then f_X10_appeal_82 (nI (4 * p + q)) 1 u else bd (f_X10_hasAnswer (nI (4 * p + q)) u) (fun y6 τ7 => if y6 = 0 then f_X10_appeal_82 (nI (4 * p + q)) 1 τ7 else gd (inb (nI (4 * p + q)) (rlen 48)) (if τ7 48 (Int32.toNatClampNeg (nI (4 * p + q))) = 0 then bd (f_X10_marked (nI (4 * p + q)) τ7) (fun y8 τ9 => if y8 = -1 then f_X10_appeal_82 (nI (4 * p + q)) 1 τ9 else f_X10_appeal_83 (nI (4 * p + q)) 1 1 τ9) else f_X10_appeal_82 (nI (4 * p + q)) 1 τ7)) := by
        intro u hu
        unfold f_X10_appeal f_X10_appeal_20 f_X10_appeal_34
        rw [mP_y hu.m2.1 hp (by omega), bd_some, if_neg i10, mQ_y hq, bd_some, if_neg i10, if_neg i10, if_neg i10, show (4 : Int32) = nI 4 from rfl, pk_mul, nI_add, hu.m5.2.2.2.2.1]
      by_cases hr : s.isr = 0
      · refine stepS (oc := (2, 0)) hW hC hM ⟨σ, ?_, eqv.rfl⟩ (fun u hu => ⟨0, ask 2 u, ?_, ask_22, core_ask, fun h => absurd h (by decide)⟩) (Or.inr (by decide))
        · rw [cl, if_pos (show nI s.isr = (0 : Int32) by rw [hr]; rfl)]
        · rw [ml u hu, if_pos (show nI s.isr = (0 : Int32) by rw [hr]; rfl)]
          exact no2 _ u
      · have hrn : ¬ nI s.isr = (0 : Int32) := nne (b := 0) (by omega) (by decide) hr
        by_cases hl : s.lkb (4 * p + q) = 0
        · obtain ⟨u1, d1, d2⟩ := c_markNow hW hC hp hq
          have C1 := hC.ev d2
          have c2 := c_ap hW C1.c2 (show p < 16 by omega) hq
          have cl2 : f_X9_appeal (nI p) (nI q) σ = if (if s.apb (4 * p + q) = 0 then (0 : Int32) else 1) = 0 then (if oi (s.mka (4 * p + q)) = -1 then some ((2, 0), u1) else bd (f_X3_noteAppeal (nI p) (nI q) u1) (fun _ τ12 => some ((0, oi (s.mka (4 * p + q))), τ12))) else some ((2, 0), u1) := by
            rw [cl, if_neg hrn, c_lk hW hC.c2 hp hq, bd_some, if_pos hl, if_pos rfl, d1, bd_some, c2, bd_some]
          by_cases hb : s.apb (4 * p + q) = 0
          · have ml2 : ∀ u, RelM u s → ∃ u2, eqv u u2 ∧ f_X10_appeal (nI p) (nI q) u = if oi (s.mka (4 * p + q)) = -1 then f_X10_appeal_82 (nI (4 * p + q)) 1 u2 else f_X10_appeal_83 (nI (4 * p + q)) 1 1 u2 := by
              intro u hu
              obtain ⟨u2, m1, m2⟩ := m_marked hW hu ha
              refine ⟨u2, m2, ?_⟩
              rw [ml u hu, if_neg hrn, m_has hW hu.m2 ha, bd_some, if_pos hl, if_neg i10, gd_r (show 4 * p + q < 64 from ha64) (by decide), na_nI (by omega), m_app hu.m2 ha64, hb, if_pos (show nI 0 = (0 : Int32) from rfl), m1, bd_some]
            cases e : s.mka (4 * p + q) with
            | none =>
              refine stepS (oc := (2, 0)) hW hC hM ⟨u1, ?_, d2⟩ (fun u hu => ?_) (Or.inr (by decide))
              · rw [cl2, if_pos hb, if_pos rfl, e, if_pos oi_n]
              · obtain ⟨u2, m1, m2⟩ := ml2 u hu
                rw [e, if_pos oi_n, no2] at m2
                exact ⟨0, ask 2 u2, m2, ask_22, core_ask.trans m1.1, fun h => absurd h (by decide)⟩
            | some v =>
              have hv := mka_le hW e
              have hva : ¬ oi (some v) = -1 := oi_s (by omega)
              have hap := hW.app p (by omega)
              rw [apb_e hq] at hb
              obtain ⟨o1, o2, o3⟩ := ap_or (s.app p) (by omega) q hq hb
              have f1 : ∀ k, (s.u1 7 p (s.app p + 2 ^ q)).app k = if k = p then s.app p + 2 ^ q else s.app k := fun k => rfl
              have f2 : ∀ b, s.apb b = 1 → (s.u1 7 p (s.app p + 2 ^ q)).apb b = 1 := by
                intro b hb1
                show (s.u1 7 p (s.app p + 2 ^ q)).app (b / 4) / 2 ^ (b % 4) % 2 = 1
                rw [f1]
                by_cases z : b / 4 = p
                · rw [if_pos z, o3 (b % 4) (by omega)]
                  split
                  · rfl
                  · rw [← z]; exact hb1
                · rw [if_neg z]; exact hb1
              have f3 : ∀ b, b < 4 * s.P → (s.u1 7 p (s.app p + 2 ^ q)).apb b = 1 → s.lkb b = 0 := by
                intro b hb0 hb1
                have hb2 : (s.u1 7 p (s.app p + 2 ^ q)).app (b / 4) / 2 ^ (b % 4) % 2 = 1 := hb1
                rw [f1] at hb2
                by_cases z : b / 4 = p
                · rw [if_pos z, o3 (b % 4) (by omega)] at hb2
                  by_cases w : b % 4 = q
                  · rw [show b = 4 * p + q by omega]; exact hl
                  · rw [if_neg w] at hb2
                    refine hW.al b hb0 ?_
                    show s.app (b / 4) / 2 ^ (b % 4) % 2 = 1
                    rw [z]; exact hb2
                · rw [if_neg z] at hb2
                  exact hW.al b hb0 hb2
              have hW' : WF (s.u1 7 p (s.app p + 2 ^ q)) := by
                refine ⟨hW.m, hW.P, hW.lack, hW.urg, hW.gift, ?_, ?_, hW.V, hW.T, hW.R, hW.rq, hW.sen, hW.stp, hW.hap, hW.given, hW.since, hW.good, hW.freshR, hW.hc, hW.stop, hW.S, hW.sq, hW.tw, hW.tol, hW.isr, hW.b0, hW.b1, hW.b2, hW.n, hW.ans, hW.rby, hW.pts, hW.voi, hW.freshL, hW.apr, hW.clean, f3, (fun r h1 h2 h3 h4 => f2 _ (hW.ah r h1 h2 h3 h4)), (fun k h1 h2 => f2 _ (hW.ar k h1 h2))⟩
                · intro k hk
                  rw [f1]
                  split
                  · exact o2
                  · exact hW.app k hk
                · intro k h1 h2
                  have h1' : s.P ≤ k := h1
                  rw [f1, if_neg (by omega)]
                  exact hW.fresh k h1 h2
              refine stepG (s' := s.u1 7 p (s.app p + 2 ^ q)) (oc := (0, nI v)) (r := nI v) (s := s) hW' hM ?_ ?_ (Or.inl rfl) (fun _ => rfl)
              · have kk : ∀ i, i ≠ 2 → keep i u1 (wr u1 18 p (nI (s.app p + 2 ^ q))) := fun i hi => keep.w (show (2 : Nat) ≠ i by omega) keep.rf
                refine ⟨wr u1 18 p (nI (s.app p + 2 ^ q)), ?_, ⟨C1.c1.k (kk _ (by decide)), ?_, C1.c3.k (kk _ (by decide)), C1.c4.k (kk _ (by decide)), C1.c5.k (kk _ (by decide)), C1.c6.k (kk _ (by decide)), C1.c7.k (kk _ (by decide))⟩, fun i hi => (d2.keep (by omega)).tr (kk i (by omega))⟩
                · rw [cl2, apb_e hq, if_pos hb, if_pos rfl, e, if_neg hva]
                  unfold f_X3_noteAppeal
                  rw [rget_n (show p < 16 by omega) (by decide), (C1.c2.2.2 p (by omega)).2, o1, rset_n (show p < 16 by omega) (by decide)]
                  rfl
                · obtain ⟨b1, b2, b3⟩ := C1.c2
                  refine ⟨by simp [wr_at]; exact b1, fun k hk => by simp [wr_at]; exact b2 k hk, fun k hk => ⟨by simp [wr_at]; exact (b3 k hk).1, ?_⟩⟩
                  rw [f1, wr_at]
                  by_cases z : k = p
                  · rw [if_pos ⟨rfl, z⟩, if_pos z]
                  · rw [if_neg (fun h => z h.2), if_neg z]; exact (b3 k hk).2
              · intro u hu
                obtain ⟨u2, m1, m2⟩ := ml2 u hu
                have M2 := (hu.ev m1).ask (c := 0)
                obtain ⟨u3, n1, n2⟩ := m_marked hW M2 ha
                have M3 := M2.ev n2
                have kk : ∀ i, i ≠ 12 → keep i u3 (wr u3 48 (4 * p + q) 1) := fun i hi => keep.w (show (12 : Nat) ≠ i by omega) keep.rf
                refine ⟨wr u3 48 (4 * p + q) 1, ?_, ?_, ⟨M3.m1.k (kk _ (by decide)), ?_, M3.m3.k (kk _ (by decide)), M3.m4.k (kk _ (by decide)), M3.m5.k (kk _ (by decide)), M3.m6.k (kk _ (by decide))⟩, fun i h1 h2 => (((m1.keep (by omega)).tr (ck core_ask (by omega))).tr (n2.keep (by omega))).tr (kk i (by omega))⟩
                · rw [e, if_neg hva] at m2
                  rw [m2]
                  unfold f_X10_appeal_83
                  rw [ak0, bd_some, if_neg i10, n1, bd_some, gd_r (show 4 * p + q < 64 from ha64) (by decide), na_nI (by omega), e]
                  rfl
                · show wr u3 48 (4 * p + q) 1 76 22 = nI 0
                  rw [wr_at, if_neg (fun h => absurd h.1 (by decide)), n2.2]
                  exact ask_22
                · obtain ⟨b1, b2, b3⟩ := M3.m2
                  refine ⟨by simp [wr_at]; exact b1, fun k hk => by simp [wr_at]; exact b2 k hk, fun k hk => ⟨by simp [wr_at]; exact (b3 k hk).1, by simp [wr_at]; exact (b3 k hk).2.1, fun j hj => ?_⟩⟩
                  rw [f1, wr_at]
                  by_cases z : k = p
                  · rw [if_pos z, o3 j hj, z]
                    by_cases w : j = q
                    · rw [if_pos ⟨rfl, by omega⟩, if_pos w]
                      rfl
                    · rw [if_neg (fun h => w (by omega)), if_neg w]
                      exact (b3 p (by omega)).2.2 j hj
                  · rw [if_neg z, if_neg (fun h => z (by omega))]
                    exact (b3 k hk).2.2 j hj
          · refine stepS (oc := (2, 0)) hW hC hM ⟨u1, ?_, d2⟩ (fun u hu => ⟨0, ask 2 u, ?_, ask_22, core_ask, fun h => absurd h (by decide)⟩) (Or.inr (by decide))
            · rw [cl2, if_neg hb, if_neg i10]
            · rw [ml u hu, if_neg hrn, m_has hW hu.m2 ha, bd_some, if_pos hl, if_neg i10, gd_r (show 4 * p + q < 64 from ha64) (by decide), na_nI (by omega), m_app hu.m2 ha64, if_neg (show ¬ nI (s.apb (4 * p + q)) = (0 : Int32) from nne (b := 0) (by have := apb_le (s := s) (a := 4 * p + q); omega) (by decide) hb)]
              exact no2 _ u
        · refine stepS (oc := (2, 0)) hW hC hM ⟨σ, ?_, eqv.rfl⟩ (fun u hu => ⟨0, ask 2 u, ?_, ask_22, core_ask, fun h => absurd h (by decide)⟩) (Or.inr (by decide))
          · rw [cl, if_neg hrn, c_lk hW hC.c2 hp hq, bd_some, if_neg hl, if_neg i10]
          · rw [ml u hu, if_neg hrn, m_has hW hu.m2 ha, bd_some, if_neg hl, if_pos rfl]
            exact no2 _ u
    · refine stepS (oc := (3, 0)) hW hC hM ⟨σ, ?_, eqv.rfl⟩ (fun u hu => ⟨0, ask 1 u, ?_, ask_22, core_ask, fun h => absurd h (by decide)⟩) (Or.inr (by decide))
      · unfold f_X9_appeal f_X9_appeal_18
        rw [cP_y hC.c2.1 hp (by omega), bd_some, if_neg i10, cQ_n hy, bd_some, if_pos rfl]
      · unfold f_X10_appeal
        rw [mP_y hu.m2.1 hp (by omega), bd_some, if_neg i10, mQ_n hy, bd_some, if_pos rfl]
        exact no1 u
  · refine stepS (oc := (3, 0)) hW hC hM ⟨σ, ?_, eqv.rfl⟩ (fun u hu => ⟨0, ask 1 u, ?_, ask_22, core_ask, fun h => absurd h (by decide)⟩) (Or.inr (by decide))
    · unfold f_X9_appeal f_X9_appeal_18
      rw [cP_n hC.c2.1 (by omega) hx, bd_some, if_pos rfl]
    · unfold f_X10_appeal
      rw [mP_n hu.m2.1 (by omega) hx, bd_some, if_pos rfl]
      exact no1 u
