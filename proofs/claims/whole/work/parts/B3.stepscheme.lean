/-! PURE: scheme. By hand. -/
theorem some_fst {x y : Int32} {u v : Mem} (h : some (x, u) = some (y, v)) : x = y := by
  injection h with h
  injection h
theorem nw_neg {X : Mem → Option (Int32 × Mem)} {y : Int32} {v : Mem} (h : ¬ 0 ≤ y) : nw (wr v 76 23 0) (fun τ => if 0 ≤ y then X τ else some (y, τ)) = some (y, wr v 76 23 0) := if_neg h
theorem neg1 : ∀ i, i < 41 → ¬ (0 : Int32) ≤ -1 - nI i := by decide
/-- a line at fault, the class's side -/
theorem c_fault9 {σ u : Mem} {s : A} (hC : RelC σ s) {q j : Nat} (hq : q < 4) (hV : s.V q < 6) (hj : j ≤ 40) (a1 : f_X0_faultOf σ = some (nI j, u)) (a2 : eqv σ u) : CA (f_X9_scheme (nI q)) σ (0, -1 - nI j) (s.u1 0 0 0) := by
  have C1 := hC.ev a2
  have kk : ∀ i, i ≠ 1 → keep i u (wr u 76 5 0) := fun i hi => keep.w (show (1 : Nat) ≠ i by omega) keep.rf
  refine ⟨wr u 76 5 0, ?_, ⟨⟨by simp [wr_at]; rfl, fun j hj => absurd hj (Nat.not_lt_zero j)⟩, C1.c2.k (kk _ (by decide)), C1.c3.k (kk _ (by decide)), C1.c4.k (kk _ (by decide)), C1.c5.k (kk _ (by decide)), C1.c6.k (kk _ (by decide)), C1.c7.k (kk _ (by decide))⟩, fun i hi => (a2.keep (by omega)).tr (kk i (by omega))⟩
  unfold f_X9_scheme f_X1_clear
  rw [cQ_y hq, bd_some, if_neg i10, rget_n (show q < 4 from hq) (by decide), hC.c3.1 q hq, if_pos (show nI (s.V q) < (6 : Int32) from (nI_ltI (b := 6) (by omega) (by decide)).mpr hV), a1, bd_some]
  simp only [nw]
  rw [bd_some, if_neg (nm1 (by omega))]
/-- the reference's -/
theorem m_fault9 {w v2 : Mem} {s : A} (hw : RelM w s) {q j : Nat} (hq : q < 4) (hV : s.V q < 6) (hj : j ≤ 40) (c3 : f_X10_reads (ask 0 w) = some (-1 - nI j, v2)) (c4 : eqv (ask 0 w) v2) : ∃ F, f_X10_scheme (nI q) w = some (-1 - nI j, F) ∧ F 76 22 = nI 0 ∧ RelM F (s.u1 0 0 0) ∧ frM w F := by
  have M2 := (hw.ask (c := 0)).ev c4
  have kk : ∀ i, i ≠ 11 → keep i v2 (wr v2 76 23 0) := fun i hi => keep.w (show (11 : Nat) ≠ i by omega) keep.rf
  refine ⟨wr v2 76 23 0, ?_, ?_, ⟨⟨by simp [wr_at]; rfl, fun j hj => absurd hj (Nat.not_lt_zero j)⟩, M2.m2.k (kk _ (by decide)), M2.m3.k (kk _ (by decide)), M2.m4.k (kk _ (by decide)), M2.m5.k (kk _ (by decide)), M2.m6.k (kk _ (by decide))⟩, fun i h1 h2 => ((keepA core_ask h1).tr (c4.keep (by omega))).tr (kk i (by omega))⟩
  · unfold f_X10_scheme f_X10_scheme_27
    rw [mQ_y hq, bd_some, if_neg i10, gd_r (show q < 4 from hq) (by decide), na_nI (by omega), hw.m3.1 q hq, if_neg (show ¬ (6 : Int32) ≤ nI (s.V q) from nle (a := 6) (by decide) (by omega) hV), ak0, bd_some, if_neg i10, c3, bd_some]
    exact nw_neg (neg1 j (by omega))
  · rw [wr_at, if_neg (fun h => absurd h.2 (by decide)), c4.2]
    exact ask_22
theorem WF_m0 {s : A} (hW : WF s) : WF (s.u1 0 0 0) := ⟨Nat.zero_le _, hW.P, hW.lack, hW.urg, hW.gift, hW.app, hW.fresh, hW.V, hW.T, hW.R, hW.rq, hW.sen, hW.stp, hW.hap, hW.given, hW.since, hW.good, hW.freshR, hW.hc, hW.stop, hW.S, hW.sq, hW.tw, hW.tol, hW.isr, hW.b0, hW.b1, hW.b2, hW.n, hW.ans, hW.rby, hW.pts, hW.voi, hW.freshL, hW.apr, hW.clean, hW.al, hW.ah, hW.ar⟩
theorem wc32 {v : Int32} : wcode [3, 2] ((0, v) : Nat × Int32).1 = nI 0 := rfl
/-- scheme -/
theorem step_scheme (x : Int32) {σ : Mem} (hI : Inv9 σ) : StpG Inv9 (f_X9_scheme x) (f_X10_scheme x) [3, 2] σ := by
  obtain ⟨s, hW, hC, hM⟩ := hI
  rcases idx x 4 with ⟨q, hq, rfl⟩ | hx
  · have hV6 := hW.V q hq
    have hm := hW.m
    by_cases hV : s.V q < 6
    · have both : ∀ w, RelM w s → _ := fun w hw => both_line (u0 := ask 0 w) hm hC.c1.1 (hw.ask (c := 0)).m1.1 (fun j hj => (hC.c1.2 j hj).trans ((hw.ask (c := 0)).m1.2 j hj).symm)
      rcases both σ hM with ⟨j, u, u2, hj, a1, a2, a3, a4⟩ | ⟨p, u, u2, b1, b2, b3, b4, b5, b6, b7, b8, b9, b10⟩
      · refine stepG (WF_m0 hW) hM (c_fault9 hC hq hV (by omega) a1 a2) (fun w hw => ?_) (Or.inl rfl) (fun _ => rfl)
        rw [wc32]
        rcases both w hw with ⟨j', v, v2, hj', c1, c2, c3, c4⟩ | ⟨p, v, v2, d1, d2, d3, d4, d5, d6, d7, d8, d9, d10⟩
        · have e : j = j' := (nI_eq (by omega) (by omega)).mp (some_fst (a1.symm.trans c1))
          subst e
          exact m_fault9 hw hq hV (by omega) c3 c4
        · exact absurd (some_fst (a1.symm.trans d5)) (nm1 (by omega))
      · obtain ⟨tm, most, t1, t2, t3, t4, t5, t6⟩ := fin_ok b3 b4 hm b2
        obtain ⟨r1, r2, r3, r4⟩ := b7
        rw [t5] at r3
        rw [← r4] at t6
        refine stepG (WF_sc hW hq hV t1 t2 t3 t4) hM (c_scheme hW hC hq hV b6 b5 r1 r2 r3 t6 t1 t2 t3 t4) (fun w hw => ?_) (Or.inl rfl) (fun _ => rfl)
        rw [wc32]
        rcases both w hw with ⟨j', v, v2, hj', c1, c2, c3, c4⟩ | ⟨p', v, v2, d1, d2, d3, d4, d5, d6, d7, d8, d9, d10⟩
        · exact absurd (some_fst (c1.symm.trans b5)) (nm1 (by omega))
        · have e : p' = p := by
            have h := d1.symm.trans b1
            injection h
          rw [e] at d8 d10
          exact m_scheme hW hw hq hV d9 d8 d10 t1 t2 t3 t4
    · refine stepS (oc := (2, 0)) hW hC hM ⟨σ, ?_, eqv.rfl⟩ (fun u hu => ⟨0, ask 2 u, ?_, ask_22, core_ask, fun h => absurd h (by decide)⟩) (Or.inr (by decide))
      · unfold f_X9_scheme
        rw [cQ_y hq, bd_some, if_neg i10, rget_n (show q < 4 from hq) (by decide), hC.c3.1 q hq, if_neg (show ¬ nI (s.V q) < (6 : Int32) from nlt (b := 6) (by omega) (by decide) (by omega))]
      · unfold f_X10_scheme f_X10_scheme_26 f_X10_scheme_27
        rw [mQ_y hq, bd_some, if_neg i10, gd_r (show q < 4 from hq) (by decide), na_nI (by omega), hu.m3.1 q hq, if_pos (show (6 : Int32) ≤ nI (s.V q) from nI_le (a := 6) (by omega) (by omega)), ak2, bd_some, if_pos rfl]
  · refine stepS (oc := (3, 0)) hW hC hM ⟨σ, ?_, eqv.rfl⟩ (fun u hu => ⟨0, ask 1 u, ?_, ask_22, core_ask, fun h => absurd h (by decide)⟩) (Or.inr (by decide))
    · unfold f_X9_scheme
      rw [cQ_n hx, bd_some, if_pos rfl]
    · unfold f_X10_scheme f_X10_scheme_26 f_X10_scheme_27
      rw [mQ_n hx, bd_some, if_pos rfl, ak1, bd_some, if_pos rfl]
