/-! PURE: a seed is read, on both sides. By hand. -/
/-- the mark of points by the scheme that holds -/
def A.ml (s : A) (q p : Nat) : Nat := mk9 p (s.txt (s.at9 q)) (s.tm (s.at9 q)) (s.most (s.at9 q))
theorem ml_le {s : A} (hW : WF s) {q p : Nat} (hq : q < 4) (hv : 0 < s.V q) : s.ml q p ≤ 99 := by
  have t := (hW.T q (s.V q - 1) hq (by omega)).1.most
  unfold A.ml
  rw [at9_e hv]
  exact mk9_le t
theorem c_ml {σ : Mem} {s : A} (hW : WF s) (h3 : RC3 σ s) {q p : Nat} (hq : q < 4) (hv : 0 < s.V q) (hp : p < 256) : ∃ u, f_X6_markByLatest (nI q) (nI p) σ = some (nI (s.ml q p), u) ∧ eqv σ u := by
  have hV := hW.V q hq
  obtain ⟨u, d1, d2⟩ := cMark (p := p) hW h3 hq (show s.V q - 1 < s.V q by omega) hp
  refine ⟨u, ?_, d2⟩
  unfold f_X6_markByLatest
  rw [rget_n (show q < 4 from hq) (by decide), h3.1 q hq, show (1 : Int32) = nI 1 from rfl, pk_sub (by omega), d1, bd_some]
  unfold A.ml
  rw [at9_e hv]
theorem m_ml {σ : Mem} {s : A} (h3 : RM3 σ s) {q p : Nat} (hq : q < 4) (hv : 0 < s.V q) (hp : p < 256) : ∃ u, f_X10_value (nI (s.at9 q)) (nI p) σ = some (nI (s.ml q p), u) ∧ eqv σ u := by
  obtain ⟨u, d1, d2⟩ := mMark (p := p) h3 hq (show s.V q - 1 < s.V q by omega) hp
  refine ⟨u, ?_, d2⟩
  unfold A.ml
  rw [at9_e hv]
  exact d1
/-- the state behind a seed that was read well; badly -/
def A.sw (s : A) (r : Nat) : A := ((s.u1 19 r 0).u1 21 r 0).u1 22 r s.n
def A.sb (s : A) (r : Nat) : A := (((s.vd r (s.good r) s.n).u1 19 r 0).u1 21 r 0).u1 18 r 1
theorem WF_sw {s : A} (hW : WF s) {r : Nat} (hr : r < s.R) (hs : s.stp r = 0) : WF (s.sw r) := by
  have f1 : ∀ j, (s.sw r).hc j = if j = r then 0 else s.hc j := fun j => rfl
  have f2 : ∀ j, (s.sw r).since j = if j = r then 0 else s.since j := fun j => rfl
  have f3 : ∀ j, (s.sw r).good j = if j = r then s.n else s.good j := fun j => rfl
  refine ⟨hW.m, hW.P, hW.lack, hW.urg, hW.gift, hW.app, hW.fresh, hW.V, hW.T, hW.R, hW.rq, hW.sen, hW.stp, hW.hap, hW.given, ?_, ?_, ?_, ?_, ?_, hW.S, hW.sq, hW.tw, hW.tol, hW.isr, hW.b0, hW.b1, hW.b2, hW.n, hW.ans, hW.rby, hW.pts, hW.voi, hW.freshL, hW.apr, ?_, hW.al, ?_, hW.ar⟩
  · intro j hj
    rw [f2]
    split
    · exact Nat.zero_le _
    · exact hW.since j hj
  · intro j hj
    rw [f3]
    split
    · exact Nat.le_refl _
    · exact hW.good j hj
  · intro j h1 h2
    have h1' : s.R ≤ j := h1
    rw [f2, f3, if_neg (by omega), if_neg (by omega)]
    exact hW.freshR j h1 h2
  · intro j hj
    rw [f1]
    by_cases e : j = r
    · rw [if_pos e]; exact Or.inl rfl
    · rw [if_neg e]; exact hW.hc j hj
  · intro j hj h1
    rw [f1]
    split
    · rfl
    · exact hW.stop j hj h1
  · intro k hk h1 h2
    have hk' : k < s.n := hk
    rw [f3] at h2
    by_cases e : s.rby k = r
    · have e' : (s.sw r).rby k = r := e
      rw [if_pos e'] at h2
      omega
    · have e' : ¬ (s.sw r).rby k = r := e
      rw [if_neg e'] at h2
      exact hW.clean k hk h1 h2
  · intro j hj h1 h2 h3
    rw [f1] at h1 h2
    rw [f1]
    by_cases e : j = r
    · rw [if_pos e] at h1; exact absurd h1 (Nat.lt_irrefl 0)
    · rw [if_neg e] at h1 h2
      rw [if_neg e]
      exact hW.ah j hj h1 h2 h3
theorem WF_sb {s : A} (hW : WF s) {r : Nat} (hr : r < s.R) : WF (s.sb r) := by
  have hR := hW.R
  have f1 : ∀ j, (s.sb r).hc j = if j = r then 0 else s.hc j := fun j => rfl
  have f2 : ∀ j, (s.sb r).since j = if j = r then 0 else s.since j := fun j => rfl
  have f3 : ∀ j, (s.sb r).stp j = if j = r then 1 else s.stp j := fun j => rfl
  have f4 : ∀ j, (s.sb r).voi j = if s.good r ≤ j ∧ j < s.n ∧ s.rby j = r then 1 else s.voi j := fun j => rfl
  refine ⟨hW.m, hW.P, hW.lack, hW.urg, hW.gift, hW.app, hW.fresh, hW.V, hW.T, hW.R, hW.rq, hW.sen, ?_, hW.hap, hW.given, ?_, hW.good, ?_, ?_, ?_, hW.S, hW.sq, hW.tw, hW.tol, hW.isr, hW.b0, hW.b1, hW.b2, hW.n, hW.ans, hW.rby, hW.pts, ?_, ?_, hW.apr, ?_, hW.al, ?_, hW.ar⟩
  · intro j hj
    rw [f3]
    split
    · exact Nat.le_refl _
    · exact hW.stp j hj
  · intro j hj
    rw [f2]
    split
    · exact Nat.zero_le _
    · exact hW.since j hj
  · intro j h1 h2
    have h1' : s.R ≤ j := h1
    rw [f2, f3, if_neg (by omega), if_neg (by omega)]
    exact hW.freshR j h1 h2
  · intro j hj
    rw [f1]
    by_cases e : j = r
    · rw [if_pos e]; exact Or.inl rfl
    · rw [if_neg e]; exact hW.hc j hj
  · intro j hj h1
    rw [f1]
    by_cases e : j = r
    · rw [if_pos e]
    · rw [if_neg e]
      rw [f3, if_neg e] at h1
      exact hW.stop j hj h1
  · intro k hk
    rw [f4]
    split
    · exact Nat.le_refl _
    · exact hW.voi k hk
  · intro k h1 h2
    have h1' : s.n ≤ k := h1
    rw [f4, if_neg (fun h => by omega)]
    exact hW.freshL k h1 h2
  · intro k hk h1 h2
    rw [f3] at h1
    by_cases e : s.rby k = r
    · have e' : (s.sb r).rby k = r := e
      rw [if_pos e'] at h1
      exact absurd h1 (by decide)
    · have e' : ¬ (s.sb r).rby k = r := e
      rw [if_neg e'] at h1
      rw [f4, if_neg (fun h => e h.2.2)]
      exact hW.clean k hk h1 h2
  · intro j hj h1 h2 h3
    rw [f1] at h1 h2
    rw [f1]
    by_cases e : j = r
    · rw [if_pos e] at h1; exact absurd h1 (Nat.lt_irrefl 0)
    · rw [if_neg e] at h1 h2
      rw [if_neg e]
      exact hW.ah j hj h1 h2 h3
/-- the class's hand emptied -/
theorem c_empty {τ : Mem} {s s' : A} (h4 : RC4 τ s) {r z : Nat} (hR : s'.R = s.R) (a0 : ∀ j, s'.stp j = s.stp j) (a1 : ∀ j, s'.rs j = s.rs j) (a2 : ∀ j, s'.rq j = s.rq j) (a3 : ∀ j, s'.sen j = s.sen j) (a4 : ∀ j, s'.hc j = if j = r then 0 else s.hc j) (a5 : ∀ j, s'.hap j = s.hap j) (a6 : ∀ j, s'.sq j = s.sq j) (a7 : ∀ j, s'.since j = if j = r then 0 else s.since j) (a8 : ∀ j, s'.given j = s.given j) (a9 : ∀ j, j ≠ r → s'.good j = s.good j) (b2 : s.stp r = 0 → s'.good r = z) : RC4 (wr (wr (wr τ 22 r (-1)) 27 r 0) 28 r (nI z)) s' := by
  obtain ⟨c1, c2, c3⟩ := h4
  refine ⟨by rw [hR]; simp [wr_at]; exact c1, fun j hj => ?_, fun j hj => ?_⟩
  · rw [hR] at hj
    obtain ⟨q1, q2, q3, q4, q5, q6⟩ := c2 j hj
    rw [a1, a2, a3, a4, a5]
    refine ⟨by simp [wr_at]; exact q1, by simp [wr_at]; exact q2, by simp [wr_at]; exact q3, ?_, ?_, ?_⟩
    · by_cases e : j = r
      · have hh : s'.hand j = -1 := by
          unfold A.hand
          rw [a4, if_pos e, if_pos rfl]
        rw [hh]
        simp [wr_at, e]
      · have hh : s'.hand j = s.hand j := by
          unfold A.hand
          rw [a4, if_neg e, a6]
        rw [hh]
        simp [wr_at, e]
        exact q4
    · by_cases e : j = r
      · rw [if_pos e]
        intro h _
        exact absurd h (Nat.lt_irrefl 0)
      · rw [if_neg e]
        intro h1 h2
        simp [wr_at]
        exact q5 h1 h2
    · by_cases e : j = r
      · rw [if_pos e]
        intro h
        omega
      · rw [if_neg e]
        intro h
        simp [wr_at]
        exact q6 h
  · obtain ⟨q1, q2, q3, q4⟩ := c3 j hj
    rw [a0, a7, a8]
    by_cases e : j = r
    · rw [if_pos e]
      refine ⟨by simp [wr_at]; exact q1, by simp [wr_at, e]; rfl, by simp [wr_at]; exact q3, fun h => ?_⟩
      rw [e] at h ⊢
      rw [b2 h]
      simp [wr_at]
    · rw [if_neg e]
      refine ⟨by simp [wr_at]; exact q1, by simp [wr_at, e]; exact q2, by simp [wr_at]; exact q3, fun h => ?_⟩
      rw [a9 j e]
      simp [wr_at, e]
      exact q4 h
theorem hand_s {s : A} {r k : Nat} (h : s.hc r = 101 + k) : s.hand r = nI (1000 + s.sq k) := by
  unfold A.hand
  rw [h, if_neg (by omega), if_neg (by omega), show 101 + k - 101 = k by omega]
theorem c_readSeed {σ : Mem} {s : A} (hW : WF s) (hC : RelC σ s) {r k p : Nat} (hr : r < s.R) (hp : p < 256) (hs : s.stp r = 0) (hk : s.hc r = 101 + k) (hkS : k < s.S) : ∃ u, f_X9_readSeed (nI r) (nI p) σ = some (nI (s.ml (s.sq k) p), u) ∧ RelC u (if s.near (s.ml (s.sq k) p) (s.ml (s.sq k) (s.sp k)) = true then s.sw r else s.sb r) ∧ frC σ u := by
  have hR := hW.R
  have hS := hW.S
  have hn := hW.n
  have htol := hW.tol
  obtain ⟨w1, w2, w3⟩ := hW.sq k hkS
  have hq : s.sq k < 4 := by omega
  have hr6 : r < 6 := by omega
  obtain ⟨u1, d1, d2⟩ := c_ml hW hC.c3 hq w3 hp
  have C1 := hC.ev d2
  obtain ⟨u2, e1, e2⟩ := c_ml (p := s.sp k) hW C1.c3 hq w3 (by omega)
  have C2 := C1.ev e2
  have l1 := ml_le (p := p) hW hq w3
  have l2 := ml_le (p := s.sp k) hW hq w3
  have h23 := (hC.c4.2.1 r hr).2.2.2.2.2 (by omega)
  rw [hk, show 101 + k - 101 = k by omega] at h23
  unfold f_X9_readSeed f_X9_readSeed_78
  rw [rget_n (show r < 6 from hr6) (by decide), h23]
  simp only [nv]
  rw [rget_n (show k < 8 by omega) (by decide), (hC.c5.2.1 k hkS).1, d1, bd_some, rget_n (show k < 8 by omega) (by decide), (C1.c5.2.1 k hkS).2, e1, bd_some, C2.c5.2.2.2.1]
  rcases c_apart (σ := u2) (x := s.ml (s.sq k) p) (y := s.ml (s.sq k) (s.sp k)) (t := s.tol) (by omega) (by omega) (by omega) with ⟨h, ca⟩ | ⟨h, ca⟩
  · rw [ca, bd_some, if_neg i10, if_neg (near_n h)]
    have k1 : ∀ i, i ≠ 4 → keep i u2 (wr u2 21 r 1) := fun i hi => keep.w (show (4 : Nat) ≠ i by omega) keep.rf
    have h28 : (wr u2 21 r 1) 28 r = nI (s.good r) := by rw [wr_at, if_neg (fun h => absurd h.1 (by decide))]; exact (C2.c4.2.2 r hr6).2.2.2 hs
    have h6 : RC6 (wr u2 21 r 1) (s.vd r (s.good r) (s.good r)) := by
      have hc : ∀ j, (s.vd r (s.good r) (s.good r)).cts j = s.cts j := by
        intro j
        unfold A.cts
        rw [vd_z]
        rfl
      have h0 := C2.c6.k (k1 6 (by decide))
      obtain ⟨z1, z2, z3, z4⟩ := h0
      refine ⟨z1, fun j hj => ?_, fun j hj => by rw [vd_z]; exact z3 j hj, fun q hq => ⟨(z4 q hq).1, (z4 q hq).2.trans ?_⟩⟩
      · obtain ⟨q1, q2, q3, q4, q5, q6⟩ := z2 j hj
        refine ⟨q1, q2, q3, q4, q5, q6.trans ?_⟩
        unfold A.worth
        rw [hc]
        rfl
      · congr 1
        unfold A.nvoid
        refine cnt_eq _ _ s.n (fun j hj => ?_)
        show decide (s.rby j = q ∧ s.voi j ≠ 0) = decide (s.rby j = q ∧ (s.vd r (s.good r) (s.good r)).voi j ≠ 0)
        rw [vd_z]
    have hg := hW.good r hr6
    obtain ⟨d, hd⟩ : ∃ d, s.good r + d = s.n := ⟨s.n - s.good r, by omega⟩
    obtain ⟨N, hN⟩ : ∃ N, FUEL = N + d + 1 := ⟨99999 - d, by unfold FUEL; omega⟩
    obtain ⟨u3, g1, g2, g3⟩ := c_vd hW hr hs rfl d (s.good r) hd (Nat.le_refl _) N _ h6
    have ks : ∀ i, i ≠ 4 → i ≠ 6 → i ≠ 0 → keep i u2 u3 := fun i h1 h2 _ => (k1 i h1).tr (g3 i h2)
    have k4 : keep 4 (wr u2 21 r 1) u3 := g3 4 (by decide)
    refine ⟨wr (wr (wr u3 22 r (-1)) 27 r 0) 28 r (nI s.n), ?_, ?_, ?_⟩
    · unfold f_X9_stop f_X4_emptyHand f_X4_startAnew
      rw [rput_n (show r < 6 from hr6) (by decide), if_neg i10]
      simp only [nw, nv]
      rw [rget_n (show r < 6 from hr6) (by decide), h28, hN, g1, bd_some, rset_n (show r < 6 from hr6) (by decide), bd_some, rset_n (show r < 6 from hr6) (by decide), rset_n (show r < 6 from hr6) (by decide), bd_some, show (wr u3 22 r (-1)) 76 6 = u3 76 6 by simp [wr_at], show u3 76 6 = nI s.n from g2.1]
    · have kk : ∀ i, i ≠ 4 → keep i u3 (wr (wr (wr u3 22 r (-1)) 27 r 0) 28 r (nI s.n)) := fun i hi => keep.w (show (4 : Nat) ≠ i by omega) (keep.w (show (4 : Nat) ≠ i by omega) (keep.w (show (4 : Nat) ≠ i by omega) keep.rf))
      have k9 : ∀ i, i ≠ 4 → i ≠ 6 → i ≠ 0 → keep i u2 (wr (wr (wr u3 22 r (-1)) 27 r 0) 28 r (nI s.n)) := fun i h1 h2 h3 => (ks i h1 h2 h3).tr (kk i h1)
      refine ⟨C2.c1.k (k9 _ (by decide) (by decide) (by decide)), C2.c2.k (k9 _ (by decide) (by decide) (by decide)), C2.c3.k (k9 _ (by decide) (by decide) (by decide)), ?_, C2.c5.k (k9 _ (by decide) (by decide) (by decide)), ?_, C2.c7.k (k9 _ (by decide) (by decide) (by decide))⟩
      · have h4 : RC4 (wr u2 21 r 1) (s.u1 18 r 1) := by
          obtain ⟨c1, c2, c3⟩ := C2.c4
          have f3 : ∀ j, (s.u1 18 r 1).stp j = if j = r then 1 else s.stp j := fun j => rfl
          refine ⟨by simp [wr_at]; exact c1, fun j hj => by simp [wr_at]; exact c2 j hj, fun j hj => ?_⟩
          obtain ⟨q1, q2, q3, q4⟩ := c3 j hj
          rw [f3]
          by_cases e : j = r
          · rw [if_pos e]
            exact ⟨by simp [wr_at, e]; rfl, by simp [wr_at]; exact q2, by simp [wr_at]; exact q3, fun h => absurd h (by decide)⟩
          · rw [if_neg e]
            exact ⟨by simp [wr_at, e]; exact q1, by simp [wr_at]; exact q2, by simp [wr_at]; exact q3, fun h => by simp [wr_at]; exact q4 h⟩
        exact c_empty (h4.k k4) (s' := s.sb r) (r := r) (z := s.n) rfl (fun j => rfl) (fun j => rfl) (fun j => rfl) (fun j => rfl) (fun j => rfl) (fun j => rfl) (fun j => rfl) (fun j => rfl) (fun j => rfl) (fun j _ => rfl) (fun h => absurd (show (1 : Nat) = 0 from (if_pos rfl : p1 (s 18) r 1 r = 1).symm.trans h) (by decide))
      · exact g2.k (kk 6 (by decide))
    · intro i hi
      exact ((((d2.keep (by omega)).tr (e2.keep (by omega))).tr (ks i (by omega) (by omega) (by omega)))).tr (keep.w (show (4 : Nat) ≠ i by omega) (keep.w (show (4 : Nat) ≠ i by omega) (keep.w (show (4 : Nat) ≠ i by omega) keep.rf)))
  · rw [ca, bd_some, if_pos rfl, if_pos (near_y h)]
    have kk : ∀ i, i ≠ 4 → keep i u2 (wr (wr (wr u2 22 r (-1)) 27 r 0) 28 r (nI s.n)) := fun i hi => keep.w (show (4 : Nat) ≠ i by omega) (keep.w (show (4 : Nat) ≠ i by omega) (keep.w (show (4 : Nat) ≠ i by omega) keep.rf))
    refine ⟨wr (wr (wr u2 22 r (-1)) 27 r 0) 28 r (nI s.n), ?_, ⟨C2.c1.k (kk _ (by decide)), C2.c2.k (kk _ (by decide)), C2.c3.k (kk _ (by decide)), ?_, C2.c5.k (kk _ (by decide)), C2.c6.k (kk _ (by decide)), C2.c7.k (kk _ (by decide))⟩, fun i hi => ((d2.keep (by omega)).tr (e2.keep (by omega))).tr (kk i (by omega))⟩
    · unfold f_X4_emptyHand f_X4_startAnew
      rw [rset_n (show r < 6 from hr6) (by decide)]
      simp only [nw]
      rw [bd_some, rset_n (show r < 6 from hr6) (by decide), rset_n (show r < 6 from hr6) (by decide), bd_some, show (wr u2 22 r (-1)) 76 6 = u2 76 6 by simp [wr_at], C2.c6.1]
    · exact c_empty C2.c4 (s' := s.sw r) (r := r) (z := s.n) rfl (fun j => rfl) (fun j => rfl) (fun j => rfl) (fun j => rfl) (fun j => rfl) (fun j => rfl) (fun j => rfl) (fun j => rfl) (fun j => rfl) (fun j hj => if_neg hj) (fun _ => if_pos rfl)
