/-! PURE: the reference reads; read. By hand. -/
/-- the reference's hand emptied: a state whose rows 58, 59, 61, 62 are so -/
theorem m_empty {τ F : Mem} {s s' : A} (h4 : RM4 τ s) {r z : Nat} (hk : ∀ q j, grp q j = 14 → q ≠ 58 → q ≠ 59 → q ≠ 61 → q ≠ 62 → F q j = τ q j) (hR : s'.R = s.R) (a1 : ∀ j, s'.rs j = s.rs j) (a2 : ∀ j, s'.rq j = s.rq j) (a3 : ∀ j, s'.sen j = s.sen j) (a4 : ∀ j, s'.hc j = if j = r then 0 else s.hc j) (a5 : ∀ j, s'.hap j = s.hap j) (a7 : ∀ j, s'.since j = if j = r then z else s.since j) (a8 : ∀ j, s'.given j = s.given j) (b0 : ∀ j, j < 6 → F 58 j = nI (s'.stp j)) (b1 : ∀ j, F 59 j = if j = r then -1 else τ 59 j) (b2 : ∀ j, F 61 j = if j = r then nI z else τ 61 j) (b3 : ∀ j, j < 6 → s'.stp j = 0 → F 62 j = nI (s'.good j)) : RM4 F s' := by
  obtain ⟨c1, c2, c3⟩ := h4
  refine ⟨?_, fun j hj => ?_, fun j hj => ?_⟩
  · rw [hk 76 27 rfl (by decide) (by decide) (by decide) (by decide), hR]; exact c1
  · rw [hR] at hj
    obtain ⟨q1, q2, q3, q4, q5⟩ := c2 j hj
    rw [a1, a2, a3, a4, a5, hk 55 j rfl (by decide) (by decide) (by decide) (by decide), hk 56 j rfl (by decide) (by decide) (by decide) (by decide), hk 57 j rfl (by decide) (by decide) (by decide) (by decide), hk 60 j rfl (by decide) (by decide) (by decide) (by decide), b1]
    refine ⟨q1, q2, q3, ?_, ?_⟩
    · by_cases e : j = r
      · rw [if_pos e, if_pos e]; rfl
      · rw [if_neg e, if_neg e]; exact q4
    · by_cases e : j = r
      · rw [if_pos e]
        intro h
        exact absurd h (Nat.lt_irrefl 0)
      · rw [if_neg e]
        exact q5
  · obtain ⟨q1, q2, q3, q4⟩ := c3 j hj
    rw [a7, a8, b2, hk 63 j rfl (by decide) (by decide) (by decide) (by decide)]
    refine ⟨b0 j hj, ?_, q3, b3 j hj⟩
    by_cases e : j = r
    · rw [if_pos e, if_pos e]
    · rw [if_neg e, if_neg e]; exact q2
theorem m_readAns {τ : Mem} {s : A} (hW : WF s) (hM : RelM τ s) {r p : Nat} (hr : r < s.R) (hp : p < 256) (h300 : s.n < 300) (h0 : 0 < s.hc r) (h1 : s.hc r ≤ 100) : ∃ u, f_X10_read_46 (nI r) (nI p) 1 1 τ = some (nI (s.ml ((s.hc r - 1) % 4) p), u) ∧ u 76 22 = nI 0 ∧ RelM u (s.ra r p) ∧ frM τ u := by
  have hR := hW.R
  have hP := hW.P
  have hr6 : r < 6 := by omega
  obtain ⟨hc1, hv⟩ : s.hc r ≤ 4 * s.P ∧ 0 < s.V ((s.hc r - 1) % 4) := by
    rcases hW.hc r hr with h | h | h
    · omega
    · exact h
    · omega
  obtain ⟨a, hae⟩ : ∃ a, a = s.hc r - 1 := ⟨_, rfl⟩
  have ha64 : a < 64 := by omega
  have hq : a % 4 < 4 := by omega
  have hl' : s.let9 (s.at9 (a % 4)) < 256 := lets_lt _
  have hV := hW.V (a % 4) hq
  have M1 := hM.ask (c := 0)
  rw [← hae] at hv
  have hat : s.at9 (a % 4) < 24 := by rw [at9_e hv]; omega
  have h59 : ask 0 τ 59 r = nI a := by
    rw [(M1.m4.2.1 r hr).2.2.2.1, show s.hc r = a + 1 by omega, nI_pred]
  have h60 := (M1.m4.2.1 r hr).2.2.2.2 h0 h1
  have h61 := (M1.m4.2.2 r hr6).2.1
  have h29 := M1.m6.1
  have h53 : ask 0 τ 53 (s.at9 (a % 4)) = nI (s.let9 (s.at9 (a % 4))) := by
    rw [at9_e hv]
    exact (M1.m3.2 (a % 4) (s.V (a % 4) - 1) hq (by omega)).2
  have hhap := hW.hap r hr
  have g59 : inb (nI r) (rlen 59) = true := inb_nI (show r < 6 from hr6) (rl (by decide))
  have g60 : inb (nI r) (rlen 60) = true := inb_nI (show r < 6 from hr6) (rl (by decide))
  have g61 : inb (nI r) (rlen 61) = true := inb_nI (show r < 6 from hr6) (rl (by decide))
  have g66 : inb (nI s.n) (rlen 66) = true := inb_nI (show s.n < 300 from h300) (rl (by decide))
  have g67 : inb (nI s.n) (rlen 67) = true := inb_nI (show s.n < 300 from h300) (rl (by decide))
  have g68 : inb (nI s.n) (rlen 68) = true := inb_nI (show s.n < 300 from h300) (rl (by decide))
  have g69 : inb (nI s.n) (rlen 69) = true := inb_nI (show s.n < 300 from h300) (rl (by decide))
  have g71 : inb (nI s.n) (rlen 71) = true := inb_nI (show s.n < 300 from h300) (rl (by decide))
  have g53 : inb (nI (s.at9 (a % 4))) (rlen 53) = true := inb_nI (show s.at9 (a % 4) < 24 from hat) (rl (by decide))
  have M7 : RM3 (wr (ask 0 τ) 59 r (-1)) s := M1.m3.k (keep.w (show (14 : Nat) ≠ 13 by decide) keep.rf)
  have hheld := held_n hW M7 hq hv
  have k16 : ∀ i, i ≠ 14 → i ≠ 16 → keep i (ask 0 τ) (wr (wr (wr (wr (wr (wr (wr (wr (ask 0 τ) 59 r (-1)) 66 s.n (nI a)) 67 s.n (nI r)) 68 s.n (nI (p &&& s.let9 (s.at9 (a % 4))))) 69 s.n (nI (s.let9 (s.at9 (a % 4))))) 71 s.n (nI (s.hap r))) 76 29 (nI (s.n + 1))) 61 r (nI (s.since r + 1))) := by
    intro i hi hj
    exact keep.w (show (14 : Nat) ≠ i by omega) (keep.w (show (16 : Nat) ≠ i by omega) (keep.w (show (16 : Nat) ≠ i by omega) (keep.w (show (16 : Nat) ≠ i by omega) (keep.w (show (16 : Nat) ≠ i by omega) (keep.w (show (16 : Nat) ≠ i by omega) (keep.w (show (16 : Nat) ≠ i by omega) (keep.w (show (14 : Nat) ≠ i by omega) keep.rf)))))))
  obtain ⟨u, e1, e2⟩ := m_ml (p := p) (M1.m3.k (k16 13 (by decide) (by decide))) hq hv hp
  refine ⟨u, ?_, ?_, ?_, ?_⟩
  · unfold f_X10_read_46
    rw [mB_y hp, bd_some, ab0, bd_some, if_neg i10]
    simp only [na_nI (show r < 2 ^ 31 by omega), g59, gd_t, nv, nw]
    rw [h59, if_pos (show nI a < (100 : Int32) from (nI_ltI (b := 100) (by omega) (by decide)).mpr (by omega)), md4 ha64, hheld, bd_some]
    simp only [wr_ne (show (76 : Nat) ≠ 59 by decide), wr_ne (show (76 : Nat) ≠ 66 by decide), wr_ne (show (76 : Nat) ≠ 67 by decide), wr_ne (show (76 : Nat) ≠ 68 by decide), wr_ne (show (76 : Nat) ≠ 69 by decide), wr_ne (show (76 : Nat) ≠ 71 by decide), wr_ne (show (53 : Nat) ≠ 59 by decide), wr_ne (show (53 : Nat) ≠ 66 by decide), wr_ne (show (53 : Nat) ≠ 67 by decide), wr_ne (show (53 : Nat) ≠ 68 by decide), wr_ne (show (60 : Nat) ≠ 59 by decide), wr_ne (show (60 : Nat) ≠ 66 by decide), wr_ne (show (60 : Nat) ≠ 67 by decide), wr_ne (show (60 : Nat) ≠ 68 by decide), wr_ne (show (60 : Nat) ≠ 69 by decide), wr_ne (show (61 : Nat) ≠ 59 by decide), wr_ne (show (61 : Nat) ≠ 66 by decide), wr_ne (show (61 : Nat) ≠ 67 by decide), wr_ne (show (61 : Nat) ≠ 68 by decide), wr_ne (show (61 : Nat) ≠ 69 by decide), wr_ne (show (61 : Nat) ≠ 71 by decide), wr_ne (show (61 : Nat) ≠ 76 by decide), h29, na_nI (show s.n < 2 ^ 31 by omega), na_nI (show s.at9 (a % 4) < 2 ^ 31 by omega), g66, g67, g68, g69, g71, g53, g60, g61, gd_t, h53, h60, h61, nI_and, nar_n hhap, nI_1, e1, bd_some]
    rw [hae]
  · rw [e2.2]
    simp [wr_at]
    exact ask_22
  · refine RelM.ev ?_ e2
    refine ⟨M1.m1.k (k16 _ (by decide) (by decide)), M1.m2.k (k16 _ (by decide) (by decide)), M1.m3.k (k16 _ (by decide) (by decide)), ?_, M1.m5.k (k16 _ (by decide) (by decide)), ?_⟩
    · have hst : ∀ j, j < 6 → ask 0 τ 58 j = nI (s.stp j) := fun j hj => (M1.m4.2.2 j hj).1
      have hgd : ∀ j, j < 6 → s.stp j = 0 → ask 0 τ 62 j = nI (s.good j) := fun j hj => (M1.m4.2.2 j hj).2.2.2
      refine m_empty (s := s) (s' := s.ra r p) (r := r) (z := s.since r + 1) M1.m4 ?_ rfl (fun j => rfl) (fun j => rfl) (fun j => rfl) (fun j => rfl) (fun j => rfl) (fun j => rfl) (fun j => rfl) ?_ ?_ ?_ ?_
      · intro q j hg n58 n59 n61 n62
        have n66 : q ≠ 66 := fun e => by rw [e] at hg; exact absurd hg (show ¬ (16 : Nat) = 14 by decide)
        have n67 : q ≠ 67 := fun e => by rw [e] at hg; exact absurd hg (show ¬ (16 : Nat) = 14 by decide)
        have n68 : q ≠ 68 := fun e => by rw [e] at hg; exact absurd hg (show ¬ (16 : Nat) = 14 by decide)
        have n69 : q ≠ 69 := fun e => by rw [e] at hg; exact absurd hg (show ¬ (16 : Nat) = 14 by decide)
        have n71 : q ≠ 71 := fun e => by rw [e] at hg; exact absurd hg (show ¬ (16 : Nat) = 14 by decide)
        have n29 : ¬ (q = 76 ∧ j = 29) := fun e => by rw [e.1, e.2] at hg; exact absurd hg (show ¬ (16 : Nat) = 14 by decide)
        rw [wr_ne n61, wr_at, if_neg n29, wr_ne n71, wr_ne n69, wr_ne n68, wr_ne n67, wr_ne n66, wr_ne n59]
      · intro j hj
        simp [wr_at]
        exact hst j hj
      · intro j
        by_cases e : j = r
        · simp [wr_at, e]
        · simp [wr_at, e]
      · intro j
        by_cases e : j = r
        · simp [wr_at, e]
        · simp [wr_at, e]
      · intro j hj h
        simp [wr_at]
        exact hgd j hj h
    · obtain ⟨z1, z2, z3⟩ := M1.m6
      refine ⟨by simp [wr_at]; rfl, fun j hj => ?_, fun j hj => by simp [wr_at]; exact z3 j hj⟩
      rw [ra_n] at hj
      rw [ra_ans, ra_rby, ra_pts, ra_lts, ra_apr, ← hae]
      by_cases e : j = s.n
      · rw [if_pos e, if_pos e, if_pos e, if_pos e, if_pos e]
        refine ⟨by simp [wr_at, e], by simp [wr_at, e], by simp [wr_at, e], by simp [wr_at, e], by simp [wr_at, e]⟩
      · rw [if_neg e, if_neg e, if_neg e, if_neg e, if_neg e]
        obtain ⟨q1, q2, q3, q4, q5⟩ := z2 j (by omega)
        exact ⟨by simp [wr_at, e]; exact q1, by simp [wr_at, e]; exact q2, by simp [wr_at, e]; exact q3, by simp [wr_at, e]; exact q4, by simp [wr_at, e]; exact q5⟩
  · intro i h1 h2
    exact ((keepA core_ask h1).tr (k16 i (by omega) (by omega))).tr (e2.keep (by omega))
theorem m_readSeed {τ : Mem} {s : A} (hW : WF s) (hM : RelM τ s) {r k p : Nat} (hr : r < s.R) (hp : p < 256) (hs : s.stp r = 0) (hk : s.hc r = 101 + k) (hkS : k < s.S) : ∃ u, f_X10_read_46 (nI r) (nI p) 1 1 τ = some (nI (s.ml (s.sq k) p), u) ∧ u 76 22 = nI 0 ∧ RelM u (if s.near (s.ml (s.sq k) p) (s.ml (s.sq k) (s.sp k)) = true then s.sw r else s.sb r) ∧ frM τ u := by
  have hR := hW.R
  have hS := hW.S
  have hn := hW.n
  have htol := hW.tol
  have hr6 : r < 6 := by omega
  obtain ⟨w1, w2, w3⟩ := hW.sq k hkS
  have hq : s.sq k < 4 := by omega
  have hV := hW.V (s.sq k) hq
  have l1 := ml_le (p := p) hW hq w3
  have l2 := ml_le (p := s.sp k) hW hq w3
  have M1 := hM.ask (c := 0)
  have h59 : ask 0 τ 59 r = nI (100 + k) := by
    rw [(M1.m4.2.1 r hr).2.2.2.1, hk, show 101 + k = (100 + k) + 1 by omega, nI_pred]
  have ka : ∀ i, i ≠ 14 → keep i (ask 0 τ) (wr (ask 0 τ) 59 r (-1)) := fun i hi => keep.w (show (14 : Nat) ≠ i by omega) keep.rf
  have Ma3 := M1.m3.k (ka 13 (by decide))
  have hheld := held_n hW Ma3 hq w3
  obtain ⟨u1, d1, d2⟩ := m_ml (p := p) Ma3 hq w3 hp
  have kb : ∀ i, i ≠ 14 → i ≠ 0 → keep i (ask 0 τ) (wr u1 61 r 0) := fun i hi h0 => ((ka i hi).tr (d2.keep h0)).tr (keep.w (show (14 : Nat) ≠ i by omega) keep.rf)
  have Mb3 := M1.m3.k (kb 13 (by decide) (by decide))
  obtain ⟨u2, e1, e2⟩ := m_ml (p := s.sp k) Mb3 hq w3 (by omega)
  have kc : ∀ i, i ≠ 14 → i ≠ 0 → keep i (ask 0 τ) u2 := fun i hi h0 => (kb i hi h0).tr (e2.keep h0)
  have M5 := M1.m5.k (kc 15 (by decide) (by decide))
  have M6 := M1.m6.k (kc 16 (by decide) (by decide))
  have ku : ∀ q j, grp q j = 14 → q ≠ 59 → q ≠ 61 → u2 q j = ask 0 τ q j := by
    intro q j hg n59 n61
    have hs0 : scr q j = false := scr_grp (by rw [hg]; decide)
    rw [e2.at hs0, wr_ne n61, d2.at hs0, wr_ne n59]
  have u59 : ∀ j, u2 59 j = if j = r then -1 else ask 0 τ 59 j := by
    intro j
    rw [e2.at rfl, wr_ne (by decide), d2.at rfl, wr_at]
    by_cases e : j = r
    · rw [if_pos ⟨rfl, e⟩, if_pos e]
    · rw [if_neg (fun h => e h.2), if_neg e]
  have u61 : ∀ j, u2 61 j = if j = r then nI 0 else ask 0 τ 61 j := by
    intro j
    rw [e2.at rfl, wr_at]
    by_cases e : j = r
    · rw [if_pos ⟨rfl, e⟩, if_pos e]; rfl
    · rw [if_neg (fun h => e h.2), if_neg e, d2.at rfl, wr_ne (by decide)]
  have u22 : u2 76 22 = nI 0 := by
    rw [e2.2, wr_ne (by decide), d2.2, wr_ne (by decide)]
    exact ask_22
  have ev : f_X10_read_46 (nI r) (nI p) 1 1 τ = if nI s.tol < nI (s.ml (s.sq k) p - s.ml (s.sq k) (s.sp k) + (s.ml (s.sq k) (s.sp k) - s.ml (s.sq k) p)) then f_X10_read_178 FUEL (nI r) (nI (s.ml (s.sq k) p)) ((wr u2 58 r (vp_nar .boolean 1)) 62 r) (wr u2 58 r (vp_nar .boolean 1)) else some (nI (s.ml (s.sq k) p), wr u2 62 r (u2 76 29)) := by
    unfold f_X10_read_46
    rw [mB_y hp, bd_some, ab0, bd_some, if_neg i10]
    simp only [na_nI (show r < 2 ^ 31 by omega), nv, nw]
    rw [gd_r (show r < 6 from hr6) (by decide), gd_r (show r < 6 from hr6) (by decide), h59, if_neg (show ¬ nI (100 + k) < (100 : Int32) from nlt (b := 100) (by omega) (by decide) (by omega)), show (100 : Int32) = nI 100 from rfl, pk_sub (by omega), Nat.add_sub_cancel_left, gd_r (show k < 8 by omega) (by decide), na_nI (by omega), show (wr (ask 0 τ) 59 r (-1)) 64 k = ask 0 τ 64 k by rw [wr_ne (by decide)], (M1.m5.2.1 k hkS).1, hheld, bd_some, d1, bd_some, gd_r (show r < 6 from hr6) (by decide), gd_r (show k < 8 by omega) (by decide), show (wr u1 61 r 0) 65 k = ask 0 τ 65 k by rw [wr_ne (by decide), d2.at rfl, wr_ne (by decide)], (M1.m5.2.1 k hkS).2, e1, bd_some, m_apart (by omega) (by omega), bd_some, M5.2.2.2.1, gd_r (show r < 6 from hr6) (by decide), gd_r (show r < 6 from hr6) (by decide), gd_r (show r < 6 from hr6) (by decide)]
  have hst : ∀ j, j < 6 → ask 0 τ 58 j = nI (s.stp j) := fun j hj => (M1.m4.2.2 j hj).1
  have hgd : ∀ j, j < 6 → s.stp j = 0 → ask 0 τ 62 j = nI (s.good j) := fun j hj => (M1.m4.2.2 j hj).2.2.2
  rw [ev]
  by_cases c : s.ml (s.sq k) p - s.ml (s.sq k) (s.sp k) + (s.ml (s.sq k) (s.sp k) - s.ml (s.sq k) p) ≤ s.tol
  · rw [if_neg (nlt (by omega) (by omega) c), if_pos (show s.near (s.ml (s.sq k) p) (s.ml (s.sq k) (s.sp k)) = true from decide_eq_true c), M6.1]
    have kd : ∀ i, i ≠ 14 → i ≠ 0 → keep i (ask 0 τ) (wr u2 62 r (nI s.n)) := fun i hi h0 => (kc i hi h0).tr (keep.w (show (14 : Nat) ≠ i by omega) keep.rf)
    refine ⟨_, rfl, by rw [wr_ne (by decide)]; exact u22, ⟨M1.m1.k (kd _ (by decide) (by decide)), M1.m2.k (kd _ (by decide) (by decide)), M1.m3.k (kd _ (by decide) (by decide)), ?_, M1.m5.k (kd _ (by decide) (by decide)), M1.m6.k (kd _ (by decide) (by decide))⟩, fun i h1 h2 => (keepA core_ask h1).tr (kd i (by omega) (by omega))⟩
    refine m_empty (s := s) (s' := s.sw r) (r := r) (z := 0) M1.m4 ?_ rfl (fun j => rfl) (fun j => rfl) (fun j => rfl) (fun j => rfl) (fun j => rfl) (fun j => rfl) (fun j => rfl) ?_ ?_ ?_ ?_
    · intro q j hg n58 n59 n61 n62
      rw [wr_ne n62]
      exact ku q j hg n59 n61
    · intro j hj
      rw [wr_ne (by decide), ku 58 j rfl (by decide) (by decide)]
      exact hst j hj
    · intro j
      rw [wr_ne (by decide)]
      exact u59 j
    · intro j
      rw [wr_ne (by decide)]
      exact u61 j
    · intro j hj h
      rw [show (s.sw r).good j = if j = r then s.n else s.good j from rfl, wr_at]
      by_cases e : j = r
      · rw [if_pos ⟨rfl, e⟩, if_pos e]
      · rw [if_neg (fun h => e h.2), if_neg e, ku 62 j rfl (by decide) (by decide)]
        exact hgd j hj h
  · rw [if_pos ((nI_ltI (by omega) (by omega)).mpr (by omega)), if_neg (show ¬ s.near (s.ml (s.sq k) p) (s.ml (s.sq k) (s.sp k)) = true from fun h => c (of_decide_eq_true h))]
    have n1 : vp_nar .boolean (1 : Int32) = 1 := rfl
    rw [n1, show (wr u2 58 r 1) 62 r = nI (s.good r) by rw [wr_ne (by decide), ku 62 r rfl (by decide) (by decide)]; exact hgd r hr6 hs]
    have h6 : RM6 (wr u2 58 r 1) (s.vd r (s.good r) (s.good r)) := by
      obtain ⟨z1, z2, z3⟩ := M6.k (keep.w (v := 1) (r := 58) (k := r) (show (14 : Nat) ≠ 16 by decide) keep.rf)
      exact ⟨z1, z2, fun j hj => by rw [vd_z]; exact z3 j hj⟩
    have hg := hW.good r hr6
    obtain ⟨d, hd⟩ : ∃ d, s.good r + d = s.n := ⟨s.n - s.good r, by omega⟩
    obtain ⟨N, hN⟩ : ∃ N, FUEL = N + d + 1 := ⟨99999 - d, by unfold FUEL; omega⟩
    obtain ⟨u3, g1, g2, g3, g4⟩ := m_vd hW (v := nI (s.ml (s.sq k) p)) hr d (s.good r) hd (Nat.le_refl _) N _ h6
    have kd : ∀ i, i ≠ 14 → i ≠ 16 → i ≠ 0 → keep i (ask 0 τ) u3 := fun i hi h16 h0 => ((kc i hi h0).tr (keep.w (r := 58) (k := r) (v := 1) (show (14 : Nat) ≠ i by omega) keep.rf)).tr (g3 i h16)
    have k14 : ∀ q j, grp q j = 14 → u3 q j = (wr u2 58 r 1) q j := fun q j hg => g3 14 (by decide) q j hg
    rw [hN, g1]
    refine ⟨u3, rfl, by rw [g4, wr_ne (by decide)]; exact u22, ⟨M1.m1.k (kd _ (by decide) (by decide) (by decide)), M1.m2.k (kd _ (by decide) (by decide) (by decide)), M1.m3.k (kd _ (by decide) (by decide) (by decide)), ?_, M1.m5.k (kd _ (by decide) (by decide) (by decide)), g2⟩, fun i h1 h2 => (keepA core_ask h1).tr (kd i (by omega) (by omega) (by omega))⟩
    refine m_empty (s := s) (s' := s.sb r) (r := r) (z := 0) M1.m4 ?_ rfl (fun j => rfl) (fun j => rfl) (fun j => rfl) (fun j => rfl) (fun j => rfl) (fun j => rfl) (fun j => rfl) ?_ ?_ ?_ ?_
    · intro q j hg n58 n59 n61 n62
      rw [k14 q j hg, wr_ne n58]
      exact ku q j hg n59 n61
    · intro j hj
      rw [k14 58 j rfl, wr_at, show (s.sb r).stp j = if j = r then 1 else s.stp j from rfl]
      by_cases e : j = r
      · rw [if_pos ⟨rfl, e⟩, if_pos e]; rfl
      · rw [if_neg (fun h => e h.2), if_neg e, ku 58 j rfl (by decide) (by decide)]
        exact hst j hj
    · intro j
      rw [k14 59 j rfl, wr_ne (by decide)]
      exact u59 j
    · intro j
      rw [k14 61 j rfl, wr_ne (by decide)]
      exact u61 j
    · intro j hj h
      rw [show (s.sb r).stp j = if j = r then 1 else s.stp j from rfl] at h
      by_cases e : j = r
      · rw [if_pos e] at h; exact absurd h (by decide)
      · rw [if_neg e] at h
        rw [k14 62 j rfl, wr_ne (by decide), ku 62 j rfl (by decide) (by decide)]
        exact hgd j hj h
/-- read -/
theorem step_read (x y : Int32) {σ : Mem} (hI : Inv9 σ) : StpG Inv9 (f_X9_read x y) (f_X10_read x y) [3, 1, 2] σ := by
  obtain ⟨s, hW, hC, hM⟩ := hI
  have hR := hW.R
  have hP := hW.P
  have hS := hW.S
  have hn := hW.n
  rcases idx x s.R with ⟨r, hr, rfl⟩ | hx
  · have hr6 : r < 6 := by omega
    have hb : s.hc r < 200 := by
      rcases hW.hc r hr with h | h | h <;> omega
    have hst : 0 < s.hc r → s.stp r = 0 := by
      intro h
      have h1 := hW.stp r hr6
      have h2 := hW.stop r hr
      by_cases z : s.stp r = 1
      · have := h2 z
        omega
      · omega
    rcases idx y 256 with ⟨p, hp, rfl⟩ | hy
    · have cl : f_X9_read (nI r) (nI p) σ = if s.hand r < 1000 then f_X9_read_58 (nI r) (nI p) (s.hand r) 0 σ else f_X9_read_58 (nI r) (nI p) (s.hand r) 1 σ := by
        unfold f_X9_read
        rw [cR_y hC.c4.1 hr (by omega), bd_some, if_neg i10, cB_y hp, bd_some, if_neg i10, rget_n (show r < 6 from hr6) (by decide), (hC.c4.2.1 r hr).2.2.2.1]
        all_goals rfl
      have ml : ∀ u, RelM u s → f_X10_read (nI r) (nI p) u = if nI (s.hc r) - 1 = -1 then f_X10_read_46 (nI r) (nI p) 1 0 u else if (100 : Int32) ≤ nI (s.hc r) - 1 then f_X10_read_46 (nI r) (nI p) 1 1 u else if (300 : Int32) ≤ nI s.n then f_X10_read_46 (nI r) (nI p) 1 0 u else f_X10_read_46 (nI r) (nI p) 1 1 u := by
        intro u hu
        unfold f_X10_read f_X10_read_41 f_X10_read_45
        rw [mR_y hu.m4.1 hr (by omega), bd_some, if_neg i10, gd_r (show r < 6 from hr6) (by decide), gd_r (show r < 6 from hr6) (by decide), na_nI (by omega), (hu.m4.2.1 r hr).2.2.2.1, hu.m6.1]
      have m0 : ∀ u, f_X10_read_46 (nI r) (nI p) 1 0 u = some (0, ask 3 u) := by
        intro u
        unfold f_X10_read_46
        rw [mB_y hp, bd_some, ab3, bd_some, if_pos rfl]
      by_cases h0 : s.hc r = 0
      · have hh : s.hand r = -1 := by unfold A.hand; rw [if_pos h0]
        refine stepS (oc := (2, 0)) hW hC hM ⟨σ, ?_, eqv.rfl⟩ (fun u hu => ⟨0, ask 3 u, ?_, ask_22, core_ask, fun h => absurd h (by decide)⟩) (Or.inr (by decide))
        · rw [cl, hh, if_pos (show (-1 : Int32) < 1000 by decide)]
          unfold f_X9_read_58 f_X9_read_83
          rw [if_pos rfl]
        · rw [ml u hu, h0, if_pos (show nI 0 - 1 = (-1 : Int32) from rfl)]
          exact m0 u
      · obtain ⟨c, hc⟩ : ∃ c, s.hc r = c + 1 := ⟨s.hc r - 1, by omega⟩
        have hs := hst (by omega)
        by_cases h1 : s.hc r ≤ 100
        · have hc4 : s.hc r ≤ 4 * s.P := by
            rcases hW.hc r hr with h | h | h <;> omega
          have hh : s.hand r = nI (10 * ((s.hc r - 1) / 4) + (s.hc r - 1) % 4) := by unfold A.hand; rw [if_neg h0, if_pos h1]
          have lt1000 : nI (10 * ((s.hc r - 1) / 4) + (s.hc r - 1) % 4) < (1000 : Int32) := (nI_ltI (b := 1000) (by omega) (by decide)).mpr (by omega)
          by_cases h3 : s.n < 300
          · obtain ⟨u1, c1, c2, c3⟩ := c_readAns hW hC hr hp h3 (by omega) h1
            refine stepG (s' := s.ra r p) (oc := (0, nI (s.ml ((s.hc r - 1) % 4) p))) (r := nI (s.ml ((s.hc r - 1) % 4) p)) (s := s) (WF_ra hW hr hp h3 (by omega) h1) hM ⟨u1, ?_, c2, c3⟩ (fun u hu => ?_) (Or.inl rfl) (fun _ => rfl)
            · rw [cl, hh, if_pos lt1000]
              unfold f_X9_read_58 f_X9_read_91 f_X9_read_111
              rw [if_neg (nm1 (by omega)), if_pos rfl, hC.c6.1, if_pos (show nI s.n < (300 : Int32) from (nI_ltI (b := 300) (by omega) (by decide)).mpr h3), if_pos rfl, c1, bd_some]
            · obtain ⟨u2, m1, m2, m3, m4⟩ := m_readAns hW hu hr hp h3 (by omega) h1
              refine ⟨u2, ?_, m2, m3, m4⟩
              rw [ml u hu, hc, nI_pred, if_neg (nm1 (by omega)), if_neg (show ¬ (100 : Int32) ≤ nI c from nle (a := 100) (by decide) (by omega) (by omega)), if_neg (show ¬ (300 : Int32) ≤ nI s.n from nle (a := 300) (by decide) (by omega) h3), m1, ← hc]
          · refine stepS (oc := (2, 0)) hW hC hM ⟨σ, ?_, eqv.rfl⟩ (fun u hu => ⟨0, ask 3 u, ?_, ask_22, core_ask, fun h => absurd h (by decide)⟩) (Or.inr (by decide))
            · rw [cl, hh, if_pos lt1000]
              unfold f_X9_read_58 f_X9_read_83
              rw [if_neg (nm1 (by omega)), if_pos rfl, hC.c6.1, if_neg (show ¬ nI s.n < (300 : Int32) from nlt (b := 300) (by omega) (by decide) (by omega))]
            · rw [ml u hu, hc, nI_pred, if_neg (nm1 (by omega)), if_neg (show ¬ (100 : Int32) ≤ nI c from nle (a := 100) (by decide) (by omega) (by omega)), if_pos (show (300 : Int32) ≤ nI s.n from nI_le (a := 300) (by omega) (by omega))]
              exact m0 u
        · obtain ⟨k, hk⟩ : ∃ k, s.hc r = 101 + k := ⟨s.hc r - 101, by omega⟩
          have hkS : k < s.S := by
            rcases hW.hc r hr with h | h | h <;> omega
          have hh : s.hand r = nI (1000 + s.sq k) := hand_s hk
          have hq := (hW.sq k hkS).1
          obtain ⟨u1, c1, c2, c3⟩ := c_readSeed hW hC hr hp hs hk hkS
          refine stepG (s' := if s.near (s.ml (s.sq k) p) (s.ml (s.sq k) (s.sp k)) = true then s.sw r else s.sb r) (oc := (0, nI (s.ml (s.sq k) p))) (r := nI (s.ml (s.sq k) p)) (s := s) (by split; exact WF_sw hW hr hs; exact WF_sb hW hr) hM ⟨u1, ?_, c2, c3⟩ (fun u hu => ?_) (Or.inl rfl) (fun _ => rfl)
          · rw [cl, hh, if_neg (show ¬ nI (1000 + s.sq k) < (1000 : Int32) from nlt (b := 1000) (by omega) (by decide) (by omega))]
            unfold f_X9_read_58 f_X9_read_91 f_X9_read_111
            rw [if_neg (nm1 (by omega)), if_neg i10, if_neg i10, c1, bd_some]
          · obtain ⟨u2, m1, m2, m3, m4⟩ := m_readSeed hW hu hr hp hs hk hkS
            refine ⟨u2, ?_, m2, m3, m4⟩
            rw [ml u hu, hc, nI_pred, if_neg (nm1 (by omega)), if_pos (show (100 : Int32) ≤ nI c from nI_le (a := 100) (by omega) (by omega)), m1]
    · refine stepS (oc := (1, 0)) hW hC hM ⟨σ, ?_, eqv.rfl⟩ (fun u hu => ⟨0, ask 2 u, ?_, ask_22, core_ask, fun h => absurd h (by decide)⟩) (Or.inr (by decide))
      · unfold f_X9_read
        rw [cR_y hC.c4.1 hr (by omega), bd_some, if_neg i10, cB_n hy, bd_some, if_pos rfl]
      · have e46 : ∀ z, f_X10_read_46 (nI r) y 1 z u = some (0, ask 2 u) := by
          intro z
          unfold f_X10_read_46
          rw [mB_n hy, bd_some, ab2, bd_some, if_pos rfl]
        unfold f_X10_read f_X10_read_41 f_X10_read_45
        rw [mR_y hu.m4.1 hr (by omega), bd_some, if_neg i10, gd_r (show r < 6 from hr6) (by decide), gd_r (show r < 6 from hr6) (by decide), e46, e46, ite_self, ite_self, ite_self]
  · refine stepS (oc := (3, 0)) hW hC hM ⟨σ, ?_, eqv.rfl⟩ (fun u hu => ⟨0, ask 1 u, ?_, ask_22, core_ask, fun h => absurd h (by decide)⟩) (Or.inr (by decide))
    · unfold f_X9_read
      rw [cR_n hC.c4.1 (by omega) hx, bd_some, if_pos rfl]
    · unfold f_X10_read f_X10_read_45 f_X10_read_46
      rw [mR_n hu.m4.1 (by omega) hx, bd_some, if_pos rfl, m_in, bd_some, ab1, bd_some, if_pos rfl]
