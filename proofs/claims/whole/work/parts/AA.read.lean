/-! PURE: an answer is read, on both sides; read. By hand. -/
theorem nI_and (a b : Nat) : nI a &&& nI b = nI (a &&& b) := by
  apply Int32.toBitVec_inj.mp
  rw [Int32.toBitVec_and]
  exact (BitVec.ofNat_and (x := a) (y := b)).symm
theorem and_not : ∀ L, L < 256 → nI L &&& (nI L ^^^ (-1)) = 0 := by decide +kernel
theorem bit_and (p L i : Nat) (h : L / 2 ^ i % 2 = 1) : (p &&& L) / 2 ^ i % 2 = p / 2 ^ i % 2 := by
  have h1 : (p &&& L).testBit i = (p.testBit i && L.testBit i) := Nat.testBit_and p L i
  have h2 : L.testBit i = true := by rw [Nat.testBit_eq_decide_div_mod_eq]; exact decide_eq_true h
  rw [h2, Bool.and_true, Nat.testBit_eq_decide_div_mod_eq, Nat.testBit_eq_decide_div_mod_eq] at h1
  by_cases c : p / 2 ^ i % 2 = 1
  · rw [c]
    rw [decide_eq_true c] at h1
    exact of_decide_eq_true h1
  · rw [decide_eq_false c] at h1
    have := of_decide_eq_false h1
    omega
theorem or_bit (x i j : Nat) : (x ||| 2 ^ j) / 2 ^ i % 2 = if i = j then 1 else x / 2 ^ i % 2 := by
  have h1 : (x ||| 2 ^ j).testBit i = (x.testBit i || (2 ^ j).testBit i) := Nat.testBit_or x (2 ^ j) i
  rw [Nat.testBit_two_pow, Nat.testBit_eq_decide_div_mod_eq, Nat.testBit_eq_decide_div_mod_eq] at h1
  by_cases c : i = j
  · rw [if_pos c]
    rw [decide_eq_true c.symm, Bool.or_true] at h1
    exact of_decide_eq_true h1
  · rw [if_neg c]
    rw [decide_eq_false (show ¬ j = i from fun h => c h.symm), Bool.or_false] at h1
    by_cases d : x / 2 ^ i % 2 = 1
    · rw [d]
      rw [decide_eq_true d] at h1
      exact of_decide_eq_true h1
    · rw [decide_eq_false d] at h1
      have := of_decide_eq_false h1
      omega
theorem lets_bit {w : Nat → Int32} : ∀ m k a, k < m → 97 ≤ a → a ≤ 104 → w k = nI a → lets w m / 2 ^ (a - 97) % 2 = 1 := by
  intro m
  induction m with
  | zero => intro k a hk; exact absurd hk (Nat.not_lt_zero k)
  | succ m ih =>
    intro k a hk h1 h2 e
    show (if 97 ≤ w m ∧ w m ≤ 104 then lets w m ||| 2 ^ (w m - 97).toNatClampNeg else lets w m) / 2 ^ (a - 97) % 2 = 1
    by_cases c : k = m
    · rw [← c, e, if_pos ⟨(nI_leI (a := 97) (by decide) (by omega)).mpr h1, (nI_leI (b := 104) (by omega) (by decide)).mpr h2⟩, show (97 : Int32) = nI 97 from rfl, pk_sub h1, na_nI (by omega), or_bit, if_pos rfl]
    · have i := ih k a (by omega) h1 h2 e
      by_cases d : 97 ≤ w m ∧ w m ≤ 104
      · rw [if_pos d, or_bit]
        split
        · rfl
        · exact i
      · rw [if_neg d]; exact i
theorem ml_and {s : A} {q p : Nat} : s.ml q (p &&& s.let9 (s.at9 q)) = s.ml q p := by
  unfold A.ml mk9
  rw [ev_mask (m := s.tm (s.at9 q)) (p := p &&& s.let9 (s.at9 q)) (q := p) (fun k a hk h1 h2 e => bit_and _ _ _ (lets_bit _ k a hk h1 h2 e)) _ (Nat.le_refl _)]
/-- the state behind a reading -/
def A.ra (s : A) (r p : Nat) : A := (((((((s.u1 34 s.n (s.hc r - 1)).u1 35 s.n r).u1 36 s.n (p &&& s.let9 (s.at9 ((s.hc r - 1) % 4)))).u1 37 s.n (s.let9 (s.at9 ((s.hc r - 1) % 4)))).u1 39 s.n (s.hap r)).u1 19 r 0).u1 21 r (s.since r + 1)).u1 33 0 (s.n + 1)
section RA
variable {s : A} {r p : Nat}
theorem ra_n : (s.ra r p).n = s.n + 1 := rfl
theorem ra_ans {j : Nat} : (s.ra r p).ans j = if j = s.n then s.hc r - 1 else s.ans j := rfl
theorem ra_rby {j : Nat} : (s.ra r p).rby j = if j = s.n then r else s.rby j := rfl
theorem ra_pts {j : Nat} : (s.ra r p).pts j = if j = s.n then p &&& s.let9 (s.at9 ((s.hc r - 1) % 4)) else s.pts j := rfl
theorem ra_lts {j : Nat} : (s.ra r p).lts j = if j = s.n then s.let9 (s.at9 ((s.hc r - 1) % 4)) else s.lts j := rfl
theorem ra_apr {j : Nat} : (s.ra r p).apr j = if j = s.n then s.hap r else s.apr j := rfl
theorem ra_hc {j : Nat} : (s.ra r p).hc j = if j = r then 0 else s.hc j := rfl
theorem ra_since {j : Nat} : (s.ra r p).since j = if j = r then s.since r + 1 else s.since j := rfl
theorem ra_worth {j : Nat} (h : j ≠ s.n) : (s.ra r p).worth j = s.worth j := by
  have e1 : (s.ra r p).cts j = s.cts j := by
    unfold A.cts
    rw [ra_ans, ra_lts, if_neg h, if_neg h]
    rfl
  have e2 : (s.ra r p).mkr j = s.mkr j := by
    unfold A.mkr
    rw [ra_ans, ra_pts, if_neg h, if_neg h]
    rfl
  unfold A.worth
  rw [e1, e2]
theorem ra_worth_n (hv : s.voi s.n = 0) : (s.ra r p).worth s.n = nI (s.ml ((s.hc r - 1) % 4) (p &&& s.let9 (s.at9 ((s.hc r - 1) % 4)))) := by
  have e1 : (s.ra r p).cts s.n = true := by
    unfold A.cts
    rw [ra_ans, ra_lts, if_pos rfl, if_pos rfl]
    exact decide_eq_true ⟨hv, and_not _ (lets_lt _)⟩
  have e2 : (s.ra r p).mkr s.n = s.ml ((s.hc r - 1) % 4) (p &&& s.let9 (s.at9 ((s.hc r - 1) % 4))) := by
    unfold A.mkr
    rw [ra_ans, ra_pts, if_pos rfl, if_pos rfl]
    rfl
  unfold A.worth
  rw [e1, e2, if_pos rfl]
theorem ra_nby {q : Nat} : (s.ra r p).nby q = s.nby q + if q = r then 1 else 0 := by
  unfold A.nby
  rw [ra_n, cl_s]
  have e : ((List.range s.n).filter (fun k => decide ((s.ra r p).rby k = q))).length = ((List.range s.n).filter (fun k => decide (s.rby k = q))).length := cnt_eq _ _ _ (fun j hj => by show decide ((s.ra r p).rby j = q) = decide (s.rby j = q); rw [ra_rby, if_neg (by omega)])
  rw [e]
  congr 1
  have e2 : (s.ra r p).rby s.n = r := by rw [ra_rby, if_pos rfl]
  by_cases c : q = r
  · rw [if_pos (show decide ((s.ra r p).rby s.n = q) = true from decide_eq_true (by rw [e2, c])), if_pos c]
  · rw [if_neg (show ¬ decide ((s.ra r p).rby s.n = q) = true from fun h => c (by rw [← e2]; exact (of_decide_eq_true h).symm)), if_neg c]
theorem ra_nvoid (hv : s.voi s.n = 0) {q : Nat} : (s.ra r p).nvoid q = s.nvoid q := by
  unfold A.nvoid
  rw [ra_n, cl_s]
  have e : ((List.range s.n).filter (fun k => decide ((s.ra r p).rby k = q ∧ (s.ra r p).voi k ≠ 0))).length = ((List.range s.n).filter (fun k => decide (s.rby k = q ∧ s.voi k ≠ 0))).length := cnt_eq _ _ _ (fun j hj => by show decide ((s.ra r p).rby j = q ∧ s.voi j ≠ 0) = decide (s.rby j = q ∧ s.voi j ≠ 0); rw [ra_rby, if_neg (by omega)])
  rw [e, if_neg (show ¬ decide ((s.ra r p).rby s.n = q ∧ (s.ra r p).voi s.n ≠ 0) = true from fun h => (of_decide_eq_true h).2 hv), Nat.add_zero]
end RA
theorem WF_ra {s : A} (hW : WF s) {r p : Nat} (hr : r < s.R) (hp : p < 256) (h300 : s.n < 300) (h0 : 0 < s.hc r) (h1 : s.hc r ≤ 100) : WF (s.ra r p) := by
  have hR := hW.R
  have hP := hW.P
  have hc : s.hc r ≤ 4 * s.P ∧ 0 < s.V ((s.hc r - 1) % 4) := by
    rcases hW.hc r hr with h | h | h
    · omega
    · exact h
    · omega
  have hl := lets_lt (w := s.txt (s.at9 ((s.hc r - 1) % 4))) (s.tm (s.at9 ((s.hc r - 1) % 4)))
  have hl' : s.let9 (s.at9 ((s.hc r - 1) % 4)) < 256 := hl
  refine ⟨hW.m, hW.P, hW.lack, hW.urg, hW.gift, hW.app, hW.fresh, hW.V, hW.T, hW.R, hW.rq, hW.sen, hW.stp, hW.hap, hW.given, ?_, ?_, ?_, ?_, ?_, hW.S, hW.sq, hW.tw, hW.tol, hW.isr, hW.b0, hW.b1, hW.b2, h300, ?_, ?_, ?_, hW.voi, ?_, ?_, ?_, hW.al, ?_, ?_⟩
  · intro j hj
    rw [ra_since, ra_n]
    split
    · have := hW.since r (by omega)
      omega
    · have := hW.since j hj
      omega
  · intro j hj
    rw [ra_n]
    exact Nat.le_succ_of_le (hW.good j hj)
  · intro j h1 h2
    have h1' : s.R ≤ j := h1
    rw [ra_since, if_neg (by omega)]
    exact hW.freshR j h1 h2
  · intro j hj
    rw [ra_hc]
    by_cases e : j = r
    · rw [if_pos e]; exact Or.inl rfl
    · rw [if_neg e]; exact hW.hc j hj
  · intro j hj h
    rw [ra_hc]
    split
    · rfl
    · exact hW.stop j hj h
  · intro k hk
    rw [ra_n] at hk
    rw [ra_ans]
    by_cases e : k = s.n
    · rw [if_pos e]
      refine ⟨?_, hc.2⟩
      show s.hc r - 1 < 4 * s.P
      omega
    · rw [if_neg e]; exact hW.ans k (by omega)
  · intro k hk
    rw [ra_n] at hk
    rw [ra_rby]
    by_cases e : k = s.n
    · rw [if_pos e]; exact hr
    · rw [if_neg e]; exact hW.rby k (by omega)
  · intro k hk
    rw [ra_n] at hk
    rw [ra_pts, ra_lts]
    by_cases e : k = s.n
    · rw [if_pos e, if_pos e]
      have := Nat.and_lt_two_pow (n := 8) p hl'
      exact ⟨by omega, by omega⟩
    · rw [if_neg e, if_neg e]; exact hW.pts k (by omega)
  · intro k h2 h3
    rw [ra_n] at h2
    exact hW.freshL k (by omega) h3
  · intro k hk
    rw [ra_n] at hk
    rw [ra_apr]
    by_cases e : k = s.n
    · rw [if_pos e]; exact hW.hap r hr
    · rw [if_neg e]; exact hW.apr k (by omega)
  · intro k hk h2 h3
    rw [ra_n] at hk
    by_cases e : k = s.n
    · rw [e]
      exact hW.freshL s.n (Nat.le_refl _) h300
    · rw [ra_rby, if_neg e] at h2 h3
      exact hW.clean k (by omega) h2 h3
  · intro j hj h2 h3 h4
    rw [ra_hc] at h2 h3
    rw [ra_hc]
    by_cases e : j = r
    · rw [if_pos e] at h2; exact absurd h2 (Nat.lt_irrefl 0)
    · rw [if_neg e] at h2 h3
      rw [if_neg e]
      exact hW.ah j hj h2 h3 h4
  · intro k hk h2
    rw [ra_n] at hk
    rw [ra_apr] at h2
    rw [ra_ans]
    by_cases e : k = s.n
    · rw [if_pos e] at h2
      rw [if_pos e]
      exact hW.ah r hr h0 h1 h2
    · rw [if_neg e] at h2
      rw [if_neg e]
      exact hW.ar k (by omega) h2
theorem c_readAns {σ : Mem} {s : A} (hW : WF s) (hC : RelC σ s) {r p : Nat} (hr : r < s.R) (hp : p < 256) (h300 : s.n < 300) (h0 : 0 < s.hc r) (h1 : s.hc r ≤ 100) : ∃ u, f_X9_readAnswer (nI r) (nI p) σ = some (nI (s.ml ((s.hc r - 1) % 4) p), u) ∧ RelC u (s.ra r p) ∧ frC σ u := by
  have hR := hW.R
  have hP := hW.P
  have hr6 : r < 6 := by omega
  obtain ⟨hc1, hv⟩ : s.hc r ≤ 4 * s.P ∧ 0 < s.V ((s.hc r - 1) % 4) := by
    rcases hW.hc r hr with h | h | h
    · omega
    · exact h
    · omega
  obtain ⟨a, hae⟩ : ∃ a, a = s.hc r - 1 := ⟨_, rfl⟩
  have ha64 : a < 64 := by omega
  have hq : a % 4 < 4 := by omega
  have hl' : s.let9 (s.at9 (a % 4)) < 256 := lets_lt _
  have hand : σ 22 r = nI (10 * (a / 4) + a % 4) := by
    rw [(hC.c4.2.1 r hr).2.2.2.1]
    unfold A.hand
    rw [if_neg (by omega), if_pos h1, ← hae]
  have h24 := (hC.c4.2.1 r hr).2.2.2.2.1 h0 h1
  rw [← hae] at hv
  have hpl : p &&& s.let9 (s.at9 (a % 4)) < 256 := Nat.and_lt_two_pow (n := 8) p hl'
  obtain ⟨u1, d1, d2⟩ := c_ml (p := p &&& s.let9 (s.at9 (a % 4))) hW hC.c3 hq hv hpl
  have C1 := hC.ev d2
  have hv0 := hW.freshL s.n (Nat.le_refl _) h300
  obtain ⟨M, e1, e2, e3, e4, e5, e6, e7⟩ := c_enter (s' := s.ra r p) (r := r) hW C1 ha64 h300 ra_n (fun j => by rw [ra_ans, ← hae])
  have hhap := hW.hap r hr
  have m24 : M 24 r = nI (s.hap r) := by rw [e2 4 (by decide) (by decide) 24 r rfl, d2.at rfl]; exact h24
  have m25 : M 25 r = nI (s.nby r) := by rw [e7 25 r (by decide) (by decide) rfl (by simp)]; exact (C1.c6.2.2.2 r hr6).1
  have m27 : M 27 r = nI (s.since r) := by rw [e2 4 (by decide) (by decide) 27 r rfl]; exact (C1.c4.2.2 r hr6).2.1
  refine ⟨wr (wr (wr (wr (wr (wr (wr M 4 s.n (nI (p &&& s.let9 (s.at9 (a % 4))))) 5 s.n (nI (s.let9 (s.at9 (a % 4))))) 7 s.n (nI (s.hap r))) 8 s.n (nI (s.ml (a % 4) (p &&& s.let9 (s.at9 (a % 4)))))) 22 r (-1)) 25 r (nI (s.nby r + 1))) 27 r (nI (s.since r + 1)), ?_, ?_, ?_⟩
  · unfold f_X9_readAnswer
    rw [rget_n (show r < 6 from hr6) (by decide), hand]
    simp only [nv]
    rw [show (10 : Int32) = nI 10 from rfl, pk_div (by omega) (by decide) (by decide), pk_mul, pk_sub (by omega), show (10 * (a / 4) + a % 4) / 10 = a / 4 by omega, show 10 * (a / 4) + a % 4 - a / 4 * 10 = a % 4 by omega, c_latest hW hC.c3 hq hv, bd_some, nI_and, d1, bd_some]
    unfold f_X9_answerOf
    rw [bd_some, show (4 : Int32) = nI 4 from rfl, pk_mul, nI_add, show a / 4 * 4 + a % 4 = a by omega, e1, bd_some, rset_n (show s.n < 300 from h300) (by decide)]
    simp only [nw]
    rw [rset_n (r := 5) (show s.n < 300 from h300) (by decide), ris_n (show r < 6 from hr6) (by decide), show (wr (wr M 4 s.n (nI (p &&& s.let9 (s.at9 (a % 4))))) 5 s.n (nI (s.let9 (s.at9 (a % 4))))) 24 r = M 24 r by simp [wr_at], m24, ris_b hhap, rput_n (show s.n < 300 from h300) (by decide), put_n hhap, rset_n (r := 8) (show s.n < 300 from h300) (by decide)]
    unfold f_X4_emptyHand
    rw [rset_n (r := 22) (show r < 6 from hr6) (by decide)]
    simp only [nw]
    rw [bd_some, radd_n (r := 25) (show r < 6 from hr6) (by decide), radd_n (r := 27) (show r < 6 from hr6) (by decide)]
    simp [wr_at]
    rw [m25, m27, nI_1, nI_1, hae, ml_and]
    all_goals trivial
  · have kM : ∀ i, i ≠ 4 → i ≠ 6 → i ≠ 7 → i ≠ 0 → keep i σ (wr (wr (wr (wr (wr (wr (wr M 4 s.n (nI (p &&& s.let9 (s.at9 (a % 4))))) 5 s.n (nI (s.let9 (s.at9 (a % 4))))) 7 s.n (nI (s.hap r))) 8 s.n (nI (s.ml (a % 4) (p &&& s.let9 (s.at9 (a % 4)))))) 22 r (-1)) 25 r (nI (s.nby r + 1))) 27 r (nI (s.since r + 1))) := by
      intro i h4 h6 h7 hz
      exact keep.w (show (4 : Nat) ≠ i by omega) (keep.w (show (6 : Nat) ≠ i by omega) (keep.w (show (4 : Nat) ≠ i by omega) (keep.w (show (6 : Nat) ≠ i by omega) (keep.w (show (6 : Nat) ≠ i by omega) (keep.w (show (6 : Nat) ≠ i by omega) (keep.w (show (6 : Nat) ≠ i by omega) ((d2.keep hz).tr (e2 i h6 h7))))))))
    have k4 : ∀ q j, grp q j = 4 → M q j = σ q j := fun q j hg => (e2 4 (by decide) (by decide) q j hg).trans (d2.at (scr_grp (by rw [hg]; decide)))
    refine ⟨hC.c1.k (kM _ (by decide) (by decide) (by decide) (by decide)), hC.c2.k (kM _ (by decide) (by decide) (by decide) (by decide)), hC.c3.k (kM _ (by decide) (by decide) (by decide) (by decide)), ?_, hC.c5.k (kM _ (by decide) (by decide) (by decide) (by decide)), ?_, ?_⟩
    · obtain ⟨c1, c2, c3⟩ := hC.c4
      refine ⟨by simp [wr_at]; rw [k4 76 8 rfl]; exact c1, fun j hj => ?_, fun j hj => ?_⟩
      · obtain ⟨q1, q2, q3, q4, q5, q6⟩ := c2 j hj
        refine ⟨by simp [wr_at]; rw [k4 19 j rfl]; exact q1, by simp [wr_at]; rw [k4 30 j rfl]; exact q2, by simp [wr_at]; rw [k4 20 j rfl]; exact q3, ?_, ?_, ?_⟩
        · by_cases e : j = r
          · have hh : (s.ra r p).hand j = -1 := by
              unfold A.hand
              rw [ra_hc, if_pos e, if_pos rfl]
            rw [hh]
            simp [wr_at, e]
          · have hh : (s.ra r p).hand j = s.hand j := by
              unfold A.hand
              rw [ra_hc, if_neg e]
              rfl
            rw [hh]
            simp [wr_at, e]
            rw [k4 22 j rfl]
            exact q4
        · rw [ra_hc]
          by_cases e : j = r
          · rw [if_pos e]
            intro h
            exact absurd h (Nat.lt_irrefl 0)
          · rw [if_neg e]
            intro g1 g2
            simp [wr_at]
            rw [k4 24 j rfl]
            exact q5 g1 g2
        · rw [ra_hc]
          by_cases e : j = r
          · rw [if_pos e]
            intro h
            omega
          · rw [if_neg e]
            intro g1
            simp [wr_at]
            rw [k4 23 j rfl]
            exact q6 g1
      · obtain ⟨q1, q2, q3, q4⟩ := c3 j hj
        rw [ra_since]
        refine ⟨by simp [wr_at]; rw [k4 21 j rfl]; exact q1, ?_, by simp [wr_at]; rw [k4 29 j rfl]; exact q3, fun h => by simp [wr_at]; rw [k4 28 j rfl]; exact q4 h⟩
        by_cases e : j = r
        · rw [if_pos e]; simp [wr_at, e]
        · rw [if_neg e]; simp [wr_at, e]; rw [k4 27 j rfl]; exact q2
    · obtain ⟨z1, z2, z3, z4⟩ := C1.c6
      refine ⟨by simp [wr_at]; exact e4, fun j hj => ?_, fun j hj => ?_, fun q hq6 => ?_⟩
      · rw [ra_n] at hj
        rw [ra_ans, ra_rby, ra_pts, ra_lts, ra_apr, ← hae]
        by_cases e : j = s.n
        · rw [if_pos e, if_pos e, if_pos e, if_pos e, if_pos e, e, ra_worth_n hv0, ← hae]
          refine ⟨by simp [wr_at]; rw [e5, if_pos rfl], by simp [wr_at]; rw [e6, if_pos rfl], by simp [wr_at], by simp [wr_at], by simp [wr_at], by simp [wr_at]⟩
        · rw [if_neg e, if_neg e, if_neg e, if_neg e, if_neg e, ra_worth e]
          obtain ⟨q1, q2, q3, q4, q5, q6⟩ := z2 j (by omega)
          refine ⟨by simp [wr_at]; rw [e5, if_neg e]; exact q1, by simp [wr_at]; rw [e6, if_neg e]; exact q2, ?_, ?_, ?_, ?_⟩
          · simp [wr_at, e]; rw [e7 4 j (by decide) (by decide) rfl (by simp)]; exact q3
          · simp [wr_at, e]; rw [e7 5 j (by decide) (by decide) rfl (by simp)]; exact q4
          · simp [wr_at, e]; rw [e7 7 j (by decide) (by decide) rfl (by simp)]; exact q5
          · simp [wr_at, e]; rw [e7 8 j (by decide) (by decide) rfl (by simp)]; exact q6
      · simp [wr_at]
        rw [e7 6 j (by decide) (by decide) rfl (by simp)]
        exact z3 j hj
      · rw [ra_nby, ra_nvoid hv0]
        refine ⟨?_, by simp [wr_at]; rw [e7 26 q (by decide) (by decide) rfl (by simp)]; exact (z4 q hq6).2⟩
        by_cases e : q = r
        · rw [if_pos e]; simp [wr_at, e]
        · rw [if_neg e]; simp [wr_at, e]; rw [e7 25 q (by decide) (by decide) rfl (by simp)]; exact (z4 q hq6).1
    · refine e3.k ?_
      exact keep.w (show (4 : Nat) ≠ 7 by decide) (keep.w (show (6 : Nat) ≠ 7 by decide) (keep.w (show (4 : Nat) ≠ 7 by decide) (keep.w (show (6 : Nat) ≠ 7 by decide) (keep.w (show (6 : Nat) ≠ 7 by decide) (keep.w (show (6 : Nat) ≠ 7 by decide) (keep.w (show (6 : Nat) ≠ 7 by decide) keep.rf))))))
  · intro i hi
    exact keep.w (show (4 : Nat) ≠ i by omega) (keep.w (show (6 : Nat) ≠ i by omega) (keep.w (show (4 : Nat) ≠ i by omega) (keep.w (show (6 : Nat) ≠ i by omega) (keep.w (show (6 : Nat) ≠ i by omega) (keep.w (show (6 : Nat) ≠ i by omega) (keep.w (show (6 : Nat) ≠ i by omega) ((d2.keep (by omega)).tr (e2 i (by omega) (by omega)))))))))
