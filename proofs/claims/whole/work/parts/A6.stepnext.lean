/-! PURE: the seed that is due; next. By hand. -/
def A.du (s : A) (r k : Nat) : Bool := decide (s.rq r / 2 ^ s.sq k % 2 = 1 ∧ s.given r / 2 ^ k % 2 = 0)
def A.due (s : A) (r : Nat) : Option Nat := if s.since r < 3 then none else (List.range' 0 s.S).find? (s.du r)
theorem gv_or : ∀ g, g < 256 → ∀ k, k < 8 → g / 2 ^ k % 2 = 0 → nI g ||| ((1 : Int32) <<< (nI k &&& 31)) = nI (g + 2 ^ k) ∧ g + 2 ^ k < 256 := by decide +kernel
theorem c_due {σ : Mem} {s : A} (hW : WF s) (hC : RelC σ s) {r : Nat} (hr : r < s.R) : ∀ d k, k + d = s.S → ∀ N, f_X9_seedDue_19 (N + d + 1) (nI r) (nI k) σ = some (oi ((List.range' k d).find? (s.du r)), σ) := by
  have hS := hW.S
  have hR := hW.R
  have hg := hW.given r (by omega)
  intro d
  induction d with
  | zero =>
    intro k hk N
    show (if σ 76 9 ≤ nI k then _ else _) = _
    rw [hC.c5.1, if_pos (nI_le (by omega) (by omega))]
    rfl
  | succ d ih =>
    intro k hk N
    have hkS : k < s.S := by omega
    have hq := (hW.sq k hkS).1
    have i := ih (k + 1) (by omega) N
    have no : s.du r k = false → f_X9_seedDue_74 (f_X9_seedDue_19 (N + d + 1)) (nI r) (nI k) σ = some (oi ((List.range' k (d + 1)).find? (s.du r)), σ) := by
      intro h
      rw [show List.range' k (d + 1) = k :: List.range' (k + 1) d from rfl, List.find?_cons_of_neg (by rw [h]; decide)]
      unfold f_X9_seedDue_74
      rw [nI_1]
      exact i
    show (if σ 76 9 ≤ nI k then _ else _) = _
    rw [hC.c5.1, if_neg (nle (by omega) (by omega) hkS), rget_n (show k < 8 by omega) (by decide), (hC.c5.2.1 k hkS).1, c_isFor hW hC.c4 hr (by omega), bd_some, rget_n (show r < 6 by omega) (by decide), (hC.c4.2.2 r (by omega)).2.2.1, bitI (by omega) (by omega)]
    by_cases h1 : s.rq r / 2 ^ s.sq k % 2 = 1
    · rw [if_pos h1, if_neg i10]
      by_cases h2 : s.given r / 2 ^ k % 2 = 0
      · rw [if_pos (show nI (s.given r / 2 ^ k % 2) = (0 : Int32) by rw [h2]; rfl), show List.range' k (d + 1) = k :: List.range' (k + 1) d from rfl, List.find?_cons_of_pos (show s.du r k = true from decide_eq_true ⟨h1, h2⟩)]
        rfl
      · rw [if_neg (show ¬ nI (s.given r / 2 ^ k % 2) = (0 : Int32) from nne (b := 0) (by omega) (by decide) h2)]
        exact no (decide_eq_false (fun h => h2 h.2))
    · rw [if_neg h1, if_pos rfl]
      exact no (decide_eq_false (fun h => h1 h.1))
theorem c_seedDue {σ : Mem} {s : A} (hW : WF s) (hC : RelC σ s) {r : Nat} (hr : r < s.R) : f_X9_seedDue (nI r) σ = some (oi (s.due r), σ) := by
  have hR := hW.R
  have hS := hW.S
  have hn := hW.n
  have hsi := hW.since r (by omega)
  unfold f_X9_seedDue A.due
  rw [rget_n (show r < 6 by omega) (by decide), (hC.c4.2.2 r (by omega)).2.1]
  by_cases c : s.since r < 3
  · rw [if_neg (show ¬ (3 : Int32) ≤ nI (s.since r) from nle (a := 3) (by decide) (by omega) c), if_pos c]
    rfl
  · obtain ⟨N, hN⟩ : ∃ N, FUEL = N + s.S + 1 := ⟨99999 - s.S, by unfold FUEL; omega⟩
    rw [if_pos (show (3 : Int32) ≤ nI (s.since r) from (nI_leI (a := 3) (by decide) (by omega)).mpr (by omega)), if_neg c, hN]
    exact c_due hW hC hr s.S 0 (by omega) N
theorem due_in {s : A} {r k : Nat} (h : s.due r = some k) : k < s.S ∧ s.du r k = true ∧ 3 ≤ s.since r := by
  unfold A.due at h
  by_cases c : s.since r < 3
  · rw [if_pos c] at h; cases h
  · rw [if_neg c] at h
    have h1 := List.mem_range'_1.mp (List.mem_of_find?_eq_some h)
    exact ⟨by omega, List.find?_some h, by omega⟩
/-- the hand of a reader filled with a seed -/
def A.hd (s : A) (r k : Nat) : A := (s.u1 19 r (101 + k)).u1 23 r (s.given r + 2 ^ k)
theorem WF_hd {s : A} (hW : WF s) {r k : Nat} (hr : r < s.R) (hk : k < s.S) (hg : s.given r + 2 ^ k < 256) (hs : s.stp r = 0) : WF (s.hd r k) := by
  have f1 : ∀ j, (s.hd r k).hc j = if j = r then 101 + k else s.hc j := fun j => rfl
  have f2 : ∀ j, (s.hd r k).given j = if j = r then s.given r + 2 ^ k else s.given j := fun j => rfl
  refine ⟨hW.m, hW.P, hW.lack, hW.urg, hW.gift, hW.app, hW.fresh, hW.V, hW.T, hW.R, hW.rq, hW.sen, hW.stp, hW.hap, ?_, hW.since, hW.good, ?_, ?_, ?_, hW.S, hW.sq, hW.tw, hW.tol, hW.isr, hW.b0, hW.b1, hW.b2, hW.n, hW.ans, hW.rby, hW.pts, hW.voi, hW.freshL, hW.apr, hW.clean, hW.al, ?_, hW.ar⟩
  · intro j hj
    rw [f2]
    split
    · exact hg
    · exact hW.given j hj
  · intro j h1 h2
    have h1' : s.R ≤ j := h1
    rw [f2, if_neg (by omega)]
    exact hW.freshR j h1 h2
  · intro j hj
    rw [f1]
    by_cases e : j = r
    · rw [if_pos e]
      refine Or.inr (Or.inr ⟨by omega, ?_⟩)
      show 101 + k < 101 + s.S
      omega
    · rw [if_neg e]; exact hW.hc j hj
  · intro j hj h1
    rw [f1]
    by_cases e : j = r
    · have h1' : s.stp j = 1 := h1
      rw [e, hs] at h1'
      exact absurd h1' (by decide)
    · rw [if_neg e]; exact hW.stop j hj h1
  · intro j hj h1 h2 h3
    rw [f1] at h1 h2
    rw [f1]
    by_cases e : j = r
    · rw [if_pos e] at h2
      omega
    · rw [if_neg e] at h1 h2
      rw [if_neg e]
      exact hW.ah j hj h1 h2 h3
theorem hd_hand {s : A} {r k : Nat} : (s.hd r k).hand r = nI (1000 + s.sq k) := by
  have f1 : (s.hd r k).hc r = 101 + k := if_pos rfl
  unfold A.hand
  rw [f1, if_neg (by omega), if_neg (by omega), show 101 + k - 101 = k by omega]
  rfl
theorem hd_hand2 {s : A} {r k j : Nat} (e : ¬ j = r) : (s.hd r k).hand j = s.hand j := by
  have f1 : (s.hd r k).hc j = s.hc j := if_neg e
  unfold A.hand
  rw [f1]
  rfl
theorem m_s36 {τ : Mem} {s : A} (hW : WF s) (hM : RelM τ s) {r : Nat} (hr : r < s.R) (h0 : s.hc r = 0) (h3 : 3 ≤ s.since r) : ∀ d k, k + d = s.S → ∀ N, f_X10_next_36 (N + d + 1) (nI r) (nI k) τ = f_X10_next_124 (nI r) (match (List.range' k d).find? (s.du r) with | some j => wr (wr τ 59 r (nI (100 + j))) 63 r (nI (s.given r + 2 ^ j)) | none => τ) := by
  have hS := hW.S
  have hR := hW.R
  have hn := hW.n
  have hsi := hW.since r (by omega)
  have hg := hW.given r (by omega)
  have hrq := hW.rq r hr
  have h59 : τ 59 r = -1 := by rw [(hM.m4.2.1 r hr).2.2.2.1, h0]; rfl
  have h61 := (hM.m4.2.2 r (by omega)).2.1
  have h63 := (hM.m4.2.2 r (by omega)).2.2.1
  intro d
  induction d with
  | zero =>
    intro k hk N
    show (if τ 76 28 ≤ nI k then _ else _) = _
    rw [hM.m5.1, if_pos (nI_le (by omega) (by omega))]
    rfl
  | succ d ih =>
    intro k hk N
    have hkS : k < s.S := by omega
    have hq := (hW.sq k hkS).1
    have i := ih (k + 1) (by omega) N
    have no : s.du r k = false → f_X10_next_118 (f_X10_next_36 (N + d + 1)) (nI r) (nI k) τ = f_X10_next_124 (nI r) (match (List.range' k (d + 1)).find? (s.du r) with | some j => wr (wr τ 59 r (nI (100 + j))) 63 r (nI (s.given r + 2 ^ j)) | none => τ) := by
      intro h
      rw [show List.range' k (d + 1) = k :: List.range' (k + 1) d from rfl, List.find?_cons_of_neg (by rw [h]; decide)]
      unfold f_X10_next_118
      rw [nI_1]
      exact i
    show (if τ 76 28 ≤ nI k then _ else _) = _
    simp only [na_nI (show r < 2 ^ 31 by omega), na_nI (show k < 2 ^ 31 by omega)]
    rw [hM.m5.1, if_neg (nle (by omega) (by omega) hkS), gd_r (show r < 6 by omega) (by decide), h59, if_pos rfl, gd_r (show r < 6 by omega) (by decide), h61, if_neg (show ¬ nI (s.since r) < (3 : Int32) from nlt (b := 3) (by omega) (by decide) h3), gd_r (show r < 6 by omega) (by decide), h63, bitI (by omega) (by omega)]
    by_cases h2 : s.given r / 2 ^ k % 2 = 0
    · rw [if_pos (show nI (s.given r / 2 ^ k % 2) = (0 : Int32) by rw [h2]; rfl), gd_r (show r < 6 by omega) (by decide), gd_r (show k < 8 by omega) (by decide), (hM.m4.2.1 r hr).2.1, (hM.m5.2.1 k hkS).1, bitI (by omega) (by omega)]
      by_cases h1 : s.rq r / 2 ^ s.sq k % 2 = 1
      · have o := (gv_or (s.given r) hg k (by omega) h2).1
        rw [if_pos (show nI (s.rq r / 2 ^ s.sq k % 2) = (1 : Int32) by rw [h1]; rfl), gd_r (show r < 6 by omega) (by decide), show List.range' k (d + 1) = k :: List.range' (k + 1) d from rfl, List.find?_cons_of_pos (show s.du r k = true from decide_eq_true ⟨h1, h2⟩), show (100 : Int32) = nI 100 from rfl, nI_add]
        simp only [nw]
        rw [gd_r (show r < 6 by omega) (by decide), gd_r (show r < 6 by omega) (by decide), show (wr τ 59 r (nI (100 + k))) 63 r = τ 63 r by simp [wr_at], h63, o]
        unfold f_X10_next_118
        rw [nI_1]
        show (if (wr (wr τ 59 r (nI (100 + k))) 63 r (nI (s.given r + 2 ^ k))) 76 28 ≤ nI (k + 1) then _ else _) = _
        rw [na_nI (show r < 2 ^ 31 by omega), gd_r (show r < 6 by omega) (by decide), if_neg (show ¬ (wr (wr τ 59 r (nI (100 + k))) 63 r (nI (s.given r + 2 ^ k))) 59 r = -1 by simp [wr_at]; exact nm1 (by omega)), ite_self]
      · rw [if_neg (show ¬ nI (s.rq r / 2 ^ s.sq k % 2) = (1 : Int32) from nne (b := 1) (by omega) (by decide) h1)]
        exact no (decide_eq_false (fun h => h1 h.1))
    · rw [if_neg (show ¬ nI (s.given r / 2 ^ k % 2) = (0 : Int32) from nne (b := 0) (by omega) (by decide) h2)]
      exact no (decide_eq_false (fun h => h2 h.2))
theorem m_124 {τ : Mem} {s : A} (hW : WF s) (hM : RelM τ s) {r : Nat} (hr : r < s.R) (h : s.hc r ≠ 0) : f_X10_next_124 (nI r) τ = some (s.hand r, τ) := by
  have hR := hW.R
  have hb : s.hc r < 200 := by
    have := hW.P
    have := hW.S
    rcases hW.hc r hr with h | h | h <;> omega
  have e : f_X10_next_124 (nI r) τ = f_X10_next_126 (99999 + 1) (nI r) 0 τ := rfl
  have hn1 : ¬ τ 59 r = -1 := by
    obtain ⟨c, hc⟩ : ∃ c, s.hc r = c + 1 := ⟨s.hc r - 1, by omega⟩
    rw [(hM.m4.2.1 r hr).2.2.2.1, hc, nI_pred]
    exact nm1 (by omega)
  rw [e]
  show (if (8 : Int32) * τ 76 25 ≤ 0 then _ else _) = _
  rw [na_nI (show r < 2 ^ 31 by omega), gd_r (show r < 6 by omega) (by decide), if_neg hn1, ite_self]
  exact m_220 hW hM hr
/-- the state behind next -/
def A.ns (s : A) (r : Nat) : A := match s.due r with
  | some k => s.hd r k
  | none => s.hs r (s.nx r)
theorem hs_hc {s : A} {r : Nat} {o : Option Nat} : ∀ q, (s.hs r o).stp q = s.stp q := by
  intro q
  cases o <;> rfl
theorem WF_hs {s : A} (hW : WF s) {r : Nat} (hr : r < s.R) (hs : s.stp r = 0) : WF (s.hs r (s.nx r)) := by
  cases e : s.nx r with
  | none => exact hW
  | some b =>
    have hb : b < 4 * s.P ∧ s.cg r b = true := by
      unfold A.nx at e
      cases e1 : s.fnd r 1 0 with
      | some c =>
        rw [e1] at e
        cases e
        exact (fnd_in e1).2
      | none =>
        rw [e1] at e
        exact (fnd_in e).2
    exact WF_ha hW hr hb.1 hb.2 hs
/-- next -/
theorem step_next (x : Int32) {σ : Mem} (hI : Inv9 σ) : StpG Inv9 (f_X9_next x) (f_X10_next x) [3, 2] σ := by
  obtain ⟨s, hW, hC, hM⟩ := hI
  have hR := hW.R
  have hP := hW.P
  have hS := hW.S
  rcases idx x s.R with ⟨r, hr, rfl⟩ | hx
  · have hr6 : r < 6 := by omega
    have hst := hW.stp r hr6
    have hb : s.hc r < 200 := by
      rcases hW.hc r hr with h | h | h <;> omega
    by_cases hs : s.stp r = 0
    · have cl : f_X9_next (nI r) σ = if s.hand r = -1 then bd (f_X9_giveWhatIsNext (nI r) σ) (fun _ τ4 => f_X9_next_61 (nI r) τ4) else f_X9_next_61 (nI r) σ := by
        unfold f_X9_next
        rw [cR_y hC.c4.1 hr (by omega), bd_some, if_neg i10, ris_n (show r < 6 from hr6) (by decide), (hC.c4.2.2 r hr6).1, hs, if_neg (show ¬ nI 0 ≠ (0 : Int32) from fun h => h rfl), if_pos rfl, rget_n (show r < 6 from hr6) (by decide), (hC.c4.2.1 r hr).2.2.2.1]
      have ml : ∀ u, RelM u s → f_X10_next (nI r) u = f_X10_next_36 FUEL (nI r) 0 (ask 0 u) := by
        intro u hu
        unfold f_X10_next f_X10_next_26
        rw [mR_y hu.m4.1 hr (by omega), bd_some, if_neg i10, gd_r (show r < 6 from hr6) (by decide), na_nI (by omega), (hu.m4.2.2 r hr6).1, hs, if_pos (show nI 0 = (0 : Int32) from rfl), ak0, bd_some, if_neg i10]
      have c61 : ∀ {s' : A} {u : Mem}, RelC u s' → r < s'.R → f_X9_next_61 (nI r) u = some ((0, s'.hand r), u) := by
        intro s' u h1 h2
        unfold f_X9_next_61
        rw [rget_n (show r < 6 from hr6) (by decide), (h1.c4.2.1 r h2).2.2.2.1]
      have h1 : (s.hand r = -1) ↔ s.hc r = 0 := by
        unfold A.hand
        by_cases z : s.hc r = 0
        · rw [if_pos z]
          exact ⟨fun _ => z, fun _ => rfl⟩
        · rw [if_neg z]
          refine ⟨fun e => ?_, fun e => absurd e z⟩
          exfalso
          by_cases y : s.hc r ≤ 100
          · rw [if_pos y] at e
            exact nm1 (by omega) e
          · have hq := hW.sq (s.hc r - 101) (by rcases hW.hc r hr with h | h | h <;> omega)
            rw [if_neg y] at e
            exact nm1 (by omega) e
      by_cases h0 : s.hc r = 0
      · by_cases hd : ∃ k, s.due r = some k
        · obtain ⟨k, hk⟩ := hd
          obtain ⟨k1, k2, k3⟩ := due_in hk
          have k4 := (of_decide_eq_true k2).2
          have hg := hW.given r hr6
          obtain ⟨o1, o2⟩ := gv_or (s.given r) hg k (by omega) k4
          have hq := (hW.sq k k1).1
          have f1 : ∀ j, (s.hd r k).hc j = if j = r then 101 + k else s.hc j := fun j => rfl
          have f2 : ∀ j, (s.hd r k).given j = if j = r then s.given r + 2 ^ k else s.given j := fun j => rfl
          have hW' := WF_hd hW hr k1 o2 hs
          refine stepG (s' := s.hd r k) (oc := (0, nI (1000 + s.sq k))) (r := nI (1000 + s.sq k)) (s := s) hW' hM ?_ ?_ (Or.inl rfl) (fun _ => rfl)
          · have kC : ∀ i, i ≠ 4 → keep i σ (wr (wr (wr σ 22 r (nI (1000 + s.sq k))) 23 r (nI k)) 29 r (nI (s.given r + 2 ^ k))) := fun i hi => keep.w (show (4 : Nat) ≠ i by omega) (keep.w (show (4 : Nat) ≠ i by omega) (keep.w (show (4 : Nat) ≠ i by omega) keep.rf))
            have hC' : RelC (wr (wr (wr σ 22 r (nI (1000 + s.sq k))) 23 r (nI k)) 29 r (nI (s.given r + 2 ^ k))) (s.hd r k) := by
              refine ⟨hC.c1.k (kC _ (by decide)), hC.c2.k (kC _ (by decide)), hC.c3.k (kC _ (by decide)), ?_, hC.c5.k (kC _ (by decide)), hC.c6.k (kC _ (by decide)), hC.c7.k (kC _ (by decide))⟩
              obtain ⟨b1, b2, b3⟩ := hC.c4
              refine ⟨by simp [wr_at]; exact b1, fun j hj => ?_, fun j hj => ?_⟩
              · obtain ⟨q1, q2, q3, q4, q5, q6⟩ := b2 j hj
                by_cases e : j = r
                · subst e
                  refine ⟨by simp [wr_at]; exact q1, by simp [wr_at]; exact q2, by simp [wr_at]; exact q3, ?_, fun h1 h2 => ?_, fun h => ?_⟩
                  · rw [hd_hand]; simp [wr_at]
                  · rw [f1, if_pos rfl] at h2; omega
                  · rw [f1, if_pos rfl, show 101 + k - 101 = k by omega]; simp [wr_at]
                · refine ⟨by simp [wr_at]; exact q1, by simp [wr_at]; exact q2, by simp [wr_at]; exact q3, ?_, fun h1 h2 => ?_, fun h => ?_⟩
                  · rw [hd_hand2 e]; simp [wr_at, e]; exact q4
                  · rw [f1, if_neg e] at h1 h2; simp [wr_at]; exact q5 h1 h2
                  · rw [f1, if_neg e] at h; rw [f1, if_neg e]; simp [wr_at, e]; exact q6 h
              · obtain ⟨q1, q2, q3, q4⟩ := b3 j hj
                refine ⟨by simp [wr_at]; exact q1, by simp [wr_at]; exact q2, ?_, fun h => by simp [wr_at]; exact q4 h⟩
                rw [f2]
                by_cases e : j = r
                · subst e; rw [if_pos rfl]; simp [wr_at]
                · rw [if_neg e]; simp [wr_at, e]; exact q3
            refine ⟨_, ?_, hC', fun i hi => kC i (by omega)⟩
            rw [cl, if_pos (h1.mpr h0)]
            unfold f_X9_giveWhatIsNext
            rw [c_seedDue hW hC hr, bd_some, hk, if_neg (oi_s (show k < 2 ^ 31 by omega)), show oi (some k) = nI k from rfl, rget_n (show k < 8 by omega) (by decide), (hC.c5.2.1 k k1).1, show (1000 : Int32) = nI 1000 from rfl, nI_add]
            unfold f_X4_handSeed
            rw [rset_n (show r < 6 from hr6) (by decide)]
            simp only [nw]
            rw [rset_n (r := 23) (show r < 6 from hr6) (by decide), rget_n (show r < 6 from hr6) (by decide), show (wr (wr σ 22 r (nI (1000 + s.sq k))) 23 r (nI k)) 29 r = σ 29 r by simp [wr_at], (hC.c4.2.2 r hr6).2.2.1, o1, rset_n (r := 29) (show r < 6 from hr6) (by decide), bd_some, bd_some, c61 hC' hr, hd_hand]
          · intro u hu
            have M1 := hu.ask (c := 0)
            have kM : ∀ i, i ≠ 14 → keep i (ask 0 u) (wr (wr (ask 0 u) 59 r (nI (100 + k))) 63 r (nI (s.given r + 2 ^ k))) := fun i hi => keep.w (show (14 : Nat) ≠ i by omega) (keep.w (show (14 : Nat) ≠ i by omega) keep.rf)
            have hM' : RelM (wr (wr (ask 0 u) 59 r (nI (100 + k))) 63 r (nI (s.given r + 2 ^ k))) (s.hd r k) := by
              refine ⟨M1.m1.k (kM _ (by decide)), M1.m2.k (kM _ (by decide)), M1.m3.k (kM _ (by decide)), ?_, M1.m5.k (kM _ (by decide)), M1.m6.k (kM _ (by decide))⟩
              obtain ⟨b1, b2, b3⟩ := M1.m4
              refine ⟨by simp [wr_at]; exact b1, fun j hj => ?_, fun j hj => ?_⟩
              · obtain ⟨q1, q2, q3, q4, q5⟩ := b2 j hj
                by_cases e : j = r
                · subst e
                  refine ⟨by simp [wr_at]; exact q1, by simp [wr_at]; exact q2, by simp [wr_at]; exact q3, ?_, fun h1 h2 => ?_⟩
                  · rw [f1, if_pos rfl, show 101 + k = (100 + k) + 1 by omega, nI_pred]; simp [wr_at]
                  · rw [f1, if_pos rfl] at h2; omega
                · refine ⟨by simp [wr_at]; exact q1, by simp [wr_at]; exact q2, by simp [wr_at]; exact q3, ?_, fun h1 h2 => ?_⟩
                  · rw [f1, if_neg e]; simp [wr_at, e]; exact q4
                  · rw [f1, if_neg e] at h1 h2; simp [wr_at]; exact q5 h1 h2
              · obtain ⟨q1, q2, q3, q4⟩ := b3 j hj
                refine ⟨by simp [wr_at]; exact q1, by simp [wr_at]; exact q2, ?_, fun h => by simp [wr_at]; exact q4 h⟩
                rw [f2]
                by_cases e : j = r
                · subst e; rw [if_pos rfl]; simp [wr_at]
                · rw [if_neg e]; simp [wr_at, e]; exact q3
            refine ⟨_, ?_, ?_, hM', fun i h1 h2 => (keepA core_ask h1).tr (kM i (by omega))⟩
            · obtain ⟨N, hN⟩ : ∃ N, FUEL = N + s.S + 1 := ⟨99999 - s.S, by unfold FUEL; omega⟩
              have i := m_s36 hW M1 hr h0 k3 s.S 0 (by omega) N
              have hk' := hk
              unfold A.due at hk'
              rw [if_neg (show ¬ s.since r < 3 by omega)] at hk'
              rw [hk'] at i
              rw [ml u hu, hN]
              refine Eq.trans i ?_
              have j := m_124 hW' hM' hr (by rw [f1, if_pos rfl]; omega)
              rw [hd_hand] at j
              exact j
            · simp [wr_at]
              exact ask_22
        · have hdn : s.due r = none := by
            cases e : s.due r with
            | none => rfl
            | some k => exact absurd ⟨k, e⟩ hd
          have hW' := WF_hs hW hr hs
          have hRs : r < (s.hs r (s.nx r)).R := by cases s.nx r <;> exact hr
          refine stepG (s' := s.hs r (s.nx r)) (oc := (0, (s.hs r (s.nx r)).hand r)) (r := (s.hs r (s.nx r)).hand r) (s := s) hW' hM ?_ ?_ (Or.inl rfl) (fun _ => rfl)
          · obtain ⟨u2, a1, a2, a3⟩ := c_give hW hC hr
            have a2' : RelC u2 (s.hs r (s.nx r)) := a2
            refine ⟨u2, ?_, a2', a3⟩
            rw [cl, if_pos (h1.mpr h0)]
            unfold f_X9_giveWhatIsNext
            rw [c_seedDue hW hC hr, bd_some, hdn, if_pos oi_n, a1, bd_some, c61 a2' hRs]
          · intro u hu
            have M1 := hu.ask (c := 0)
            obtain ⟨N, hN⟩ : ∃ N, FUEL = N + s.S + 1 := ⟨99999 - s.S, by unfold FUEL; omega⟩
            obtain ⟨K, hK⟩ : ∃ K, FUEL = K + 8 * s.P + 1 := ⟨99999 - 8 * s.P, by unfold FUEL; omega⟩
            obtain ⟨u2, e1, e2, e3, e4⟩ := m_126 hW M1 hr h0 hs (8 * s.P) 0 (by omega) K (ask 0 u) eqv.rfl
            rw [nk_0] at e1 e2
            refine ⟨u2, ?_, e4.trans ask_22, e2, fun i h1 h2 => (keepA core_ask h1).tr (e3 i h1 h2)⟩
            have n124 : f_X10_next_36 FUEL (nI r) 0 (ask 0 u) = f_X10_next_124 (nI r) (ask 0 u) := by
              by_cases c : 3 ≤ s.since r
              · have i := m_s36 hW M1 hr h0 c s.S 0 (by omega) N
                have hk' := hdn
                unfold A.due at hk'
                rw [if_neg (show ¬ s.since r < 3 by omega)] at hk'
                rw [hk'] at i
                rw [hN]
                exact i
              · have h59 : ask 0 u 59 r = -1 := by rw [(M1.m4.2.1 r hr).2.2.2.1, h0]; rfl
                have h61 := (M1.m4.2.2 r hr6).2.1
                rw [hN]
                show (if ask 0 u 76 28 ≤ 0 then _ else _) = _
                rw [na_nI (show r < 2 ^ 31 by omega), gd_r (show r < 6 from hr6) (by decide), h59, if_pos rfl, gd_r (show r < 6 from hr6) (by decide), h61, if_pos (show nI (s.since r) < (3 : Int32) from (nI_ltI (b := 3) (by omega) (by decide)).mpr (by omega)), ite_self]
            rw [ml u hu, n124]
            unfold f_X10_next_124
            rw [hK]
            exact e1
      · refine stepS (oc := (0, s.hand r)) hW hC hM ⟨σ, ?_, eqv.rfl⟩ (fun u hu => ⟨s.hand r, ask 0 u, ?_, ask_22, core_ask, fun _ => rfl⟩) (Or.inl rfl)
        · rw [cl, if_neg (fun h => h0 (h1.mp h)), c61 hC hr]
        · have M1 := hu.ask (c := 0)
          have hn1 : ¬ ask 0 u 59 r = -1 := by
            obtain ⟨c, hc⟩ : ∃ c, s.hc r = c + 1 := ⟨s.hc r - 1, by omega⟩
            rw [(M1.m4.2.1 r hr).2.2.2.1, hc, nI_pred]
            exact nm1 (by omega)
          have e : f_X10_next_36 FUEL (nI r) 0 (ask 0 u) = f_X10_next_36 (99999 + 1) (nI r) 0 (ask 0 u) := rfl
          rw [ml u hu, e]
          show (if ask 0 u 76 28 ≤ 0 then _ else _) = _
          rw [na_nI (show r < 2 ^ 31 by omega), gd_r (show r < 6 from hr6) (by decide), if_neg hn1, ite_self]
          exact m_124 hW M1 hr h0
    · refine stepS (oc := (2, 0)) hW hC hM ⟨σ, ?_, eqv.rfl⟩ (fun u hu => ⟨0, ask 2 u, ?_, ask_22, core_ask, fun h => absurd h (by decide)⟩) (Or.inr (by decide))
      · unfold f_X9_next
        rw [cR_y hC.c4.1 hr (by omega), bd_some, if_neg i10, ris_n (show r < 6 from hr6) (by decide), (hC.c4.2.2 r hr6).1, ris_b hst, if_neg (show ¬ nI (s.stp r) = (0 : Int32) from nne (b := 0) (by omega) (by decide) hs)]
      · unfold f_X10_next f_X10_next_25 f_X10_next_26
        rw [mR_y hu.m4.1 hr (by omega), bd_some, if_neg i10, gd_r (show r < 6 from hr6) (by decide), na_nI (by omega), (hu.m4.2.2 r hr6).1, if_neg (show ¬ nI (s.stp r) = (0 : Int32) from nne (b := 0) (by omega) (by decide) hs), ak2, bd_some, if_pos rfl]
  · refine stepS (oc := (3, 0)) hW hC hM ⟨σ, ?_, eqv.rfl⟩ (fun u hu => ⟨0, ask 1 u, ?_, ask_22, core_ask, fun h => absurd h (by decide)⟩) (Or.inr (by decide))
    · unfold f_X9_next
      rw [cR_n hC.c4.1 (by omega) hx, bd_some, if_pos rfl]
    · unfold f_X10_next f_X10_next_25 f_X10_next_26
      rw [mR_n hu.m4.1 (by omega) hx, bd_some, if_pos rfl, ak1, bd_some, if_pos rfl]
