/-! PURE: readings made void, on both sides. By hand. -/
theorem keep_b {i : Nat} {σ u : Mem} {r k : Nat} {v : Int32} (h : keep i (wr σ r k v) u) (hg : grp r k ≠ i) : keep i σ u := keep.tr (keep.w hg keep.rf) h
/-- the readings of r from g on, below k, void -/
def A.vd (s : A) (r g k : Nat) : A := s.ud 38 (fun j => if g ≤ j ∧ j < k ∧ s.rby j = r then 1 else s 38 j)
theorem vd_e {s : A} {r g k j : Nat} : (s.vd r g k).voi j = if g ≤ j ∧ j < k ∧ s.rby j = r then 1 else s.voi j := rfl
theorem vd_z {s : A} {r g j : Nat} : (s.vd r g g).voi j = s.voi j := by
  rw [vd_e, if_neg (fun h => by omega)]
theorem vd_s {s : A} {r g k j : Nat} (hg : g ≤ k) : (s.vd r g (k + 1)).voi j = if j = k ∧ s.rby k = r then 1 else (s.vd r g k).voi j := by
  rw [vd_e, vd_e]
  by_cases e : j = k
  · subst e
    by_cases h : s.rby j = r
    · rw [if_pos ⟨hg, by omega, h⟩, if_pos ⟨rfl, h⟩]
    · rw [if_neg (fun z => h z.2.2), if_neg (fun z => h z.2), if_neg (fun z => h z.2.2)]
  · rw [if_neg (show ¬ (j = k ∧ s.rby k = r) from fun z => e z.1)]
    by_cases h : g ≤ j ∧ j < k ∧ s.rby j = r
    · rw [if_pos h, if_pos ⟨h.1, by omega, h.2.2⟩]
    · rw [if_neg h, if_neg (fun z => h ⟨z.1, by omega, z.2.2⟩)]
theorem vd_le {s : A} (hW : WF s) {r g k j : Nat} (hj : j < 300) : (s.vd r g k).voi j ≤ 1 := by
  rw [vd_e]
  split
  · exact Nat.le_refl _
  · exact hW.voi j hj
/-- how many of a row are so, one more of them -/
theorem cnt_up (p p' : Nat → Bool) (k : Nat) (hp : p k = false) (hp' : p' k = true) (h : ∀ j, j ≠ k → p' j = p j) : ∀ n, k < n → ((List.range n).filter p').length = ((List.range n).filter p).length + 1 := by
  have eq : ∀ m, m ≤ k → ((List.range m).filter p').length = ((List.range m).filter p).length := by
    intro m
    induction m with
    | zero => intro _; rfl
    | succ m ih =>
      intro hm
      rw [cl_s, cl_s, ih (by omega), h m (by omega)]
  intro n
  induction n with
  | zero => intro hk; omega
  | succ n ih =>
    intro hk
    rw [cl_s, cl_s]
    by_cases e : k = n
    · subst e
      rw [eq k (Nat.le_refl _), hp, hp', if_pos rfl, if_neg (by decide)]
    · rw [ih (by omega), h n (fun z => e z.symm)]
      omega
theorem cnt_eq (p p' : Nat → Bool) : ∀ n, (∀ j, j < n → p' j = p j) → ((List.range n).filter p').length = ((List.range n).filter p).length := by
  intro n
  induction n with
  | zero => intro _; rfl
  | succ n ih =>
    intro h
    rw [cl_s, cl_s, ih (fun j hj => h j (by omega)), h n (by omega)]
theorem nv_s {s : A} {r g k q : Nat} (hg : g ≤ k) (hk : k < s.n) (hz : s.rby k = r → (s.vd r g k).voi k = 0) : (s.vd r g (k + 1)).nvoid q = (s.vd r g k).nvoid q + if s.rby k = r ∧ q = r then 1 else 0 := by
  by_cases c : s.rby k = r ∧ q = r
  · rw [if_pos c]
    unfold A.nvoid
    refine cnt_up _ _ k ?_ ?_ ?_ s.n hk
    · exact decide_eq_false (fun h => h.2 (hz c.1))
    · refine decide_eq_true ⟨c.1.trans c.2.symm, ?_⟩
      rw [vd_s hg, if_pos ⟨rfl, c.1⟩]
      decide
    · intro j hj
      have e : (s.vd r g (k + 1)).voi j = (s.vd r g k).voi j := by rw [vd_s hg, if_neg (fun h => hj h.1)]
      show decide (s.rby j = q ∧ (s.vd r g (k + 1)).voi j ≠ 0) = decide (s.rby j = q ∧ (s.vd r g k).voi j ≠ 0)
      rw [e]
  · rw [if_neg c, Nat.add_zero]
    unfold A.nvoid
    refine cnt_eq _ _ s.n ?_
    intro j hj
    show decide (s.rby j = q ∧ (s.vd r g (k + 1)).voi j ≠ 0) = decide (s.rby j = q ∧ (s.vd r g k).voi j ≠ 0)
    by_cases e : j = k ∧ s.rby k = r
    · have hq : ¬ s.rby j = q := fun h => c ⟨e.2, by rw [← h, e.1]; exact e.2⟩
      rw [decide_eq_false (fun h => hq h.1), decide_eq_false (fun h => hq h.1)]
    · rw [vd_s hg, if_neg e]
theorem c_vd {s : A} (hW : WF s) {r g : Nat} (hr : r < s.R) (hst : s.stp r = 0) (hg : g = s.good r) : ∀ d k, k + d = s.n → g ≤ k → ∀ N τ, RC6 τ (s.vd r g k) → ∃ u, f_X9_stop_24 (N + d + 1) (nI r) (nI k) τ = some (0, u) ∧ RC6 u (s.vd r g s.n) ∧ ∀ i, i ≠ 6 → keep i τ u := by
  have hn := hW.n
  have hR := hW.R
  intro d
  induction d with
  | zero =>
    intro k hk hgk N τ h6
    have e : k = s.n := by omega
    subst e
    refine ⟨τ, ?_, h6, fun _ _ => keep.rf⟩
    show (if τ 76 6 ≤ nI s.n then _ else _) = _
    rw [show τ 76 6 = nI s.n from h6.1, if_pos (nI_le (Nat.le_refl _) (by omega))]
  | succ d ih =>
    intro k hk hgk N τ h6
    have hkn : k < s.n := by omega
    obtain ⟨c0, cA, cV, cN⟩ := h6
    have hb := hW.rby k hkn
    have k3 : τ 3 k = nI (s.rby k) := (cA k hkn).2.1
    have hz : s.rby k = r → (s.vd r g k).voi k = 0 := by
      intro h
      rw [vd_e, if_neg (fun z => by omega)]
      exact hW.clean k hkn (by rw [h]; exact hst) (by rw [h, ← hg]; exact hgk)
    show ∃ u, (if τ 76 6 ≤ nI k then _ else _) = _ ∧ _
    rw [show τ 76 6 = nI s.n from c0, if_neg (nle (by omega) (by omega) hkn), rget_n (show k < 300 by omega) (by decide), k3]
    by_cases c : s.rby k = r
    · have h6' : RC6 (wr (wr (wr τ 6 k 1) 8 k (-1)) 26 r ((wr (wr τ 6 k 1) 8 k (-1)) 26 r + 1)) (s.vd r g (k + 1)) := by
        refine ⟨by simp [wr_at]; exact c0, fun j hj => ?_, fun j hj => ?_, fun q hq => ⟨by simp [wr_at]; exact (cN q hq).1, ?_⟩⟩
        · obtain ⟨q1, q2, q3, q4, q5, q6⟩ := cA j hj
          refine ⟨by simp [wr_at]; exact q1, by simp [wr_at]; exact q2, by simp [wr_at]; exact q3, by simp [wr_at]; exact q4, by simp [wr_at]; exact q5, ?_⟩
          rw [wr_at, if_neg (fun h => absurd h.1 (by decide)), wr_at]
          by_cases e : j = k
          · rw [if_pos ⟨rfl, e⟩]
            have : (s.vd r g (k + 1)).cts j = false := decide_eq_false (fun h => by
              have h1 := h.1
              rw [vd_s hgk, if_pos ⟨e, c⟩] at h1
              omega)
            unfold A.worth
            rw [this, if_neg (by decide)]
          · rw [if_neg (fun h => e h.2), wr_at, if_neg (fun h => absurd h.1 (by decide)), q6]
            have e2 : (s.vd r g (k + 1)).voi j = (s.vd r g k).voi j := by rw [vd_s hgk, if_neg (fun h => e h.1)]
            have e3 : (s.vd r g (k + 1)).cts j = (s.vd r g k).cts j := by
              unfold A.cts
              rw [e2]
              rfl
            unfold A.worth
            rw [e3]
            rfl
        · rw [wr_at, if_neg (fun h => absurd h.1 (by decide)), wr_at, if_neg (fun h => absurd h.1 (by decide)), wr_at, vd_s hgk]
          by_cases e : j = k
          · rw [if_pos ⟨rfl, e⟩, if_pos ⟨e, c⟩]
            rfl
          · rw [if_neg (fun h => e h.2), if_neg (fun h => e h.1)]
            exact cV j hj
        · rw [nv_s hgk hkn hz, wr_at]
          by_cases e : q = r
          · rw [if_pos ⟨rfl, e⟩, if_pos ⟨c, e⟩, e]
            rw [wr_at, if_neg (fun h => absurd h.1 (by decide)), wr_at, if_neg (fun h => absurd h.1 (by decide)), (cN r (by omega)).2, nI_1]
          · rw [if_neg (fun h => e h.2), if_neg (fun h => e h.2), Nat.add_zero]
            rw [wr_at, if_neg (fun h => absurd h.1 (by decide)), wr_at, if_neg (fun h => absurd h.1 (by decide))]
            exact (cN q hq).2
      obtain ⟨u, e1, e2, e3⟩ := ih (k + 1) (by omega) (by omega) N _ h6'
      refine ⟨u, ?_, e2, fun i hi => keep_b (keep_b (keep_b (e3 i hi) (show (6 : Nat) ≠ i by omega)) (show (6 : Nat) ≠ i by omega)) (show (6 : Nat) ≠ i by omega)⟩
      rw [if_pos (show nI (s.rby k) = nI r by rw [c]), rput_n (show k < 300 by omega) (by decide), if_neg i10]
      simp only [nw]
      rw [rset_n (show k < 300 by omega) (by decide), radd_n (show r < 6 by omega) (by decide)]
      unfold f_X9_stop_89
      rw [nI_1]
      exact e1
    · have h6' : RC6 τ (s.vd r g (k + 1)) := by
        have ev : ∀ j, (s.vd r g (k + 1)).voi j = (s.vd r g k).voi j := fun j => by rw [vd_s hgk, if_neg (fun h => c h.2)]
        refine ⟨c0, fun j hj => ?_, fun j hj => by rw [ev]; exact cV j hj, fun q hq => ⟨(cN q hq).1, ?_⟩⟩
        · obtain ⟨q1, q2, q3, q4, q5, q6⟩ := cA j hj
          refine ⟨q1, q2, q3, q4, q5, q6.trans ?_⟩
          have e3 : (s.vd r g (k + 1)).cts j = (s.vd r g k).cts j := by
            unfold A.cts
            rw [ev]
            rfl
          unfold A.worth
          rw [e3]
          rfl
        · rw [nv_s hgk hkn hz, if_neg (fun h => c h.1), Nat.add_zero]
          exact (cN q hq).2
      obtain ⟨u, e1, e2, e3⟩ := ih (k + 1) (by omega) (by omega) N _ h6'
      refine ⟨u, ?_, e2, e3⟩
      rw [if_neg (show ¬ nI (s.rby k) = nI r from nne (by omega) (by omega) c)]
      unfold f_X9_stop_89
      rw [nI_1]
      exact e1
theorem or_b : ∀ b, b < 2 → vp_nar .boolean (nI b ||| 1) = 1 ∧ vp_nar .boolean (nI b ||| 0) = nI b := by decide +kernel
theorem m_vd {s : A} (hW : WF s) {r g : Nat} (hr : r < s.R) {v : Int32} : ∀ d k, k + d = s.n → g ≤ k → ∀ N τ, RM6 τ (s.vd r g k) → ∃ u, f_X10_read_178 (N + d + 1) (nI r) v (nI k) τ = some (v, u) ∧ RM6 u (s.vd r g s.n) ∧ (∀ i, i ≠ 16 → keep i τ u) ∧ u 76 22 = τ 76 22 := by
  have hn := hW.n
  have hR := hW.R
  intro d
  induction d with
  | zero =>
    intro k hk hgk N τ h6
    have e : k = s.n := by omega
    subst e
    refine ⟨τ, ?_, h6, fun _ _ => keep.rf, rfl⟩
    show (if τ 76 29 ≤ nI s.n then _ else _) = _
    rw [show τ 76 29 = nI s.n from h6.1, if_pos (nI_le (Nat.le_refl _) (by omega))]
  | succ d ih =>
    intro k hk hgk N τ h6
    have hkn : k < s.n := by omega
    obtain ⟨c0, cA, cV⟩ := h6
    have hb := hW.rby k hkn
    have k3 : τ 67 k = nI (s.rby k) := (cA k hkn).2.1
    have kv := cV k (by omega)
    have kl := vd_le hW (r := r) (g := g) (k := k) (j := k) (by omega)
    obtain ⟨o1, o2⟩ := or_b ((s.vd r g k).voi k) (by omega)
    have go : ∀ w : Int32, w = nI ((s.vd r g (k + 1)).voi k) → RM6 (wr τ 70 k w) (s.vd r g (k + 1)) := by
      intro w hw
      refine ⟨by simp [wr_at]; exact c0, fun j hj => by simp [wr_at]; exact cA j hj, fun j hj => ?_⟩
      rw [wr_at]
      by_cases e : j = k
      · rw [if_pos ⟨rfl, e⟩, e]
        exact hw
      · rw [if_neg (fun h => e h.2), vd_s hgk, if_neg (fun h => e h.1)]
        exact cV j hj
    show ∃ u, (if τ 76 29 ≤ nI k then _ else _) = _ ∧ _
    simp only [na_nI (show k < 2 ^ 31 by omega)]
    rw [show τ 76 29 = nI s.n from c0, if_neg (nle (by omega) (by omega) hkn), gd_r (show k < 300 by omega) (by decide), gd_r (show k < 300 by omega) (by decide), k3]
    unfold f_X10_read_211
    simp only [na_nI (show k < 2 ^ 31 by omega), nw]
    rw [kv]
    by_cases c : s.rby k = r
    · obtain ⟨u, e1, e2, e3, e4⟩ := ih (k + 1) (by omega) (by omega) N _ (go 1 (by rw [vd_s hgk, if_pos ⟨rfl, c⟩]; rfl))
      refine ⟨u, ?_, e2, fun i hi => keep_b (e3 i hi) (show (16 : Nat) ≠ i by omega), e4.trans (by simp [wr_at])⟩
      rw [if_pos (show nI (s.rby k) = nI r by rw [c]), gd_r (show k < 300 by omega) (by decide), o1, nI_1]
      exact e1
    · obtain ⟨u, e1, e2, e3, e4⟩ := ih (k + 1) (by omega) (by omega) N _ (go (nI ((s.vd r g k).voi k)) (by rw [vd_s hgk, if_neg (fun h => c h.2)]))
      refine ⟨u, ?_, e2, fun i hi => keep_b (e3 i hi) (show (16 : Nat) ≠ i by omega), e4.trans (by simp [wr_at])⟩
      rw [if_neg (show ¬ nI (s.rby k) = nI r from nne (by omega) (by omega) c), gd_r (show k < 300 by omega) (by decide), o2, nI_1]
      exact e1
