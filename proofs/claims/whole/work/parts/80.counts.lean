/-! PURE: which readings count. By hand. -/
theorem dv4 : ∀ x, x < 64 → nI x / 4 = nI (x / 4) := by decide
theorem md4 {a : Nat} (h : a < 64) : nI a - nI a / 4 * 4 = nI (a % 4) := by
  rw [dv4 a h, show (4 : Int32) = nI 4 from rfl, pk_mul, pk_sub (by omega)]
  congr 1; omega
theorem at9_e {s : A} {q : Nat} (h : 0 < s.V q) : s.at9 q = 6 * q + (s.V q - 1) := by unfold A.at9; omega
theorem held_n {σ : Mem} {s : A} (hW : WF s) (hM : RM3 σ s) {q : Nat} (hq : q < 4) (hv : 0 < s.V q) : f_X10_held (nI q) σ = some (nI (s.at9 q), σ) := by
  have hV := hW.V q hq
  unfold f_X10_held
  rw [gd_r (show q < 4 from hq) (by decide), na_nI (by omega), hM.1 q hq, show (6 : Int32) = nI 6 from rfl, pk_mul, nI_add, show (1 : Int32) = nI 1 from rfl, pk_sub (by omega)]
  rfl
theorem m_counts {σ : Mem} {s : A} (hW : WF s) (h3 : RM3 σ s) (h6 : RM6 σ s) {k : Nat} (hk : k < s.n) : f_X10_counts (nI k) σ = some (if s.cts k = true then 1 else 0, σ) := by
  have hn := hW.n
  have hP := hW.P
  obtain ⟨ha, hv⟩ := hW.ans k hk
  have hV := hW.V (s.ans k % 4) (by omega)
  have l53 : σ 53 (s.at9 (s.ans k % 4)) = nI (s.let9 (s.at9 (s.ans k % 4))) := by
    rw [at9_e hv]
    exact (h3.2 (s.ans k % 4) (s.V (s.ans k % 4) - 1) (by omega) (by omega)).2
  have hat : s.at9 (s.ans k % 4) < 24 := by rw [at9_e hv]; omega
  have hvo := hW.voi k (by omega)
  unfold f_X10_counts f_X10_counts_44 f_X10_counts_45
  rw [gd_r (show k < 300 by omega) (by decide), na_nI (by omega), (h6.2.1 k hk).1, md4 (by omega)]
  simp only [nv]
  rw [gd_r (show k < 300 by omega) (by decide), h6.2.2 k (by omega)]
  by_cases v0 : s.voi k = 0
  · rw [if_pos (show nI (s.voi k) = (0 : Int32) by rw [v0]; rfl), held_n hW h3 (by omega) hv, bd_some, gd_r (show _ < 24 from hat) (by decide), gd_r (show k < 300 by omega) (by decide), na_nI (by omega), l53, (h6.2.1 k hk).2.2.2.1]
    unfold A.cts
    by_cases c : nI (s.let9 (s.at9 (s.ans k % 4))) &&& (nI (s.lts k) ^^^ (-1)) = 0
    · rw [if_pos c, if_pos (decide_eq_true ⟨v0, c⟩), gdz1]
    · rw [if_neg c, if_neg (fun h => c (of_decide_eq_true h).2), gdz0]
  · rw [if_neg (show ¬ nI (s.voi k) = (0 : Int32) from nne (b := 0) (by omega) (by decide) v0)]
    unfold A.cts
    rw [if_neg (fun h => v0 (of_decide_eq_true h).1), gdz0]
