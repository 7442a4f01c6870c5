/-! PURE: the class's own question whether a reading counts; the mark of a reading. By hand. -/
theorem c_latest {σ : Mem} {s : A} (hW : WF s) (h3 : RC3 σ s) {q : Nat} (hq : q < 4) (hv : 0 < s.V q) : f_X6_lettersOfLatest (nI q) σ = some (nI (s.let9 (s.at9 q)), σ) := by
  have hV := hW.V q hq
  unfold f_X6_lettersOfLatest
  rw [rget_n (show q < 4 from hq) (by decide), h3.1 q hq, show (6 : Int32) = nI 6 from rfl, pk_mul, nI_add, show (1 : Int32) = nI 1 from rfl, pk_sub (by omega), show q * 6 + s.V q - 1 = 6 * q + (s.V q - 1) by omega, rget_n (show 6 * q + (s.V q - 1) < 24 by omega) (by decide), (h3.2 q (s.V q - 1) hq (by omega)).2.2.1, at9_e hv]
theorem c_counts {σ : Mem} {s : A} (hW : WF s) (h3 : RC3 σ s) (h6 : RC6 σ s) {k : Nat} (hk : k < s.n) : f_X9_isCounting (nI k) (nI (s.ans k % 4)) σ = some (if s.cts k = true then 1 else 0, σ) := by
  have hn := hW.n
  obtain ⟨ha, hv⟩ := hW.ans k hk
  have hvo := hW.voi k (by omega)
  unfold f_X9_isCounting f_X9_isCounting_43 f_X9_isCounting_44
  rw [ris_n (show k < 300 by omega) (by decide), h6.2.2.1 k (by omega), ris_b hvo]
  by_cases v0 : s.voi k = 0
  · rw [if_pos (show nI (s.voi k) = (0 : Int32) by rw [v0]; rfl), c_latest hW h3 (by omega) hv, bd_some, rget_n (show k < 300 by omega) (by decide), (h6.2.1 k hk).2.2.2.1]
    unfold A.cts
    by_cases c : nI (s.let9 (s.at9 (s.ans k % 4))) &&& (nI (s.lts k) ^^^ (-1)) = 0
    · rw [if_pos c, if_pos (decide_eq_true ⟨v0, c⟩), gdz1]
    · rw [if_neg c, if_neg (fun h => c (of_decide_eq_true h).2), gdz0]
  · rw [if_neg (show ¬ nI (s.voi k) = (0 : Int32) from nne (b := 0) (by omega) (by decide) v0)]
    unfold A.cts
    rw [if_neg (fun h => v0 (of_decide_eq_true h).1), gdz0]
theorem m_markBy {σ : Mem} {s : A} (hW : WF s) (h3 : RM3 σ s) (h6 : RM6 σ s) {k : Nat} (hk : k < s.n) : ∃ u, f_X10_markBy (nI k) σ = some (nI (s.mkr k), u) ∧ eqv σ u := by
  have hn := hW.n
  have hP := hW.P
  obtain ⟨ha, hv⟩ := hW.ans k hk
  have hp := (hW.pts k hk).1
  obtain ⟨u, d1, d2⟩ := mMark (p := s.pts k) h3 (show s.ans k % 4 < 4 by omega) (show s.V (s.ans k % 4) - 1 < s.V (s.ans k % 4) by omega) (by omega)
  refine ⟨u, ?_, d2⟩
  unfold f_X10_markBy
  rw [gd_r (show k < 300 by omega) (by decide), na_nI (by omega), (h6.2.1 k hk).1, md4 (by omega), held_n hW h3 (by omega) hv, bd_some, gd_r (show k < 300 by omega) (by decide), (h6.2.1 k hk).2.2.1, at9_e hv, d1, bd_some]
  unfold A.mkr
  rw [at9_e hv]
