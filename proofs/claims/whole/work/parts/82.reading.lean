/-! PURE: the reference's reading of a place. By hand. -/
theorem nth_f (p : Nat → Bool) : ∀ n k, k < n → p k = true → ((List.range n).filter p)[((List.range k).filter p).length]? = some k := by
  intro n
  induction n with
  | zero => intro k hk; exact absurd hk (Nat.not_lt_zero k)
  | succ n ih =>
    intro k hk hp
    rw [List.range_succ, List.filter_append]
    by_cases e : k = n
    · subst e
      rw [List.getElem?_append_right (Nat.le_refl _), Nat.sub_self, List.filter_cons_of_pos hp]
      rfl
    · have h := ih k (by omega) hp
      rw [List.getElem?_append_left (List.getElem?_eq_some_iff.mp h).1]
      exact h
/-- the counting readings of an answer, appeals or not -/
def A.pc (s : A) (a ap : Nat) (k : Nat) : Bool := decide (s.ans k = a ∧ s.apr k = ap ∧ s.cts k = true)
def A.CL (s : A) (a ap : Nat) : List Nat := (List.range s.n).filter (s.pc a ap)
def A.rdx (s : A) (a i ap : Nat) : Int32 := match (s.CL a ap)[i]? with
  | some k => nI k
  | none => -1
theorem m_reading {σ : Mem} {s : A} (hW : WF s) (h3 : RM3 σ s) (h6 : RM6 σ s) {a i ap : Nat} (ha : a < 64) (hi : i < 1000) (hap : ap ≤ 1) : f_X10_reading (nI a) (nI i) (nI ap) σ = some (s.rdx a i ap, σ) := by
  have hn := hW.n
  have hP := hW.P
  have loop : ∀ d k, k + d = s.n → ((List.range k).filter (s.pc a ap)).length ≤ i → ∀ N, f_X10_reading_6 (N + d + 1) (nI a) (nI i) (nI ap) (nI ((List.range k).filter (s.pc a ap)).length) (nI k) σ = some (s.rdx a i ap, σ) := by
    intro d
    induction d with
    | zero =>
      intro k hk hc N
      have e : k = s.n := by omega
      subst e
      show (if σ 76 29 ≤ nI s.n then _ else _) = _
      rw [h6.1, if_pos (nI_le (Nat.le_refl _) (by omega))]
      unfold A.rdx A.CL
      rw [List.getElem?_eq_none hc]
    | succ d ih =>
      intro k hk hc N
      have hkn : k < s.n := by omega
      have ih' := ih (k + 1) (by omega)
      rw [cl_s] at ih'
      have hak := (hW.ans k hkn).1
      have hpk := hW.apr k hkn
      have hle := cl_le (s.pc a ap) k
      show (if σ 76 29 ≤ nI k then _ else _) = _
      rw [h6.1, if_neg (nle (by omega) (by omega) hkn), gd_r (show k < 300 by omega) (by decide), na_nI (by omega), (h6.2.1 k hkn).1]
      unfold f_X10_reading_58
      rw [nI_1]
      have no : ¬ s.pc a ap k = true → f_X10_reading_6 (N + d + 1) (nI a) (nI i) (nI ap) (nI ((List.range k).filter (s.pc a ap)).length) (nI (k + 1)) σ = some (s.rdx a i ap, σ) := by
        intro h
        rw [if_neg h, Nat.add_zero] at ih'
        exact ih' hc N
      by_cases e1 : s.ans k = a
      · rw [if_pos (show nI (s.ans k) = nI a by rw [e1]), gd_r (show k < 300 by omega) (by decide), (h6.2.1 k hkn).2.2.2.2]
        by_cases e2 : s.apr k = ap
        · rw [if_pos (show nI (s.apr k) = nI ap by rw [e2]), m_counts hW h3 h6 hkn, bd_some]
          by_cases e3 : s.cts k = true
          · have hp : s.pc a ap k = true := decide_eq_true ⟨e1, e2, e3⟩
            rw [if_pos e3, if_neg (by decide)]
            by_cases e4 : ((List.range k).filter (s.pc a ap)).length = i
            · rw [if_pos (show nI ((List.range k).filter (s.pc a ap)).length = nI i by rw [e4])]
              have := nth_f (s.pc a ap) s.n k hkn hp
              rw [e4] at this
              unfold A.rdx A.CL
              rw [this]
            · rw [if_neg (nne (by omega) (by omega) e4), nI_1]
              rw [if_pos hp] at ih'
              exact ih' (by omega) N
          · rw [if_neg e3, if_pos rfl]
            exact no (fun h => e3 (of_decide_eq_true h).2.2)
        · rw [if_neg (show ¬ nI (s.apr k) = nI ap from nne (by omega) (by omega) e2)]
          exact no (fun h => e2 (of_decide_eq_true h).2.1)
      · rw [if_neg (show ¬ nI (s.ans k) = nI a from nne (by omega) (by omega) e1)]
        exact no (fun h => e1 (of_decide_eq_true h).1)
  obtain ⟨N, hN⟩ : ∃ N, FUEL = N + s.n + 1 := ⟨99999 - s.n, by unfold FUEL; omega⟩
  unfold f_X10_reading
  rw [hN]
  exact loop s.n 0 (by omega) (Nat.zero_le _) N
