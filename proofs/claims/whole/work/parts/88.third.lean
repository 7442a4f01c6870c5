/-! PURE: the reference's third reading; whether two readings are apart. By hand. -/
def oi (o : Option Nat) : Int32 := match o with
  | some k => nI k
  | none => -1
theorem rdx_oi {s : A} {a i ap : Nat} : s.rdx a i ap = oi ((s.CL a ap)[i]?) := by
  unfold A.rdx oi
  cases (s.CL a ap)[i]? <;> rfl
theorem CL_in {s : A} {a ap i k : Nat} (h : (s.CL a ap)[i]? = some k) : k < s.n ∧ s.ans k = a ∧ s.apr k = ap ∧ s.cts k = true := by
  have h2 := List.mem_filter.mp (List.mem_of_getElem? h)
  exact ⟨List.mem_range.mp h2.1, of_decide_eq_true h2.2⟩
theorem CL_len {s : A} {a ap : Nat} : (s.CL a ap).length ≤ s.n := cl_le _ _
theorem drop_g {l : List Nat} {i k : Nat} (h : l[i]? = some k) : l.drop i = k :: l.drop (i + 1) := by
  obtain ⟨h1, h2⟩ := List.getElem?_eq_some_iff.mp h
  rw [List.drop_eq_getElem_cons h1, h2]
theorem RM4.sn {σ : Mem} {s : A} (h : RM4 σ s) : ∀ r, r < s.R → σ 57 r = nI (s.sen r) := fun r hr => (h.2.1 r hr).2.2.1
theorem m_third {σ : Mem} {s : A} (hW : WF s) (h3 : RM3 σ s) (h57 : ∀ r, r < s.R → σ 57 r = nI (s.sen r)) (h6 : RM6 σ s) {a : Nat} (ha : a < 64) : f_X10_third (nI a) σ = some (oi (s.thr (s.CL a 0)), σ) := by
  have hn := hW.n
  have hR := hW.R
  have hlen := CL_len (s := s) (a := a) (ap := 0)
  have loop : ∀ d i, (s.CL a 0).length ≤ i + d → i + d < 900 → ∀ N, f_X10_third_10 (N + d + 1) (nI a) (nI i) (s.rdx a i 0) σ = some (oi (((s.CL a 0).drop i).find? (fun j => decide (s.sen (s.rby j) ≠ 0))), σ) := by
    intro d
    induction d with
    | zero =>
      intro i hi _ N
      show (if s.rdx a i 0 = -1 then _ else _) = _
      rw [rdx_oi, List.getElem?_eq_none (by omega), if_pos (show oi none = -1 from rfl), List.drop_eq_nil_of_le (by omega)]
      rfl
    | succ d ih =>
      intro i hi h9 N
      show (if s.rdx a i 0 = -1 then _ else _) = _
      cases t : (s.CL a 0)[i]? with
      | none =>
        have tl := List.getElem?_eq_none_iff.mp t
        rw [rdx_oi, t, if_pos (show oi none = -1 from rfl), List.drop_eq_nil_of_le tl]
        rfl
      | some k =>
        obtain ⟨k1, k2, -⟩ := CL_in t
        have hb := hW.rby k k1
        have hsn := hW.sen _ hb
        rw [rdx_oi, t, if_neg (show ¬ oi (some k) = -1 from nm1 (by omega))]
        show gd (inb (nI k) (rlen 67)) _ = _
        rw [gd_r (show k < 300 by omega) (by decide), show Int32.toNatClampNeg (oi (some k)) = k from na_nI (by omega), (h6.2.1 k k1).2.1, gd_r (show s.rby k < 6 by omega) (by decide), na_nI (by omega), h57 _ hb, drop_g t]
        by_cases c : s.sen (s.rby k) = 0
        · rw [if_pos (show nI (s.sen (s.rby k)) = (0 : Int32) by rw [c]; rfl), nI_1, show (0 : Int32) = nI 0 from rfl, m_reading hW h3 h6 ha (by omega) (by omega), bd_some, List.find?_cons_of_neg (by simp [c])]
          exact ih (i + 1) (by omega) (by omega) N
        · rw [if_neg (show ¬ nI (s.sen (s.rby k)) = (0 : Int32) from nne (b := 0) (by omega) (by decide) c), List.find?_cons_of_pos (by simp [c])]
          rfl
  unfold f_X10_third
  rw [show (2 : Int32) = nI 2 from rfl, show (0 : Int32) = nI 0 from rfl, m_reading hW h3 h6 ha (by omega) (by omega), bd_some]
  obtain ⟨N, hN⟩ : ∃ N, FUEL = N + s.n + 1 := ⟨99999 - s.n, by unfold FUEL; omega⟩
  rw [hN]
  exact loop s.n 2 (by omega) (by omega) N
theorem m_isApart {σ : Mem} {s : A} (hW : WF s) (h3 : RM3 σ s) (h5 : RM5 σ s) (h6 : RM6 σ s) {a j0 j1 : Nat} (ha : a < 64) (t0 : (s.CL a 0)[0]? = some j0) (t1 : (s.CL a 0)[1]? = some j1) : ∃ u, f_X10_isApart (nI a) σ = some (if s.mkr j0 - s.mkr j1 + (s.mkr j1 - s.mkr j0) ≤ s.tol then 0 else 1, u) ∧ eqv σ u := by
  have hn := hW.n
  have htol := hW.tol
  have k0 := (CL_in t0).1
  have k1 := (CL_in t1).1
  have b0 := mkr_le hW k0
  have b1 := mkr_le hW k1
  obtain ⟨u1, d1, d2⟩ := m_markBy hW h3 h6 k0
  obtain ⟨u2, e1, e2⟩ := m_markBy hW (h3.k (d2.keep (by decide))) (h6.k (d2.keep (by decide))) k1
  have hs := d2.trans e2
  refine ⟨u2, ?_, hs⟩
  unfold f_X10_isApart f_X10_isApart_37
  rw [show (0 : Int32) = nI 0 from rfl, m_reading hW h3 h6 ha (by omega) (by omega), bd_some, rdx_oi, t0]
  show bd (f_X10_markBy (nI j0) σ) _ = _
  rw [d1, bd_some, show (1 : Int32) = nI 1 from rfl, m_reading hW (h3.k (d2.keep (by decide))) (h6.k (d2.keep (by decide))) ha (by omega) (by omega), bd_some, rdx_oi, t1]
  show bd (f_X10_markBy (nI j1) u1) _ = _
  rw [e1, bd_some, m_apart (by omega) (by omega), bd_some, hs.at rfl, h5.2.2.2.1]
  by_cases c : s.mkr j0 - s.mkr j1 + (s.mkr j1 - s.mkr j0) ≤ s.tol
  · rw [if_pos ((nI_leI (by omega) (by omega)).mpr c), if_pos c]; rfl
  · rw [if_neg (nle (by omega) (by omega) (by omega)), if_neg c]; rfl
