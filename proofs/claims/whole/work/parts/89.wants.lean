/-! PURE: how many readings an answer wants: the reference's count. By hand. -/
def A.mk0 (s : A) (a i : Nat) : Nat := match (s.CL a 0)[i]? with
  | some j => s.mkr j
  | none => 0
def A.near (s : A) (x y : Nat) : Bool := decide (x - y + (y - x) ≤ s.tol)
/-- how many readings an answer wants, an appeal's aside -/
def A.wf (s : A) (a : Nat) : Nat :=
  if s.tw (a % 4) = 0 then 1 - (s.CL a 0).length
  else if (s.CL a 0).length < 2 then 2 - (s.CL a 0).length
  else if s.near (s.mk0 a 0) (s.mk0 a 1) = true then 0
  else if (s.thr (s.CL a 0)).isSome = true then 0 else 1
theorem mk0_e {s : A} {a i j : Nat} (h : (s.CL a 0)[i]? = some j) : s.mk0 a i = s.mkr j := by
  unfold A.mk0
  rw [h]
theorem mk0_le {s : A} (hW : WF s) (a i : Nat) : s.mk0 a i ≤ 99 := by
  unfold A.mk0
  cases e : (s.CL a 0)[i]? with
  | none => exact Nat.zero_le _
  | some j => exact mkr_le hW (CL_in e).1
theorem thr_in {s : A} {a j : Nat} (h : s.thr (s.CL a 0) = some j) : j < s.n := by
  have h1 := List.mem_of_find?_eq_some h
  exact List.mem_range.mp (List.mem_filter.mp (List.mem_of_mem_drop h1)).1
theorem get_y {l : List Nat} {i : Nat} (h : i < l.length) : ∃ j, l[i]? = some j := ⟨_, List.getElem?_eq_getElem h⟩
theorem oi_s {k : Nat} (h : k < 2 ^ 31) : ¬ oi (some k) = -1 := nm1 h
theorem oi_n : oi none = -1 := rfl
theorem tw01 {s : A} (hW : WF s) (a : Nat) : s.tw (a % 4) = 0 ∨ s.tw (a % 4) = 1 := by
  have := hW.tw (a % 4) (by omega)
  omega
theorem m_rd {σ : Mem} {s : A} (hW : WF s) (h3 : RM3 σ s) (h6 : RM6 σ s) {a : Nat} (ha : a < 64) : f_X10_reading (nI a) 0 0 σ = some (oi ((s.CL a 0)[0]?), σ) ∧ f_X10_reading (nI a) 1 0 σ = some (oi ((s.CL a 0)[1]?), σ) ∧ f_X10_reading (nI a) 0 1 σ = some (oi ((s.CL a 1)[0]?), σ) := by
  refine ⟨?_, ?_, ?_⟩
  · have h := m_reading (i := 0) (ap := 0) hW h3 h6 ha (by decide) (by decide)
    rw [rdx_oi] at h
    exact h
  · have h := m_reading (i := 1) (ap := 0) hW h3 h6 ha (by decide) (by decide)
    rw [rdx_oi] at h
    exact h
  · have h := m_reading (i := 0) (ap := 1) hW h3 h6 ha (by decide) (by decide)
    rw [rdx_oi] at h
    exact h
theorem CL_lt {s : A} (hW : WF s) {a ap i j : Nat} (h : (s.CL a ap)[i]? = some j) : j < 2 ^ 31 := by
  have := (CL_in h).1
  have := hW.n
  omega
theorem m_wf {σ : Mem} {s : A} (hW : WF s) (h3 : RM3 σ s) (h57 : ∀ r, r < s.R → σ 57 r = nI (s.sen r)) (h5 : RM5 σ s) (h6 : RM6 σ s) {a : Nat} (ha : a < 64) : ∃ u, f_X10_wantsFirst (nI a) σ = some (nI (s.wf a), u) ∧ eqv σ u := by
  have hq : a % 4 < 4 := by omega
  obtain ⟨rd0, rd1, -⟩ := m_rd hW h3 h6 ha
  obtain ⟨N, hN⟩ : ∃ N, FUEL = N + 1 + 1 + 1 := ⟨99997, rfl⟩
  unfold f_X10_wantsFirst f_X10_wantsFirst_16
  rw [md4 ha, gd_r (show a % 4 < 4 from hq) (by decide), na_nI (by omega), h5.2.2.1 _ hq, hN]
  unfold A.wf
  rcases tw01 hW a with t | t
  · rw [t, if_pos (show nI 0 = (0 : Int32) from rfl), if_pos rfl]
    refine ⟨σ, ?_, eqv.rfl⟩
    show (if (1 : Int32) ≤ 0 then _ else bd (f_X10_reading (nI a) 0 0 σ) _) = _
    rw [if_neg (by decide), rd0, bd_some]
    cases e : (s.CL a 0)[0]? with
    | none =>
      have l0 := List.getElem?_eq_none_iff.mp e
      rw [if_pos oi_n, show 1 - (s.CL a 0).length = 1 by omega]
      rfl
    | some j =>
      have l0 := (List.getElem?_eq_some_iff.mp e).1
      rw [if_neg (oi_s (CL_lt hW e)), show 1 - (s.CL a 0).length = 0 by omega]
      rfl
  · rw [t, if_neg (show ¬ nI 1 = (0 : Int32) by decide), if_neg (show ¬ (1 : Nat) = 0 by decide)]
    cases e : (s.CL a 0)[0]? with
    | none =>
      have l0 := List.getElem?_eq_none_iff.mp e
      refine ⟨σ, ?_, eqv.rfl⟩
      show (if (2 : Int32) ≤ 0 then _ else bd (f_X10_reading (nI a) 0 0 σ) _) = _
      rw [if_neg (by decide), rd0, e, bd_some, if_pos oi_n, if_pos (show (s.CL a 0).length < 2 by omega), show 2 - (s.CL a 0).length = 2 by omega]
      rfl
    | some j0 =>
      have l0 := (List.getElem?_eq_some_iff.mp e).1
      cases e1 : (s.CL a 0)[1]? with
      | none =>
        have l1 := List.getElem?_eq_none_iff.mp e1
        refine ⟨σ, ?_, eqv.rfl⟩
        show (if (2 : Int32) ≤ 0 then _ else bd (f_X10_reading (nI a) 0 0 σ) _) = _
        rw [if_neg (by decide), rd0, e, bd_some, if_neg (oi_s (CL_lt hW e))]
        show (if (2 : Int32) ≤ 1 then _ else bd (f_X10_reading (nI a) 1 0 σ) _) = _
        rw [if_neg (by decide), rd1, e1, bd_some, if_pos oi_n, if_pos (show (s.CL a 0).length < 2 by omega), show 2 - (s.CL a 0).length = 1 by omega]
        rfl
      | some j1 =>
        have l1 := (List.getElem?_eq_some_iff.mp e1).1
        obtain ⟨u, d1, d2⟩ := m_isApart hW h3 h5 h6 ha e e1
        have th := m_third hW (h3.k (d2.keep (by decide))) (fun j hj => (d2.at (r := 57) (k := j) rfl).trans (h57 j hj)) (h6.k (d2.keep (by decide))) ha
        refine ⟨u, ?_, d2⟩
        show (if (2 : Int32) ≤ 0 then _ else bd (f_X10_reading (nI a) 0 0 σ) _) = _
        rw [if_neg (by decide), rd0, e, bd_some, if_neg (oi_s (CL_lt hW e))]
        show (if (2 : Int32) ≤ 1 then _ else bd (f_X10_reading (nI a) 1 0 σ) _) = _
        rw [if_neg (by decide), rd1, e1, bd_some, if_neg (oi_s (CL_lt hW e1)), if_neg (show ¬ (s.CL a 0).length < 2 by omega), mk0_e e, mk0_e e1]
        show (if (2 : Int32) ≤ 2 then (if (2 : Int32) ≤ 2 then (if (2 : Int32) = 2 then bd (f_X10_isApart (nI a) σ) _ else _) else _) else _) = _
        rw [if_pos (show (2 : Int32) ≤ 2 by decide), if_pos (show (2 : Int32) ≤ 2 by decide), if_pos (show (2 : Int32) = 2 from rfl), d1, bd_some]
        unfold A.near
        by_cases c : s.mkr j0 - s.mkr j1 + (s.mkr j1 - s.mkr j0) ≤ s.tol
        · rw [if_pos c, if_pos (decide_eq_true c)]
          rfl
        · rw [if_neg c, if_neg (fun h => c (of_decide_eq_true h)), if_neg (by decide), th, bd_some]
          cases tt : s.thr (s.CL a 0) with
          | none => rw [if_pos oi_n]; rfl
          | some j =>
            have hj := thr_in tt
            have hn := hW.n
            rw [if_neg (oi_s (show j < 2 ^ 31 by omega))]
            rfl
