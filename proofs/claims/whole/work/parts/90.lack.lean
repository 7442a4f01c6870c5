/-! PURE: what the class's tally says of an answer. By hand. -/
theorem i10 : ¬ (1 : Int32) = 0 := by decide
theorem c_past0 {τ : Mem} {L : Nat} (h : τ 76 13 = nI L) (hL : L < 1000) : f_X8_isPastDue 0 τ = some (if 1 ≤ L then 1 else 0, τ) := by
  unfold f_X8_isPastDue f_X8_isPastDue_13 f_X8_isPastDue_21
  rw [if_pos rfl, h]
  by_cases c : 1 ≤ L
  · rw [if_neg (show ¬ nI L < (1 : Int32) from nlt (b := 1) (by omega) (by decide) c), if_pos c]; rfl
  · rw [if_pos (show nI L < (1 : Int32) from (nI_ltI (b := 1) (by omega) (by decide)).mpr (by omega)), if_neg c]; rfl
theorem c_past1 {τ : Mem} {L : Nat} (h : τ 76 13 = nI L) (hL : L < 1000) : f_X8_isPastDue 1 τ = some (if 2 ≤ L then 1 else 0, τ) := by
  unfold f_X8_isPastDue f_X8_isPastDue_13 f_X8_isPastDue_21
  rw [if_neg i10, h]
  by_cases c : 2 ≤ L
  · rw [if_neg (show ¬ nI L < (2 : Int32) from nlt (b := 2) (by omega) (by decide) c), if_pos c]; rfl
  · rw [if_pos (show nI L < (2 : Int32) from (nI_ltI (b := 2) (by omega) (by decide)).mpr (by omega)), if_neg c]; rfl
/-- the tally's cells, said of the counting readings -/
theorem RT_e {τ : Mem} {s : A} {a : Nat} (hT : RT τ (s.tal a s.n)) : τ 76 10 = nI (s.L a).length ∧ τ 76 11 = nI ((s.CL a 0).length + (s.CL a 1).length) ∧ τ 76 13 = nI (s.CL a 0).length ∧ τ 76 14 = s.wl ((s.CL a 0)[0]?) ∧ τ 76 15 = s.wl ((s.CL a 0)[1]?) ∧ τ 76 16 = s.wl (s.thr (s.CL a 0)) ∧ τ 76 12 = s.wl ((s.CL a 1)[0]?) := by
  obtain ⟨r1, r2, r3, r4, r5, r6, r7⟩ := hT
  exact ⟨r1, r2, r3, r4, r5, r6, r7⟩
theorem wl_n {s : A} : s.wl none = -1 := rfl
theorem wl_s {s : A} {j : Nat} : s.wl (some j) = nI (s.mkr j) := rfl
theorem near_y {s : A} {x y : Nat} (h : ¬ apt s.tol x y) : s.near x y = true := decide_eq_true (Decidable.not_not.mp (fun z => h (apt_iff.mpr z)))
theorem near_n {s : A} {x y : Nat} (h : apt s.tol x y) : ¬ s.near x y = true := fun z => apt_iff.mp h (of_decide_eq_true z)
theorem c_lack {τ : Mem} {s : A} (hW : WF s) {a : Nat} (hT : RT τ (s.tal a s.n)) : f_X8_lackingAsPlain (nI (s.tw (a % 4))) (nI s.tol) τ = some (nI (s.wf a), τ) := by
  obtain ⟨r1, r2, r3, r4, r5, r6, r7⟩ := RT_e hT
  have hn := hW.n
  have htol := hW.tol
  have hlen := CL_len (s := s) (a := a) (ap := 0)
  unfold f_X8_lackingAsPlain f_X8_lackingAsPlain_17 f_X8_lackingAsPlain_54 f_X8_lackingAsPlain_55 A.wf
  rcases tw01 hW a with t | t
  · have x0 : nI (s.tw (a % 4)) = (0 : Int32) := by rw [t]; rfl
    rw [x0, c_past0 r3 (by omega), bd_some, if_pos t]
    by_cases c : 1 ≤ (s.CL a 0).length
    · rw [if_pos c, if_neg i10, if_pos rfl, show 1 - (s.CL a 0).length = 0 by omega]
      all_goals rfl
    · rw [if_neg c, if_pos rfl, if_pos rfl, r3, show (1 : Int32) = nI 1 from rfl, pk_sub (by omega)]
  · have x1 : nI (s.tw (a % 4)) = (1 : Int32) := by rw [t]; rfl
    rw [x1, c_past1 r3 (by omega), bd_some, if_neg (show ¬ s.tw (a % 4) = 0 by omega)]
    by_cases c : 2 ≤ (s.CL a 0).length
    · obtain ⟨j0, e0⟩ := get_y (l := s.CL a 0) (i := 0) (by omega)
      obtain ⟨j1, e1⟩ := get_y (l := s.CL a 0) (i := 1) (by omega)
      have b0 := mkr_le hW (CL_in e0).1
      have b1 := mkr_le hW (CL_in e1).1
      rw [if_pos c, if_neg i10, if_neg i10, if_neg (show ¬ (s.CL a 0).length < 2 by omega), mk0_e e0, mk0_e e1, r4, r5, r6, e0, e1, wl_s, wl_s]
      have ca := c_apart (σ := τ) (x := s.mkr j0) (y := s.mkr j1) (t := s.tol) (by omega) (by omega) (by omega)
      cases tt : s.thr (s.CL a 0) with
      | none =>
        rw [wl_n, if_pos rfl, if_neg (show ¬ (none : Option Nat).isSome = true by decide)]
        rcases ca with ⟨h, ca⟩ | ⟨h, ca⟩
        · rw [ca, bd_some, if_neg i10, if_neg (near_n h)]
          all_goals rfl
        · rw [ca, bd_some, if_pos rfl, if_pos (near_y h)]
          all_goals rfl
      | some j =>
        have b2 := mkr_le hW (thr_in tt)
        rw [wl_s, if_neg (nm1 (by omega)), if_pos (show (some j).isSome = true from rfl), ite_self]
        all_goals rfl
    · rw [if_neg c, if_pos rfl, if_neg i10, if_pos (show (s.CL a 0).length < 2 by omega), r3, show (2 : Int32) = nI 2 from rfl, pk_sub (by omega)]
/-- the mark of an answer but for its appeal, if it is there; with it -/
def A.pln (s : A) (a : Nat) : Option Nat :=
  if 0 < s.wf a then none
  else if s.tw (a % 4) = 0 then some (s.mk0 a 0)
  else if s.near (s.mk0 a 0) (s.mk0 a 1) = true then some ((s.mk0 a 0 + s.mk0 a 1 + 1) / 2)
  else (s.thr (s.CL a 0)).map s.mkr
def A.apm (s : A) (a x : Nat) : Nat := match (s.CL a 1)[0]? with
  | none => x
  | some k => if s.near x (s.mkr k) = true then x else s.mkr k
def A.mkn (s : A) (a : Nat) : Option Nat := (s.pln a).map (s.apm a)
theorem wf0_1 {s : A} {a : Nat} (w : s.wf a = 0) (t : s.tw (a % 4) = 0) : 1 ≤ (s.CL a 0).length := by
  unfold A.wf at w
  rw [if_pos t] at w
  omega
theorem wf0_2 {s : A} {a : Nat} (w : s.wf a = 0) (t : ¬ s.tw (a % 4) = 0) : 2 ≤ (s.CL a 0).length ∧ (s.near (s.mk0 a 0) (s.mk0 a 1) = true ∨ ∃ j, s.thr (s.CL a 0) = some j) := by
  unfold A.wf at w
  rw [if_neg t] at w
  by_cases c : (s.CL a 0).length < 2
  · rw [if_pos c] at w; omega
  · rw [if_neg c] at w
    refine ⟨by omega, ?_⟩
    by_cases d : s.near (s.mk0 a 0) (s.mk0 a 1) = true
    · exact Or.inl d
    · rw [if_neg d] at w
      cases tt : s.thr (s.CL a 0) with
      | none => rw [tt, if_neg (show ¬ (none : Option Nat).isSome = true by decide)] at w; omega
      | some j => exact Or.inr ⟨j, rfl⟩
theorem pln_le {s : A} (hW : WF s) {a x : Nat} (h : s.pln a = some x) : x ≤ 99 := by
  have b0 := mk0_le hW a 0
  have b1 := mk0_le hW a 1
  unfold A.pln at h
  split at h
  · cases h
  · split at h
    · cases h; exact b0
    · split at h
      · cases h; omega
      · cases tt : s.thr (s.CL a 0) with
        | none => rw [tt] at h; cases h
        | some j => rw [tt] at h; cases h; exact mkr_le hW (thr_in tt)
theorem apm_le {s : A} (hW : WF s) {a x : Nat} (h : x ≤ 99) : s.apm a x ≤ 99 := by
  unfold A.apm
  cases e : (s.CL a 1)[0]? with
  | none => exact h
  | some k =>
    show (if s.near x (s.mkr k) = true then x else s.mkr k) ≤ 99
    split
    · exact h
    · exact mkr_le hW (CL_in e).1
theorem c_56o {τ : Mem} {s : A} (hW : WF s) {a x : Nat} (hT : RT τ (s.tal a s.n)) (hx : x ≤ 99) : f_X8_outcome_56 (nI s.tol) (nI x) τ = some (nI (s.apm a x), τ) := by
  obtain ⟨r1, r2, r3, r4, r5, r6, r7⟩ := RT_e hT
  have htol := hW.tol
  unfold f_X8_outcome_56 f_X8_outcome_83 f_X8_outcome_84 A.apm
  rw [r7]
  cases e : (s.CL a 1)[0]? with
  | none => rw [wl_n, if_pos rfl]
  | some k =>
    have b := mkr_le hW (CL_in e).1
    rw [wl_s, if_neg (nm1 (by omega))]
    show _ = some (nI (if s.near x (s.mkr k) = true then x else s.mkr k), τ)
    rcases c_apart (σ := τ) (x := x) (y := s.mkr k) (t := s.tol) (by omega) (by omega) (by omega) with ⟨h, ca⟩ | ⟨h, ca⟩
    · rw [ca, bd_some, if_neg i10, if_neg (near_n h), r7, e, wl_s]
    · rw [ca, bd_some, if_pos rfl, if_pos (near_y h)]
theorem c_outcome {τ : Mem} {s : A} (hW : WF s) {a : Nat} (hT : RT τ (s.tal a s.n)) : f_X8_outcome (nI (s.tw (a % 4))) (nI s.tol) τ = some (oi (s.mkn a), τ) := by
  obtain ⟨r1, r2, r3, r4, r5, r6, r7⟩ := RT_e hT
  have hn := hW.n
  have htol := hW.tol
  have hlen := CL_len (s := s) (a := a) (ap := 0)
  have wb : s.wf a ≤ 2 := by
    unfold A.wf
    split
    · omega
    · split
      · omega
      · split
        · omega
        · split <;> omega
  unfold f_X8_outcome f_X8_outcome_55
  rw [c_lack hW hT, bd_some]
  simp only [nv]
  unfold A.mkn A.pln
  by_cases w : 0 < s.wf a
  · rw [if_neg (show ¬ nI (s.wf a) ≤ (0 : Int32) from nle (b := 0) (by omega) (by decide) w), if_pos w]
    rfl
  · have w0 : s.wf a = 0 := by omega
    rw [if_pos (show nI (s.wf a) ≤ (0 : Int32) from (nI_leI (b := 0) (by omega) (by decide)).mpr (by omega)), if_neg w, r4]
    by_cases t : s.tw (a % 4) = 0
    · obtain ⟨j0, e0⟩ := get_y (l := s.CL a 0) (i := 0) (by have := wf0_1 w0 t; omega)
      rw [if_pos (show nI (s.tw (a % 4)) = (0 : Int32) by rw [t]; rfl), if_pos t, e0, wl_s, mk0_e e0]
      exact c_56o hW hT (mkr_le hW (CL_in e0).1)
    · obtain ⟨l2, l3⟩ := wf0_2 w0 t
      have t1 := hW.tw (a % 4) (by omega)
      obtain ⟨j0, e0⟩ := get_y (l := s.CL a 0) (i := 0) (by omega)
      obtain ⟨j1, e1⟩ := get_y (l := s.CL a 0) (i := 1) (by omega)
      have b0 := mkr_le hW (CL_in e0).1
      have b1 := mkr_le hW (CL_in e1).1
      rw [if_neg (show ¬ nI (s.tw (a % 4)) = (0 : Int32) from nne (b := 0) (by omega) (by decide) t), if_neg t, r5, e0, e1, wl_s, wl_s, mk0_e e0, mk0_e e1]
      rw [mk0_e e0, mk0_e e1] at l3
      rcases c_apart (σ := τ) (x := s.mkr j0) (y := s.mkr j1) (t := s.tol) (by omega) (by omega) (by omega) with ⟨h, ca⟩ | ⟨h, ca⟩
      · rw [ca, bd_some, if_neg i10, if_neg (near_n h), r6]
        obtain ⟨j, tt⟩ := l3.resolve_left (near_n h)
        rw [tt, wl_s]
        exact c_56o hW hT (mkr_le hW (thr_in tt))
      · rw [ca, bd_some, if_pos rfl, if_pos (near_y h), r4, r5, e0, e1, wl_s, wl_s, nI_add, nI_1, show (2 : Int32) = nI 2 from rfl, pk_div (by omega) (by decide) (by decide)]
        exact c_56o hW hT (by omega)
