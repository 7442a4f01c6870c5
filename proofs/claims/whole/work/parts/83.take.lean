/-! PURE: the class's tally takes a reading. By hand. -/
abbrev TS : Type := Nat × Nat × Nat × Int32 × Int32 × Int32 × Int32
/-- all, counting, plain, first, second, third, appealed -/
def tk (w : Int32) (sen ap : Nat) (t : TS) : TS := match t with
  | (n, c, p, f, e, h, a) =>
    if w = -1 then (n + 1, c, p, f, e, h, a)
    else if ap = 0 then (n + 1, c + 1, p + 1, (if p = 0 then w else f), (if p = 1 then w else e), (if 2 ≤ p ∧ sen ≠ 0 ∧ h = -1 then w else h), a)
    else (n + 1, c + 1, p, f, e, h, if a = -1 then w else a)
def RT (τ : Mem) (t : TS) : Prop := match t with
  | (n, c, p, f, e, h, a) => τ 76 10 = nI n ∧ τ 76 11 = nI c ∧ τ 76 13 = nI p ∧ τ 76 14 = f ∧ τ 76 15 = e ∧ τ 76 16 = h ∧ τ 76 12 = a
theorem c_94 {σ τ : Mem} {n c p : Nat} {f e h a : Int32} (hs : eqv σ τ) (hR : RT τ (n, c, p, f, e, h, a)) : ∃ u, f_X8_take_94 τ = some (0, u) ∧ eqv σ u ∧ RT u (n, c, p + 1, f, e, h, a) := by
  obtain ⟨r1, r2, r3, r4, r5, r6, r7⟩ := hR
  unfold f_X8_take_94
  simp only [nw]
  refine ⟨_, rfl, eqv_wrs hs rfl (by decide), by simp [wr_at]; exact r1, by simp [wr_at]; exact r2, by simp [wr_at]; rw [r3, nI_1], by simp [wr_at]; exact r4, by simp [wr_at]; exact r5, by simp [wr_at]; exact r6, by simp [wr_at]; exact r7⟩
theorem c_69 {σ τ : Mem} {n c p sen : Nat} {w f e h a : Int32} (hs : eqv σ τ) (hR : RT τ (n, c, p, f, e, h, a)) (hp : p < 1000) (hsn : sen ≤ 1) : ∃ u, f_X8_take_69 w (nI sen) τ = some (0, u) ∧ eqv σ u ∧ RT u (n, c, p + 1, f, e, (if 2 ≤ p ∧ sen ≠ 0 ∧ h = -1 then w else h), a) := by
  obtain ⟨r1, r2, r3, r4, r5, r6, r7⟩ := id hR
  unfold f_X8_take_69
  rw [r3]
  by_cases p1 : p ≤ 1
  · rw [if_pos (show nI p ≤ (1 : Int32) from (nI_leI (b := 1) (by omega) (by decide)).mpr p1), if_neg (fun h => by omega)]
    exact c_94 hs hR
  · rw [if_neg (show ¬ nI p ≤ (1 : Int32) from nle (b := 1) (by omega) (by decide) (by omega))]
    by_cases s0 : sen = 0
    · rw [if_pos (show nI sen = (0 : Int32) by rw [s0]; rfl), if_neg (fun h => h.2.1 s0)]
      exact c_94 hs hR
    · rw [if_neg (show ¬ nI sen = (0 : Int32) from nne (b := 0) (by omega) (by decide) s0), r6]
      by_cases h1 : h = -1
      · rw [if_pos h1, if_pos ⟨by omega, s0, h1⟩]
        simp only [nw]
        exact c_94 (eqv_wrs hs rfl (by decide)) ⟨by simp [wr_at]; exact r1, by simp [wr_at]; exact r2, by simp [wr_at]; exact r3, by simp [wr_at]; exact r4, by simp [wr_at]; exact r5, by simp [wr_at], by simp [wr_at]; exact r7⟩
      · rw [if_neg h1, if_neg (fun h => h1 h.2.2)]
        exact c_94 hs hR
theorem c_56 {σ τ : Mem} {n c p sen : Nat} {w f e h a : Int32} (hs : eqv σ τ) (hR : RT τ (n, c, p, f, e, h, a)) (hp : p < 1000) (hsn : sen ≤ 1) : ∃ u, f_X8_take_56 w (nI sen) τ = some (0, u) ∧ eqv σ u ∧ RT u (n, c, p + 1, f, (if p = 1 then w else e), (if 2 ≤ p ∧ sen ≠ 0 ∧ h = -1 then w else h), a) := by
  obtain ⟨r1, r2, r3, r4, r5, r6, r7⟩ := id hR
  unfold f_X8_take_56
  rw [r3]
  by_cases p1 : p = 1
  · rw [if_pos (show nI p = (1 : Int32) by rw [p1]; rfl), if_pos p1]
    simp only [nw]
    exact c_69 (eqv_wrs hs rfl (by decide)) ⟨by simp [wr_at]; exact r1, by simp [wr_at]; exact r2, by simp [wr_at]; exact r3, by simp [wr_at]; exact r4, by simp [wr_at], by simp [wr_at]; exact r6, by simp [wr_at]; exact r7⟩ hp hsn
  · rw [if_neg (show ¬ nI p = (1 : Int32) from nne (b := 1) (by omega) (by decide) p1), if_neg p1]
    exact c_69 hs hR hp hsn
theorem c_take {σ τ : Mem} {t : TS} {w : Int32} {sen ap : Nat} (hs : eqv σ τ) (hR : RT τ t) (hp : t.2.2.1 < 1000) (hsn : sen ≤ 1) (hap : ap ≤ 1) : ∃ u, f_X8_take w (nI sen) (nI ap) τ = some (0, u) ∧ eqv σ u ∧ RT u (tk w sen ap t) := by
  obtain ⟨n, c, p, f, e, h, a⟩ := t
  obtain ⟨r1, r2, r3, r4, r5, r6, r7⟩ := id hR
  dsimp only at hp
  unfold f_X8_take tk
  simp only [nw]
  have h1 : eqv σ (wr τ 76 10 (τ 76 10 + 1)) := eqv_wrs hs rfl (by decide)
  have h2 : RT (wr τ 76 10 (τ 76 10 + 1)) (n + 1, c, p, f, e, h, a) := ⟨by simp [wr_at]; rw [r1, nI_1], by simp [wr_at]; exact r2, by simp [wr_at]; exact r3, by simp [wr_at]; exact r4, by simp [wr_at]; exact r5, by simp [wr_at]; exact r6, by simp [wr_at]; exact r7⟩
  generalize wr τ 76 10 (τ 76 10 + 1) = τ1 at h1 h2 ⊢
  by_cases w1 : w = -1
  · rw [if_pos w1, if_pos w1]
    exact ⟨τ1, rfl, h1, h2⟩
  · rw [if_neg w1, if_neg w1]
    obtain ⟨q1, q2, q3, q4, q5, q6, q7⟩ := h2
    have h3 : eqv σ (wr τ1 76 11 (τ1 76 11 + 1)) := eqv_wrs h1 rfl (by decide)
    have h4 : RT (wr τ1 76 11 (τ1 76 11 + 1)) (n + 1, c + 1, p, f, e, h, a) := ⟨by simp [wr_at]; exact q1, by simp [wr_at]; rw [q2, nI_1], by simp [wr_at]; exact q3, by simp [wr_at]; exact q4, by simp [wr_at]; exact q5, by simp [wr_at]; exact q6, by simp [wr_at]; exact q7⟩
    generalize wr τ1 76 11 (τ1 76 11 + 1) = τ2 at h3 h4 ⊢
    obtain ⟨s1, s2, s3, s4, s5, s6, s7⟩ := id h4
    by_cases a0 : ap = 0
    · rw [if_pos (show nI ap = (0 : Int32) by rw [a0]; rfl), if_pos a0, s3]
      by_cases p0 : p = 0
      · rw [if_pos (show nI p = (0 : Int32) by rw [p0]; rfl), if_pos p0]
        exact c_56 (eqv_wrs h3 rfl (by decide)) ⟨by simp [wr_at]; exact s1, by simp [wr_at]; exact s2, by simp [wr_at]; exact s3, by simp [wr_at], by simp [wr_at]; exact s5, by simp [wr_at]; exact s6, by simp [wr_at]; exact s7⟩ hp hsn
      · rw [if_neg (show ¬ nI p = (0 : Int32) from nne (b := 0) (by omega) (by decide) p0), if_neg p0]
        exact c_56 h3 h4 hp hsn
    · rw [if_neg (show ¬ nI ap = (0 : Int32) from nne (b := 0) (by omega) (by decide) a0), if_neg a0, s7]
      unfold f_X8_take_43
      by_cases a1 : a = -1
      · rw [if_pos a1, if_pos a1]
        exact ⟨_, rfl, eqv_wrs h3 rfl (by decide), by simp [wr_at]; exact s1, by simp [wr_at]; exact s2, by simp [wr_at]; exact s3, by simp [wr_at]; exact s4, by simp [wr_at]; exact s5, by simp [wr_at]; exact s6, by simp [wr_at]⟩
      · rw [if_neg a1, if_neg a1]
        exact ⟨_, rfl, h3, h4⟩
