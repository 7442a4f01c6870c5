/-! PURE: the class reads a line through. By hand. -/
def pst (l : Nat → Int32) : Nat → Option PS
  | 0 => some (0, 0, 0, fun _ => 0, 0, 0)
  | k + 1 => (pst l k).bind (pstep (l k))
theorem pst_s {l : Nat → Int32} {k : Nat} {s : PS} (h : pst l k = some s) : pst l (k + 1) = pstep (l k) s := by
  show (pst l k).bind (pstep (l k)) = _
  rw [h]; rfl
/-- how many signs stand in a number's state -/
def PN (s : PS) (k : Nat) : Prop := 3 ≤ s.1 → s.2.2.1 + 2 * s.1 ≤ 2 * k + 5
theorem PN_step {c : Int32} {s s' : PS} {k : Nat} (h : PI s k) (h2 : PN s k) (hs : pstep c s = some s') : PN s' (k + 1) := by
  obtain ⟨h9, o, n, w, a, b⟩ := s
  obtain ⟨p1, p2, -⟩ := h
  unfold PN at h2 ⊢
  dsimp only at h2
  unfold pstep at hs
  dsimp only at hs
  intro h3
  repeat' split at hs
  all_goals first
    | (cases hs; done)
    | (cases hs; dsimp only at h3 ⊢; omega)
theorem PI_0 {w : Nat → Int32} : PI (0, 0, 0, w, 0, 0) 0 := ⟨by omega, by omega, by omega, by omega, by omega, fun j hj => absurd hj (Nat.not_lt_zero j), fun _ => ⟨fun j hj => absurd hj (Nat.not_lt_zero j), rfl⟩, fun h => absurd h (by decide)⟩
theorem P_pst {l : Nat → Int32} : ∀ k s, pst l k = some s → PI s k ∧ PN s k := by
  intro k
  induction k with
  | zero => intro s h; cases h; exact ⟨PI_0, fun h => absurd h (by decide)⟩
  | succ k ih =>
    intro s h
    cases e : pst l k with
    | none => exfalso; have : pst l (k + 1) = none := by show (pst l k).bind _ = none; rw [e]; rfl
              rw [this] at h; cases h
    | some s0 =>
      rw [pst_s e] at h
      obtain ⟨q1, q2⟩ := ih s0 e
      exact ⟨PI_step q1 h, PN_step q1 q2 h⟩
abbrev whl (s : PS) : Prop := (s.1 = 2 ∧ s.2.1 = 0) ∨ 4 ≤ s.1
/-- the signs with the number behind them -/
def fin9 (s : PS) : Nat × (Nat → Int32) := match s with
  | (h, _, n, w, a, b) => if h = 4 then (n + 1, app w n (nI (48 + a))) else if h = 5 then (if a = 0 then (n + 1, app w n (nI (48 + b))) else (n + 2, app (app w n (nI (48 + a))) (n + 1) (nI (48 + b)))) else (n, w)
def RDe (τ : Mem) (s : PS) : Prop := (∀ j, j < (fin9 s).1 → τ 0 j = (fin9 s).2 j) ∧ τ 76 0 = nI (fin9 s).1 ∧ τ 76 1 = nI (lets s.2.2.2.1 s.2.2.1) ∧ τ 76 2 = num9 s.1 s.2.2.2.2.1 s.2.2.2.2.2
theorem dv10 : ∀ x, x < 100 → nI x / 10 = nI (x / 10) := by decide
theorem app_row {τ : Mem} {n : Nat} {w : Nat → Int32} {c v : Int32} (h : ∀ j, j < n → τ 0 j = w j) : ∀ j, j < n + 1 → wr (wr τ 0 n c) 76 0 v 0 j = app w n c j := by
  intro j hj
  rw [wr_at, if_neg (fun e => absurd e.1 (by decide)), wr_at]
  by_cases e : j = n
  · subst e; rw [if_pos ⟨rfl, rfl⟩, app_s]
  · rw [if_neg (fun h => e h.2), app_n e]; exact h j (by omega)
theorem c_last {τ : Mem} {n x : Nat} {w : Nat → Int32} (h0 : τ 76 0 = nI n) (h2 : τ 76 2 = nI x) (hx : x < 100) (hn : n < 80) : f_X0_writeNumber_32 τ = some (0, wr (wr τ 0 n (nI (48 + x % 10))) 76 0 (nI (n + 1))) := by
  unfold f_X0_writeNumber_32
  have e : (48 : Int32) + (τ 76 2 - τ 76 2 / 10 * 10) = nI (48 + x % 10) := by
    rw [h2, dv10 x hx, show (10 : Int32) = nI 10 from rfl, pk_mul, pk_sub (by omega), show (48 : Int32) = nI 48 from rfl, nI_add]
    congr 1; omega
  rw [e, c_write h0 hn, bd_some]
theorem c_num {σ τ : Mem} {s : PS} {k : Nat} (hR : RD τ s) (hs : eqv σ τ) (hP : PI s k) (hN : PN s k) (hk : k ≤ 40) (hw : whl s) : ∃ u, f_X0_writeNumber τ = some (0, u) ∧ eqv σ u ∧ RDe u s := by
  obtain ⟨h9, o, n, w, a, b⟩ := s
  obtain ⟨p1, p2, p3, p4, p5, p6, p7, p8⟩ := hP
  obtain ⟨r1, r2, r3, r4, r5, r6⟩ := id hR
  unfold PN at hN
  unfold whl at hw
  dsimp only at hN hw
  unfold RDe fin9
  dsimp only
  have hn1 : ∀ x : Nat, nI x ≠ -1 ∨ 2 ^ 31 ≤ x := by
    intro x
    by_cases hx : x < 2 ^ 31
    · left; intro e
      have := congrArg Int32.toInt e
      rw [nI_toInt hx] at this
      have z : (-1 : Int32).toInt = -1 := rfl
      omega
    · right; omega
  unfold f_X0_writeNumber
  by_cases e4 : h9 = 4
  · have q : τ 76 2 = nI a := by rw [r4]; unfold num9; rw [if_neg (by omega), if_pos e4]
    have m1 : ¬ τ 76 2 = -1 := fun e => by rcases hn1 a with h | h
                                           · exact h (q ▸ e)
                                           · omega
    have m2 : τ 76 2 ≤ 9 := by rw [q]; exact (nI_leI (b := 9) (by omega) (by decide)).mpr p4
    rw [if_neg m1, if_pos m2, c_last (w := w) r2 q (by omega) (by omega), if_pos e4]
    refine ⟨_, rfl, eqv_wrs (eqv_wrr hs rfl (by decide)) rfl (by decide), ?_, by simp [wr_at], by simp [wr_at]; exact r3, by simp [wr_at]; exact r4⟩
    rw [show a % 10 = a by omega]
    exact app_row r1
  · rw [if_neg e4]
    by_cases e5 : h9 = 5
    · have q : τ 76 2 = nI (10 * a + b) := by rw [r4]; unfold num9; rw [if_neg (by omega), if_neg e4]
      have m1 : ¬ τ 76 2 = -1 := fun e => by rcases hn1 (10 * a + b) with h | h
                                             · exact h (q ▸ e)
                                             · omega
      rw [if_neg m1, if_pos e5]
      by_cases ea : a = 0
      · have m2 : τ 76 2 ≤ 9 := by rw [q]; exact (nI_leI (b := 9) (by omega) (by decide)).mpr (by omega)
        rw [if_pos m2, c_last (w := w) r2 q (by omega) (by omega), if_pos ea]
        refine ⟨_, rfl, eqv_wrs (eqv_wrr hs rfl (by decide)) rfl (by decide), ?_, by simp [wr_at], by simp [wr_at]; exact r3, by simp [wr_at]; exact r4⟩
        rw [show (10 * a + b) % 10 = b by omega]
        exact app_row r1
      · have m2 : ¬ τ 76 2 ≤ 9 := by rw [q]; exact nle (b := 9) (by omega) (by decide) (by omega)
        have d : (48 : Int32) + τ 76 2 / 10 = nI (48 + a) := by
          rw [q, dv10 _ (by omega), show (48 : Int32) = nI 48 from rfl, nI_add]
          congr 1; omega
        rw [if_neg m2, d, c_write r2 (by omega), bd_some, c_last (n := n + 1) (x := 10 * a + b) (w := w) (by simp [wr_at]) (by simp [wr_at]; exact q) (by omega) (by omega), if_neg ea]
        refine ⟨_, rfl, eqv_wrs (eqv_wrr (eqv_wrs (eqv_wrr hs rfl (by decide)) rfl (by decide)) rfl (by decide)) rfl (by decide), ?_, by simp [wr_at], by simp [wr_at]; exact r3, by simp [wr_at]; exact r4⟩
        rw [show (10 * a + b) % 10 = b by omega]
        exact app_row (app_row r1)
    · have q : τ 76 2 = -1 := by rw [r4]; unfold num9; rw [if_pos (by omega)]
      rw [if_pos q, if_neg e5]
      exact ⟨τ, rfl, hs, r1, r2, r3, r4⟩
/-- the class's loop over the line -/
theorem c_line {σ : Mem} {m : Nat} (hm : m ≤ 40) (h5 : σ 76 5 = nI m) : ∀ d k, k + d = m → ∀ s τ, pst (σ 1) k = some s → RD τ s → eqv σ τ → ∀ n,
    (∃ j u, k ≤ j ∧ j < m ∧ (∃ s', pst (σ 1) j = some s') ∧ pst (σ 1) (j + 1) = none ∧ f_X0_faultOf_6 (n + d + 1) (nI k) τ = some (nI j, u) ∧ eqv σ u) ∨
    (∃ s' u, pst (σ 1) m = some s' ∧ eqv σ u ∧ ((whl s' ∧ f_X0_faultOf_6 (n + d + 1) (nI k) τ = some (-1, u) ∧ RDe u s') ∨ (¬ whl s' ∧ f_X0_faultOf_6 (n + d + 1) (nI k) τ = some (nI m, u)))) := by
  intro d
  induction d with
  | zero =>
    intro k hk s τ hp hR hs n
    have hk' : k = m := by omega
    subst hk'
    obtain ⟨q1, q2⟩ := P_pst k s hp
    right
    have h5' : τ 76 5 = nI k := by rw [hs.at rfl]; exact h5
    have hend : f_X0_faultOf_6 (n + 0 + 1) (nI k) τ = if whl s then bd (f_X0_writeNumber τ) (fun _ τ2 => some ((-1), τ2)) else some (nI k, τ) := by
      have zz : (1 : Int32) ≠ 0 := by decide
      obtain ⟨h9, o, nn, w, a, b⟩ := s
      obtain ⟨r1, r2, r3, r4, r5, r6⟩ := id hR
      have p1 : h9 ≤ 5 := q1.1
      have p3 : o ≤ 4 := q1.2.2.1
      have u0 : f_X0_faultOf_6 (n + 0 + 1) (nI k) τ = (if τ 76 4 = 2 then (if τ 76 3 = 0 then f_X0_faultOf_68 τ else f_X0_faultOf_52 τ) else f_X0_faultOf_52 τ) := by
        show (if τ 76 5 ≤ nI k then _ else _) = _
        rw [h5', if_pos (nI_le (Nat.le_refl k) (by omega))]
      have u1 : f_X0_faultOf_68 τ = bd (f_X0_writeNumber τ) (fun _ τ2 => some ((-1), τ2)) := by
        unfold f_X0_faultOf_68 f_X0_faultOf_73
        rw [if_neg zz]
      have u2 : f_X0_faultOf_52 τ = if 4 ≤ h9 then bd (f_X0_writeNumber τ) (fun _ τ2 => some ((-1), τ2)) else some (nI k, τ) := by
        unfold f_X0_faultOf_52
        rw [u1, r6]
        by_cases e4 : h9 = 4
        · rw [if_pos (show nI h9 = (4 : Int32) by rw [e4]; rfl), if_pos (by omega)]
        · rw [if_neg (show ¬ nI h9 = (4 : Int32) from nne (b := 4) (by omega) (by decide) e4)]
          by_cases e5 : h9 = 5
          · rw [if_pos (show nI h9 = (5 : Int32) by rw [e5]; rfl), if_pos (by omega)]
          · rw [if_neg (show ¬ nI h9 = (5 : Int32) from nne (b := 5) (by omega) (by decide) e5), if_neg (by omega)]
            unfold f_X0_faultOf_73
            rw [if_pos rfl, h5']
      rw [u0, u1, u2, r6, r5]
      unfold whl
      dsimp only
      by_cases e2 : h9 = 2
      · rw [if_pos (show nI h9 = (2 : Int32) by rw [e2]; rfl)]
        by_cases eo : o = 0
        · rw [if_pos (show nI o = (0 : Int32) by rw [eo]; rfl), if_pos (Or.inl ⟨e2, eo⟩)]
        · rw [if_neg (show ¬ nI o = (0 : Int32) from nne (b := 0) (by omega) (by decide) eo), if_neg (show ¬ 4 ≤ h9 by omega), if_neg (fun h => h.elim (fun h => eo h.2) (fun h => by omega))]
      · rw [if_neg (show ¬ nI h9 = (2 : Int32) from nne (b := 2) (by omega) (by decide) e2)]
        by_cases e4 : 4 ≤ h9
        · rw [if_pos e4, if_pos (Or.inr e4)]
        · rw [if_neg e4, if_neg (fun h => h.elim (fun h => e2 h.1) (fun h => e4 h))]
    rw [hend]
    by_cases hw : whl s
    · obtain ⟨u, g1, g2, g3⟩ := c_num hR hs q1 q2 hm hw
      rw [if_pos hw, g1, bd_some]
      exact ⟨s, u, hp, g2, Or.inl ⟨hw, rfl, g3⟩⟩
    · rw [if_neg hw]
      exact ⟨s, τ, hp, hs, Or.inr ⟨hw, rfl⟩⟩
  | succ d ih =>
    intro k hk s τ hp hR hs n
    obtain ⟨q1, q2⟩ := P_pst k s hp
    have h5' : τ 76 5 = nI m := by rw [hs.at rfl]; exact h5
    have u0 : f_X0_faultOf_6 (n + (d + 1) + 1) (nI k) τ = bd (f_X0_takes (σ 1 k) τ) (fun y3 τ4 => if y3 = 0 then some (nI k, τ4) else f_X0_faultOf_6 (n + d + 1) (nI (k + 1)) τ4) := by
      show (if τ 76 5 ≤ nI k then _ else _) = _
      rw [h5', if_neg (nle (by omega) (by omega) (by omega)), rget_n (by show k < 40; omega) (by decide), hs.at rfl, nI_1]
      rfl
    rw [u0]
    rcases c_takes (c := σ 1 k) hR hs q1 (by omega) with ⟨s', τ', g1, g2, g3, g4⟩ | ⟨g1, τ', g2, g3⟩
    · rw [g2, bd_some, if_neg (by decide)]
      rcases ih (k + 1) (by omega) s' τ' (by rw [pst_s hp]; exact g1) g4 g3 n with ⟨j, u, a1, a2, a3⟩ | hh
      · exact Or.inl ⟨j, u, by omega, a2, a3⟩
      · exact Or.inr hh
    · rw [g2, bd_some, if_pos rfl]
      exact Or.inl ⟨k, τ', by omega, by omega, ⟨s, hp⟩, by rw [pst_s hp]; exact g1, rfl, g3⟩
/-- what the class says of a line -/
theorem c_fault {σ : Mem} {m : Nat} (hm : m ≤ 40) (h5 : σ 76 5 = nI m) :
    (∃ j u, j < m ∧ (∃ s', pst (σ 1) j = some s') ∧ pst (σ 1) (j + 1) = none ∧ f_X0_faultOf σ = some (nI j, u) ∧ eqv σ u) ∨
    (∃ s' u, pst (σ 1) m = some s' ∧ eqv σ u ∧ ((whl s' ∧ f_X0_faultOf σ = some (-1, u) ∧ RDe u s') ∨ (¬ whl s' ∧ f_X0_faultOf σ = some (nI m, u)))) := by
  obtain ⟨N, hN⟩ : ∃ N, FUEL = N + m + 1 := ⟨99999 - m, by unfold FUEL; omega⟩
  unfold f_X0_faultOf f_X0_begin
  simp only [nw]
  rw [bd_some, hN]
  have s0 : eqv σ (wr (wr (wr (wr (wr σ 76 0 0) 76 1 0) 76 2 (-1)) 76 3 0) 76 4 0) := eqv_wrs (eqv_wrs (eqv_wrs (eqv_wrs (eqv_wrs eqv.rfl rfl (by decide)) rfl (by decide)) rfl (by decide)) rfl (by decide)) rfl (by decide)
  have r0 : RD (wr (wr (wr (wr (wr σ 76 0 0) 76 1 0) 76 2 (-1)) 76 3 0) 76 4 0) (0, 0, 0, fun _ => 0, 0, 0) := ⟨fun j hj => absurd hj (Nat.not_lt_zero j), by simp [wr_at]; rfl, by simp [wr_at]; rfl, by simp [wr_at]; rfl, by simp [wr_at]; rfl, by simp [wr_at]; rfl⟩
  rcases c_line hm h5 m 0 (by omega) _ _ rfl r0 s0 N with ⟨j, u, a1, a2, a3⟩ | hh
  · exact Or.inl ⟨j, u, a2, a3⟩
  · exact Or.inr hh
