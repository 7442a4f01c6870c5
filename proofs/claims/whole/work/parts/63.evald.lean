/-! PURE: the loops over a text, whole. By hand. -/
theorem minI {a b : Nat} (ha : a < 2 ^ 31) (hb : b < 2 ^ 31) : (if nI b < nI a then nI b else nI a) = nI (min a b) := by
  by_cases h : b < a
  · rw [if_pos ((nI_ltI hb ha).mpr h)]; congr 1; omega
  · rw [if_neg (nlt hb ha (by omega))]; congr 1; omega
theorem gd_r {β : Type} {r k : Nat} {x : Option β} (h : k < rlen r) (hr : r < 76) : gd (inb (nI k) (rlen r)) x = x := gd_n h (rl hr)
/-- a text that stands in a memory as the class keeps it: its body of m signs, then its end or '<' -/
def TC (σ : Mem) (at9 len m : Nat) (w : Nat → Int32) : Prop := at9 < 24 ∧ len ≤ 80 ∧ m ≤ len ∧ (∀ k, k < len → σ 32 (80 * at9 + k) = w k) ∧ WFb w m ∧ (m < len → w m = 60)
theorem c_run {σ : Mem} {p at9 len m : Nat} {w : Nat → Int32} (hT : TC σ at9 len m w) (hp : p < 256) {τ0 : Mem} (h0 : eqv σ τ0) (hR0 : RC τ0 (ev p w 0)) : ∀ j, j ≤ m → ∀ n, ∃ τ', f_X6_markBy_36 (n + j) (nI p) (nI at9) (nI len) (nI 0) (nI 1) (nI 0) τ0 = f_X6_markBy_36 n (nI p) (nI at9) (nI len) (nI (ev p w j).2.2.2.1) (nI (ev p w j).2.2.2.2) (nI j) τ' ∧ eqv σ τ' ∧ RC τ' (ev p w j) := by
  obtain ⟨hat, hlen, hml, hw, hWF, -⟩ := hT
  intro j
  induction j with
  | zero => intro _ n; exact ⟨τ0, rfl, h0, hR0⟩
  | succ j ih =>
    intro hj n
    obtain ⟨τ1, e1, s1, r1⟩ := ih (by omega) (n + 1)
    obtain ⟨w60, w48, w40, w41⟩ := hWF j (by omega)
    have hdl := dep_le hWF j (by omega)
    rw [← ev_dep p w j] at w40 w41 hdl
    obtain ⟨τ2, e2, s2, r2⟩ := c_step (n := n) s1 (hw j (by omega)) hat hlen (by omega) hp r1 w60 hdl w40 w41 (fun l hl => ev_small p hWF (by omega) (by omega) (by rw [← ev_dep p w j]; exact hl))
    refine ⟨τ2, ?_, s2, r2⟩
    rw [show n + (j + 1) = n + 1 + j by omega, e1, e2]
    rfl
theorem c_mark {σ : Mem} {p q v len m most : Nat} {w : Nat → Int32} (hq : q < 4) (hv : v < 6) (hT : TC σ (6 * q + v) len m w) (hp : p < 256) (h33 : σ 33 (6 * q + v) = nI len) (h35 : σ 35 (6 * q + v) = nI most) (hm : most ≤ 99) :
    ∃ u, f_X6_markBy (nI q) (nI v) (nI p) σ = some (nI (mk9 p w m most), u) ∧ eqv σ u := by
  unfold f_X6_markBy f_X6_begin
  simp only [nv, nw, bd]
  have e9 : nI q * 6 + nI v = nI (6 * q + v) := by rw [show (6 : Int32) = nI 6 from rfl, pk_mul, nI_add]; congr 1; omega
  have hat := hT.1
  rw [e9, rget_n (by show _ < 24; omega) (by decide), h33]
  rw [show rset 38 0 1 (rset 37 0 0 (rset 36 0 0 σ)) = wr (wr (wr σ 36 0 0) 37 0 0) 38 0 1 from by
    rw [show (0 : Int32) = nI 0 from rfl, rset_n (by decide) (by decide), rset_n (by decide) (by decide), rset_n (by decide) (by decide)]]
  have h0 : eqv σ (wr (wr (wr σ 36 0 0) 37 0 0) 38 0 1) := eqv_wrr (eqv_wrr (eqv_wrr eqv.rfl rfl (by decide)) rfl (by decide)) rfl (by decide)
  obtain ⟨n, hn⟩ : ∃ n, FUEL = n + 1 + m := ⟨FUEL - 1 - m, by have := hT.2.1; have := hT.2.2.1; unfold FUEL; omega⟩
  obtain ⟨τ1, e1, s1, r1⟩ := c_run hT hp h0 (fun l hl => by
    have : l = 0 := by have : l ≤ 0 := hl
                       omega
    subst this
    exact ⟨by simp [wr_at]; rfl, by simp [wr_at]; rfl, by simp [wr_at]; rfl⟩) m (Nat.le_refl _) (n + 1)
  rw [← hn] at e1
  have key : f_X6_markBy_210 (nI (6 * q + v)) τ1 = some (nI (mk9 p w m most), τ1) := by
    unfold f_X6_markBy_210 mk9
    have hs := (ev_small p hT.2.2.2.2.1 (by have := hT.2.1; have := hT.2.2.1; omega) (Nat.le_refl m) (Nat.zero_le _)).1
    have r0 : rget 36 0 τ1 = nI ((ev p w m).1 0) := by
      rw [show (0 : Int32) = nI 0 from rfl, rget_n (by decide) (by decide)]
      exact (r1 0 (Nat.zero_le _)).1
    rw [rget_n (by show _ < 24; omega) (by decide), s1.at rfl, h35, r0, minI (by omega) (by omega)]
  refine ⟨τ1, Eq.trans e1 ?_, s1⟩
  rw [f_X6_markBy_36]
  by_cases hl : len ≤ m
  · rw [if_pos ((nI_leI (by have := hT.2.1; omega) (by have := hT.2.1; have := hT.2.2.1; omega)).mpr hl)]
    exact key
  · rw [if_neg (nle (by have := hT.2.1; omega) (by have := hT.2.1; have := hT.2.2.1; omega) (by omega))]
    simp only [nv]
    have hrd : rget 32 ((nI (6 * q + v)) * (80) + (nI m)) τ1 = 60 := by
      rw [show (80 : Int32) = nI 80 from rfl, pk_mul, nI_add, rget_n (by show _ < 1920; have := hT.2.1; have := hT.2.2.1; omega) (by decide), s1.at rfl, show (6 * q + v) * 80 + m = 80 * (6 * q + v) + m by omega, hT.2.2.2.1 m (by omega)]
      exact hT.2.2.2.2.2 (by omega)
    rw [hrd, if_pos rfl]
    exact key
-- the reference
theorem m_step {σ τ : Mem} {p at9 k n : Nat} {w : Nat → Int32} {s : St5} (hs : eqv σ τ) (hw : σ 52 (90 * at9 + k) = w k) (hat : at9 < 24) (hk : k < 90) (hp : p < 256) (hR : RM τ s) (h60 : w k ≠ 60) (h48 : w k ≠ 48) (h0 : w k ≠ 0) (hd : s.2.2.2.1 ≤ 4) (h40 : w k = 40 → s.2.2.2.1 ≤ 3) (h41 : (w k = 41 ∨ w k = 124) → 1 ≤ s.2.2.2.1) (hb : ∀ l, l ≤ s.2.2.2.1 → s.1 l < 2 ^ 30 ∧ s.2.1 l < 2 ^ 30) :
    ∃ τ', f_X10_value_25 (n + 1) (nI at9) (nI p) (nI s.2.2.2.1) (nI s.2.2.2.2) 99 0 (nI (90 * at9 + k)) τ = f_X10_value_25 n (nI at9) (nI p) (nI (evs p (w k) s).2.2.2.1) (nI (evs p (w k) s).2.2.2.2) 99 0 (nI (90 * at9 + (k + 1))) τ' ∧ eqv σ τ' ∧ RM τ' (evs p (w k) s) := by
  obtain ⟨S, B, F, d, f⟩ := s
  dsimp only at hd h40 h41 hb ⊢
  obtain ⟨hS, hBF⟩ := hR
  dsimp only at hS hBF
  have hrd : τ 52 (90 * at9 + k) = w k := by rw [hs.at rfl, hw]
  have e90 : (90 : Int32) * (nI at9 + 1) = nI (90 * (at9 + 1)) := by rw [nI_1, show (90 : Int32) = nI 90 from rfl, pk_mul]
  rw [f_X10_value_25, e90, if_neg (nle (by omega) (by omega) (by omega)), gd_r (show 90 * at9 + k < 2160 by omega) (by decide), na_nI (n := 90 * at9 + k) (by omega), hrd, if_neg h0, gd_r (show 90 * at9 + k < 2160 by omega) (by decide)]
  simp only [nv]
  rw [if_neg h60, m_in, bd_some, m_in, bd_some, show nI (90 * at9 + (k + 1)) = nI (90 * at9 + k) + 1 from (nI_1 _).symm]
  have c48 : ¬ (48 ≤ w k ∧ w k ≤ 57) ↔ ¬ (49 ≤ w k ∧ w k ≤ 57) := by
    have this : ¬ (w k).toInt = (48 : Int32).toInt := fun h => h48 ((eq_int (w k) 48).mpr h)
    have a1 : ((48 : Int32).toInt) = 48 := rfl
    have a2 : ((49 : Int32).toInt) = 49 := rfl
    rw [le_int, le_int, le_int, a2, a1]
    rw [a1] at this
    omega
  rcases kinds (w k) with ⟨a, ha1, ha2, e⟩ | ⟨a, ha1, ha2, e⟩ | e | e | e | hx
  · have hin : 48 ≤ w k ∧ w k ≤ 57 := by
      rw [e]; exact ⟨(nI_leI (a := 48) (by decide) (by omega)).mpr (by omega), (nI_leI (b := 57) (by omega) (by decide)).mpr ha2⟩
    rw [if_pos hin, if_neg (by decide), if_pos trivial, e, evs_d ha1 ha2, show (48 : Int32) = nI 48 from rfl, pk_sub (by omega)]
    unfold f_X10_value_108 f_X10_value_297
    exact ⟨τ, rfl, hs, hS, hBF⟩
  · have hin : ¬ (48 ≤ w k ∧ w k ≤ 57) := by
      rw [e]; exact fun h => nle (b := 57) (by omega) (by decide) (by omega) h.2
    have hin2 : 97 ≤ w k ∧ w k ≤ 104 := by
      rw [e]; exact ⟨(nI_leI (a := 97) (by decide) (by omega)).mpr ha1, (nI_leI (b := 104) (by omega) (by decide)).mpr ha2⟩
    rw [if_neg hin, if_pos rfl, if_pos hin2, if_neg (by decide), gd_r (show d < 5 by omega) (by decide), gd_r (show d < 5 by omega) (by decide), e, evs_l ha1 ha2, show (97 : Int32) = nI 97 from rfl, pk_sub (by omega), bitI (by omega) (by omega), pk_mul, na_nI (n := d) (by omega), hS d (Nat.le_refl _), nI_add]
    simp only [nw]
    unfold f_X10_value_297
    refine ⟨_, rfl, eqv_wrr hs rfl (by decide), fun l hl => ?_, fun l hl => ?_⟩
    · dsimp only at hl ⊢
      rw [wr_at]
      by_cases hl2 : l = d
      · subst hl2; rw [if_pos ⟨rfl, rfl⟩, un_s]
      · rw [if_neg (fun h => hl2 h.2), un_n hl2]; exact hS l hl
    · rw [wr_at, wr_at, if_neg (fun h => absurd h.1 (by decide)), if_neg (fun h => absurd h.1 (by decide))]
      exact hBF l hl
  · have hd3 := h40 e
    have hin : ¬ (48 ≤ w k ∧ w k ≤ 57) := by rw [e]; decide
    have hin2 : ¬ (97 ≤ w k ∧ w k ≤ 104) := by rw [e]; decide
    rw [if_neg hin, if_pos rfl, if_neg hin2, if_pos rfl, e, if_pos rfl, nI_1 d, gd_r (show d < 5 by omega) (by decide)]
    simp only [nw]
    rw [gd_r (show d + 1 < 5 by omega) (by decide), gd_r (show d + 1 < 5 by omega) (by decide), na_nI (n := d) (by omega), na_nI (n := d + 1) (by omega), evs_o]
    unfold f_X10_value_297
    refine ⟨_, rfl, eqv_wrr (eqv_wrr (eqv_wrr hs rfl (by decide)) rfl (by decide)) rfl (by decide), fun l hl => ?_, fun l hl => ?_⟩
    · dsimp only at hl ⊢
      by_cases hl2 : l = d + 1
      · subst hl2; rw [un_s]; simp [wr_at]; rfl
      · rw [un_n hl2]; simp [wr_at, hl2]; exact hS l (by omega)
    · dsimp only at hl ⊢
      by_cases hl2 : l = d
      · subst hl2; rw [un_s, un_s]; exact ⟨by simp [wr_at]; rfl, by simp [wr_at]⟩
      · rw [un_n (by omega), un_n (by omega)]
        have := hBF l (by omega)
        exact ⟨by simp [wr_at, hl2]; exact this.1, by simp [wr_at, hl2]; exact this.2⟩
  · have hd1 := h41 (Or.inr e)
    have hin : ¬ (48 ≤ w k ∧ w k ≤ 57) := by rw [e]; decide
    have hin2 : ¬ (97 ≤ w k ∧ w k ≤ 104) := by rw [e]; decide
    obtain ⟨d, rfl⟩ : ∃ e, d = e + 1 := ⟨d - 1, by omega⟩
    have key : ∀ x, x = nI (max (B (d + 1)) (S (d + 1))) → ∃ τ', f_X10_value_226 (f_X10_value_25 n) (nI at9) (nI p) (nI (d + 1)) (nI f) 99 0 (nI (90 * at9 + k)) x (nI (d + 1)) τ = f_X10_value_25 n (nI at9) (nI p) (nI (evs p 124 (S, B, F, d + 1, f)).2.2.2.1) (nI (evs p 124 (S, B, F, d + 1, f)).2.2.2.2) 99 0 (nI (90 * at9 + k) + 1) τ' ∧ eqv σ τ' ∧ RM τ' (evs p 124 (S, B, F, d + 1, f)) := by
      intro x hx
      subst hx
      unfold f_X10_value_226 f_X10_value_297
      rw [gd_r (show d + 1 < 5 by omega) (by decide), na_nI (n := d + 1) (by omega)]
      simp only [nw]
      rw [gd_r (show d + 1 < 5 by omega) (by decide), evs_b]
      refine ⟨_, rfl, eqv_wrr (eqv_wrr hs rfl (by decide)) rfl (by decide), fun l hl => ?_, fun l hl => ?_⟩
      · dsimp only at hl ⊢
        by_cases hl2 : l = d + 1
        · subst hl2; rw [un_s]; simp [wr_at]; rfl
        · rw [un_n hl2]; simp [wr_at, hl2]; exact hS l hl
      · dsimp only at hl ⊢
        have := hBF l hl
        by_cases hl2 : l = d
        · subst hl2; rw [un_s]; exact ⟨by simp [wr_at], by simp [wr_at]; exact this.2⟩
        · rw [un_n (by omega)]; exact ⟨by simp [wr_at, hl2]; exact this.1, by simp [wr_at]; exact this.2⟩
    rw [if_neg hin, if_pos rfl, if_neg hin2, if_pos rfl, e, if_neg (by decide), if_pos rfl, gd_r (show d + 1 < 5 by omega) (by decide), gd_r (show d + 1 < 5 by omega) (by decide), na_nI (n := d + 1) (by omega), hS (d + 1) (Nat.le_refl _), (hBF d (by omega)).1]
    have b1 := hb (d + 1) (Nat.le_refl _)
    by_cases hc : S (d + 1) ≤ B (d + 1)
    · rw [if_pos ((nI_leI (by omega) (by omega)).mpr hc), gd_r (show d + 1 < 5 by omega) (by decide)]
      exact key _ (by congr 1; omega)
    · rw [if_neg (nle (by omega) (by omega) (by omega)), gd_r (show d + 1 < 5 by omega) (by decide)]
      exact key _ (by congr 1; omega)
  · have hd1 := h41 (Or.inl e)
    have hin : ¬ (48 ≤ w k ∧ w k ≤ 57) := by rw [e]; decide
    have hin2 : ¬ (97 ≤ w k ∧ w k ≤ 104) := by rw [e]; decide
    obtain ⟨d, rfl⟩ : ∃ e, d = e + 1 := ⟨d - 1, by omega⟩
    have key : ∀ x, x = nI (max (B (d + 1)) (S (d + 1))) → ∃ τ', f_X10_value_274 (f_X10_value_25 n) (nI at9) (nI p) (nI (d + 1)) (nI f) 99 0 (nI (90 * at9 + k)) x τ = f_X10_value_25 n (nI at9) (nI p) (nI (evs p 41 (S, B, F, d + 1, f)).2.2.2.1) (nI (evs p 41 (S, B, F, d + 1, f)).2.2.2.2) 99 0 (nI (90 * at9 + k) + 1) τ' ∧ eqv σ τ' ∧ RM τ' (evs p 41 (S, B, F, d + 1, f)) := by
      intro x hx
      subst hx
      unfold f_X10_value_274 f_X10_value_297
      rw [pk_m1, gd_r (show d < 5 by omega) (by decide), gd_r (show d < 5 by omega) (by decide), gd_r (show d < 5 by omega) (by decide), na_nI (n := d) (by omega), hS d (by omega), (hBF d (by omega)).2, pk_mul, nI_add, evs_c]
      simp only [nw]
      rw [Nat.add_sub_cancel]
      refine ⟨_, rfl, eqv_wrr hs rfl (by decide), fun l hl => ?_, fun l hl => ?_⟩
      · dsimp only at hl ⊢
        by_cases hl2 : l = d
        · subst hl2; rw [un_s]; simp [wr_at]
        · rw [un_n hl2, un_n (by omega)]; simp [wr_at, hl2]; exact hS l (by omega)
      · dsimp only at hl ⊢
        have := hBF l (by omega)
        rw [un_n (by omega)]; exact ⟨by simp [wr_at]; exact this.1, by simp [wr_at]; exact this.2⟩
    rw [if_neg hin, if_pos rfl, if_neg hin2, if_pos rfl, e, if_neg (by decide), if_neg (by decide), if_pos rfl, gd_r (show d + 1 < 5 by omega) (by decide), gd_r (show d + 1 < 5 by omega) (by decide), na_nI (n := d + 1) (by omega), hS (d + 1) (Nat.le_refl _), (hBF d (by omega)).1]
    have b1 := hb (d + 1) (Nat.le_refl _)
    by_cases hc : S (d + 1) ≤ B (d + 1)
    · rw [if_pos ((nI_leI (by omega) (by omega)).mpr hc), gd_r (show d + 1 < 5 by omega) (by decide)]
      exact key _ (by congr 1; omega)
    · rw [if_neg (nle (by omega) (by omega) (by omega)), gd_r (show d + 1 < 5 by omega) (by decide)]
      exact key _ (by congr 1; omega)
  · rw [if_neg (c48.mpr hx.1), if_pos rfl, if_neg hx.2.1, if_pos rfl, if_neg hx.2.2.1, if_neg hx.2.2.2.1, if_neg hx.2.2.2.2, evs_x hx]
    unfold f_X10_value_297
    exact ⟨τ, rfl, hs, hS, hBF⟩
