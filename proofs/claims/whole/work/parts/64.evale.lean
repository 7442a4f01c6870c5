/-! PURE: the reference's mark of a text. By hand. -/
/-- what stands behind a body: nothing, or '<' and a number of one or two digits; the most that it says -/
def Tl (w : Nat → Int32) (m len most : Nat) : Prop := (len = m ∧ most = 99) ∨ (∃ a, a ≤ 9 ∧ len = m + 2 ∧ w m = 60 ∧ w (m + 1) = nI (48 + a) ∧ most = a) ∨ (∃ a b, a ≤ 9 ∧ b ≤ 9 ∧ len = m + 3 ∧ w m = 60 ∧ w (m + 1) = nI (48 + a) ∧ w (m + 2) = nI (48 + b) ∧ most = 10 * a + b)
theorem Tl.most {w : Nat → Int32} {m len most : Nat} (h : Tl w m len most) : most ≤ 99 := by
  rcases h with ⟨-, h⟩ | ⟨a, ha, -, -, -, h⟩ | ⟨a, b, ha, hb, -, -, -, -, h⟩ <;> omega
theorem Tl.lt {w : Nat → Int32} {m len most : Nat} (h : Tl w m len most) : m ≤ len ∧ (m < len → w m = 60) := by
  rcases h with ⟨h, -⟩ | ⟨a, -, h, h2, -, -⟩ | ⟨a, b, -, -, h, h2, -, -, -⟩
  · exact ⟨by omega, fun h2 => by omega⟩
  · exact ⟨by omega, fun _ => h2⟩
  · exact ⟨by omega, fun _ => h2⟩
def TM (σ : Mem) (at9 len m most : Nat) (w : Nat → Int32) : Prop := at9 < 24 ∧ len ≤ 80 ∧ (∀ k, k < len → σ 52 (90 * at9 + k) = w k ∧ w k ≠ 0) ∧ (∀ k, len ≤ k → k < 90 → σ 52 (90 * at9 + k) = 0) ∧ WFb w m ∧ Tl w m len most
theorem m_run {σ : Mem} {p at9 len m most : Nat} {w : Nat → Int32} (hT : TM σ at9 len m most w) (hp : p < 256) {τ0 : Mem} (h0 : eqv σ τ0) (hR0 : RM τ0 (ev p w 0)) : ∀ j, j ≤ m → ∀ n, ∃ τ', f_X10_value_25 (n + j) (nI at9) (nI p) (nI 0) (nI 1) 99 0 (nI (90 * at9 + 0)) τ0 = f_X10_value_25 n (nI at9) (nI p) (nI (ev p w j).2.2.2.1) (nI (ev p w j).2.2.2.2) 99 0 (nI (90 * at9 + j)) τ' ∧ eqv σ τ' ∧ RM τ' (ev p w j) := by
  obtain ⟨hat, hlen, hw, hz, hWF, hTl⟩ := hT
  have hml := hTl.lt.1
  intro j
  induction j with
  | zero => intro _ n; exact ⟨τ0, rfl, h0, hR0⟩
  | succ j ih =>
    intro hj n
    obtain ⟨τ1, e1, s1, r1⟩ := ih (by omega) (n + 1)
    obtain ⟨w60, w48, w40, w41⟩ := hWF j (by omega)
    have hdl := dep_le hWF j (by omega)
    rw [← ev_dep p w j] at w40 w41 hdl
    obtain ⟨τ2, e2, s2, r2⟩ := m_step (n := n) s1 (hw j (by omega)).1 hat (by omega) hp r1 w60 w48 (hw j (by omega)).2 hdl w40 w41 (fun l hl => ev_small p hWF (by omega) (by omega) (by rw [← ev_dep p w j]; exact hl))
    refine ⟨τ2, ?_, s2, r2⟩
    rw [show n + (j + 1) = n + 1 + j by omega, e1, e2]
    rfl
theorem m_fin {τ : Mem} {s most : Nat} (h : τ 72 0 = nI s) (hs : s < 2 ^ 30) (hm : most ≤ 99) : f_X10_value_303 (nI most) τ = some (nI (min s most), τ) := by
  unfold f_X10_value_303 f_X10_value_325
  rw [show (0 : Int32) = nI 0 from rfl, gd_r (show 0 < 5 by decide) (by decide), gd_r (show 0 < 5 by decide) (by decide), na_nI (n := 0) (by decide), h]
  by_cases hc : most ≤ s
  · rw [if_pos ((nI_leI (by omega) (by omega)).mpr hc)]; congr 3; omega
  · rw [if_neg (nle (by omega) (by omega) (by omega))]; congr 3; omega
theorem m_end {τ : Mem} {at9 k n : Nat} {v2 v3 v4 v5 v6 : Int32} (hat : at9 < 24) (hk : k < 90) (h : τ 52 (90 * at9 + k) = 0) : f_X10_value_25 (n + 1) (nI at9) v2 v3 v4 v5 v6 (nI (90 * at9 + k)) τ = f_X10_value_303 v5 τ := by
  have e90 : (90 : Int32) * (nI at9 + 1) = nI (90 * (at9 + 1)) := by rw [nI_1, show (90 : Int32) = nI 90 from rfl, pk_mul]
  rw [f_X10_value_25, e90, if_neg (nle (by omega) (by omega) (by omega)), gd_r (show 90 * at9 + k < 2160 by omega) (by decide), na_nI (n := 90 * at9 + k) (by omega), h, if_pos rfl]
theorem m_lt {τ : Mem} {at9 k n : Nat} {v2 v3 v4 v5 v6 : Int32} (hat : at9 < 24) (hk : k < 90) (h : τ 52 (90 * at9 + k) = 60) : f_X10_value_25 (n + 1) (nI at9) v2 v3 v4 v5 v6 (nI (90 * at9 + k)) τ = f_X10_value_25 n (nI at9) v2 v3 v4 0 1 (nI (90 * at9 + (k + 1))) τ := by
  have e90 : (90 : Int32) * (nI at9 + 1) = nI (90 * (at9 + 1)) := by rw [nI_1, show (90 : Int32) = nI 90 from rfl, pk_mul]
  rw [f_X10_value_25, e90, if_neg (nle (by omega) (by omega) (by omega)), gd_r (show 90 * at9 + k < 2160 by omega) (by decide), na_nI (n := 90 * at9 + k) (by omega), h, if_neg (by decide), gd_r (show 90 * at9 + k < 2160 by omega) (by decide)]
  simp only [nv]
  rw [if_pos trivial, show nI (90 * at9 + (k + 1)) = nI (90 * at9 + k) + 1 from (nI_1 _).symm]
  rfl
theorem m_dig {τ : Mem} {at9 k n a b : Nat} {v2 v3 v4 : Int32} (hat : at9 < 24) (hk : k < 90) (ha : a ≤ 9) (h : τ 52 (90 * at9 + k) = nI (48 + a)) : f_X10_value_25 (n + 1) (nI at9) v2 v3 v4 (nI b) 1 (nI (90 * at9 + k)) τ = f_X10_value_25 n (nI at9) v2 v3 (nI a) (nI (10 * b + a)) 1 (nI (90 * at9 + (k + 1))) τ := by
  have e90 : (90 : Int32) * (nI at9 + 1) = nI (90 * (at9 + 1)) := by rw [nI_1, show (90 : Int32) = nI 90 from rfl, pk_mul]
  rw [f_X10_value_25, e90, if_neg (nle (by omega) (by omega) (by omega)), gd_r (show 90 * at9 + k < 2160 by omega) (by decide), na_nI (n := 90 * at9 + k) (by omega), h, if_neg (show ¬ nI (48 + a) = (0 : Int32) from nne (b := 0) (by omega) (by decide) (by omega)), gd_r (show 90 * at9 + k < 2160 by omega) (by decide)]
  simp only [nv]
  have hin : 48 ≤ nI (48 + a) ∧ nI (48 + a) ≤ 57 := ⟨(nI_leI (a := 48) (by decide) (by omega)).mpr (by omega), (nI_leI (b := 57) (by omega) (by decide)).mpr (by omega)⟩
  rw [if_neg (show ¬ nI (48 + a) = (60 : Int32) from nne (b := 60) (by omega) (by decide) (by omega)), m_in, bd_some, if_pos hin, if_neg (by decide), if_neg (by decide), show nI (90 * at9 + (k + 1)) = nI (90 * at9 + k) + 1 from (nI_1 _).symm, show (48 : Int32) = nI 48 from rfl, pk_sub (by omega), show (10 : Int32) = nI 10 from rfl, pk_mul, nI_add, Nat.add_sub_cancel_left]
  rfl
theorem m_value {σ : Mem} {p at9 len m most : Nat} {w : Nat → Int32} (hT : TM σ at9 len m most w) (hp : p < 256) : ∃ u, f_X10_value (nI at9) (nI p) σ = some (nI (mk9 p w m most), u) ∧ eqv σ u := by
  obtain ⟨hat, hlen, hw, hz, hWF, hTl⟩ := id hT
  have hml := hTl.lt.1
  have hm80 : m ≤ 80 := by omega
  unfold f_X10_value
  rw [show (0 : Int32) = nI 0 from rfl, gd_r (show 0 < 5 by decide) (by decide), na_nI (n := 0) (by decide), show (90 : Int32) = nI 90 from rfl, pk_mul]
  simp only [nv, nw]
  have h0 : eqv σ (wr σ 72 0 (nI 0)) := eqv_wrr eqv.rfl rfl (by decide)
  obtain ⟨n, hn⟩ : ∃ n, FUEL = n + 4 + m := ⟨FUEL - 4 - m, by unfold FUEL; omega⟩
  obtain ⟨τ1, e1, s1, r1⟩ := m_run hT hp h0 ⟨fun l hl => by
    have : l = 0 := by have : l ≤ 0 := hl
                       omega
    subst this
    simp [wr_at]; rfl, fun l hl => absurd hl (Nat.not_lt_zero _)⟩ m (Nat.le_refl _) (n + 4)
  rw [← hn] at e1
  refine ⟨τ1, Eq.trans e1 ?_, s1⟩
  have hs := (ev_small p hWF hm80 (Nat.le_refl m) (Nat.zero_le _)).1
  have r0 := r1.1 0 (Nat.zero_le _)
  unfold mk9
  have hmo := hTl.most
  rcases hTl with ⟨e, hq⟩ | ⟨a, ha, e, h60, hd, hq⟩ | ⟨a, b, ha, hb, e, h60, hd, hd2, hq⟩
  · rw [m_end hat (by omega) (by rw [s1.at rfl]; exact hz m (by omega) (by omega)), hq]
    exact m_fin r0 (by omega) (Nat.le_refl _)
  · rw [m_lt hat (by omega) (by rw [s1.at rfl, (hw m (by omega)).1]; exact h60)]
    have := m_dig (τ := τ1) (at9 := at9) (k := m + 1) (n := n + 2) (a := a) (b := 0) (v2 := nI p) (v3 := nI (ev p w m).2.2.2.1) (v4 := nI (ev p w m).2.2.2.2) hat (by omega) ha (by rw [s1.at rfl, (hw (m + 1) (by omega)).1]; exact hd)
    refine Eq.trans this ?_
    rw [m_end hat (by omega) (by rw [s1.at rfl]; exact hz _ (by omega) (by omega)), show 10 * 0 + a = most by omega]
    exact m_fin r0 (by omega) (by omega)
  · rw [m_lt hat (by omega) (by rw [s1.at rfl, (hw m (by omega)).1]; exact h60)]
    have := m_dig (τ := τ1) (at9 := at9) (k := m + 1) (n := n + 2) (a := a) (b := 0) (v2 := nI p) (v3 := nI (ev p w m).2.2.2.1) (v4 := nI (ev p w m).2.2.2.2) hat (by omega) ha (by rw [s1.at rfl, (hw (m + 1) (by omega)).1]; exact hd)
    refine Eq.trans this ?_
    rw [m_dig hat (by omega) hb (by rw [s1.at rfl, (hw (m + 2) (by omega)).1]; exact hd2), m_end hat (by omega) (by rw [s1.at rfl]; exact hz _ (by omega) (by omega)), show 10 * (10 * 0 + a) + b = most by omega]
    exact m_fin r0 (by omega) (by omega)
/-- the letters of a text, as bits: what isn't among them doesn't matter -/
theorem ev_mask {w : Nat → Int32} {m p q : Nat} (h : ∀ k a, k < m → 97 ≤ a → a ≤ 104 → w k = nI a → p / 2 ^ (a - 97) % 2 = q / 2 ^ (a - 97) % 2) : ∀ k, k ≤ m → ev p w k = ev q w k := by
  intro k
  induction k with
  | zero => intro _; rfl
  | succ k ih =>
    intro hk
    show evs p (w k) (ev p w k) = evs q (w k) (ev q w k)
    rw [ih (by omega)]
    rcases kinds (w k) with ⟨a, ha1, ha2, e⟩ | ⟨a, ha1, ha2, e⟩ | e | e | e | hx
    · rw [e, evs_d ha1 ha2, evs_d ha1 ha2]
    · rw [e, evs_l ha1 ha2, evs_l ha1 ha2, h k a (by omega) ha1 ha2 e]
    · rw [e, evs_o, evs_o]
    · rw [e, evs_b, evs_b]
    · rw [e, evs_c, evs_c]
    · rw [evs_x hx, evs_x hx]
theorem mk9_le {p m most : Nat} {w : Nat → Int32} (h : most ≤ 99) : mk9 p w m most ≤ 99 := by unfold mk9; omega
