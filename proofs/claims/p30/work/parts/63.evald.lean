/-! PURE: the loops over a text, whole. By hand. -/
theorem minI {a b : Nat} (ha : a < 2 ^ 31) (hb : b < 2 ^ 31) : (if nI b < nI a then nI b else nI a) = nI (min a b) := by
  by_cases h : b < a
  · rw [if_pos ((nI_ltI hb ha).mpr h)]; congr 1; omega
  · rw [if_neg (nlt hb ha (by omega))]; congr 1; omega
theorem gd_r {β : Type} {r k : Nat} {x : Option β} (h : k < rlen r) (hr : r < 76) : gd (inb (nI k) (rlen r)) x = x := gd_n h (rl hr)
/-- a text that stands in a memory as the class keeps it: its body of m signs, then its end or '<' -/
def TC (σ : Mem) (at9 len m : Nat) (w : Nat → Int32) : Prop := at9 < 24 ∧ len ≤ 80 ∧ m ≤ len ∧ (∀ k, k < len → σ 32 (80 * at9 + k) = w k) ∧ WFb w m ∧ (m < len → w m = 60)
theorem c_run {σ : Mem} {p at9 len m : Nat} {w : Nat → Int32} (hT : TC σ at9 len m w) (hp : p < 256) {τ0 : Mem} (h0 : eqv σ τ0) (hR0 : RC τ0 (ev p w 0)) : ∀ j, j ≤ m → ∀ n, ∃ τ', f_X6_markBy_36 (n + j) (nI p) (nI at9) (nI len) (nI 0) (nI 1) (nI 0) τ0 = f_X6_markBy_36 n (nI p) (nI at9) (nI len) (nI (ev p w j).2.2.2.1) (nI (ev p w j).2.2.2.2) (nI j) τ' ∧ eqv σ τ' ∧ RC τ' (ev p w j) := by
  obtain ⟨hat, hlen, hml, hw, hWF, -⟩ := hT
  intro j
  induction j with
  | zero => intro _ n; exact ⟨τ0, rfl, h0, hR0⟩
  | succ j ih =>
    intro hj n
    obtain ⟨τ1, e1, s1, r1⟩ := ih (by omega) (n + 1)
    obtain ⟨w60, w48, w40, w41⟩ := hWF j (by omega)
    have hdl := dep_le hWF j (by omega)
    rw [← ev_dep p w j] at w40 w41 hdl
    obtain ⟨τ2, e2, s2, r2⟩ := c_step (n := n) s1 (hw j (by omega)) hat hlen (by omega) hp r1 w60 hdl w40 w41 (fun l hl => ev_small p hWF (by omega) (by omega) (by rw [← ev_dep p w j]; exact hl))
    refine ⟨τ2, ?_, s2, r2⟩
    rw [show n + (j + 1) = n + 1 + j by omega, e1, e2]
    rfl
theorem c_mark {σ : Mem} {p q v len m most : Nat} {w : Nat → Int32} (hq : q < 4) (hv : v < 6) (hT : TC σ (6 * q + v) len m w) (hp : p < 256) (h33 : σ 33 (6 * q + v) = nI len) (h35 : σ 35 (6 * q + v) = nI most) (hm : most ≤ 99) :
    ∃ u, f_X6_markBy (nI q) (nI v) (nI p) σ = some (nI (mk9 p w m most), u) ∧ eqv σ u := by
  unfold f_X6_markBy f_X6_begin
  simp only [nv, nw, bd]
  have e9 : nI q * 6 + nI v = nI (6 * q + v) := by rw [show (6 : Int32) = nI 6 from rfl, pk_mul, nI_add]; congr 1; omega
  have hat := hT.1
  rw [e9, rget_n (by show _ < 24; omega) (by decide), h33]
  rw [show rset 38 0 1 (rset 37 0 0 (rset 36 0 0 σ)) = wr (wr (wr σ 36 0 0) 37 0 0) 38 0 1 from by
    rw [show (0 : Int32) = nI 0 from rfl, rset_n (by decide) (by decide), rset_n (by decide) (by decide), rset_n (by decide) (by decide)]]
  have h0 : eqv σ (wr (wr (wr σ 36 0 0) 37 0 0) 38 0 1) := eqv_wrr (eqv_wrr (eqv_wrr eqv.rfl rfl (by decide)) rfl (by decide)) rfl (by decide)
  obtain ⟨n, hn⟩ : ∃ n, FUEL = n + 1 + m := ⟨FUEL - 1 - m, by have := hT.2.1; have := hT.2.2.1; unfold FUEL; omega⟩
  obtain ⟨τ1, e1, s1, r1⟩ := c_run hT hp h0 (fun l hl => by
    have : l = 0 := by have : l ≤ 0 := hl
                       omega
    subst this
    exact ⟨by simp [wr_at]; rfl, by simp [wr_at]; rfl, by simp [wr_at]; rfl⟩) m (Nat.le_refl _) (n + 1)
  rw [← hn] at e1
  have key : f_X6_markBy_210 (nI (6 * q + v)) τ1 = some (nI (mk9 p w m most), τ1) := by
    unfold f_X6_markBy_210 mk9
    have hs := (ev_small p hT.2.2.2.2.1 (by have := hT.2.1; have := hT.2.2.1; omega) (Nat.le_refl m) (Nat.zero_le _)).1
    have r0 : rget 36 0 τ1 = nI ((ev p w m).1 0) := by
      rw [show (0 : Int32) = nI 0 from rfl, rget_n (by decide) (by decide)]
      exact (r1 0 (Nat.zero_le _)).1
    rw [rget_n (by show _ < 24; omega) (by decide), s1.at rfl, h35, r0, minI (by omega) (by omega)]
  refine ⟨τ1, Eq.trans e1 ?_, s1⟩
  rw [f_X6_markBy_36]
  by_cases hl : len ≤ m
  · rw [if_pos ((nI_leI (by have := hT.2.1; omega) (by have := hT.2.1; have := hT.2.2.1; omega)).mpr hl)]
    exact key
  · rw [if_neg (nle (by have := hT.2.1; omega) (by have := hT.2.1; have := hT.2.2.1; omega) (by omega))]
    simp only [nv]
    have hrd : rget 32 ((nI (6 * q + v)) * (80) + (nI m)) τ1 = 60 := by
      rw [show (80 : Int32) = nI 80 from rfl, pk_mul, nI_add, rget_n (by show _ < 1920; have := hT.2.1; have := hT.2.2.1; omega) (by decide), s1.at rfl, show (6 * q + v) * 80 + m = 80 * (6 * q + v) + m by omega, hT.2.2.2.1 m (by omega)]
      exact hT.2.2.2.2.2 (by omega)
    rw [hrd, if_pos rfl]
    exact key
/-- what stands behind a body: nothing, or '<' and a number of one or two digits; the most that it says -/
def Tl (w : Nat → Int32) (m len most : Nat) : Prop := (len = m ∧ most = 99) ∨ (∃ a, a ≤ 9 ∧ len = m + 2 ∧ w m = 60 ∧ w (m + 1) = nI (48 + a) ∧ most = a) ∨ (∃ a b, a ≤ 9 ∧ b ≤ 9 ∧ len = m + 3 ∧ w m = 60 ∧ w (m + 1) = nI (48 + a) ∧ w (m + 2) = nI (48 + b) ∧ most = 10 * a + b)
theorem Tl.most {w : Nat → Int32} {m len most : Nat} (h : Tl w m len most) : most ≤ 99 := by
  rcases h with ⟨-, h⟩ | ⟨a, ha, -, -, -, h⟩ | ⟨a, b, ha, hb, -, -, -, -, h⟩ <;> omega
theorem Tl.lt {w : Nat → Int32} {m len most : Nat} (h : Tl w m len most) : m ≤ len ∧ (m < len → w m = 60) := by
  rcases h with ⟨h, -⟩ | ⟨a, -, h, h2, -, -⟩ | ⟨a, b, -, -, h, h2, -, -, -⟩
  · exact ⟨by omega, fun h2 => by omega⟩
  · exact ⟨by omega, fun _ => h2⟩
  · exact ⟨by omega, fun _ => h2⟩
theorem mk9_le {p m most : Nat} {w : Nat → Int32} (h : most ≤ 99) : mk9 p w m most ≤ 99 := by unfold mk9; omega
