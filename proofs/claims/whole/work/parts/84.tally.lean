/-! PURE: the class's tally over the readings of an answer. By hand. -/
theorem tk_p {w : Int32} {sen ap : Nat} {t : TS} : (tk w sen ap t).2.2.1 ≤ t.2.2.1 + 1 := by
  obtain ⟨n, c, p, f, e, h, a⟩ := t
  unfold tk
  dsimp only
  by_cases w1 : w = -1
  · rw [if_pos w1]; exact Nat.le_succ p
  · rw [if_neg w1]
    by_cases a0 : ap = 0
    · rw [if_pos a0]; exact Nat.le_refl _
    · rw [if_neg a0]; exact Nat.le_succ p
def A.tf (s : A) (t : TS) (k : Nat) : TS := tk (s.worth k) (s.sen (s.rby k)) (s.apr k) t
theorem c_tally {σ : Mem} {s : A} (hW : WF s) (h4 : RC4 σ s) (h6 : RC6 σ s) {N : Nat} (hN : N < 1000) : ∀ (l : List Nat) (i : Nat) (cur : Int32) (t : TS) (τ : Mem), i + l.length = N → (∀ k, l.head? = some k → cur = nI k) → lnk (σ 9) l → (∀ k, k ∈ l → k < s.n) → eqv σ τ → RT τ t → t.2.2.1 + l.length < 1000 → ∀ M, ∃ u, f_X9_tallyUp_42 (M + l.length + 1) (nI N) cur (nI i) τ = some (0, u) ∧ eqv σ u ∧ RT u (l.foldl s.tf t) := by
  intro l
  induction l with
  | nil =>
    intro i cur t τ hi _ _ _ hs hR _ M
    have e : i = N := by simpa using hi
    subst e
    refine ⟨τ, ?_, hs, hR⟩
    show (if nI i ≤ nI i then _ else _) = _
    rw [if_pos (nI_le (Nat.le_refl _) (by omega))]
  | cons a l ih =>
    intro i cur t τ hi hc hl hm hs hR hp M
    have hn := hW.n
    have hRR := hW.R
    have ea : cur = nI a := hc a rfl
    have han : a < s.n := hm a (List.mem_cons_self ..)
    obtain ⟨c1, c2, c3, c4, c5, c6⟩ := h6.2.1 a han
    have hb := hW.rby a han
    have hsn := hW.sen _ hb
    have hap := hW.apr a han
    rw [List.length_cons] at hi hp
    obtain ⟨u1, d1, d2, d3⟩ := c_take (w := s.worth a) hs hR (by omega) hsn hap
    have nx : ∀ k, l.head? = some k → u1 9 a = nI k := by
      intro k hk
      rw [d2.at rfl]
      cases l with
      | nil => cases hk
      | cons b l' => cases hk; exact hl.1
    have hl' : lnk (σ 9) l := by
      cases l with
      | nil => exact trivial
      | cons b l' => exact hl.2
    have tp := tk_p (w := s.worth a) (sen := s.sen (s.rby a)) (ap := s.apr a) (t := t)
    obtain ⟨u2, e1, e2, e3⟩ := ih (i + 1) (u1 9 a) (s.tf t a) u1 (by omega) nx hl' (fun k hk => hm k (List.mem_cons_of_mem _ hk)) d2 d3 (by unfold A.tf; omega) M
    refine ⟨u2, ?_, e2, e3⟩
    rw [List.length_cons, ea]
    show (if nI N ≤ nI i then _ else _) = _
    rw [if_neg (nle (by omega) (by omega) (by omega)), rget_n (show a < 300 by omega) (by decide), rget_n (show a < 300 by omega) (by decide), ris_n (show a < 300 by omega) (by decide), hs.at rfl, hs.at rfl, hs.at rfl, c2, ris_n (show s.rby a < 6 by omega) (by decide), hs.at rfl, (h4.2.1 _ hb).2.2.1, ris_b hsn, c5, ris_b hap, c6, d1, bd_some, rget_n (show a < 300 by omega) (by decide)]
    simp only [nv]
    rw [nI_1]
    exact e1
