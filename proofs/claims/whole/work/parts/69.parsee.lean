/-! PURE: the reference reads a line through, to its end. By hand. -/
theorem m_stop {τ : Mem} {s : PS} {m N : Nat} (hP : PI s m) (hm : m ≤ 40) (h23 : τ 76 23 = nI m) : f_X10_reads_9 (N + 1) (nI (fin9 s).1) (nI s.2.1) (nI s.1) (nI m) τ = some (if whl s then nI (fin9 s).1 else -1 - nI m, τ) := by
  obtain ⟨h9, o, n, w, a, b⟩ := s
  have p1 : h9 ≤ 5 := hP.1
  have p3 : o ≤ 4 := hP.2.2.1
  dsimp only
  generalize (fin9 (h9, o, n, w, a, b)).1 = L
  have u0 : f_X10_reads_9 (N + 1) (nI L) (nI o) (nI h9) (nI m) τ = (if nI h9 = 2 then (if nI o = 0 then some (nI L, τ) else f_X10_reads_347 (nI L) (nI h9) τ) else f_X10_reads_347 (nI L) (nI h9) τ) := by
    show (if τ 76 23 ≤ nI m then _ else _) = _
    rw [h23, if_pos (nI_le (Nat.le_refl m) (by omega))]
    rfl
  have u1 : f_X10_reads_347 (nI L) (nI h9) τ = if h9 ≤ 3 then some (-1 - nI m, τ) else some (nI L, τ) := by
    unfold f_X10_reads_347
    rw [h23]
    by_cases e : h9 ≤ 3
    · rw [if_pos e, if_pos (show nI h9 ≤ (3 : Int32) from (nI_leI (b := 3) (by omega) (by decide)).mpr e)]; rfl
    · rw [if_neg e, if_neg (show ¬ nI h9 ≤ (3 : Int32) from nle (b := 3) (by omega) (by decide) (by omega))]; rfl
  rw [u0, u1]
  by_cases e2 : h9 = 2
  · rw [if_pos (show nI h9 = (2 : Int32) by rw [e2]; rfl)]
    by_cases eo : o = 0
    · rw [if_pos (show nI o = (0 : Int32) by rw [eo]; rfl), if_pos (Or.inl ⟨e2, eo⟩)]
    · rw [if_neg (show ¬ nI o = (0 : Int32) from nne (b := 0) (by omega) (by decide) eo), if_pos (by omega), if_neg (fun h => h.elim (fun h => eo h.2) (fun h => by omega))]
  · rw [if_neg (show ¬ nI h9 = (2 : Int32) from nne (b := 2) (by omega) (by decide) e2)]
    by_cases e4 : 4 ≤ h9
    · rw [if_neg (by omega), if_pos (Or.inr e4)]
    · rw [if_pos (by omega), if_neg (fun h => h.elim (fun h => e2 h.1) (fun h => e4 h))]
theorem m_line {σ : Mem} {m : Nat} (hm : m ≤ 40) (h23 : σ 76 23 = nI m) : ∀ d k, k + d = m → ∀ s τ, pst (σ 43) k = some s → RMM τ s → eqv σ τ → ∀ n,
    (∃ j u, k ≤ j ∧ j < m ∧ (∃ s', pst (σ 43) j = some s') ∧ pst (σ 43) (j + 1) = none ∧ f_X10_reads_9 (n + d + 1) (nI (fin9 s).1) (nI s.2.1) (nI s.1) (nI k) τ = some (-1 - nI j, u) ∧ eqv σ u) ∨
    (∃ s' u, pst (σ 43) m = some s' ∧ eqv σ u ∧ f_X10_reads_9 (n + d + 1) (nI (fin9 s).1) (nI s.2.1) (nI s.1) (nI k) τ = some (if whl s' then nI (fin9 s').1 else -1 - nI m, u) ∧ RMM u s') := by
  intro d
  induction d with
  | zero =>
    intro k hk s τ hp hR hs n
    have hk' : k = m := by omega
    subst hk'
    right
    exact ⟨s, τ, hp, hs, m_stop (P_pst k s hp).1 hm (by rw [hs.at rfl]; exact h23), hR⟩
  | succ d ih =>
    intro k hk s τ hp hR hs n
    obtain ⟨q1, q2⟩ := P_pst k s hp
    rcases m_takes (N := n + d + 1) (c := σ 43 k) hs q1 q2 (show k < m by omega) hm h23 rfl hR with ⟨s', τ', g1, g2, g3, g4⟩ | ⟨g1, τ', g2, g3⟩
    · rw [show n + (d + 1) + 1 = n + d + 1 + 1 by omega, g2]
      rcases ih (k + 1) (by omega) s' τ' (by rw [pst_s hp]; exact g1) g4 g3 n with ⟨j, u, a1, a2, a3⟩ | hh
      · exact Or.inl ⟨j, u, by omega, a2, a3⟩
      · exact Or.inr hh
    · rw [show n + (d + 1) + 1 = n + d + 1 + 1 by omega, g2]
      exact Or.inl ⟨k, τ', by omega, by omega, ⟨s, hp⟩, by rw [pst_s hp]; exact g1, rfl, g3⟩
theorem m_reads {σ : Mem} {m : Nat} (hm : m ≤ 40) (h23 : σ 76 23 = nI m) :
    (∃ j u, j < m ∧ (∃ s', pst (σ 43) j = some s') ∧ pst (σ 43) (j + 1) = none ∧ f_X10_reads σ = some (-1 - nI j, u) ∧ eqv σ u) ∨
    (∃ s' u, pst (σ 43) m = some s' ∧ eqv σ u ∧ f_X10_reads σ = some (if whl s' then nI (fin9 s').1 else -1 - nI m, u) ∧ RMM u s') := by
  obtain ⟨N, hN⟩ : ∃ N, FUEL = N + m + 1 := ⟨99999 - m, by unfold FUEL; omega⟩
  unfold f_X10_reads
  rw [hN]
  rcases m_line hm h23 m 0 (by omega) (0, 0, 0, fun _ => 0, 0, 0) σ rfl (fun j hj => absurd hj (Nat.not_lt_zero j)) eqv.rfl N with ⟨j, u, a1, a2, a3⟩ | hh
  · exact Or.inl ⟨j, u, a2, a3⟩
  · exact Or.inr hh
theorem pst_cong {l l' : Nat → Int32} : ∀ k, (∀ j, j < k → l j = l' j) → pst l k = pst l' k := by
  intro k
  induction k with
  | zero => intro _; rfl
  | succ k ih =>
    intro h
    show (pst l k).bind (pstep (l k)) = (pst l' k).bind (pstep (l' k))
    rw [ih (fun j hj => h j (by omega)), h k (by omega)]
theorem pst_lt {l : Nat → Int32} {i : Nat} (h : pst l i = none) : ∀ k, i ≤ k → pst l k = none := by
  intro k hk
  induction k with
  | zero => rw [show i = 0 by omega] at h; exact h
  | succ k ih =>
    by_cases e : i = k + 1
    · subst e; exact h
    · show (pst l k).bind _ = none
      rw [ih (by omega)]; rfl
/-- both at once: a fault at a place, or the whole line is a scheme, with its signs -/
theorem both_line {σ u0 : Mem} {m : Nat} (hm : m ≤ 40) (h5 : σ 76 5 = nI m) (h23 : u0 76 23 = nI m) (hl : ∀ j, j < m → σ 1 j = u0 43 j) :
    (∃ j u u2, j ≤ m ∧ f_X0_faultOf σ = some (nI j, u) ∧ eqv σ u ∧ f_X10_reads u0 = some (-1 - nI j, u2) ∧ eqv u0 u2) ∨
    (∃ s u u2, pst (σ 1) m = some s ∧ whl s ∧ PI s m ∧ PN s m ∧ f_X0_faultOf σ = some (-1, u) ∧ eqv σ u ∧ RDe u s ∧ f_X10_reads u0 = some (nI (fin9 s).1, u2) ∧ eqv u0 u2 ∧ RMM u2 s) := by
  have hc : ∀ k, k ≤ m → pst (σ 1) k = pst (u0 43) k := fun k hk => pst_cong k (fun j hj => hl j (by omega))
  rcases c_fault hm h5 with ⟨j, u, a1, ⟨s1, a2⟩, a3, a4, a5⟩ | ⟨s, u, a1, a2, a3⟩
  · rcases m_reads hm h23 with ⟨i, u2, b1, ⟨s2, b2⟩, b3, b4, b5⟩ | ⟨s2, u2, b1, b2, b3, b4⟩
    · rw [← hc _ (by omega)] at b2 b3
      have e : i = j := by
        by_cases h1 : i < j
        · have := pst_lt b3 j (by omega); rw [a2] at this; cases this
        · by_cases h2 : j < i
          · have := pst_lt a3 i (by omega); rw [b2] at this; cases this
          · omega
      subst e
      exact Or.inl ⟨i, u, u2, by omega, a4, a5, b4, b5⟩
    · rw [← hc _ (Nat.le_refl m), pst_lt a3 m (by omega)] at b1
      cases b1
  · rcases m_reads hm h23 with ⟨i, u2, b1, ⟨s2, b2⟩, b3, b4, b5⟩ | ⟨s2, u2, b1, b2, b3, b4⟩
    · rw [← hc _ (by omega)] at b3
      rw [pst_lt b3 m (by omega)] at a1
      cases a1
    · rw [← hc _ (Nat.le_refl m), a1] at b1
      cases b1
      rcases a3 with ⟨w1, w2, w3⟩ | ⟨w1, w2⟩
      · rw [if_pos w1] at b3
        exact Or.inr ⟨s, u, u2, a1, w1, (P_pst m s a1).1, (P_pst m s a1).2, w2, a2, w3, b3, b2, b4⟩
      · rw [if_neg w1] at b3
        exact Or.inl ⟨m, u, u2, Nat.le_refl m, w2, a2, b3, b2⟩
