/-! PURE: the reference reads a line through. By hand. -/
def RMM (τ : Mem) (s : PS) : Prop := ∀ j, j < (fin9 s).1 → τ 75 j = (fin9 s).2 j
theorem fin9_3 {h o n a b : Nat} {w : Nat → Int32} (hh : h ≤ 3) : fin9 (h, o, n, w, a, b) = (n, w) := by
  unfold fin9
  dsimp only
  rw [if_neg (by omega), if_neg (by omega)]
theorem app75 {τ : Mem} {n : Nat} {w : Nat → Int32} {c : Int32} (h : ∀ j, j < n → τ 75 j = w j) : ∀ j, j < n + 1 → wr τ 75 n c 75 j = app w n c j := by
  intro j hj
  rw [wr_at]
  by_cases e : j = n
  · subst e; rw [if_pos ⟨rfl, rfl⟩, app_s]
  · rw [if_neg (fun h => e h.2), app_n e]; exact h j (by omega)
section
variable {K : Int32 → Int32 → Int32 → Int32 → Mem → Option (Int32 × Mem)} {v1 v2 v3 v4 c D : Int32} {τ : Mem}
theorem g59 (h : 2 ≤ v3 ∨ c ≠ 40 ∨ 4 ≤ v2) : f_X10_reads_59 K v1 v2 v3 v4 c D τ = f_X10_reads_138 K v1 v2 v3 v4 c D τ := by
  unfold f_X10_reads_59
  by_cases h1 : 2 ≤ v3
  · rw [if_pos h1]
  · rw [if_neg h1]
    by_cases h2 : c = 40
    · rw [if_pos h2, if_pos (by rcases h with h | h | h; exact absurd h h1; exact absurd h2 h; exact h)]
    · rw [if_neg h2]
theorem g231 (h : v3 ≠ 2) : f_X10_reads_231 K v1 v2 v3 v4 c D τ = f_X10_reads_264 K v1 v2 v3 v4 c D τ := by
  unfold f_X10_reads_231
  rw [if_neg h]
theorem g170 (h : v3 ≠ 2) : f_X10_reads_170 K v1 v2 v3 v4 c D τ = f_X10_reads_264 K v1 v2 v3 v4 c D τ := by
  unfold f_X10_reads_170
  rw [if_neg h, g231 h]
theorem g264 (h : (v3 ≠ 3 ∧ v3 ≠ 4) ∨ D = 0) : f_X10_reads_264 K v1 v2 v3 v4 c D τ = some (-1 - v4, τ) := by
  unfold f_X10_reads_264 f_X10_reads_274
  by_cases h3 : v3 = 3
  · have hD : D = 0 := h.elim (fun h => absurd h3 h.1) id
    rw [if_pos h3, if_pos hD]
    by_cases h4 : v3 = 4
    · rw [if_pos h4, if_pos hD]; rfl
    · rw [if_neg h4]; rfl
  · rw [if_neg h3]
    by_cases h4 : v3 = 4
    · rw [if_pos h4, if_pos (h.elim (fun h => absurd h4 h.2) id)]; rfl
    · rw [if_neg h4]; rfl
theorem g138 (h : v3 ≠ 0 ∨ D = 0 ∨ c = 48) : f_X10_reads_138 K v1 v2 v3 v4 c D τ = f_X10_reads_170 K v1 v2 v3 v4 c D τ := by
  unfold f_X10_reads_138
  by_cases h0 : v3 = 0
  · rw [if_pos h0]
    by_cases hD : D = 0
    · rw [if_pos hD]
    · rw [if_neg hD, if_pos (by rcases h with h | h | h; exact absurd h0 h; exact absurd h hD; exact h)]
  · rw [if_neg h0]
theorem g204 {n : Nat} (hn : n < 90) : f_X10_reads_204 K (nI n) v2 v4 c τ = K (nI (n + 1)) v2 (if c = 60 then 3 else 0) (v4 + 1) (wr τ 75 n c) := by
  unfold f_X10_reads_204
  rw [gd_r (show n < 90 from hn) (by decide), na_nI (by omega)]
  simp only [nw]
  rw [nI_1]
  by_cases h : c = 60
  · rw [if_pos h, if_pos h]; rfl
  · rw [if_neg h, if_neg h]; rfl
theorem g76 {n e : Nat} (hn : n + e < 90) (he : e ≤ 1) (h3 : v3 = if e = 1 then 0 else 1) : f_X10_reads_76 K (nI n) v2 v3 v4 c τ = K (nI (n + e + 1)) (v2 + if c = 40 then 1 else 0) (if c = 40 then 0 else 2) (v4 + 1) (wr (wr τ 75 n 49) 75 (n + e) c) := by
  unfold f_X10_reads_76
  rw [gd_r (show n < 90 by omega) (by decide), na_nI (by omega)]
  simp only [nw]
  have k94 : ∀ s0 : Int32, s0 = nI e → f_X10_reads_94 K v2 v4 c s0 (nI n) (wr τ 75 n 49) = K (nI (n + e + 1)) (v2 + if c = 40 then 1 else 0) (if c = 40 then 0 else 2) (v4 + 1) (wr (wr τ 75 n 49) 75 (n + e) c) := by
    intro s0 h0
    unfold f_X10_reads_94
    simp only [nv]
    rw [h0, nI_add, gd_r (show n + e < 90 from hn) (by decide), na_nI (by omega)]
    simp only [nw]
    rw [nI_1]
    unfold f_X10_reads_120
    simp only [nv]
    by_cases h : c = 40
    · rw [if_pos h, if_pos h, if_pos h, if_pos h]; rfl
    · rw [if_neg h, if_neg h, if_neg h, if_neg h]; rfl
  by_cases h1 : e = 1
  · rw [if_pos h1] at h3
    rw [if_pos h3]
    exact k94 1 (by rw [h1]; rfl)
  · rw [if_neg h1] at h3
    rw [if_neg (by rw [h3]; decide)]
    exact k94 0 (by rw [show e = 0 by omega]; rfl)
theorem g308 {x y : Nat} (hx : x < 90) (hy : y < 10) {s0 s1 : Int32} (h : s1 - s0 = nI x) : f_X10_reads_308 K v2 (nI y) v4 c s0 s1 τ = K (nI (x + 1)) v2 (nI (y + 1)) (v4 + 1) (wr τ 75 x c) := by
  unfold f_X10_reads_308
  simp only [nv]
  rw [h, gd_r (show x < 90 from hx) (by decide), na_nI (by omega)]
  simp only [nw]
  rw [nI_1, nI_1]
  rfl
end
theorem sub0 (x : Nat) : nI x - 0 = nI x := by rw [show (0 : Int32) = nI 0 from rfl, pk_sub (Nat.zero_le x), Nat.sub_zero]
theorem m_takes {σ τ : Mem} {s : PS} {c : Int32} {k m N : Nat} (hs : eqv σ τ) (hP : PI s k) (hN : PN s k) (hk : k < m) (hm : m ≤ 40) (h23 : σ 76 23 = nI m) (hc : σ 43 k = c) (hR : RMM τ s) :
    (∃ s' τ', pstep c s = some s' ∧ f_X10_reads_9 (N + 1) (nI (fin9 s).1) (nI s.2.1) (nI s.1) (nI k) τ = f_X10_reads_9 N (nI (fin9 s').1) (nI s'.2.1) (nI s'.1) (nI (k + 1)) τ' ∧ eqv σ τ' ∧ RMM τ' s') ∨ (pstep c s = none ∧ ∃ τ', f_X10_reads_9 (N + 1) (nI (fin9 s).1) (nI s.2.1) (nI s.1) (nI k) τ = some (-1 - nI k, τ') ∧ eqv σ τ') := by
  obtain ⟨h9, o, n, w, a, b⟩ := s
  obtain ⟨p1, p2, p3, p4, p5, p6, p7, p8⟩ := hP
  unfold PN at hN
  dsimp only at hN
  have u0 : ∀ v1 v2 v3, f_X10_reads_9 (N + 1) v1 v2 v3 (nI k) τ = (if 2 ≤ v3 then f_X10_reads_59 (f_X10_reads_9 N) v1 v2 v3 (nI k) c (if 48 ≤ c ∧ c ≤ 57 then 1 else 0) τ else if (if 97 ≤ c ∧ c ≤ 104 then (1 : Int32) else 0) = 0 then f_X10_reads_59 (f_X10_reads_9 N) v1 v2 v3 (nI k) c (if 48 ≤ c ∧ c ≤ 57 then 1 else 0) τ else f_X10_reads_76 (f_X10_reads_9 N) v1 v2 v3 (nI k) c τ) := by
    intro v1 v2 v3
    show (if τ 76 23 ≤ nI k then _ else _) = _
    rw [show τ 76 23 = nI m by rw [hs.at rfl]; exact h23, if_neg (nle (by omega) (by omega) hk), gd_r (show k < 40 by omega) (by decide), na_nI (by omega)]
    rw [show τ 43 k = c by rw [hs.at rfl]; exact hc]
    simp only [nv, m_in, bd_some]
  have dl : ∀ c : Int32, 97 ≤ c ∧ c ≤ 104 → ¬ (49 ≤ c ∧ c ≤ 57) ∧ c ≠ 40 := by
    intro c h
    obtain ⟨x, h1, h2, e⟩ := rng (lo := 97) (hi := 104) (by decide) (by decide) h
    subst e
    exact ⟨fun h => absurd h.2 (nle (b := 57) (by omega) (by decide) (by omega)), nne (b := 40) (by omega) (by decide) (by omega)⟩
  have dd : ∀ c : Int32, 49 ≤ c ∧ c ≤ 57 → ¬ (97 ≤ c ∧ c ≤ 104) ∧ (48 ≤ c ∧ c ≤ 57) ∧ c ≠ 40 ∧ c ≠ 48 := by
    intro c h
    obtain ⟨x, h1, h2, e⟩ := rng (lo := 49) (hi := 57) (by decide) (by decide) h
    subst e
    exact ⟨fun h => absurd h.1 (nle (b := x) (a := 97) (by decide) (by omega) (by omega)), ⟨nI_le (a := 48) (by omega) (by omega), h.2⟩, nne (b := 40) (by omega) (by decide) (by omega), nne (b := 48) (by omega) (by decide) (by omega)⟩
  have d48 : ∀ c : Int32, 48 ≤ c ∧ c ≤ 57 → ¬ (49 ≤ c ∧ c ≤ 57) → c = 48 := by
    intro c h h2
    obtain ⟨x, h1, h3, e⟩ := rng (lo := 48) (hi := 57) (by decide) (by decide) h
    subst e
    by_cases e : x = 48
    · subst e; rfl
    · exact absurd ⟨nI_le (a := 49) (by omega) (by omega), h.2⟩ h2
  have d9 : ((if 48 ≤ c ∧ c ≤ 57 then (1 : Int32) else 0) = 0) ↔ ¬ (48 ≤ c ∧ c ≤ 57) := by
    by_cases h : 48 ≤ c ∧ c ≤ 57
    · rw [if_pos h]; exact ⟨fun e => absurd e (by decide), fun e => absurd h e⟩
    · rw [if_neg h]; exact ⟨fun _ => h, fun _ => rfl⟩
  have fz : (1 : Int32) ≠ 0 := by decide
  have ho4 : ((4 : Int32) ≤ nI o) ↔ 4 ≤ o := nI_leI (a := 4) (by decide) (by omega)
  have ho0 : (nI o ≤ (0 : Int32)) ↔ o = 0 := by rw [show (0 : Int32) = nI 0 from rfl, nI_leI (by omega) (by decide)]; omega
  have hoz : (nI o = (0 : Int32)) ↔ o = 0 := by rw [show (0 : Int32) = nI 0 from rfl, nI_eq (by omega) (by decide)]
  have hcase : h9 = 0 ∨ h9 = 1 ∨ h9 = 2 ∨ h9 = 3 ∨ h9 = 4 ∨ h9 = 5 := by omega
  unfold RMM at hR
  -- a head: part 76
  have head : ∀ e : Nat, e ≤ 1 → h9 = (if e = 1 then 0 else 1) → (97 ≤ c ∧ c ≤ 104) ∨ (c = 40 ∧ o < 4) → (∀ j, j < n → τ 75 j = w j) →
      ∃ τ', f_X10_reads_9 (N + 1) (nI n) (nI o) (nI h9) (nI k) τ = f_X10_reads_9 N (nI (n + e + 1)) (nI (if c = 40 then o + 1 else o)) (nI (if c = 40 then 0 else 2)) (nI (k + 1)) τ' ∧ eqv σ τ' ∧ ∀ j, j < n + e + 1 → τ' 75 j = (if e = 1 then app (app w n 49) (n + 1) c else app w n c) j := by
    intro e he hh hcc hr
    have e2 : ¬ (2 : Int32) ≤ nI h9 := nle (a := 2) (by decide) (by omega) (by rw [hh]; split <;> omega)
    have e3 : f_X10_reads_9 (N + 1) (nI n) (nI o) (nI h9) (nI k) τ = f_X10_reads_76 (f_X10_reads_9 N) (nI n) (nI o) (nI h9) (nI k) c τ := by
      rw [u0, if_neg e2]
      by_cases hl : 97 ≤ c ∧ c ≤ 104
      · rw [if_pos hl, if_neg fz]
      · rw [if_neg hl, if_pos rfl]
        have h40 := hcc.resolve_left hl
        unfold f_X10_reads_59
        rw [if_neg e2, if_pos h40.1, if_neg (fun h => by have := ho4.mp h; omega)]
    rw [e3, g76 (n := n) (e := e) (by omega) he (by rw [hh]; by_cases z : e = 1; rw [if_pos z, if_pos z]; rfl; rw [if_neg z, if_neg z]; rfl), nI_1]
    refine ⟨wr (wr τ 75 n 49) 75 (n + e) c, ?_, eqv_wrr (eqv_wrr hs rfl (by decide)) rfl (by decide), ?_⟩
    · by_cases z : c = 40
      · rw [if_pos z, if_pos z, if_pos z, if_pos z, nI_1]; rfl
      · rw [if_neg z, if_neg z, if_neg z, if_neg z, show (0 : Int32) = nI 0 from rfl, nI_add, Nat.add_zero]; rfl
    · intro j hj
      by_cases z : e = 1
      · subst z
        rw [if_pos rfl]
        exact app75 (app75 hr) j hj
      · have z0 : e = 0 := by omega
        subst z0
        rw [if_neg z, Nat.add_zero, wr_at]
        by_cases zz : j = n
        · rw [if_pos ⟨rfl, zz⟩, zz, app_s]
        · rw [if_neg (fun h => zz h.2), wr_at, if_neg (fun h => zz h.2), app_n zz]
          exact hr j (by omega)
  rcases hcase with rfl | rfl | rfl | rfl | rfl | rfl
  · -- 0
    rw [fin9_3 (by omega)] at hR ⊢
    dsimp only at hR ⊢
    unfold pstep
    dsimp only
    rw [if_pos rfl]
    by_cases c1 : 49 ≤ c ∧ c ≤ 57
    · rw [if_pos c1]
      obtain ⟨x1, x2, x3, x4⟩ := dd c c1
      refine Or.inl ⟨_, wr τ 75 n c, rfl, ?_, eqv_wrr hs rfl (by decide), ?_⟩
      · rw [u0, if_neg (by decide), if_neg x1, if_pos rfl, g59 (Or.inr (Or.inl x3)), fin9_3 (by omega)]
        dsimp only
        unfold f_X10_reads_138
        rw [if_pos (show nI 0 = (0 : Int32) from rfl), if_neg (fun h => d9.mp h x2), if_neg x4, gd_r (show n < 90 by omega) (by decide), na_nI (by omega)]
        simp only [nw]
        rw [nI_1]
        unfold f_X10_reads_332
        rw [nI_1]
        rfl
      · unfold RMM
        rw [fin9_3 (by omega)]
        exact app75 hR
    · rw [if_neg c1]
      by_cases c2 : 97 ≤ c ∧ c ≤ 104
      · rw [if_pos c2]
        have n40 := (dl c c2).2
        obtain ⟨τ', t1, t2, t3⟩ := head 1 (by omega) rfl (Or.inl c2) hR
        rw [if_neg n40, if_neg n40] at t1
        refine Or.inl ⟨_, τ', rfl, by rw [fin9_3 (by omega)]; exact t1, t2, ?_⟩
        unfold RMM
        rw [fin9_3 (by omega)]
        intro j hj
        have := t3 j hj
        rw [if_pos rfl] at this
        exact this
      · rw [if_neg c2]
        by_cases c3 : c = 40 ∧ o < 4
        · rw [if_pos c3]
          obtain ⟨τ', t1, t2, t3⟩ := head 1 (by omega) rfl (Or.inr c3) hR
          rw [if_pos c3.1, if_pos c3.1] at t1
          refine Or.inl ⟨_, τ', rfl, by rw [fin9_3 (by omega)]; exact t1, t2, ?_⟩
          unfold RMM
          rw [fin9_3 (by omega)]
          intro j hj
          have := t3 j hj
          rw [if_pos rfl] at this
          exact this
        · rw [if_neg c3]
          refine Or.inr ⟨rfl, τ, ?_, hs⟩
          rw [u0, if_neg (by decide), if_neg c2, if_pos rfl, g59, g138, g170 (by decide), g264 (Or.inl ⟨by decide, by decide⟩)]
          · right
            by_cases z : 48 ≤ c ∧ c ≤ 57
            · exact Or.inr (d48 c z c1)
            · exact Or.inl (d9.mpr z)
          · right
            by_cases z : c = 40
            · exact Or.inr (ho4.mpr (by have : ¬ o < 4 := fun h => c3 ⟨z, h⟩
                                        omega))
            · exact Or.inl z
  · -- 1
    rw [fin9_3 (by omega)] at hR ⊢
    dsimp only at hR ⊢
    unfold pstep
    dsimp only
    rw [if_neg (by decide), if_pos rfl]
    by_cases c2 : 97 ≤ c ∧ c ≤ 104
    · rw [if_pos c2]
      have n40 := (dl c c2).2
      obtain ⟨τ', t1, t2, t3⟩ := head 0 (by omega) rfl (Or.inl c2) hR
      rw [if_neg n40, if_neg n40] at t1
      refine Or.inl ⟨_, τ', rfl, by rw [fin9_3 (by omega)]; exact t1, t2, ?_⟩
      unfold RMM
      rw [fin9_3 (by omega)]
      intro j hj
      have := t3 j hj
      rw [if_neg (by decide)] at this
      exact this
    · rw [if_neg c2]
      by_cases c3 : c = 40 ∧ o < 4
      · rw [if_pos c3]
        obtain ⟨τ', t1, t2, t3⟩ := head 0 (by omega) rfl (Or.inr c3) hR
        rw [if_pos c3.1, if_pos c3.1] at t1
        refine Or.inl ⟨_, τ', rfl, by rw [fin9_3 (by omega)]; exact t1, t2, ?_⟩
        unfold RMM
        rw [fin9_3 (by omega)]
        intro j hj
        have := t3 j hj
        rw [if_neg (by decide)] at this
        exact this
      · rw [if_neg c3]
        refine Or.inr ⟨rfl, τ, ?_, hs⟩
        rw [u0, if_neg (by decide), if_neg c2, if_pos rfl, g59, g138 (Or.inl (by decide)), g170 (by decide), g264 (Or.inl ⟨by decide, by decide⟩)]
        right
        by_cases z : c = 40
        · exact Or.inr (ho4.mpr (by have : ¬ o < 4 := fun h => c3 ⟨z, h⟩
                                    omega))
        · exact Or.inl z
  · -- 2
    rw [fin9_3 (by omega)] at hR ⊢
    dsimp only at hR ⊢
    have v1 : f_X10_reads_9 (N + 1) (nI n) (nI o) (nI 2) (nI k) τ = f_X10_reads_170 (f_X10_reads_9 N) (nI n) (nI o) (nI 2) (nI k) c (if 48 ≤ c ∧ c ≤ 57 then 1 else 0) τ := by
      rw [u0, if_pos (by decide), g59 (Or.inl (by decide)), g138 (Or.inl (by decide))]
    have r204 : ∀ h', h' = (if c = 60 then 3 else 0) → ∃ τ', f_X10_reads_204 (f_X10_reads_9 N) (nI n) (nI o) (nI k) c τ = f_X10_reads_9 N (nI (n + 1)) (nI o) (nI h') (nI (k + 1)) τ' ∧ eqv σ τ' ∧ RMM τ' (h', o, n + 1, app w n c, a, b) := by
      intro h' hh
      rw [g204 (by omega), nI_1]
      refine ⟨wr τ 75 n c, ?_, eqv_wrr hs rfl (by decide), ?_⟩
      · rw [hh]; by_cases z : c = 60
        · rw [if_pos z, if_pos z]; rfl
        · rw [if_neg z, if_neg z]; rfl
      · unfold RMM
        rw [fin9_3 (by rw [hh]; split <;> omega)]
        exact app75 hR
    rw [v1]
    unfold pstep
    dsimp only
    rw [if_neg (by decide), if_neg (by decide), if_pos rfl]
    unfold f_X10_reads_170
    rw [if_pos (show nI 2 = (2 : Int32) from rfl)]
    by_cases c1 : c = 43
    · rw [if_pos c1, if_pos c1]
      obtain ⟨τ', t1, t2, t3⟩ := r204 0 (by rw [c1]; rfl)
      exact Or.inl ⟨_, τ', rfl, by rw [fin9_3 (by omega)]; exact t1, t2, t3⟩
    · rw [if_neg c1, if_neg c1]
      by_cases zo : o = 0
      · rw [if_pos (ho0.mpr zo), if_neg (fun h => by omega), if_neg (fun h => by omega)]
        unfold f_X10_reads_193
        rw [if_pos (hoz.mpr zo)]
        by_cases c4 : c = 60
        · rw [if_pos c4, if_pos ⟨c4, zo⟩]
          obtain ⟨τ', t1, t2, t3⟩ := r204 3 (by rw [if_pos c4])
          exact Or.inl ⟨_, τ', rfl, by rw [fin9_3 (by omega)]; exact t1, t2, t3⟩
        · rw [if_neg c4, if_neg (fun h => c4 h.1)]
          unfold f_X10_reads_231
          rw [if_pos (show nI 2 = (2 : Int32) from rfl), if_pos (ho0.mpr zo), g264 (Or.inl ⟨by decide, by decide⟩)]
          exact Or.inr ⟨rfl, τ, rfl, hs⟩
      · rw [if_neg (fun h => zo (ho0.mp h))]
        by_cases c2 : c = 124
        · rw [if_pos c2, if_pos ⟨c2, by omega⟩]
          obtain ⟨τ', t1, t2, t3⟩ := r204 0 (by rw [c2]; rfl)
          exact Or.inl ⟨_, τ', rfl, by rw [fin9_3 (by omega)]; exact t1, t2, t3⟩
        · rw [if_neg c2, if_neg (fun h => c2 h.1)]
          unfold f_X10_reads_193 f_X10_reads_231
          rw [if_neg (fun h => zo (hoz.mp h)), if_pos (show nI 2 = (2 : Int32) from rfl), if_neg (fun h => zo (ho0.mp h))]
          by_cases c3 : c = 41
          · rw [if_pos c3, if_pos ⟨c3, by omega⟩, gd_r (show n < 90 by omega) (by decide), na_nI (by omega)]
            simp only [nw]
            refine Or.inl ⟨_, wr τ 75 n c, rfl, ?_, eqv_wrr hs rfl (by decide), ?_⟩
            · rw [fin9_3 (by omega), nI_1, show o = (o - 1) + 1 by omega, pk_m1]
              unfold f_X10_reads_332
              rw [nI_1]
              rfl
            · unfold RMM
              rw [fin9_3 (by omega)]
              exact app75 hR
          · rw [if_neg c3, if_neg (fun h => c3 h.1), if_neg (fun h => zo h.2), g264 (Or.inl ⟨by decide, by decide⟩)]
            exact Or.inr ⟨rfl, τ, rfl, hs⟩
  · -- 3
    rw [fin9_3 (by omega)] at hR ⊢
    dsimp only at hR ⊢
    have v1 : f_X10_reads_9 (N + 1) (nI n) (nI o) (nI 3) (nI k) τ = f_X10_reads_264 (f_X10_reads_9 N) (nI n) (nI o) (nI 3) (nI k) c (if 48 ≤ c ∧ c ≤ 57 then 1 else 0) τ := by
      rw [u0, if_pos (by decide), g59 (Or.inl (by decide)), g138 (Or.inl (by decide)), g170 (by decide)]
    rw [v1]
    unfold pstep
    dsimp only
    rw [if_neg (by decide), if_neg (by decide), if_neg (by decide), if_pos rfl]
    by_cases c1 : 48 ≤ c ∧ c ≤ 57
    · rw [if_pos c1, if_pos c1]
      obtain ⟨x, x1, x2, x3, x4⟩ := dig9 c1
      unfold f_X10_reads_264
      rw [if_pos (show nI 3 = (3 : Int32) from rfl), if_neg fz]
      unfold f_X10_reads_284 f_X10_reads_307
      rw [if_neg (by decide), g308 (x := n) (by omega) (by omega) (sub0 n), nI_1]
      refine Or.inl ⟨_, wr τ 75 n c, rfl, rfl, eqv_wrr hs rfl (by decide), ?_⟩
      unfold RMM fin9
      dsimp only
      rw [if_pos rfl, x3, ← x2]
      exact app75 hR
    · rw [if_neg c1, if_neg c1, g264 (Or.inr rfl)]
      exact Or.inr ⟨rfl, τ, rfl, hs⟩
  · -- 4
    have f4 : fin9 (4, o, n, w, a, b) = (n + 1, app w n (nI (48 + a))) := rfl
    rw [f4] at hR ⊢
    dsimp only at hR ⊢
    have v1 : f_X10_reads_9 (N + 1) (nI (n + 1)) (nI o) (nI 4) (nI k) τ = f_X10_reads_264 (f_X10_reads_9 N) (nI (n + 1)) (nI o) (nI 4) (nI k) c (if 48 ≤ c ∧ c ≤ 57 then 1 else 0) τ := by
      rw [u0, if_pos (by decide), g59 (Or.inl (by decide)), g138 (Or.inl (by decide)), g170 (by decide)]
    rw [v1]
    unfold pstep
    dsimp only
    rw [if_neg (by decide), if_neg (by decide), if_neg (by decide), if_neg (by decide), if_pos rfl]
    by_cases c1 : 48 ≤ c ∧ c ≤ 57
    · rw [if_pos c1, if_pos c1]
      obtain ⟨x, x1, x2, x3, x4⟩ := dig9 c1
      unfold f_X10_reads_264 f_X10_reads_274
      rw [if_neg (by decide), if_pos (show nI 4 = (4 : Int32) from rfl), if_neg fz]
      unfold f_X10_reads_284 f_X10_reads_307
      have q : τ 75 n = nI (48 + a) := by rw [hR n (by omega), app_s]
      rw [if_pos (show nI 4 = (4 : Int32) from rfl), nI_pred, gd_r (show n < 90 by omega) (by decide), na_nI (by omega), q]
      have f5 : ∀ y, fin9 (5, o, n, w, a, y) = if a = 0 then (n + 1, app w n (nI (48 + y))) else (n + 2, app (app w n (nI (48 + a))) (n + 1) (nI (48 + y))) := fun y => rfl
      rw [x3]
      by_cases za : a = 0
      · rw [if_pos (show nI (48 + a) = (48 : Int32) by rw [za]; rfl), g308 (x := n) (by omega) (by omega) (nI_pred n), nI_1]
        refine Or.inl ⟨_, wr τ 75 n c, rfl, ?_, eqv_wrr hs rfl (by decide), ?_⟩
        · rw [f5, if_pos za]
        · unfold RMM
          rw [f5, if_pos za, ← x2]
          exact app75 (fun j hj => by rw [hR j (by omega), app_n (by omega)])
      · rw [if_neg (show ¬ nI (48 + a) = (48 : Int32) from nne (b := 48) (by omega) (by decide) (by omega)), g308 (x := n + 1) (by omega) (by omega) (sub0 (n + 1)), nI_1]
        refine Or.inl ⟨_, wr τ 75 (n + 1) c, rfl, ?_, eqv_wrr hs rfl (by decide), ?_⟩
        · rw [f5, if_neg za]
        · unfold RMM
          rw [f5, if_neg za, ← x2]
          exact app75 hR
    · rw [if_neg c1, if_neg c1, g264 (Or.inr rfl)]
      exact Or.inr ⟨rfl, τ, rfl, hs⟩
  · -- 5
    dsimp only
    refine Or.inr ⟨rfl, τ, ?_, hs⟩
    rw [u0, if_pos (by decide), g59 (Or.inl (by decide)), g138 (Or.inl (by decide)), g170 (by decide), g264 (Or.inl ⟨by decide, by decide⟩)]
