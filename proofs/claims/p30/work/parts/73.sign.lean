/-! PURE: the signs that the law types, its rounds, its end. By hand. -/
theorem rem_n {a d : Nat} (ha : a < 2 ^ 31) (h0 : 0 < d) (hd : d < 2 ^ 31) : nI a - nI a / nI d * nI d = nI (a % d) := by
  rw [pk_div ha h0 hd, pk_mul, pk_sub (Nat.div_mul_le_self a d)]
  congr 1
  have := Nat.div_add_mod a d
  rw [Nat.mul_comm] at this
  omega
theorem div_n {a d : Nat} (ha : a < 2 ^ 31) (h0 : 0 < d) (hd : d < 2 ^ 31) : nI a / nI d = nI (a / d) := pk_div ha h0 hd
/-- what is drawn for a place -/
theorem l_sign {h o z : Nat} {σ : Mem} (hh : h ≤ 2) (ho : o ≤ 3) (hz : z < 2 ^ 28) : ∃ c h' o', f_L_signFor (nI h) (nI o) (nI z) σ = some (nI c, σ) ∧ Sg h o c h' o' := by
  unfold f_L_signFor f_L_signFor_90
  by_cases e2 : h = 2
  · subst e2
    rw [if_pos (show (2 : Int32) ≤ nI 2 by decide)]
    by_cases e0 : o = 0
    · subst e0
      exact ⟨43, 0, 0, by rw [if_pos (show nI 0 ≤ (0 : Int32) by decide)] <;> rfl, Or.inr (Or.inr (Or.inr (Or.inl ⟨rfl, rfl, rfl, rfl⟩)))⟩
    · rw [if_neg (show ¬ nI o ≤ (0 : Int32) from nle (b := 0) (by omega) (by decide) (by omega)), show (3 : Int32) = nI 3 from rfl, rem_n (by omega) (by decide) (by decide)]
      by_cases c1 : z % 3 = 0
      · exact ⟨124, 0, o, by rw [if_pos (show nI (z % 3) = 0 by rw [c1]; rfl)] <;> rfl, Or.inr (Or.inr (Or.inr (Or.inr (Or.inl ⟨rfl, rfl, by omega, rfl, rfl⟩))))⟩
      · rw [if_neg (show ¬ nI (z % 3) = 0 from nne (b := 0) (by omega) (by decide) c1)]
        by_cases c2 : z % 3 = 1
        · exact ⟨41, 2, o - 1, by rw [if_pos (show nI (z % 3) = 1 by rw [c2]; rfl)] <;> rfl, Or.inr (Or.inr (Or.inr (Or.inr (Or.inr ⟨rfl, rfl, by omega, rfl, rfl⟩))))⟩
        · exact ⟨43, 0, o, by rw [if_neg (show ¬ nI (z % 3) = 1 from nne (b := 1) (by omega) (by decide) c2)] <;> rfl, Or.inr (Or.inr (Or.inr (Or.inl ⟨rfl, rfl, rfl, rfl⟩)))⟩
  · rw [if_neg (show ¬ (2 : Int32) ≤ nI h from nle (a := 2) (by decide) (by omega) (by omega))]
    have key : ∃ c h' o', f_L_signFor_29 (nI o) (nI z) σ = some (nI c, σ) ∧ Sg h o c h' o' := by
      have lt : ∃ c h' o', f_L_signFor_45 (nI z) σ = some (nI c, σ) ∧ Sg h o c h' o' := by
        refine ⟨97 + z / 35 % 8, 2, o, ?_, Or.inr (Or.inl ⟨by omega, by omega, by omega, rfl, rfl⟩)⟩
        unfold f_L_signFor_45 f_L_signFor_55
        rw [show (35 : Int32) = nI 35 from rfl, div_n (by omega) (by decide) (by decide), show (8 : Int32) = nI 8 from rfl, rem_n (by omega) (by decide) (by decide), show (97 : Int32) = nI 97 from rfl, nI_add]
      unfold f_L_signFor_29
      by_cases c3 : o = 3
      · rw [if_pos (show (3 : Int32) ≤ nI o by rw [c3]; decide)]
        exact lt
      · rw [if_neg (show ¬ (3 : Int32) ≤ nI o from nle (a := 3) (by decide) (by omega) (by omega)), show (5 : Int32) = nI 5 from rfl, rem_n (by omega) (by decide) (by decide)]
        by_cases c5 : z % 5 = 0
        · rw [if_pos (show nI (z % 5) = 0 by rw [c5]; rfl)]
          exact ⟨40, 0, o + 1, rfl, Or.inr (Or.inr (Or.inl ⟨by omega, rfl, by omega, rfl, rfl⟩))⟩
        · rw [if_neg (show ¬ nI (z % 5) = 0 from nne (b := 0) (by omega) (by decide) c5)]
          exact lt
    by_cases e0 : h = 0
    · rw [if_pos (show nI h = (0 : Int32) by rw [e0]; rfl), show (7 : Int32) = nI 7 from rfl, rem_n (by omega) (by decide) (by decide)]
      by_cases c7 : z % 7 = 0
      · refine ⟨49 + z / 7 % 9, 1, o, ?_, Or.inl ⟨e0, by omega, by omega, rfl, rfl⟩⟩
        rw [if_pos (show nI (z % 7) = 0 by rw [c7]; rfl)]
        unfold f_L_signFor_55
        rw [div_n (by omega) (by decide) (by decide), show (9 : Int32) = nI 9 from rfl, rem_n (by omega) (by decide) (by decide), show (49 : Int32) = nI 49 from rfl, nI_add]
      · rw [if_neg (show ¬ nI (z % 7) = 0 from nne (b := 0) (by omega) (by decide) c7)]
        exact key
    · rw [if_neg (show ¬ nI h = (0 : Int32) from nne (b := 0) (by omega) (by decide) e0)]
      exact key
section LAW3
variable {L : Nat} {xs : Nat → Int32} {k21 : K2}
abbrev K8 : Type := Int32 → Int32 → Int32 → Int32 → Int32 → Int32 → Int32 → Int32 → M2 → Option (Int32 × M2)
/-- what comes of a sign, for how and what stands -/
theorem l_181 {k66 : K8} {v4 v5 v6 v10 : Int32} {h o t c h' o' : Nat} {τ : M2} (hS : Sg h o c h' o') (ho : o ≤ 3) : f_L_law_181 L xs k21 k66 v4 v5 v6 (nI o) (nI t) v10 (nI c) 1 τ = k66 1 v4 v5 v6 (nI h') (nI o') (nI (t + 1)) v10 τ := by
  unfold f_L_law_181 f_L_law_210 f_L_law_231 f_L_law_252 f_L_law_257
  simp only [nv]
  rw [nI_1 t]
  have ne : ∀ d, c ≠ d → d < 200 → ¬ nI c = nI d := fun d h1 h2 => nne (by rcases hS with ⟨_, _, _, _⟩ | ⟨_, _, _, _⟩ | ⟨_, _, _⟩ | ⟨_, _, _⟩ | ⟨_, _, _⟩ | ⟨_, _, _⟩ <;> omega) (by omega) h1
  have hc : c < 2 ^ 31 := by rcases hS with ⟨_, _, _, _⟩ | ⟨_, _, _, _⟩ | ⟨_, _, _⟩ | ⟨_, _, _⟩ | ⟨_, _, _⟩ | ⟨_, _, _⟩ <;> omega
  have add0 : nI o + 0 = nI o := by rw [show (0 : Int32) = nI 0 from rfl, nI_add, Nat.add_zero]
  rcases hS with ⟨h1, c1, c2, rfl, rfl⟩ | ⟨h1, c1, c2, rfl, rfl⟩ | ⟨h1, rfl, ho3, rfl, rfl⟩ | ⟨h1, rfl, rfl, rfl⟩ | ⟨h1, rfl, ho0, rfl, rfl⟩ | ⟨h1, rfl, ho0, rfl, rfl⟩
  · rw [if_neg (show ¬ nI c = (40 : Int32) from ne 40 (by omega) (by omega)), if_neg (show ¬ nI c = (41 : Int32) from ne 41 (by omega) (by omega)), if_neg (show ¬ nI c < (49 : Int32) from nlt (b := 49) hc (by decide) c1), if_neg (show ¬ (57 : Int32) < nI c from nlt (a := 57) (by decide) hc c2), add0]
    all_goals rfl
  · rw [if_neg (show ¬ nI c = (40 : Int32) from ne 40 (by omega) (by omega)), if_neg (show ¬ nI c = (41 : Int32) from ne 41 (by omega) (by omega)), if_neg (show ¬ nI c < (49 : Int32) from nlt (b := 49) hc (by decide) (by omega)), if_pos (show (57 : Int32) < nI c from ltI (a := 57) (by decide) hc (by omega)), if_neg (show ¬ nI c = (40 : Int32) from ne 40 (by omega) (by omega)), if_neg (show ¬ nI c = (43 : Int32) from ne 43 (by omega) (by omega)), if_neg (show ¬ nI c = (124 : Int32) from ne 124 (by omega) (by omega)), add0]
    all_goals rfl
  · rw [if_pos (show nI 40 = (40 : Int32) from rfl), if_pos (show nI 40 < (49 : Int32) by decide), if_pos (show nI 40 = (40 : Int32) from rfl), nI_1 o]
    all_goals rfl
  · rw [if_neg (show ¬ nI 43 = (40 : Int32) by decide), if_neg (show ¬ nI 43 = (41 : Int32) by decide), if_pos (show nI 43 < (49 : Int32) by decide), if_neg (show ¬ nI 43 = (40 : Int32) by decide), if_pos (show nI 43 = (43 : Int32) from rfl), add0]
    all_goals rfl
  · rw [if_neg (show ¬ nI 124 = (40 : Int32) by decide), if_neg (show ¬ nI 124 = (41 : Int32) by decide), if_neg (show ¬ nI 124 < (49 : Int32) by decide), if_pos (show (57 : Int32) < nI 124 by decide), if_neg (show ¬ nI 124 = (40 : Int32) by decide), if_neg (show ¬ nI 124 = (43 : Int32) by decide), if_pos (show nI 124 = (124 : Int32) from rfl), add0]
    all_goals rfl
  · obtain ⟨e, rfl⟩ : ∃ e, o = e + 1 := ⟨o - 1, by omega⟩
    rw [if_neg (show ¬ nI 41 = (40 : Int32) by decide), if_pos (show nI 41 = (41 : Int32) from rfl), if_pos (show nI 41 < (49 : Int32) by decide), if_neg (show ¬ nI 41 = (40 : Int32) by decide), if_neg (show ¬ nI 41 = (43 : Int32) by decide), if_neg (show ¬ nI 41 = (124 : Int32) by decide), pk_m1, Nat.add_sub_cancel]
    all_goals rfl
/-- the sign that is typed: forced from the tenth on -/
theorem l_83 {k66 : K8} {v4 v5 v6 v10 : Int32} {h o t : Nat} {τ : M2} (hh : h ≤ 2) (ho : o ≤ 3) (ht : t ≤ 14) (hgo : ¬ (h = 2 ∧ o = 0 ∧ 4 ≤ t)) : ∃ z c h' o', z < 2 ^ 30 ∧ Sg h o c h' o' ∧ (9 < t → h = 2 → h' = 2 ∧ o' = o - 1 ∧ 0 < o) ∧ (9 < t → h < 2 → h' = 2 ∧ o' = o) ∧ f_L_law_83 L xs k21 k66 1 v4 v5 v6 (nI h) (nI o) (nI t) v10 τ = f_L_law_155 L xs k21 k66 1 v4 v5 v6 (nI o) (nI t) (nI z) (nI c) τ := by
  obtain ⟨z, hz, ez⟩ := pk_andE ((v10 * 31 + 7 * v4) + nI t) (m := 1073741823) 30 (by first | rfl | decide)
  have h8 : nI z / 8 = nI (z / 8) := div_n (d := 8) (by omega) (by decide) (by decide)
  obtain ⟨c, h', o', s1, s2⟩ := l_sign (σ := τ.1) hh ho (z := z / 8) (by omega)
  have e143 : f_L_law_143 L xs k21 k66 1 v4 v5 v6 (nI h) (nI o) (nI t) (nI z) τ = f_L_law_155 L xs k21 k66 1 v4 v5 v6 (nI o) (nI t) (nI z) (nI c) τ := by
    unfold f_L_law_143
    rw [h8, onO_e s1, bd2_some]
    all_goals rfl
  by_cases c9 : t ≤ 9
  · refine ⟨z, c, h', o', hz, s2, fun h => by omega, fun h => by omega, ?_⟩
    have l9 : nI t ≤ (9 : Int32) := (nI_leI (b := 9) (by omega) (by decide)).mpr c9
    unfold f_L_law_83
    simp only [nv]
    rw [ez, if_pos l9]
    unfold f_L_law_125
    rw [if_pos l9]
    exact e143
  · have l9 : ¬ nI t ≤ (9 : Int32) := nle (b := 9) (by omega) (by decide) (by omega)
    by_cases e2 : h = 2
    · have o0 : 0 < o := by omega
      refine ⟨z, 41, 2, o - 1, hz, Or.inr (Or.inr (Or.inr (Or.inr (Or.inr ⟨e2, rfl, o0, rfl, rfl⟩)))), fun _ _ => ⟨rfl, rfl, o0⟩, fun _ h => by omega, ?_⟩
      unfold f_L_law_83
      simp only [nv]
      rw [ez, if_neg l9, if_pos (show nI h = (2 : Int32) by rw [e2]; rfl), if_neg (show ¬ nI o ≤ (0 : Int32) from nle (b := 0) (by omega) (by decide) o0)]
      all_goals rfl
    · refine ⟨z, 99, 2, o, hz, Or.inr (Or.inl ⟨by omega, by omega, by omega, rfl, rfl⟩), fun _ h => absurd h e2, fun _ _ => ⟨rfl, rfl⟩, ?_⟩
      unfold f_L_law_83
      simp only [nv]
      rw [ez, if_neg l9, if_neg (show ¬ nI h = (2 : Int32) from nne (b := 2) (by omega) (by decide) e2)]
      unfold f_L_law_125
      rw [if_neg l9, if_neg (show ¬ (2 : Int32) ≤ nI h from nle (a := 2) (by decide) (by omega) (by omega))]
      all_goals rfl
/-- how many signs may still come -/
def rk (t h o : Nat) : Nat := if t ≤ 9 then 15 - t else (if h < 2 then 1 else 0) + o
/-- the line is typed, and what follows -/
theorem l_66 {V : Nat → Nat} {q k : Nat} {l0 : Nat → Int32} {σ2 : Mem} (hq : q < 4) (hk : k < 20) (h2 : Rm σ2 V 0 l0) (hV : V q < 6) (N : Nat) : ∀ d t h o n z (l w : Nat → Int32) (σ1 : Mem), rk t h o ≤ d → h ≤ 2 → o ≤ 3 → (9 < t → t + rk t h o ≤ 14) → z < 2 ^ 30 → Rm σ1 V t l → Ty l t h o n w → ∃ (τ' : M2) (V' : Nat → Nat), Bt τ' V' ∧ (∀ j, V' j ≤ if j = q then V q + 1 else V j) ∧ f_L_law_66 L xs k21 (N + d + 1) 1 (nI k) (nI q) (nI (V q)) (nI h) (nI o) (nI t) (nI z) (σ1, σ2) = k21 1 (nI k + 1) τ' := by
  intro d
  induction d with
  | zero =>
    intro t h o n z l w σ1 hd hh ho hb hz h1 hT
    have hr : h = 2 ∧ o = 0 ∧ 9 < t := by
      unfold rk at hd
      by_cases c : t ≤ 9
      · rw [if_pos c] at hd; omega
      · rw [if_neg c] at hd
        by_cases c2 : h < 2
        · rw [if_pos c2] at hd; omega
        · rw [if_neg c2] at hd; omega
    obtain ⟨rfl, rfl, t9⟩ := hr
    have t14 := hb t9
    have go : ∀ s0 : Int32, s0 = 0 ∨ s0 = 1 → ∃ (τ' : M2) (V' : Nat → Nat), Bt τ' V' ∧ (∀ j, V' j ≤ if j = q then V q + 1 else V j) ∧ f_L_law_279 L xs k21 1 (nI k) (nI q) (nI (V q)) (nI t) (nI z) s0 (σ1, σ2) = k21 1 (nI k + 1) τ' := fun s0 hs => l_279 (τ := (σ1, σ2)) hq hk h1 h2 hV (by omega) hz hT s0 hs
    have body : f_L_law_66 L xs k21 (N + 0 + 1) 1 (nI k) (nI q) (nI (V q)) (nI 2) (nI 0) (nI t) (nI z) (σ1, σ2) = if dw L xs (nI k) - dw L xs (nI k) / 6 * 6 = 0 then f_L_law_279 L xs k21 1 (nI k) (nI q) (nI (V q)) (nI t) (nI z) 1 (σ1, σ2) else f_L_law_279 L xs k21 1 (nI k) (nI q) (nI (V q)) (nI t) (nI z) 0 (σ1, σ2) := by
      show (if nI 2 = 2 then _ else _) = _
      rw [if_pos (show nI 2 = (2 : Int32) from rfl), if_neg (show ¬ (0 : Int32) < nI 0 by decide), if_pos (show (4 : Int32) ≤ nI t from nI_le (a := 4) (by omega) (by omega)), gd_d (show 0 ≤ nI k from nI_pos' (by omega))]
    by_cases c : dw L xs (nI k) - dw L xs (nI k) / 6 * 6 = 0
    · obtain ⟨τ', V', b1, b2, b3⟩ := go 1 (Or.inr rfl)
      exact ⟨τ', V', b1, b2, by rw [body, if_pos c]; exact b3⟩
    · obtain ⟨τ', V', b1, b2, b3⟩ := go 0 (Or.inl rfl)
      exact ⟨τ', V', b1, b2, by rw [body, if_neg c]; exact b3⟩
  | succ d ih =>
    intro t h o n z l w σ1 hd hh ho hb hz h1 hT
    by_cases hx : h = 2 ∧ o = 0 ∧ 4 ≤ t
    · obtain ⟨rfl, rfl, t4⟩ := hx
      have t14 : t ≤ 14 := by
        by_cases c : 9 < t
        · have := hb c; omega
        · omega
      have go : ∀ s0 : Int32, s0 = 0 ∨ s0 = 1 → ∃ (τ' : M2) (V' : Nat → Nat), Bt τ' V' ∧ (∀ j, V' j ≤ if j = q then V q + 1 else V j) ∧ f_L_law_279 L xs k21 1 (nI k) (nI q) (nI (V q)) (nI t) (nI z) s0 (σ1, σ2) = k21 1 (nI k + 1) τ' := fun s0 hs => l_279 (τ := (σ1, σ2)) hq hk h1 h2 hV t14 hz hT s0 hs
      have body : f_L_law_66 L xs k21 (N + (d + 1) + 1) 1 (nI k) (nI q) (nI (V q)) (nI 2) (nI 0) (nI t) (nI z) (σ1, σ2) = if dw L xs (nI k) - dw L xs (nI k) / 6 * 6 = 0 then f_L_law_279 L xs k21 1 (nI k) (nI q) (nI (V q)) (nI t) (nI z) 1 (σ1, σ2) else f_L_law_279 L xs k21 1 (nI k) (nI q) (nI (V q)) (nI t) (nI z) 0 (σ1, σ2) := by
        show (if nI 2 = 2 then _ else _) = _
        rw [if_pos (show nI 2 = (2 : Int32) from rfl), if_neg (show ¬ (0 : Int32) < nI 0 by decide), if_pos (show (4 : Int32) ≤ nI t from nI_le (a := 4) (by omega) (by omega)), gd_d (show 0 ≤ nI k from nI_pos' (by omega))]
      by_cases c : dw L xs (nI k) - dw L xs (nI k) / 6 * 6 = 0
      · obtain ⟨τ', V', b1, b2, b3⟩ := go 1 (Or.inr rfl)
        exact ⟨τ', V', b1, b2, by rw [body, if_pos c]; exact b3⟩
      · obtain ⟨τ', V', b1, b2, b3⟩ := go 0 (Or.inl rfl)
        exact ⟨τ', V', b1, b2, by rw [body, if_neg c]; exact b3⟩
    · have t13 : t ≤ 13 := by
        by_cases c : 9 < t
        · have := hb c
          have r0 : 0 < rk t h o := by
            unfold rk
            rw [if_neg (by omega)]
            by_cases c2 : h < 2
            · rw [if_pos c2]; omega
            · rw [if_neg c2]; omega
          omega
        · omega
      obtain ⟨z', c, h', o', hz', hS, f1, f2, e83⟩ := l_83 (L := L) (xs := xs) (k21 := k21) (k66 := f_L_law_66 L xs k21 (N + d + 1)) (v4 := nI k) (v5 := nI q) (v6 := nI (V q)) (v10 := nI z) (τ := (σ1, σ2)) hh ho (by omega) hx
      obtain ⟨c1, c2, hh', ho', n', w', hT'⟩ := Ty_s hT hS ho
      obtain ⟨u, t1, t2⟩ := r_type h1 (by omega) c1 c2
      have hrk : rk (t + 1) h' o' < rk t h o ∧ (9 < t + 1 → t + 1 + rk (t + 1) h' o' ≤ 14) := by
        by_cases a : t ≤ 8
        · unfold rk
          rw [if_pos (show t + 1 ≤ 9 by omega), if_pos (show t ≤ 9 by omega)]
          exact ⟨by omega, fun h => by omega⟩
        · by_cases a9 : t = 9
          · unfold rk
            rw [if_neg (show ¬ t + 1 ≤ 9 by omega), if_pos (show t ≤ 9 by omega)]
            by_cases b : h' < 2
            · rw [if_pos b]; exact ⟨by omega, fun _ => by omega⟩
            · rw [if_neg b]; exact ⟨by omega, fun _ => by omega⟩
          · have hb' := hb (by omega)
            unfold rk at hb' ⊢
            rw [if_neg (show ¬ t ≤ 9 by omega)] at hb' ⊢
            rw [if_neg (show ¬ t + 1 ≤ 9 by omega)]
            by_cases b : h < 2
            · obtain ⟨e1, e2⟩ := f2 (by omega) b
              rw [if_pos b] at hb' ⊢
              rw [if_neg (show ¬ h' < 2 by omega)]
              exact ⟨by omega, fun _ => by omega⟩
            · obtain ⟨e1, e2, e3⟩ := f1 (by omega) (by omega)
              rw [if_neg b] at hb' ⊢
              rw [if_neg (show ¬ h' < 2 by omega)]
              exact ⟨by omega, fun _ => by omega⟩
      obtain ⟨τ', V', b1, b2, b3⟩ := ih (t + 1) h' o' n' z' (app l t (nI c)) w' u (by omega) hh' ho' hrk.2 hz' t2 hT'
      refine ⟨τ', V', b1, b2, ?_⟩
      rw [← b3]
      have e66 : f_L_law_66 L xs k21 (N + (d + 1) + 1) 1 (nI k) (nI q) (nI (V q)) (nI h) (nI o) (nI t) (nI z) (σ1, σ2) = f_L_law_83 L xs k21 (f_L_law_66 L xs k21 (N + d + 1)) 1 (nI k) (nI q) (nI (V q)) (nI h) (nI o) (nI t) (nI z) (σ1, σ2) := by
        show (if nI h = 2 then _ else _) = _
        by_cases a2 : h = 2
        · rw [if_pos (show nI h = (2 : Int32) by rw [a2]; rfl)]
          by_cases a0 : o = 0
          · rw [if_neg (show ¬ (0 : Int32) < nI o by rw [a0]; decide), if_neg (show ¬ (4 : Int32) ≤ nI t from nle (a := 4) (by decide) (by omega) (by omega))]
            all_goals rfl
          · rw [if_pos (show (0 : Int32) < nI o from ltI (a := 0) (by decide) (by omega) (by omega))]
            all_goals rfl
        · rw [if_neg (show ¬ nI h = (2 : Int32) from nne (b := 2) (by omega) (by decide) a2)]
          all_goals rfl
      rw [e66, e83]
      unfold f_L_law_155
      rw [if_neg i10, onO_e (σ := (σ1, σ2)) t1, bd2_some, nI_1 t, if_pos rfl]
      exact l_181 hS ho
end LAW3
