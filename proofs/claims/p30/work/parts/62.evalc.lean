/-! PURE: class and reference go through a text as 'ev' does. By hand. -/
theorem eqv_wrr {σ u : Mem} (h : eqv σ u) {r k : Nat} {v : Int32} (hs : scr r k = true) (hr : r ≠ 76) : eqv σ (wr u r k v) := h.wr hs (fun e => hr (congrArg Prod.fst e))
theorem sh8 : ∀ i, i < 8 → ((nI i).toBitVec.smod 32).toNat = i := by decide
theorem bitI {p i : Nat} (hi : i < 8) (hp : p < 2 ^ 31) : (nI p >>> (nI i &&& 31)) &&& 1 = nI (p / 2 ^ i % 2) := by
  have e : nI i &&& 31 = nI i := by rw [pk_andN (by omega) (k := 5) (by decide)]; congr 1; exact Nat.mod_eq_of_lt (by omega)
  rw [e, pk_shrN hp (nI i) i (sh8 i hi), pk_andN (Nat.lt_of_le_of_lt (Nat.div_le_self _ _) (by omega)) (k := 1) (by decide)]
theorem kinds (c : Int32) : (∃ a, 49 ≤ a ∧ a ≤ 57 ∧ c = nI a) ∨ (∃ a, 97 ≤ a ∧ a ≤ 104 ∧ c = nI a) ∨ c = 40 ∨ c = 124 ∨ c = 41 ∨ (¬ (49 ≤ c ∧ c ≤ 57) ∧ ¬ (97 ≤ c ∧ c ≤ 104) ∧ c ≠ 40 ∧ c ≠ 124 ∧ c ≠ 41) := by
  by_cases h1 : 49 ≤ c ∧ c ≤ 57
  · refine Or.inl ?_
    rw [le_int, le_int] at h1
    have a1 : ((49 : Int32).toInt) = 49 := rfl
    have a2 : ((57 : Int32).toInt) = 57 := rfl
    obtain ⟨a, ha, e⟩ := sm.of (x := c) (n := 57) (by omega) (by omega) (by decide)
    refine ⟨a, ?_, ha, e⟩
    rw [e, lit a (by omega)] at h1
    omega
  · by_cases h2 : 97 ≤ c ∧ c ≤ 104
    · refine Or.inr (Or.inl ?_)
      rw [le_int, le_int] at h2
      have a1 : ((97 : Int32).toInt) = 97 := rfl
      have a2 : ((104 : Int32).toInt) = 104 := rfl
      obtain ⟨a, ha, e⟩ := sm.of (x := c) (n := 104) (by omega) (by omega) (by decide)
      refine ⟨a, ?_, ha, e⟩
      rw [e, lit a (by omega)] at h2
      omega
    · by_cases h3 : c = 40
      · exact Or.inr (Or.inr (Or.inl h3))
      · by_cases h4 : c = 124
        · exact Or.inr (Or.inr (Or.inr (Or.inl h4)))
        · by_cases h5 : c = 41
          · exact Or.inr (Or.inr (Or.inr (Or.inr (Or.inl h5))))
          · exact Or.inr (Or.inr (Or.inr (Or.inr (Or.inr ⟨h1, h2, h3, h4, h5⟩))))
theorem nle {a b : Nat} (ha : a < 2 ^ 31) (hb : b < 2 ^ 31) (h : b < a) : ¬ nI a ≤ nI b := fun e => by have := (nI_leI ha hb).mp e; omega
theorem nlt {a b : Nat} (ha : a < 2 ^ 31) (hb : b < 2 ^ 31) (h : b ≤ a) : ¬ nI a < nI b := fun e => by have := (nI_ltI ha hb).mp e; omega
theorem nne {a b : Nat} (ha : a < 2 ^ 31) (hb : b < 2 ^ 31) (h : a ≠ b) : nI a ≠ nI b := fun e => h ((nI_eq ha hb).mp e)
-- evs by kinds
theorem evs_d {p a : Nat} {s : St5} (h1 : 49 ≤ a) (h2 : a ≤ 57) : evs p (nI a) s = (s.1, s.2.1, s.2.2.1, s.2.2.2.1, a - 48) := by
  unfold evs
  rw [if_pos ⟨(nI_leI (a := 49) (by decide) (by omega)).mpr h1, (nI_leI (b := 57) (by omega) (by decide)).mpr h2⟩, show (48 : Int32) = nI 48 from rfl, pk_sub (by omega), na_nI (by omega)]
theorem evs_l {p a : Nat} {s : St5} (h1 : 97 ≤ a) (h2 : a ≤ 104) : evs p (nI a) s = (un s.1 s.2.2.2.1 (s.1 s.2.2.2.1 + s.2.2.2.2 * (p / 2 ^ (a - 97) % 2)), s.2.1, s.2.2.1, s.2.2.2.1, s.2.2.2.2) := by
  unfold evs
  rw [if_neg (fun h => nle (a := a) (b := 57) (by omega) (by decide) (by omega) h.2), if_pos ⟨(nI_leI (a := 97) (by decide) (by omega)).mpr h1, (nI_leI (b := 104) (by omega) (by decide)).mpr h2⟩, show (97 : Int32) = nI 97 from rfl, pk_sub (by omega), na_nI (by omega)]
theorem evs_o {p : Nat} {s : St5} : evs p 40 s = (un s.1 (s.2.2.2.1 + 1) 0, un s.2.1 (s.2.2.2.1 + 1) 0, un s.2.2.1 (s.2.2.2.1 + 1) s.2.2.2.2, s.2.2.2.1 + 1, s.2.2.2.2) := by
  unfold evs
  rw [if_neg (by decide), if_neg (by decide), if_pos rfl]
theorem evs_b {p : Nat} {s : St5} : evs p 124 s = (un s.1 s.2.2.2.1 0, un s.2.1 s.2.2.2.1 (max (s.2.1 s.2.2.2.1) (s.1 s.2.2.2.1)), s.2.2.1, s.2.2.2.1, s.2.2.2.2) := by
  unfold evs
  rw [if_neg (by decide), if_neg (by decide), if_neg (by decide), if_pos rfl]
theorem evs_c {p : Nat} {s : St5} : evs p 41 s = (un (un s.1 s.2.2.2.1 0) (s.2.2.2.1 - 1) (s.1 (s.2.2.2.1 - 1) + s.2.2.1 s.2.2.2.1 * max (s.2.1 s.2.2.2.1) (s.1 s.2.2.2.1)), un s.2.1 s.2.2.2.1 (max (s.2.1 s.2.2.2.1) (s.1 s.2.2.2.1)), s.2.2.1, s.2.2.2.1 - 1, s.2.2.2.2) := by
  unfold evs
  rw [if_neg (by decide), if_neg (by decide), if_neg (by decide), if_neg (by decide), if_pos rfl]
theorem evs_x {p : Nat} {c : Int32} {s : St5} (h : ¬ (49 ≤ c ∧ c ≤ 57) ∧ ¬ (97 ≤ c ∧ c ≤ 104) ∧ c ≠ 40 ∧ c ≠ 124 ∧ c ≠ 41) : evs p c s = s := by
  unfold evs
  rw [if_neg h.1, if_neg h.2.1, if_neg h.2.2.1, if_neg h.2.2.2.1, if_neg h.2.2.2.2]
/-- the class's rows hold the levels -/
def RC (τ : Mem) (s : St5) : Prop := ∀ l, l ≤ s.2.2.2.1 → τ 36 l = nI (s.1 l) ∧ τ 37 l = nI (s.2.1 l) ∧ τ 38 l = nI (s.2.2.1 l)
/-- the reference's -/
def RM (τ : Mem) (s : St5) : Prop := (∀ l, l ≤ s.2.2.2.1 → τ 72 l = nI (s.1 l)) ∧ ∀ l, l < s.2.2.2.1 → τ 73 (l + 1) = nI (s.2.1 (l + 1)) ∧ τ 74 l = nI (s.2.2.1 (l + 1))
theorem maxI {a b : Nat} (ha : a < 2 ^ 31) (hb : b < 2 ^ 31) : (if nI a < nI b then nI b else nI a) = nI (max a b) := by
  by_cases h : a < b
  · rw [if_pos ((nI_ltI ha hb).mpr h)]; congr 1; omega
  · rw [if_neg (nlt ha hb (by omega))]; congr 1; omega
theorem RC_set {τ : Mem} {s : St5} (h : RC τ s) {s' : St5} {τ' : Mem} (h2 : ∀ l, l ≤ s'.2.2.2.1 → τ' 36 l = nI (s'.1 l) ∧ τ' 37 l = nI (s'.2.1 l) ∧ τ' 38 l = nI (s'.2.2.1 l)) : RC τ' s' := h2
/-- what stands behind the letters and digits, for a sign that is none of the kinds -/
theorem c_plain {K : Int32 → Int32 → Int32 → Int32 → Int32 → Int32 → Mem → Option (Int32 × Mem)} {v3 v4 v5 v6 v7 v8 c : Int32} {τ : Mem} (h1 : c ≠ 40) (h2 : c ≠ 124) (h3 : c ≠ 41) : f_X6_markBy_126 K v3 v4 v5 v6 v7 v8 c τ = K v3 v4 v5 v6 v7 (v8 + 1) τ := by
  unfold f_X6_markBy_126 f_X6_markBy_144 f_X6_markBy_164 f_X6_markBy_204
  rw [if_neg h1, if_neg h2, if_neg h3, if_neg h3]
theorem c_step {σ τ : Mem} {p at9 len k n : Nat} {w : Nat → Int32} {s : St5} (hs : eqv σ τ) (hw : σ 32 (80 * at9 + k) = w k) (hat : at9 < 24) (hlen : len ≤ 80) (hk : k < len) (hp : p < 256) (hR : RC τ s) (h60 : w k ≠ 60) (hd : s.2.2.2.1 ≤ 4) (h40 : w k = 40 → s.2.2.2.1 ≤ 3) (h41 : (w k = 41 ∨ w k = 124) → 1 ≤ s.2.2.2.1) (hb : ∀ l, l ≤ s.2.2.2.1 → s.1 l < 2 ^ 30 ∧ s.2.1 l < 2 ^ 30) :
    ∃ τ', f_X6_markBy_36 (n + 1) (nI p) (nI at9) (nI len) (nI s.2.2.2.1) (nI s.2.2.2.2) (nI k) τ = f_X6_markBy_36 n (nI p) (nI at9) (nI len) (nI (evs p (w k) s).2.2.2.1) (nI (evs p (w k) s).2.2.2.2) (nI (k + 1)) τ' ∧ eqv σ τ' ∧ RC τ' (evs p (w k) s) := by
  obtain ⟨S, B, F, d, f⟩ := s
  dsimp only at hd h40 h41 hb ⊢
  have hrd : rget 32 ((nI at9) * (80) + (nI k)) τ = w k := by
    rw [show (80 : Int32) = nI 80 from rfl, pk_mul, nI_add, rget_n (by show _ < 1920; omega) (by decide), hs.at rfl, ← hw]
    congr 1; omega
  rw [f_X6_markBy_36, if_neg (nle (by omega) (by omega) hk)]
  simp only [nv]
  rw [hrd, if_neg h60, ← nI_1 k]
  have r36 : ∀ l, l ≤ d → rget 36 (nI l) τ = nI (S l) := fun l hl => by rw [rget_n (by show l < 5; omega) (by decide)]; exact (hR l hl).1
  have r37 : ∀ l, l ≤ d → rget 37 (nI l) τ = nI (B l) := fun l hl => by rw [rget_n (by show l < 5; omega) (by decide)]; exact (hR l hl).2.1
  rcases kinds (w k) with ⟨a, ha1, ha2, e⟩ | ⟨a, ha1, ha2, e⟩ | e | e | e | hx
  · rw [e, if_neg (show ¬ nI a < (49 : Int32) from nlt (b := 49) (by omega) (by decide) ha1), if_neg (show ¬ (57 : Int32) < nI a from nlt (a := 57) (by decide) (by omega) ha2), evs_d ha1 ha2]
    refine ⟨τ, ?_, hs, hR⟩
    rw [show (48 : Int32) = nI 48 from rfl, pk_sub (by omega)]
    unfold f_X6_markBy_91
    rw [if_pos (show nI a < (97 : Int32) from (nI_ltI (b := 97) (by omega) (by decide)).mpr (by omega)), c_plain (nne (b := 40) (by omega) (by decide) (by omega)) (nne (b := 124) (by omega) (by decide) (by omega)) (nne (b := 41) (by omega) (by decide) (by omega))]
  · rw [e, if_neg (show ¬ nI a < (49 : Int32) from nlt (b := 49) (by omega) (by decide) (by omega)), if_pos (show (57 : Int32) < nI a from (nI_ltI (a := 57) (by decide) (by omega)).mpr (by omega)), evs_l ha1 ha2]
    unfold f_X6_markBy_91
    rw [if_neg (show ¬ nI a < (97 : Int32) from nlt (b := 97) (by omega) (by decide) ha1), if_neg (show ¬ (104 : Int32) < nI a from nlt (a := 104) (by decide) (by omega) ha2)]
    simp only [nw]
    rw [c_plain (nne (b := 40) (by omega) (by decide) (by omega)) (nne (b := 124) (by omega) (by decide) (by omega)) (nne (b := 41) (by omega) (by decide) (by omega))]
    rw [show (97 : Int32) = nI 97 from rfl, pk_sub (by omega), bitI (by omega) (by omega), pk_mul, radd_n (by show d < 5; omega) (by decide)]
    refine ⟨_, rfl, eqv_wrr hs rfl (by decide), fun l hl => ?_⟩
    dsimp only at hl ⊢
    obtain ⟨q1, q2, q3⟩ := hR l hl
    refine ⟨?_, by rw [wr_at, if_neg (fun h => absurd h.1 (by decide))]; exact q2, by rw [wr_at, if_neg (fun h => absurd h.1 (by decide))]; exact q3⟩
    rw [wr_at]
    by_cases hl2 : l = d
    · subst hl2
      rw [if_pos ⟨rfl, rfl⟩, un_s, q1, nI_add]
    · rw [if_neg (fun h => hl2 h.2), un_n hl2]; exact q1
  · rw [e, if_pos (by decide), evs_o]
    unfold f_X6_markBy_91
    rw [if_pos (by decide)]
    unfold f_X6_markBy_126
    rw [if_pos rfl]
    unfold f_X6_begin
    simp only [nw, bd]
    unfold f_X6_markBy_144 f_X6_markBy_164 f_X6_markBy_204
    rw [if_neg (by decide), if_neg (by decide), if_neg (by decide)]
    have hd3 := h40 e
    rw [nI_1 d, rset_n (by show d + 1 < 5; omega) (by decide), rset_n (by show d + 1 < 5; omega) (by decide), rset_n (by show d + 1 < 5; omega) (by decide)]
    refine ⟨_, rfl, eqv_wrr (eqv_wrr (eqv_wrr hs rfl (by decide)) rfl (by decide)) rfl (by decide), fun l hl => ?_⟩
    dsimp only at hl ⊢
    by_cases hl2 : l = d + 1
    · subst hl2
      rw [un_s, un_s, un_s]
      refine ⟨by simp [wr_at]; rfl, by simp [wr_at]; rfl, by simp [wr_at]⟩
    · obtain ⟨q1, q2, q3⟩ := hR l (by show l ≤ d; omega)
      rw [un_n hl2, un_n hl2, un_n hl2]
      exact ⟨by simp [wr_at, hl2]; exact q1, by simp [wr_at, hl2]; exact q2, by simp [wr_at, hl2]; exact q3⟩
  · have hd1 := h41 (Or.inr e)
    rw [e, if_neg (by decide), if_pos (by decide), evs_b]
    unfold f_X6_markBy_91
    rw [if_neg (by decide), if_pos (by decide)]
    unfold f_X6_markBy_126
    rw [if_neg (by decide)]
    unfold f_X6_markBy_144
    rw [if_pos rfl]
    unfold f_X6_markBy_158 f_X6_endSum
    simp only [nw, bd]
    unfold f_X6_markBy_164 f_X6_markBy_204
    rw [if_neg (by decide), r36 d (Nat.le_refl _), r37 d (Nat.le_refl _), maxI (Nat.lt_trans (hb d (Nat.le_refl _)).2 (by decide)) (Nat.lt_trans (hb d (Nat.le_refl _)).1 (by decide)), rset_n (by show d < 5; omega) (by decide), rset_n (by show d < 5; omega) (by decide)]
    refine ⟨_, rfl, eqv_wrr (eqv_wrr hs rfl (by decide)) rfl (by decide), fun l hl => ?_⟩
    dsimp only at hl ⊢
    obtain ⟨q1, q2, q3⟩ := hR l hl
    by_cases hl2 : l = d
    · subst hl2
      rw [un_s, un_s]
      exact ⟨by simp [wr_at]; rfl, by simp [wr_at], by simp [wr_at]; exact q3⟩
    · rw [un_n hl2, un_n hl2]
      exact ⟨by simp [wr_at, hl2]; exact q1, by simp [wr_at, hl2]; exact q2, by simp [wr_at]; exact q3⟩
  · have hd1 := h41 (Or.inl e)
    obtain ⟨d, rfl⟩ : ∃ e, d = e + 1 := ⟨d - 1, by omega⟩
    rw [e, if_pos (by decide), evs_c]
    unfold f_X6_markBy_91
    rw [if_pos (by decide)]
    unfold f_X6_markBy_126
    rw [if_neg (by decide)]
    unfold f_X6_markBy_144
    rw [if_neg (by decide), if_pos rfl]
    unfold f_X6_markBy_158 f_X6_endSum
    simp only [nw, bd]
    unfold f_X6_markBy_164 f_X6_markBy_204
    rw [if_pos rfl, r36 (d + 1) (Nat.le_refl _), r37 (d + 1) (Nat.le_refl _), maxI (Nat.lt_trans (hb (d + 1) (Nat.le_refl _)).2 (by decide)) (Nat.lt_trans (hb (d + 1) (Nat.le_refl _)).1 (by decide)), rset_n (by show d + 1 < 5; omega) (by decide), rset_n (by show d + 1 < 5; omega) (by decide), rget_n (by show d + 1 < 5; omega) (by decide), rget_n (by show d + 1 < 5; omega) (by decide)]
    have hsub : nI (d + 1) - 1 = nI d := nI_pred d
    rw [hsub, radd_n (by show d < 5; omega) (by decide), Nat.add_sub_cancel]
    simp only [nw]
    rw [pk_m1]
    refine ⟨_, rfl, eqv_wrr (eqv_wrr (eqv_wrr hs rfl (by decide)) rfl (by decide)) rfl (by decide), fun l hl => ?_⟩
    dsimp only at hl ⊢
    have hl1 : l ≠ d + 1 := by omega
    obtain ⟨q1, q2, q3⟩ := hR l (by show l ≤ d + 1; omega)
    obtain ⟨z1, z2, z3⟩ := hR (d + 1) (Nat.le_refl _)
    dsimp only at z1 z2 z3 q1 q2 q3
    refine ⟨?_, by rw [un_n hl1]; simp [wr_at, hl1]; exact q2, by simp [wr_at]; exact q3⟩
    by_cases hl2 : l = d
    · subst hl2
      rw [un_s]
      simp [wr_at]
      rw [q1, z3, pk_mul, nI_add]
    · rw [un_n hl2, un_n hl1]; simp [wr_at, hl1, hl2]; exact q1
  · rw [evs_x hx]
    refine ⟨τ, ?_, hs, hR⟩
    have key : f_X6_markBy_91 (f_X6_markBy_36 n) (nI p) (nI at9) (nI len) (nI d) (nI f) (nI k) (w k) τ = f_X6_markBy_36 n (nI p) (nI at9) (nI len) (nI d) (nI f) (nI k + 1) τ := by
      unfold f_X6_markBy_91
      rw [c_plain hx.2.2.1 hx.2.2.2.1 hx.2.2.2.2]
      by_cases h97 : w k < 97
      · rw [if_pos h97]
      · rw [if_neg h97, if_pos]
        have := hx.2.1
        rw [lt_int] at h97
        rw [le_int, le_int] at this
        rw [lt_int]
        omega
    by_cases h49 : w k < 49
    · rw [if_pos h49]; exact key
    · rw [if_neg h49, if_pos]
      · exact key
      · have := hx.1
        rw [lt_int] at h49
        rw [le_int, le_int] at this
        rw [lt_int]
        omega
