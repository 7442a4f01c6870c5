/-! PURE: the reference enters a scheme; scheme. By hand. -/
theorem shl8 : ∀ i, i < 8 → (1 : Int32) <<< (nI i &&& 31) = nI (2 ^ i) := by decide +kernel
/-- what the reference's copy leaves, up to k -/
def EntM (τ T : Mem) (at9 len k : Nat) (W : Nat → Int32) : Prop := (∀ i, T 52 i = if 90 * at9 ≤ i ∧ i < 90 * at9 + k then (if i - 90 * at9 < len then W (i - 90 * at9) else 0) else τ 52 i) ∧ (∀ j, T 53 j = if j = at9 then nI (lets W (min k len)) else τ 53 j) ∧ ∀ r, r ≠ 52 → r ≠ 53 → T r = τ r
theorem m_copy {τ : Mem} {q at9 len : Nat} {W : Nat → Int32} (hat : at9 < 24) (hlen : len ≤ 80) (hW : ∀ j, j < len → τ 75 j = W j) : ∀ d k, k + d = 90 → ∀ N T, EntM τ T at9 len k W → ∃ T', f_X10_scheme_75 (N + d + 1) (nI q) (nI len) (nI at9) (nI k) T = f_X10_scheme_75 (N + 1) (nI q) (nI len) (nI at9) (nI 90) T' ∧ EntM τ T' at9 len 90 W := by
  intro d
  induction d with
  | zero =>
    intro k hk N T h
    have e : k = 90 := by omega
    subst e
    exact ⟨T, rfl, h⟩
  | succ d ih =>
    intro k hk N T h
    obtain ⟨h52, h53, hr⟩ := h
    have hk90 : k < 90 := by omega
    obtain ⟨c, hc⟩ : ∃ c : Int32, c = if k < len then W k else 0 := ⟨_, rfl⟩
    have hl : lets W (min (k + 1) len) = if 97 ≤ c ∧ c ≤ 104 then lets W (min k len) ||| 2 ^ (c - 97).toNatClampNeg else lets W (min k len) := by
      by_cases z : k < len
      · rw [if_pos z] at hc
        rw [show min (k + 1) len = k + 1 by omega, show min k len = k by omega, hc]
        rfl
      · rw [if_neg z] at hc
        rw [show min (k + 1) len = min k len by omega, if_neg (by rw [hc]; decide)]
    have hE : EntM τ (wr (wr T 52 (90 * at9 + k) c) 53 at9 (nI (lets W (min (k + 1) len)))) at9 len (k + 1) W := by
      refine ⟨fun i => ?_, fun j => ?_, fun r n52 n53 => ?_⟩
      · rw [wr_ne (by decide), wr_at]
        by_cases e : i = 90 * at9 + k
        · rw [if_pos ⟨rfl, e⟩, if_pos (by omega), hc, e, show 90 * at9 + k - 90 * at9 = k by omega]
        · rw [if_neg (fun h => e h.2), h52]
          by_cases z : 90 * at9 ≤ i ∧ i < 90 * at9 + k
          · rw [if_pos z, if_pos (show 90 * at9 ≤ i ∧ i < 90 * at9 + (k + 1) by omega)]
          · rw [if_neg z, if_neg (show ¬ (90 * at9 ≤ i ∧ i < 90 * at9 + (k + 1)) by omega)]
      · rw [wr_at]
        by_cases e : j = at9
        · rw [if_pos ⟨rfl, e⟩, if_pos e]
        · rw [if_neg (fun h => e h.2), if_neg e, wr_ne (by decide), h53, if_neg e]
      · rw [wr_ne n53, wr_ne n52]
        exact hr r n52 n53
    obtain ⟨T', a1, a2⟩ := ih (k + 1) (by omega) N _ hE
    refine ⟨T', ?_, a2⟩
    rw [← a1]
    have g99 : f_X10_scheme_99 (f_X10_scheme_75 (N + d + 1)) (nI q) (nI len) (nI at9) (nI k) c T = f_X10_scheme_75 (N + d + 1) (nI q) (nI len) (nI at9) (nI (k + 1)) (wr (wr T 52 (90 * at9 + k) c) 53 at9 (nI (lets W (min (k + 1) len)))) := by
      unfold f_X10_scheme_99 f_X10_scheme_147
      rw [show (90 : Int32) = nI 90 from rfl, pk_mul, nI_add, gd_r (show 90 * at9 + k < 2160 by omega) (by decide), na_nI (by omega)]
      simp only [nw]
      rw [gd_r (show at9 < 24 from hat) (by decide), m_in, bd_some, na_nI (by omega), gd_r (show at9 < 24 from hat) (by decide), gd_r (show at9 < 24 from hat) (by decide), wr_ne (show (53 : Nat) ≠ 52 by decide), h53, if_pos rfl, nI_1, hl]
      by_cases z : 97 ≤ c ∧ c ≤ 104
      · obtain ⟨x, x1, x2, xe⟩ := rng (lo := 97) (hi := 104) (by decide) (by decide) z
        rw [if_pos z, if_neg i10, if_pos z, xe, show (97 : Int32) = nI 97 from rfl, pk_sub x1, na_nI (by omega), shl8 _ (by omega), orI]
      · rw [if_neg z, if_pos rfl, if_neg z, show (0 : Int32) = nI 0 from rfl, orI, Nat.or_zero]
    rw [← g99]
    show (if (90 : Int32) ≤ nI k then _ else _) = _
    rw [if_neg (show ¬ (90 : Int32) ≤ nI k from nle (a := 90) (by decide) (by omega) hk90)]
    by_cases z : k < len
    · rw [if_neg (nle (by omega) (by omega) z), gd_r (show k < 90 by omega) (by decide), na_nI (by omega), hr 75 (by decide) (by decide), hW k z, hc, if_pos z]
      all_goals rfl
    · rw [if_pos (nI_le (by omega) (by omega)), hc, if_neg z]
      all_goals rfl
/-- the reference's scheme, a line that is one -/
theorem m_scheme {τ u : Mem} {s : A} (hW : WF s) (hM : RelM τ s) {q len tm most : Nat} {W : Nat → Int32} (hq : q < 4) (hV : s.V q < 6) (hs : eqv (ask 0 τ) u) (hf : f_X10_reads (ask 0 τ) = some (nI len, u)) (r1 : ∀ j, j < len → u 75 j = W j) (ht : Tl W tm len most) (hb : WFb W tm) (hl : len ≤ 80) (h0 : ∀ j, j < len → W j ≠ 0) : ∃ F, f_X10_scheme (nI q) τ = some (nI (s.V q), F) ∧ F 76 22 = nI 0 ∧ RelM F (s.sc q W len tm most) ∧ frM τ F := by
  have tle := ht.lt.1
  have M1 := hM.ask (c := 0)
  have M2 := M1.ev hs
  have hat : 6 * q + s.V q < 24 := by omega
  have k1 : ∀ i, i ≠ 11 → keep i u (wr u 76 23 0) := fun i hi => keep.w (show (11 : Nat) ≠ i by omega) keep.rf
  have k2 : ∀ i, i ≠ 11 → i ≠ 13 → keep i u (wr (wr u 76 23 0) 53 (6 * q + s.V q) 0) := fun i h1 h2 => (k1 i h1).tr (keep.w (show (13 : Nat) ≠ i by omega) keep.rf)
  have hE0 : EntM (wr (wr u 76 23 0) 53 (6 * q + s.V q) 0) (wr (wr u 76 23 0) 53 (6 * q + s.V q) 0) (6 * q + s.V q) len 0 W := by
    refine ⟨fun i => by rw [if_neg (by omega)], fun j => ?_, fun _ _ _ => rfl⟩
    by_cases e : j = 6 * q + s.V q
    · rw [if_pos e, Nat.zero_min, wr_at, if_pos ⟨rfl, e⟩]
      rfl
    · rw [if_neg e]
  obtain ⟨T, a1, a2, a3, a4⟩ := m_copy (q := q) hat hl (fun j hj => by rw [wr_ne (by decide), wr_ne (by decide)]; exact r1 j hj) 90 0 (by omega) 99909 _ hE0
  have t51 : ∀ j, T 51 j = u 51 j := fun j => by rw [a4 51 (by decide) (by decide), wr_ne (by decide), wr_ne (by decide)]
  have kT : ∀ i, i ≠ 11 → i ≠ 13 → keep i u T := by
    intro i h1 h2 r j hg
    have n52 : r ≠ 52 := fun e => by rw [e] at hg; exact h2 hg.symm
    have n53 : r ≠ 53 := fun e => by rw [e] at hg; exact h2 hg.symm
    rw [a4 r n52 n53]
    exact k2 i h1 h2 r j hg
  have kF : ∀ i, i ≠ 11 → i ≠ 13 → keep i u (wr T 51 q (nI (s.V q + 1))) := fun i h1 h2 => (kT i h1 h2).tr (keep.w (show (13 : Nat) ≠ i by omega) keep.rf)
  refine ⟨wr T 51 q (nI (s.V q + 1)), ?_, ?_, ?_, ?_⟩
  · unfold f_X10_scheme f_X10_scheme_27
    rw [mQ_y hq, bd_some, if_neg i10, gd_r (show q < 4 from hq) (by decide), na_nI (by omega), hM.m3.1 q hq, if_neg (show ¬ (6 : Int32) ≤ nI (s.V q) from nle (a := 6) (by decide) (by omega) hV), ak0, bd_some, if_neg i10, hf, bd_some]
    simp only [nw, nv]
    rw [if_pos (nI_pos' (by omega)), gd_r (show q < 4 from hq) (by decide), wr_ne (show (51 : Nat) ≠ 76 by decide), M2.m3.1 q hq, show (6 : Int32) = nI 6 from rfl, pk_mul, nI_add, gd_r (show 6 * q + s.V q < 24 from hat) (by decide), na_nI (show 6 * q + s.V q < 2 ^ 31 by omega)]
    have a1' : f_X10_scheme_75 FUEL (nI q) (nI len) (nI (6 * q + s.V q)) 0 (wr (wr u 76 23 0) 53 (6 * q + s.V q) 0) = f_X10_scheme_75 (99909 + 1) (nI q) (nI len) (nI (6 * q + s.V q)) (nI 90) T := a1
    rw [a1']
    show (if (90 : Int32) ≤ nI 90 then _ else _) = _
    rw [if_pos (show (90 : Int32) ≤ nI 90 by decide), gd_r (show q < 4 from hq) (by decide), gd_r (show q < 4 from hq) (by decide), na_nI (by omega), t51, M2.m3.1 q hq, nI_1]
    simp only [nw]
    rw [gd_r (show q < 4 from hq) (by decide), show (wr T 51 q (nI (s.V q + 1))) 51 q = nI (s.V q + 1) by simp [wr_at], nI_pred]
  · rw [wr_ne (by decide), a4 76 (by decide) (by decide), wr_ne (by decide), wr_at, if_neg (fun h => absurd h.2 (by decide)), hs.2]
    exact ask_22
  · refine ⟨?_, M2.m2.k (kF _ (by decide) (by decide)), ?_, M2.m4.k (kF _ (by decide) (by decide)), M2.m5.k (kF _ (by decide) (by decide)), M2.m6.k (kF _ (by decide) (by decide))⟩
    · refine ⟨?_, fun j hj => absurd hj (Nat.not_lt_zero j)⟩
      rw [wr_ne (by decide), a4 76 (by decide) (by decide)]
      simp [wr_at]
      rfl
    · refine ⟨fun x hx => ?_, fun x v hx hv => ?_⟩
      · rw [wr_at, sc_V]
        by_cases e : x = q
        · rw [if_pos ⟨rfl, e⟩, if_pos e]
        · rw [if_neg (fun h => e h.2), if_neg e, t51]
          exact M2.m3.1 x hx
      · by_cases e : 6 * x + v = 6 * q + s.V q
        · rw [e, let9_sc (by omega), sc_len, sc_tm, sc_most, if_pos rfl, if_pos rfl, if_pos rfl, wr_ne (by decide), a3, if_pos rfl, show min 90 len = len by omega, Tl_lets ht]
          have c : ∀ j, j < 100 → W j = (s.sc q W len tm most).txt (6 * q + s.V q) j := fun j hj => (sc_txt hj).symm
          refine ⟨⟨hat, hl, fun j hj => ?_, fun j h1 h2 => ?_, WFb_cong (fun j hj => c j (by omega)) hb, Tl_cong (fun j hj => c j (by omega)) ht⟩, rfl⟩
          · rw [wr_ne (by decide), a2, if_pos (by omega), show 90 * (6 * q + s.V q) + j - 90 * (6 * q + s.V q) = j by omega, if_pos hj, ← c j (by omega)]
            exact ⟨rfl, h0 j hj⟩
          · rw [wr_ne (by decide), a2, if_pos (by omega), show 90 * (6 * q + s.V q) + j - 90 * (6 * q + s.V q) = j by omega, if_neg (by omega)]
        · have hv' : v < s.V x := by
            rw [sc_V] at hv
            by_cases z : x = q
            · rw [if_pos z] at hv
              subst z
              omega
            · rw [if_neg z] at hv; exact hv
          obtain ⟨⟨t1, t2, t3, t4, t5, t6⟩, t7⟩ := M2.m3.2 x v hx hv'
          have t8 := t6.lt.1
          have c : ∀ j, j < 100 → s.txt (6 * x + v) j = (s.sc q W len tm most).txt (6 * x + v) j := fun j hj => (sc_txt2 hj e).symm
          rw [let9_sc2 e (by omega), sc_len, sc_tm, sc_most, if_neg e, if_neg e, if_neg e, wr_ne (by decide), a3, if_neg e, wr_at, if_neg (fun h => e h.2), wr_ne (by decide)]
          refine ⟨⟨t1, t2, fun j hj => ?_, fun j h1 h2 => ?_, WFb_cong (fun j hj => c j (by omega)) t5, Tl_cong (fun j hj => c j (by omega)) t6⟩, t7⟩
          · rw [wr_ne (by decide), a2, if_neg (by omega), wr_ne (by decide), wr_ne (by decide), ← c j (by omega)]
            exact t3 j hj
          · rw [wr_ne (by decide), a2, if_neg (by omega), wr_ne (by decide), wr_ne (by decide)]
            exact t4 j h1 h2
  · intro i h1 h2
    exact ((keepA core_ask h1).tr (hs.keep (by omega))).tr (kF i (by omega) (by omega))
