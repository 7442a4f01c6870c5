/-! PURE: ofReader. By hand. -/
theorem m_handed {σ : Mem} {s : A} (hW : WF s) (h4 : RM4 σ s) (h5 : RM5 σ s) {r : Nat} (hr : r < s.R) : f_X10_handed (nI r) σ = some (s.hand r, σ) := by
  have hR := hW.R
  have hP := hW.P
  have hS := hW.S
  have e := (h4.2.1 r hr).2.2.2.1
  unfold f_X10_handed f_X10_handed_66 A.hand
  simp only [na_nI (show r < 2 ^ 31 by omega)]
  rw [gd_r (show r < 6 by omega) (by decide), e]
  by_cases h0 : s.hc r = 0
  · rw [h0, if_pos (show nI 0 - 1 = (-1 : Int32) from rfl), if_pos rfl]
  · obtain ⟨c, hc⟩ : ∃ c, s.hc r = c + 1 := ⟨s.hc r - 1, by omega⟩
    have hb : c < 200 := by
      rcases hW.hc r hr with h | h | h <;> omega
    rw [hc, nI_pred, if_neg (nm1 (by omega)), if_neg (show ¬ c + 1 = 0 by omega), gd_r (show r < 6 by omega) (by decide)]
    by_cases h1 : c + 1 ≤ 100
    · have hc4 : c < 64 := by
        rcases hW.hc r hr with h | h | h <;> omega
      rw [if_pos (show nI c < (100 : Int32) from (nI_ltI (b := 100) (by omega) (by decide)).mpr (by omega)), if_pos h1, gd_r (show r < 6 by omega) (by decide), gd_r (show r < 6 by omega) (by decide), md4 hc4, dv4 c hc4, show (10 : Int32) = nI 10 from rfl, pk_mul, nI_add, show c / 4 * 10 + c % 4 = 10 * ((c + 1 - 1) / 4) + (c + 1 - 1) % 4 by rw [Nat.add_sub_cancel]; omega]
    · have hs : c - 100 < s.S := by
        rcases hW.hc r hr with h | h | h <;> omega
      rw [if_neg (show ¬ nI c < (100 : Int32) from nlt (b := 100) (by omega) (by decide) (by omega)), if_neg h1, gd_r (show r < 6 by omega) (by decide), show (100 : Int32) = nI 100 from rfl, pk_sub (by omega), gd_r (show c - 100 < 8 by omega) (by decide), na_nI (by omega), (h5.2.1 _ hs).1, show (1000 : Int32) = nI 1000 from rfl, nI_add, show c + 1 - 101 = c - 100 by omega]
def bcx (x1 : Int32) : Int32 := nv ((x1) - ((((x1 : Int32).toUInt32 >>> ((1 : Int32).toUInt32 &&& Int32.toUInt32 31)).toInt32) &&& (1431655765))) (fun y1 => nv (((y1) &&& (858993459)) + ((((y1 : Int32).toUInt32 >>> ((2 : Int32).toUInt32 &&& Int32.toUInt32 31)).toInt32) &&& (858993459))) (fun y2 => nv (((y2) + (((y2 : Int32).toUInt32 >>> ((4 : Int32).toUInt32 &&& Int32.toUInt32 31)).toInt32)) &&& (252645135)) (fun y3 => nv ((y3) + (((y3 : Int32).toUInt32 >>> ((8 : Int32).toUInt32 &&& Int32.toUInt32 31)).toInt32)) (fun y4 => nv ((y4) + (((y4 : Int32).toUInt32 >>> ((16 : Int32).toUInt32 &&& Int32.toUInt32 31)).toInt32)) (fun y5 => (y5) &&& (63))))))
theorem bcx_e {x : Int32} {σ : Mem} : f_J6_bitCount_0f7a4 x σ = some (bcx x, σ) := rfl
/-- how many of the first bits are set -/
def pbc (g : Nat) : Nat → Nat
  | 0 => 0
  | i + 1 => pbc g i + g / 2 ^ i % 2
theorem bcx_n : ∀ g, g < 256 → bcx (nI g) = nI (pbc g 8) := by decide +kernel
/-- the reference's last word -/
def ofr (s : A) (r w : Nat) : Int32 := if w = 0 then nI (s.stp r) else if w = 1 then s.hand r else if w = 2 then nI (s.nby r) else if w = 3 then nI (s.nvoid r) else if w = 4 then nI (s.since r) else nI (pbc (s.given r) 8)
theorem m_of65 {σ : Mem} {s : A} (hW : WF s) (hM : RelM σ s) {r w : Nat} (hr : r < s.R) (hw : w < 6) : ∀ d i, i + d = 8 → ∀ N, f_X10_ofReader_65 (N + d + 1) (nI r) (nI w) (nI (s.nby r)) (nI (pbc (s.given r) i)) (nI i) σ = some (ofr s r w, σ) := by
  have hR := hW.R
  have hr6 : r < 6 := by omega
  have hg := hW.given r hr6
  have hst := hW.stp r hr6
  obtain ⟨q1, q2, q3, q4⟩ := hM.m4.2.2 r hr6
  intro d
  induction d with
  | zero =>
    intro i hi N
    have e : i = 8 := by omega
    subst e
    show (if (8 : Int32) ≤ nI 8 then (if nI w = 0 then _ else (if nI w = 1 then _ else (if nI w = 2 then _ else (if nI w = 3 then _ else (if nI w = 4 then _ else _))))) else _) = _
    rw [if_pos (show (8 : Int32) ≤ nI 8 by decide)]
    unfold f_X10_ofReader_166
    have hw6 : w = 0 ∨ w = 1 ∨ w = 2 ∨ w = 3 ∨ w = 4 ∨ w = 5 := by omega
    rcases hw6 with rfl | rfl | rfl | rfl | rfl | rfl
    · rw [if_pos (show nI 0 = (0 : Int32) from rfl), gd_r (show r < 6 from hr6) (by decide), na_nI (by omega), q1]
      by_cases z : s.stp r = 0
      · rw [z, if_pos (show nI 0 = (0 : Int32) from rfl)]
        show _ = some (nI (s.stp r), σ)
        rw [z]
        rfl
      · have z1 : s.stp r = 1 := by omega
        rw [z1, if_neg (show ¬ nI 1 = (0 : Int32) by decide)]
        show _ = some (nI (s.stp r), σ)
        rw [z1]
        rfl
    · rw [if_neg (show ¬ nI 1 = (0 : Int32) by decide), if_pos (show nI 1 = (1 : Int32) from rfl), m_handed hW hM.m4 hM.m5 hr, bd_some]
      rfl
    · rw [if_neg (show ¬ nI 2 = (0 : Int32) by decide), if_neg (show ¬ nI 2 = (1 : Int32) by decide), if_pos (show nI 2 = (2 : Int32) from rfl)]
      rfl
    · rw [if_neg (show ¬ nI 3 = (0 : Int32) by decide), if_neg (show ¬ nI 3 = (1 : Int32) by decide), if_neg (show ¬ nI 3 = (2 : Int32) by decide), if_pos (show nI 3 = (3 : Int32) from rfl), m_voids hW hM.m6 hr6, bd_some]
      rfl
    · rw [if_neg (show ¬ nI 4 = (0 : Int32) by decide), if_neg (show ¬ nI 4 = (1 : Int32) by decide), if_neg (show ¬ nI 4 = (2 : Int32) by decide), if_neg (show ¬ nI 4 = (3 : Int32) by decide), if_pos (show nI 4 = (4 : Int32) from rfl), gd_r (show r < 6 from hr6) (by decide), na_nI (by omega), q2]
      rfl
    · rw [if_neg (show ¬ nI 5 = (0 : Int32) by decide), if_neg (show ¬ nI 5 = (1 : Int32) by decide), if_neg (show ¬ nI 5 = (2 : Int32) by decide), if_neg (show ¬ nI 5 = (3 : Int32) by decide), if_neg (show ¬ nI 5 = (4 : Int32) by decide)]
      rfl
  | succ d ih =>
    intro i hi N
    have i1 := ih (i + 1) (by omega) N
    rw [show pbc (s.given r) (i + 1) = pbc (s.given r) i + s.given r / 2 ^ i % 2 from rfl] at i1
    show (if (8 : Int32) ≤ nI i then _ else _) = _
    rw [if_neg (show ¬ (8 : Int32) ≤ nI i from nle (a := 8) (by decide) (by omega) (by omega)), gd_r (show r < 6 from hr6) (by decide), na_nI (by omega), q3, bitI (by omega) (by omega), nI_add, nI_1]
    exact i1
theorem m_of25 {σ : Mem} {s : A} (hW : WF s) (hM : RelM σ s) {r w : Nat} (hr : r < s.R) (hw : w < 6) : ∀ d k, k + d = s.n → ∀ N, f_X10_ofReader_25 (N + d + 1) (nI r) (nI w) (nI ((List.range k).filter (fun j => decide (s.rby j = r))).length) (nI k) σ = some (ofr s r w, σ) := by
  have hR := hW.R
  have hn := hW.n
  intro d
  induction d with
  | zero =>
    intro k hk N
    have e : k = s.n := by omega
    subst e
    have h := m_of65 hW hM hr hw 8 0 (by omega) 99991
    show (if σ 76 29 ≤ nI s.n then f_X10_ofReader_65 FUEL (nI r) (nI w) _ 0 0 σ else _) = _
    rw [hM.m6.1, if_pos (nI_le (Nat.le_refl _) (by omega))]
    exact h
  | succ d ih =>
    intro k hk N
    have hkn : k < s.n := by omega
    have hb := hW.rby k hkn
    have i := ih (k + 1) (by omega) N
    rw [cl_s] at i
    show (if σ 76 29 ≤ nI k then _ else _) = _
    rw [hM.m6.1, if_neg (nle (by omega) (by omega) hkn), gd_r (show k < 300 by omega) (by decide), na_nI (by omega), (hM.m6.2.1 k hkn).2.1]
    unfold f_X10_ofReader_51
    simp only [nv]
    by_cases c : s.rby k = r
    · rw [if_pos (decide_eq_true c)] at i
      rw [if_pos (show nI (s.rby k) = nI r by rw [c]), show (1 : Int32) = nI 1 from rfl, nI_add, nI_add]
      exact i
    · rw [if_neg (fun h => c (of_decide_eq_true h))] at i
      rw [if_neg (show ¬ nI (s.rby k) = nI r from nne (by omega) (by omega) c), show (0 : Int32) = nI 0 from rfl, nI_1, nI_add]
      exact i
/-- ofReader -/
theorem step_ofReader (x y : Int32) {σ : Mem} (hI : Inv9 σ) : StpG Inv9 (f_X9_ofReader x y) (f_X10_ofReader x y) [3, 1] σ := by
  obtain ⟨s, hW, hC, hM⟩ := hI
  have hR := hW.R
  have hn := hW.n
  have i5 : (5 : Int32) = nI 6 - 1 := rfl
  rcases idx x s.R with ⟨r, hr, rfl⟩ | hx
  · have hr6 : r < 6 := by omega
    rcases idx y 6 with ⟨w, hw, rfl⟩ | hy
    · refine stepS (oc := (0, ofr s r w)) hW hC hM ⟨σ, ?_, eqv.rfl⟩ (fun u hu => ⟨ofr s r w, ask 0 u, ?_, ask_22, core_ask, fun _ => rfl⟩) (Or.inl rfl)
      · obtain ⟨q1, q2, q3, q4⟩ := hC.c4.2.2 r hr6
        obtain ⟨n1, n2⟩ := hC.c6.2.2.2 r hr6
        unfold f_X9_ofReader
        rw [cR_y hC.c4.1 hr (by omega), bd_some, if_neg i10, rget_n (show r < 6 from hr6) (by decide), rget_n (show r < 6 from hr6) (by decide), rget_n (show r < 6 from hr6) (by decide), rget_n (show r < 6 from hr6) (by decide), rget_n (show r < 6 from hr6) (by decide), rget_n (show r < 6 from hr6) (by decide), q1, q2, q3, n1, n2, (hC.c4.2.1 r hr).2.2.2.1, bcx_e, bd_some, bcx_n _ (hW.given r hr6)]
        have hw6 : w = 0 ∨ w = 1 ∨ w = 2 ∨ w = 3 ∨ w = 4 ∨ w = 5 := by omega
        rcases hw6 with rfl | rfl | rfl | rfl | rfl | rfl
        · rw [if_pos (show nI 0 = (0 : Int32) from rfl)]
          rfl
        · rw [if_neg (show ¬ nI 1 = (0 : Int32) by decide), if_pos (show nI 1 = (1 : Int32) from rfl)]
          rfl
        · rw [if_neg (show ¬ nI 2 = (0 : Int32) by decide), if_neg (show ¬ nI 2 = (1 : Int32) by decide), if_pos (show nI 2 = (2 : Int32) from rfl)]
          rfl
        · rw [if_neg (show ¬ nI 3 = (0 : Int32) by decide), if_neg (show ¬ nI 3 = (1 : Int32) by decide), if_neg (show ¬ nI 3 = (2 : Int32) by decide), if_pos (show nI 3 = (3 : Int32) from rfl)]
          rfl
        · rw [if_neg (show ¬ nI 4 = (0 : Int32) by decide), if_neg (show ¬ nI 4 = (1 : Int32) by decide), if_neg (show ¬ nI 4 = (2 : Int32) by decide), if_neg (show ¬ nI 4 = (3 : Int32) by decide), if_pos (show nI 4 = (4 : Int32) from rfl)]
          rfl
        · rw [if_neg (show ¬ nI 5 = (0 : Int32) by decide), if_neg (show ¬ nI 5 = (1 : Int32) by decide), if_neg (show ¬ nI 5 = (2 : Int32) by decide), if_neg (show ¬ nI 5 = (3 : Int32) by decide), if_neg (show ¬ nI 5 = (4 : Int32) by decide), if_pos (show nI 5 = (5 : Int32) from rfl)]
          rfl
      · have M1 := hu.ask (c := 0)
        obtain ⟨N, hN⟩ : ∃ N, FUEL = N + s.n + 1 := ⟨99999 - s.n, by unfold FUEL; omega⟩
        have h := m_of25 hW M1 hr hw s.n 0 (by omega) N
        unfold f_X10_ofReader
        rw [mR_y hu.m4.1 hr (by omega), bd_some, i5, in_y hw (by decide), bd_some, ak0, bd_some, if_neg i10, hN]
        exact h
    · refine stepS (oc := (1, 0)) hW hC hM ⟨σ, ?_, eqv.rfl⟩ (fun u hu => ⟨0, ask 2 u, ?_, ask_22, core_ask, fun h => absurd h (by decide)⟩) (Or.inr (by decide))
      · unfold f_X9_ofReader
        rw [cR_y hC.c4.1 hr (by omega), bd_some, if_neg i10, if_neg (show ¬ y = (0 : Int32) from fun e => hy ⟨0, by omega, e⟩), if_neg (show ¬ y = (1 : Int32) from fun e => hy ⟨1, by omega, e⟩), if_neg (show ¬ y = (2 : Int32) from fun e => hy ⟨2, by omega, e⟩), if_neg (show ¬ y = (3 : Int32) from fun e => hy ⟨3, by omega, e⟩), if_neg (show ¬ y = (4 : Int32) from fun e => hy ⟨4, by omega, e⟩), if_neg (show ¬ y = (5 : Int32) from fun e => hy ⟨5, by omega, e⟩)]
      · unfold f_X10_ofReader
        rw [mR_y hu.m4.1 hr (by omega), bd_some, i5, in_n (by decide) hy, bd_some, ak2, bd_some, if_pos rfl]
  · refine stepS (oc := (3, 0)) hW hC hM ⟨σ, ?_, eqv.rfl⟩ (fun u hu => ⟨0, ask 1 u, ?_, ask_22, core_ask, fun h => absurd h (by decide)⟩) (Or.inr (by decide))
    · unfold f_X9_ofReader
      rw [cR_n hC.c4.1 (by omega) hx, bd_some, if_pos rfl]
    · unfold f_X10_ofReader
      rw [mR_n hu.m4.1 (by omega) hx, bd_some, m_in, bd_some, ak1, bd_some, if_pos rfl]
