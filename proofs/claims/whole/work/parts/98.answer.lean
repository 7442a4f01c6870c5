/-! PURE: answer. By hand. -/
def A.nct (s : A) (a k : Nat) : Nat := ((List.range k).filter (fun j => decide (s.ans j = a ∧ s.cts j = true))).length
theorem nct_e {s : A} (hW : WF s) (a : Nat) : ∀ k, k ≤ s.n → s.nct a k = (s.Ck a 0 k).length + (s.Ck a 1 k).length := by
  intro k
  induction k with
  | zero => intro _; rfl
  | succ k ih =>
    intro hk
    have i := ih (by omega)
    have hap := hW.apr k (by omega)
    unfold A.nct A.Ck at i ⊢
    rw [cl_s, cl_s, cl_s, i]
    by_cases c : s.ans k = a ∧ s.cts k = true
    · rw [if_pos (decide_eq_true c)]
      by_cases z : s.apr k = 0
      · rw [if_pos (show s.pc a 0 k = true from decide_eq_true ⟨c.1, z, c.2⟩), if_neg (show ¬ s.pc a 1 k = true from fun h => by have := (of_decide_eq_true h).2.1; omega)]
        omega
      · rw [if_neg (show ¬ s.pc a 0 k = true from fun h => z (of_decide_eq_true h).2.1), if_pos (show s.pc a 1 k = true from decide_eq_true ⟨c.1, by omega, c.2⟩)]
        omega
    · rw [if_neg (fun h => c (of_decide_eq_true h)), if_neg (show ¬ s.pc a 0 k = true from fun h => c ⟨(of_decide_eq_true h).1, (of_decide_eq_true h).2.2⟩), if_neg (show ¬ s.pc a 1 k = true from fun h => c ⟨(of_decide_eq_true h).1, (of_decide_eq_true h).2.2⟩)]
      all_goals omega
theorem m_an {σ : Mem} {s : A} (hW : WF s) (h3 : RM3 σ s) (h6 : RM6 σ s) {a : Nat} (ha : a < 64) {w : Int32} : ∀ d k, k + d = s.n → ∀ N, f_X10_answer_51 (N + d + 1) w (nI a) (nI (s.nct a k)) (nI (s.Lk a k).length) (nI k) σ = f_X10_answer_51 (N + 1) w (nI a) (nI (s.nct a s.n)) (nI (s.Lk a s.n).length) (nI s.n) σ := by
  have hn := hW.n
  have hP := hW.P
  intro d
  induction d with
  | zero =>
    intro k hk N
    have e : k = s.n := by omega
    subst e
    rfl
  | succ d ih =>
    intro k hk N
    have hkn : k < s.n := by omega
    have hak := (hW.ans k hkn).1
    have i := ih (k + 1) (by omega) N
    have e1 : s.nct a (k + 1) = s.nct a k + if s.ans k = a ∧ s.cts k = true then 1 else 0 := by
      unfold A.nct
      rw [cl_s]
      by_cases c : s.ans k = a ∧ s.cts k = true
      · rw [if_pos (decide_eq_true c), if_pos c]
      · rw [if_neg (fun h => c (of_decide_eq_true h)), if_neg c]
    have e2 : (s.Lk a (k + 1)).length = (s.Lk a k).length + if s.ans k = a then 1 else 0 := by
      unfold A.Lk
      rw [cl_s]
      by_cases c : s.ans k = a
      · rw [if_pos (decide_eq_true c), if_pos c]
      · rw [if_neg (fun h => c (of_decide_eq_true h)), if_neg c]
    rw [e1, e2] at i
    refine Eq.trans ?_ i
    show (if σ 76 29 ≤ nI k then _ else _) = _
    unfold f_X10_answer_87 f_X10_answer_88 f_X10_answer_110
    simp only [nv, na_nI (show k < 2 ^ 31 by omega)]
    rw [h6.1, if_neg (nle (by omega) (by omega) hkn), gd_r (show k < 300 by omega) (by decide), (h6.2.1 k hkn).1, gd_r (show k < 300 by omega) (by decide)]
    by_cases c : s.ans k = a
    · rw [if_pos (show nI (s.ans k) = nI a by rw [c]), m_counts hW h3 h6 hkn, bd_some, if_pos c]
      by_cases f : s.cts k = true
      · rw [if_pos f, if_neg i10, if_pos (show s.ans k = a ∧ s.cts k = true from ⟨c, f⟩), gd_r (show k < 300 by omega) (by decide), (h6.2.1 k hkn).1, if_pos (show nI (s.ans k) = nI a by rw [c]), show (1 : Int32) = nI 1 from rfl, nI_add, nI_add, nI_add]
        all_goals rfl
      · rw [if_neg f, if_pos rfl, if_neg (show ¬ (s.ans k = a ∧ s.cts k = true) from fun h => f h.2), gd_r (show k < 300 by omega) (by decide), (h6.2.1 k hkn).1, if_pos (show nI (s.ans k) = nI a by rw [c]), show (1 : Int32) = nI 1 from rfl, show (0 : Int32) = nI 0 from rfl, nI_add, nI_add, nI_add]
        all_goals rfl
    · rw [if_neg (show ¬ nI (s.ans k) = nI a from nne (by omega) (by omega) c), if_neg (show ¬ nI (s.ans k) = nI a from nne (by omega) (by omega) c), if_neg (show ¬ (s.ans k = a ∧ s.cts k = true) from fun h => c h.1), if_neg c, show (1 : Int32) = nI 1 from rfl, show (0 : Int32) = nI 0 from rfl, nI_add, nI_add, nI_add]
      all_goals rfl
/-- answer -/
theorem step_answer (x y z : Int32) {σ : Mem} (hI : Inv9 σ) : StpG Inv9 (f_X9_answer x y z) (f_X10_answer x y z) [3, 1] σ := by
  obtain ⟨s, hW, hC, hM⟩ := hI
  have hP := hW.P
  have hn := hW.n
  have no1 : ∀ u, f_X10_answer_20 x y z u = some (0, ask 1 u) := by
    intro u
    unfold f_X10_answer_20 f_X10_answer_21
    rw [m_in, bd_some, ak1, bd_some, if_pos rfl]
  rcases idx x s.P with ⟨p, hp, rfl⟩ | hx
  · rcases idx y 4 with ⟨q, hq, rfl⟩ | hy
    · have ha : 4 * p + q < 4 * s.P := by omega
      have ha64 : 4 * p + q < 64 := by omega
      have cl : f_X9_answer (nI p) (nI q) z σ = if z < 0 then some ((1, 0), σ) else if z ≤ 3 then (if z = 2 then bd (f_X9_wantedBy (nI p) (nI q) σ) (fun y9 τ10 => some ((0, y9), τ10)) else if z = 3 then bd (f_X3_isAppealed (nI p) (nI q) σ) (fun y7 τ8 => if y7 = 0 then some ((0, 0), τ8) else some ((0, 1), τ8)) else bd (f_X9_tallyUp (nI p) (nI q) σ) (fun _ τ6 => if z = 0 then some ((0, τ6 76 11), τ6) else some ((0, τ6 76 10), τ6))) else some ((1, 0), σ) := by
        unfold f_X9_answer f_X9_answer_18 f_X9_answer_35 f_X9_answer_77 f_X9_answer_105
        rw [cP_y hC.c2.1 hp (by omega), bd_some, if_neg i10, cQ_y hq, bd_some, if_neg i10]
      have ml : ∀ u, RelM u s → f_X10_answer (nI p) (nI q) z u = f_X10_answer_21 (nI p) (nI q) z 1 u := by
        intro u hu
        unfold f_X10_answer
        rw [mP_y hu.m2.1 hp (by omega), bd_some, if_neg i10, mQ_y hq, bd_some, if_neg i10]
      rcases idx z 4 with ⟨w, hw, rfl⟩ | hz
      · have ml2 : ∀ u, RelM u s → f_X10_answer (nI p) (nI q) (nI w) u = f_X10_answer_51 1 (nI w) (nI (4 * p + q)) (nI (s.nct (4 * p + q) s.n)) (nI (s.Lk (4 * p + q) s.n).length) (nI s.n) (ask 0 u) := by
          intro u hu
          have M1 := hu.ask (c := 0)
          obtain ⟨N, hN⟩ : ∃ N, FUEL = N + s.n + 1 := ⟨99999 - s.n, by unfold FUEL; omega⟩
          have i := m_an hW M1.m3 M1.m6 ha64 (w := nI w) s.n 0 (by omega) N
          rw [ml u hu]
          unfold f_X10_answer_21
          rw [show (3 : Int32) = nI 4 - 1 from rfl, in_y hw (by decide), bd_some, ak0, bd_some, if_neg i10, show (4 : Int32) = nI 4 from rfl, pk_mul, nI_add, hN]
          simp only [nv]
          refine Eq.trans i ?_
          show (if ask 0 u 76 29 ≤ nI s.n then _ else _) = (if ask 0 u 76 29 ≤ nI s.n then _ else _)
          rw [M1.m6.1, if_pos (nI_le (Nat.le_refl _) (by omega)), if_pos (nI_le (Nat.le_refl _) (by omega))]
        have z0 : ¬ nI w < (0 : Int32) := nI_pos (by omega)
        have z3 : nI w ≤ (3 : Int32) := (nI_leI (b := 3) (by omega) (by decide)).mpr (by omega)
        have hw4 : w = 0 ∨ w = 1 ∨ w = 2 ∨ w = 3 := by omega
        have fin : ∀ u, RelM u s → f_X10_answer (nI p) (nI q) (nI w) u = if nI w = 0 then some (nI (s.nct (4 * p + q) s.n), ask 0 u) else if nI w = 1 then some (nI (s.Lk (4 * p + q) s.n).length, ask 0 u) else if nI w = 2 then bd (f_X10_wants (nI (4 * p + q)) (ask 0 u)) (fun y3 τ4 => some (y3, τ4)) else gd (inb (nI (4 * p + q)) (rlen 48)) (if ask 0 u 48 (Int32.toNatClampNeg (nI (4 * p + q))) = 0 then some (0, ask 0 u) else some (1, ask 0 u)) := by
          intro u hu
          have M1 := hu.ask (c := 0)
          rw [ml2 u hu]
          show (if ask 0 u 76 29 ≤ nI s.n then _ else _) = _
          rw [M1.m6.1, if_pos (nI_le (Nat.le_refl _) (by omega))]
          rfl
        rcases hw4 with rfl | rfl | rfl | rfl
        · obtain ⟨u1, d1, d2, d3⟩ := c_tal hW hC (show p < 16 by omega) hq
          refine stepS (oc := (0, nI (s.nct (4 * p + q) s.n))) hW hC hM ⟨u1, ?_, d2⟩ (fun u hu => ⟨nI (s.nct (4 * p + q) s.n), ask 0 u, ?_, ask_22, core_ask, fun _ => rfl⟩) (Or.inl rfl)
          · rw [cl, if_neg z0, if_pos z3, if_neg (by decide), if_neg (by decide), d1, bd_some, if_pos (by decide), (RT_e d3).2.1, nct_e hW _ _ (Nat.le_refl _)]
            rfl
          · rw [fin u hu, if_pos (by decide)]
        · obtain ⟨u1, d1, d2, d3⟩ := c_tal hW hC (show p < 16 by omega) hq
          refine stepS (oc := (0, nI (s.L (4 * p + q)).length)) hW hC hM ⟨u1, ?_, d2⟩ (fun u hu => ⟨nI (s.L (4 * p + q)).length, ask 0 u, ?_, ask_22, core_ask, fun _ => rfl⟩) (Or.inl rfl)
          · rw [cl, if_neg z0, if_pos z3, if_neg (by decide), if_neg (by decide), d1, bd_some, if_neg (by decide), (RT_e d3).1]
          · rw [fin u hu, if_neg (by decide), if_pos (by decide)]
            rfl
        · obtain ⟨u1, d1, d2, -⟩ := c_wanted hW hC hp hq
          refine stepS (oc := (0, nI (s.wnt (4 * p + q)))) hW hC hM ⟨u1, ?_, d2⟩ (fun u hu => ?_) (Or.inl rfl)
          · rw [cl, if_neg z0, if_pos z3, if_pos (by decide), d1, bd_some]
          · obtain ⟨u2, m1, m2⟩ := m_wants hW (hu.ask (c := 0)) ha
            refine ⟨nI (s.wnt (4 * p + q)), u2, ?_, m2.2.trans ask_22, m2.1.trans core_ask, fun _ => rfl⟩
            rw [fin u hu, if_neg (by decide), if_neg (by decide), if_pos (by decide), m1, bd_some]
        · have hb := apb_le (s := s) (a := 4 * p + q)
          refine stepS (oc := (0, nI (s.apb (4 * p + q)))) hW hC hM ⟨σ, ?_, eqv.rfl⟩ (fun u hu => ⟨nI (s.apb (4 * p + q)), ask 0 u, ?_, ask_22, core_ask, fun _ => rfl⟩) (Or.inl rfl)
          · rw [cl, if_neg z0, if_pos z3, if_neg (by decide), if_pos (by decide), c_ap hW hC.c2 (show p < 16 by omega) hq, bd_some]
            by_cases d : s.apb (4 * p + q) = 0
            · rw [if_pos d, if_pos rfl, d]
              rfl
            · rw [if_neg d, if_neg i10, show s.apb (4 * p + q) = 1 by omega]
              rfl
          · rw [fin u hu, if_neg (by decide), if_neg (by decide), if_neg (by decide), gd_r (show 4 * p + q < 64 from ha64) (by decide), na_nI (by omega), m_app (hu.ask (c := 0)).m2 ha64]
            by_cases d : s.apb (4 * p + q) = 0
            · rw [d, if_pos (show nI 0 = (0 : Int32) from rfl)]
              rfl
            · rw [show s.apb (4 * p + q) = 1 by omega, if_neg (show ¬ nI 1 = (0 : Int32) by decide)]
              rfl
      · refine stepS (oc := (1, 0)) hW hC hM ⟨σ, ?_, eqv.rfl⟩ (fun u hu => ⟨0, ask 2 u, ?_, ask_22, core_ask, fun h => absurd h (by decide)⟩) (Or.inr (by decide))
        · rw [cl]
          rcases idx_n (by decide) hz with h | h
          · rw [if_pos h]
          · have h2 : ¬ z ≤ 3 := by
              rw [le_int, nI_toInt (by omega)] at h
              rw [le_int]
              have : (3 : Int32).toInt = 3 := rfl
              omega
            rw [if_neg h2, ite_self]
        · rw [ml u hu]
          unfold f_X10_answer_21
          rw [show (3 : Int32) = nI 4 - 1 from rfl, in_n (by decide) hz, bd_some, ak2, bd_some, if_pos rfl]
    · refine stepS (oc := (3, 0)) hW hC hM ⟨σ, ?_, eqv.rfl⟩ (fun u hu => ⟨0, ask 1 u, ?_, ask_22, core_ask, fun h => absurd h (by decide)⟩) (Or.inr (by decide))
      · unfold f_X9_answer f_X9_answer_18
        rw [cP_y hC.c2.1 hp (by omega), bd_some, if_neg i10, cQ_n hy, bd_some, if_pos rfl]
      · unfold f_X10_answer
        rw [mP_y hu.m2.1 hp (by omega), bd_some, if_neg i10, mQ_n hy, bd_some, if_pos rfl]
        exact no1 u
  · refine stepS (oc := (3, 0)) hW hC hM ⟨σ, ?_, eqv.rfl⟩ (fun u hu => ⟨0, ask 1 u, ?_, ask_22, core_ask, fun h => absurd h (by decide)⟩) (Or.inr (by decide))
    · unfold f_X9_answer f_X9_answer_18
      rw [cP_n hC.c2.1 (by omega) hx, bd_some, if_pos rfl]
    · unfold f_X10_answer
      rw [mP_n hu.m2.1 (by omega) hx, bd_some, if_pos rfl]
      exact no1 u
