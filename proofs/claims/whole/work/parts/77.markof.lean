/-! PURE: markOf: marks out of the common state. By hand; long conjunctions by wfmk.py. -/
theorem cS_y {q v V : Nat} {σ : Mem} (hq : q < 4) (h : σ 31 q = nI V) (hV : V < 2 ^ 31) (hv : v < V) : f_X6_has (nI q) (nI v) σ = some (1, σ) := by
  unfold f_X6_has f_X6_has_21
  rw [if_neg (nI_pos (by omega)), rget_n (show q < 4 from hq) (by decide), h, if_neg (nle hV (by omega) hv), gdz1]
theorem cS_n {q V : Nat} {x : Int32} {σ : Mem} (hq : q < 4) (h : σ 31 q = nI V) (hV : V < 2 ^ 31) (hx : ¬ ∃ v, v < V ∧ x = nI v) : f_X6_has (nI q) x σ = some (0, σ) := by
  unfold f_X6_has f_X6_has_20 f_X6_has_21
  rw [gdz0, rget_n (show q < 4 from hq) (by decide), h]
  rcases idx_n hV hx with z | z
  · rw [if_pos z]
  · rw [if_pos z, ite_self]
theorem tc9 {σ : Mem} {s : A} (hW : WF s) (hC : RC3 σ s) {q v : Nat} (hq : q < 4) (hv : v < s.V q) : TC σ (6 * q + v) (s.len (6 * q + v)) (s.tm (6 * q + v)) (s.txt (6 * q + v)) := by
  obtain ⟨t1, t2, t3, t4⟩ := hW.T q v hq hv
  have hV := hW.V q hq
  exact ⟨by omega, t3, t1.lt.1, (hC.2 q v hq hv).1, t2, t1.lt.2⟩
theorem cMark {σ : Mem} {s : A} (hW : WF s) (hC : RC3 σ s) {q v p : Nat} (hq : q < 4) (hv : v < s.V q) (hp : p < 256) : ∃ u, f_X6_markBy (nI q) (nI v) (nI p) σ = some (nI (mk9 p (s.txt (6 * q + v)) (s.tm (6 * q + v)) (s.most (6 * q + v))), u) ∧ eqv σ u := by
  have hV := hW.V q hq
  exact c_mark hq (by omega) (tc9 hW hC hq hv) hp (hC.2 q v hq hv).2.1 (hC.2 q v hq hv).2.2.2 (hW.T q v hq hv).1.most
theorem mMark {σ : Mem} {s : A} (hM : RM3 σ s) {q v p : Nat} (hq : q < 4) (hv : v < s.V q) (hp : p < 256) : ∃ u, f_X10_value (nI (6 * q + v)) (nI p) σ = some (nI (mk9 p (s.txt (6 * q + v)) (s.tm (6 * q + v)) (s.most (6 * q + v))), u) ∧ eqv σ u := m_value (hM.2 q v hq hv).1 hp
theorem step_markOf (x y z : Int32) {σ : Mem} (hI : Inv9 σ) : StpG Inv9 (f_X9_markOf x y z) (f_X10_markOf x y z) [3, 1] σ := by
  obtain ⟨s, hW, hC, hM⟩ := hI
  have no : ∀ u, f_X10_markOf_28 x y z 0 u = some (0, ask 1 u) := by
    intro u
    unfold f_X10_markOf_28 f_X10_markOf_62
    rw [m_in, bd_some, ak1, bd_some, if_pos rfl]
  rcases idx x 4 with ⟨q, hq, rfl⟩ | hx
  · have hV := hW.V q hq
    rcases idx y (s.V q) with ⟨v, hv, rfl⟩ | hy
    · rcases idx z 256 with ⟨p, hp, rfl⟩ | hz
      · obtain ⟨u1, c1, c2⟩ := cMark hW hC.c3 hq hv hp
        refine stepS (oc := (0, nI (mk9 p (s.txt (6 * q + v)) (s.tm (6 * q + v)) (s.most (6 * q + v))))) hW hC hM ⟨u1, ?_, c2⟩ (fun u hu => ?_) (Or.inl rfl)
        · unfold f_X9_markOf
          rw [cQ_y hq, bd_some, if_neg (by decide), cS_y hq (hC.c3.1 q hq) (by omega) hv, bd_some, if_neg (by decide), cB_y hp, bd_some, if_neg (by decide), c1, bd_some]
        · have hu3 : RM3 (ask 0 u) s := hu.m3.k (ck core_ask (by decide))
          obtain ⟨u2, d1, d2⟩ := mMark hu3 hq hv hp
          refine ⟨nI (mk9 p (s.txt (6 * q + v)) (s.tm (6 * q + v)) (s.most (6 * q + v))), u2, ?_, by rw [d2.2]; exact ask_22, by rw [d2.1]; exact core_ask, fun _ => rfl⟩
          unfold f_X10_markOf
          rw [mQ_y hq, bd_some, if_neg (by decide), gd_r (show q < 4 from hq) (by decide), na_nI (by omega), hu.m3.1 q hq, in_y hv (by omega), bd_some, if_neg (by decide)]
          unfold f_X10_markOf_28 f_X10_markOf_62
          rw [mB_y hp, bd_some, ak0, bd_some, if_neg (by decide), show (6 : Int32) = nI 6 from rfl, pk_mul, nI_add, d1, bd_some]
      · refine stepS (oc := (1, 0)) hW hC hM ⟨σ, ?_, eqv.rfl⟩ (fun u hu => ⟨0, ask 2 u, ?_, ask_22, core_ask, fun h => absurd h (by decide)⟩) (Or.inr (by decide))
        · unfold f_X9_markOf
          rw [cQ_y hq, bd_some, if_neg (by decide), cS_y hq (hC.c3.1 q hq) (by omega) hv, bd_some, if_neg (by decide), cB_n hz, bd_some, if_pos rfl]
        · unfold f_X10_markOf
          rw [mQ_y hq, bd_some, if_neg (by decide), gd_r (show q < 4 from hq) (by decide), na_nI (by omega), hu.m3.1 q hq, in_y hv (by omega), bd_some, if_neg (by decide)]
          unfold f_X10_markOf_28 f_X10_markOf_62
          rw [mB_n hz, bd_some, ak2, bd_some, if_pos rfl]
    · refine stepS (oc := (3, 0)) hW hC hM ⟨σ, ?_, eqv.rfl⟩ (fun u hu => ⟨0, ask 1 u, ?_, ask_22, core_ask, fun h => absurd h (by decide)⟩) (Or.inr (by decide))
      · unfold f_X9_markOf f_X9_markOf_19
        rw [cQ_y hq, bd_some, if_neg (by decide), cS_n hq (hC.c3.1 q hq) (by omega) hy, bd_some, if_pos rfl]
      · unfold f_X10_markOf f_X10_markOf_27
        rw [mQ_y hq, bd_some, if_neg (by decide), gd_r (show q < 4 from hq) (by decide), na_nI (by omega), hu.m3.1 q hq, in_n (by omega) hy, bd_some, if_pos rfl]
        exact no u
  · refine stepS (oc := (3, 0)) hW hC hM ⟨σ, ?_, eqv.rfl⟩ (fun u hu => ⟨0, ask 1 u, ?_, ask_22, core_ask, fun h => absurd h (by decide)⟩) (Or.inr (by decide))
    · unfold f_X9_markOf f_X9_markOf_19
      rw [cQ_n hx, bd_some, if_pos rfl]
    · unfold f_X10_markOf f_X10_markOf_27
      rw [mQ_n hx, bd_some, if_pos rfl]
      exact no u
