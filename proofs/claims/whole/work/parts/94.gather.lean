/-! PURE: changed; the totals that are there, gathered. By hand. -/
def A.chs (s : A) : Nat → Nat
  | 0 => 0
  | k + 1 => s.chs k + (if s.rel k = -1 then 0 else if s.rel k = s.grd k then 0 else 1)
theorem c_chs {σ : Mem} {s : A} (hW : WF s) (hC : RelC σ s) : ∀ d p, p + d = s.P → ∀ N τ, eqv σ τ → ∃ u, f_X9_changed_4 (N + d + 1) (nI (s.chs p)) (nI p) τ = some (nI (s.chs s.P), u) ∧ eqv σ u := by
  have hP := hW.P
  intro d
  induction d with
  | zero =>
    intro p hp N τ ht
    have e : p = s.P := by omega
    subst e
    refine ⟨τ, ?_, ht⟩
    show (if τ 76 7 ≤ nI s.P then _ else _) = _
    rw [(hC.ev ht).c2.1, if_pos (nI_le (Nat.le_refl _) (by omega))]
  | succ d ih =>
    intro p hp N τ ht
    have C1 := hC.ev ht
    have hs : s.chs (p + 1) = s.chs p + (if s.rel p = -1 then 0 else if s.rel p = s.grd p then 0 else 1) := rfl
    by_cases h1 : s.rel p = -1
    · obtain ⟨u2, e1, e2⟩ := ih (p + 1) (by omega) N τ ht
      refine ⟨u2, ?_, e2⟩
      rw [hs, if_pos h1, Nat.add_zero] at e1
      show (if τ 76 7 ≤ nI p then _ else _) = _
      rw [C1.c2.1, if_neg (nle (by omega) (by omega) (by omega)), rget_n (show p < 16 by omega) (by decide), (C1.c2.2.1 p (by omega)).2.2.2]
      simp only [nv]
      rw [if_pos h1]
      unfold f_X9_changed_44
      rw [nI_1]
      exact e1
    · obtain ⟨u1, d1, d2⟩ := c_grade hW C1 (show p < s.P by omega)
      obtain ⟨u2, e1, e2⟩ := ih (p + 1) (by omega) N u1 (ht.trans d2)
      refine ⟨u2, ?_, e2⟩
      rw [hs, if_neg h1] at e1
      show (if τ 76 7 ≤ nI p then _ else _) = _
      rw [C1.c2.1, if_neg (nle (by omega) (by omega) (by omega)), rget_n (show p < 16 by omega) (by decide), (C1.c2.2.1 p (by omega)).2.2.2]
      simp only [nv]
      rw [if_neg h1, d1, bd_some]
      unfold f_X9_changed_44
      rw [nI_1]
      by_cases h2 : s.rel p = s.grd p
      · rw [if_pos h2, Nat.add_zero] at e1
        rw [if_pos h2]
        exact e1
      · rw [if_neg h2] at e1
        rw [if_neg h2, nI_1]
        exact e1
theorem m_chs {σ : Mem} {s : A} (hW : WF s) (hM : RelM σ s) : ∀ d p, p + d = s.P → ∀ N τ, eqv σ τ → ∃ u, f_X10_changed_9 (N + d + 1) (nI (s.chs p)) (nI p) τ = some (nI (s.chs s.P), u) ∧ eqv σ u := by
  have hP := hW.P
  intro d
  induction d with
  | zero =>
    intro p hp N τ ht
    have e : p = s.P := by omega
    subst e
    refine ⟨τ, ?_, ht⟩
    show (if τ 76 25 ≤ nI s.P then _ else _) = _
    rw [(hM.ev ht).m2.1, if_pos (nI_le (Nat.le_refl _) (by omega))]
  | succ d ih =>
    intro p hp N τ ht
    have M1 := hM.ev ht
    have hs : s.chs (p + 1) = s.chs p + (if s.rel p = -1 then 0 else if s.rel p = s.grd p then 0 else 1) := rfl
    by_cases h1 : s.rel p = -1
    · obtain ⟨u2, e1, e2⟩ := ih (p + 1) (by omega) N τ ht
      refine ⟨u2, ?_, e2⟩
      rw [hs, if_pos h1] at e1
      show (if τ 76 25 ≤ nI p then _ else _) = _
      rw [M1.m2.1, if_neg (nle (by omega) (by omega) (by omega)), gd_r (show p < 16 by omega) (by decide), na_nI (by omega), (M1.m2.2.2 p (by omega)).2.1, if_pos h1]
      unfold f_X10_changed_46 f_X10_changed_47
      simp only [nv]
      rw [nI_1, show (0 : Int32) = nI 0 from rfl, nI_add]
      exact e1
    · obtain ⟨u1, d1, d2⟩ := m_grade hW M1 (show p < s.P by omega)
      obtain ⟨u2, e1, e2⟩ := ih (p + 1) (by omega) N u1 (ht.trans d2)
      refine ⟨u2, ?_, e2⟩
      rw [hs, if_neg h1] at e1
      have r2 := ((M1.ev d2).m2.2.2 p (by omega)).2.1
      show (if τ 76 25 ≤ nI p then _ else _) = _
      rw [M1.m2.1, if_neg (nle (by omega) (by omega) (by omega)), gd_r (show p < 16 by omega) (by decide), na_nI (by omega), (M1.m2.2.2 p (by omega)).2.1, if_neg h1, d1, bd_some, gd_r (show p < 16 by omega) (by decide), r2]
      unfold f_X10_changed_46 f_X10_changed_47
      simp only [nv]
      rw [nI_1]
      by_cases h2 : s.rel p = s.grd p
      · rw [if_pos h2] at e1
        rw [if_pos h2.symm, show (0 : Int32) = nI 0 from rfl, nI_add]
        exact e1
      · rw [if_neg h2] at e1
        rw [if_neg (fun h => h2 h.symm), show (1 : Int32) = nI 1 from rfl, nI_add]
        exact e1
/-- changed -/
theorem step_changed {σ : Mem} (hI : Inv9 σ) : StpQ Inv9 f_X9_changed f_X10_changed σ := by
  obtain ⟨s, hW, hC, hM⟩ := hI
  have hP := hW.P
  obtain ⟨N, hN⟩ : ∃ N, FUEL = N + s.P + 1 := ⟨99999 - s.P, by unfold FUEL; omega⟩
  obtain ⟨u1, a1, a2⟩ := c_chs hW hC s.P 0 (by omega) N σ eqv.rfl
  have M1 := (hM.ev a2).ask (c := 0)
  obtain ⟨u2, b1, b2⟩ := m_chs hW M1 s.P 0 (by omega) N _ eqv.rfl
  refine ⟨nI (s.chs s.P), u1, u2, ?_, ?_, s, hW, ?_, M1.ev b2⟩
  · unfold f_X9_changed
    rw [hN]
    exact a1
  · unfold f_X10_changed
    rw [hN]
    simp only [nw]
    exact b1
  · exact ((hC.ev a2).fr (fun i h1 h2 => ck core_ask (by omega))).ev b2
-- the row of totals stays as it was
def K42 (x : Option (Int32 × Mem)) (σ : Mem) : Prop := ∀ r u, x = some (r, u) → u 42 = σ 42
theorem kq_sm {r : Int32} {σ : Mem} : K42 (some (r, σ)) σ := fun _ _ h => by cases h; rfl
theorem kq_nn {σ : Mem} : K42 none σ := fun _ _ h => by cases h
theorem kq_bd {x : Option (Int32 × Mem)} {k : Int32 → Mem → Option (Int32 × Mem)} {σ : Mem} (h : K42 x σ) (hk : ∀ r τ, K42 (k r τ) τ) : K42 (bd x k) σ := by
  intro r u e
  cases x with
  | none => cases e
  | some y => exact (hk y.1 y.2 r u e).trans (h y.1 y.2 rfl)
theorem kq_gd {b : Bool} {x : Option (Int32 × Mem)} {σ : Mem} (h : K42 x σ) : K42 (gd b x) σ := by
  cases b with
  | true => exact h
  | false => exact kq_nn
theorem kq_it {c : Prop} [Decidable c] {x y : Option (Int32 × Mem)} {σ : Mem} (h : K42 x σ) (h2 : K42 y σ) : K42 (if c then x else y) σ := by
  by_cases hc : c
  · rw [if_pos hc]; exact h
  · rw [if_neg hc]; exact h2
theorem kq_w {x : Option (Int32 × Mem)} {σ : Mem} {k : Nat} {v : Int32} (h : K42 x (wr σ 76 k v)) : K42 x σ := fun r u e => (h r u e).trans (wr_ne (by decide))
theorem k42_take {w x y : Int32} {σ : Mem} : K42 (f_X8_take w x y σ) σ := by
  have h94 : ∀ τ, K42 (f_X8_take_94 τ) τ := fun τ => kq_w kq_sm
  have h69 : ∀ τ, K42 (f_X8_take_69 w x τ) τ := fun τ => kq_it (h94 τ) (kq_it (h94 τ) (kq_it (kq_w (h94 _)) (h94 τ)))
  have h56 : ∀ τ, K42 (f_X8_take_56 w x τ) τ := fun τ => kq_it (kq_w (h69 _)) (h69 τ)
  exact kq_w (kq_it kq_sm (kq_w (kq_it (kq_it (kq_w (h56 _)) (h56 _)) (kq_it (kq_w kq_sm) kq_sm))))
theorem k42_tally : ∀ n (x y z : Int32) (σ : Mem), K42 (f_X9_tallyUp_42 n x y z σ) σ := by
  intro n
  induction n with
  | zero => intro x y z σ; exact kq_nn
  | succ n ih => intro x y z σ; exact kq_it kq_sm (kq_bd k42_take (fun r τ => ih _ _ _ τ))
theorem k42_tallyUp {x y : Int32} {σ : Mem} : K42 (f_X9_tallyUp x y σ) σ := by
  refine kq_bd ?_ (fun r τ => kq_bd kq_sm (fun r τ => k42_tally _ _ _ _ τ))
  exact kq_w (kq_w (kq_w (kq_w (kq_w (kq_w (kq_w kq_sm))))))
theorem k42_lk {x y : Int32} {σ : Mem} : K42 (f_X3_isLacking x y σ) σ := kq_it (kq_gd kq_sm) (kq_gd kq_sm)
theorem k42_ap {x y z : Int32} {σ : Mem} : K42 (f_X9_areApart x y z σ) σ := by
  have h19 : ∀ (v : Int32) (τ : Mem), K42 (f_X9_areApart_19 v τ) τ := fun v τ => kq_gd kq_sm
  have h14 : ∀ τ : Mem, K42 (f_X9_areApart_14 τ) τ := fun τ => h19 1 τ
  exact kq_it (h14 σ) (kq_it (h19 0 σ) (h14 σ))
theorem k42_pd {x : Int32} {σ : Mem} : K42 (f_X8_isPastDue x σ) σ := kq_it (kq_it (kq_gd kq_sm) (kq_gd kq_sm)) (kq_it (kq_gd kq_sm) (kq_gd kq_sm))
theorem k42_lap {x y : Int32} {σ : Mem} : K42 (f_X8_lackingAsPlain x y σ) σ := kq_bd k42_pd (fun r τ => kq_it (kq_it kq_sm kq_sm) (kq_it kq_sm (kq_it (kq_bd k42_ap (fun r τ => kq_it kq_sm kq_sm)) kq_sm)))
theorem k42_56 {x y : Int32} {σ : Mem} : K42 (f_X8_outcome_56 x y σ) σ := kq_it kq_sm (kq_bd k42_ap (fun r τ => kq_it kq_sm kq_sm))
theorem k42_out {x y : Int32} {σ : Mem} : K42 (f_X8_outcome x y σ) σ := kq_bd k42_lap (fun r τ => kq_it (kq_it k42_56 (kq_bd k42_ap (fun r τ => kq_it k42_56 k42_56))) kq_sm)
theorem k42_mark {x y : Int32} {σ : Mem} : K42 (f_X9_markNow x y σ) σ := kq_bd k42_lk (fun r τ => kq_it (kq_bd k42_tallyUp (fun r τ => kq_bd k42_out (fun r τ => kq_sm))) kq_sm)
theorem k42_tot {x : Int32} {σ : Mem} : K42 (f_X9_totalNow x σ) σ := kq_bd k42_mark (fun r τ => kq_bd k42_mark (fun r τ => kq_bd k42_mark (fun r τ => kq_bd k42_mark (fun r τ => kq_it kq_sm (kq_it kq_sm (kq_it kq_sm (kq_it kq_sm kq_sm)))))))
/-- the totals that are there -/
def A.TL (s : A) (k : Nat) : List Nat := (List.range k).filterMap s.tot
theorem TL_s (s : A) (k : Nat) : s.TL (k + 1) = match s.tot k with
    | none => s.TL k
    | some t => s.TL k ++ [t] := by
  unfold A.TL
  rw [List.range_succ, List.filterMap_append]
  cases e : s.tot k with
  | none => rw [List.filterMap_cons_none e]; exact List.append_nil _
  | some t => rw [List.filterMap_cons_some e]; rfl
theorem TL_len (s : A) (k : Nat) : (s.TL k).length ≤ k := by
  have := List.length_filterMap_le s.tot (List.range k)
  rw [List.length_range] at this
  exact this
/-- the row of totals holds a list -/
def T42 (τ : Mem) (l : List Nat) : Prop := ∀ i t, l[i]? = some t → τ 42 i = nI t
theorem c_gather {σ : Mem} {s : A} (hW : WF s) (hC : RelC σ s) : ∀ d p, p + d = s.P → ∀ N τ, eqv σ τ → T42 τ (s.TL p) → ∃ u, f_X9_gatherTotals_4 (N + d + 1) (nI (s.TL p).length) (nI p) τ = some (nI (s.TL s.P).length, u) ∧ eqv σ u ∧ T42 u (s.TL s.P) := by
  have hP := hW.P
  intro d
  induction d with
  | zero =>
    intro p hp N τ ht hT
    have e : p = s.P := by omega
    subst e
    refine ⟨τ, ?_, ht, hT⟩
    show (if τ 76 7 ≤ nI s.P then _ else _) = _
    rw [(hC.ev ht).c2.1, if_pos (nI_le (Nat.le_refl _) (by omega))]
  | succ d ih =>
    intro p hp N τ ht hT
    have C1 := hC.ev ht
    have hl := TL_len s p
    have hs := TL_s s p
    obtain ⟨u1, d1, d2⟩ := c_total hW C1 (show p < s.P by omega)
    have hu : u1 42 = τ 42 := k42_tot _ _ d1
    have hT1 : T42 u1 (s.TL p) := by
      intro i t hi
      rw [hu]
      exact hT i t hi
    have go : ∀ {x : Option (Int32 × Mem)}, (if τ 76 7 ≤ nI p then some (nI (s.TL p).length, τ) else bd (f_X9_totalNow (nI p) τ) (fun y1 τ2 => if y1 = -1 then f_X9_gatherTotals_41 (f_X9_gatherTotals_4 (N + d + 1)) (nI (s.TL p).length) (nI p) τ2 else nw (rset 42 (nI (s.TL p).length) y1 τ2) (fun τ3 => f_X9_gatherTotals_41 (f_X9_gatherTotals_4 (N + d + 1)) (nI (s.TL p).length + 1) (nI p) τ3))) = x → f_X9_gatherTotals_4 (N + (d + 1) + 1) (nI (s.TL p).length) (nI p) τ = x := fun h => h
    cases e : s.tot p with
    | none =>
      rw [e] at hs d1
      have hs' : s.TL (p + 1) = s.TL p := hs
      rw [← hs'] at hT1
      obtain ⟨u2, e1, e2, e3⟩ := ih (p + 1) (by omega) N u1 (ht.trans d2) hT1
      refine ⟨u2, go ?_, e2, e3⟩
      rw [C1.c2.1, if_neg (nle (by omega) (by omega) (by omega)), d1, bd_some, if_pos oi_n]
      unfold f_X9_gatherTotals_41
      rw [nI_1, ← hs']
      exact e1
    | some t =>
      have htt := tot_le hW (show p < 16 by omega) e
      rw [e] at hs d1
      have hs' : s.TL (p + 1) = s.TL p ++ [t] := hs
      have hT2 : T42 (wr u1 42 (s.TL p).length (nI t)) (s.TL (p + 1)) := by
        intro i x hi
        rw [hs', get_snoc] at hi
        rw [wr_at]
        by_cases z : (s.TL p).length = i
        · rw [if_pos z] at hi
          cases hi
          rw [if_pos ⟨rfl, z.symm⟩]
        · rw [if_neg z] at hi
          rw [if_neg (fun h => z h.2.symm)]
          exact hT1 i x hi
      obtain ⟨u2, e1, e2, e3⟩ := ih (p + 1) (by omega) N _ (eqv_wrr (ht.trans d2) rfl (by decide)) hT2
      refine ⟨u2, go ?_, e2, e3⟩
      rw [C1.c2.1, if_neg (nle (by omega) (by omega) (by omega)), d1, bd_some, if_neg (oi_s (show t < 2 ^ 31 by omega)), rset_n (show (s.TL p).length < 16 by omega) (by decide)]
      simp only [nw]
      unfold f_X9_gatherTotals_41
      rw [nI_1, nI_1]
      rw [hs', List.length_append, List.length_singleton] at e1
      exact e1
theorem c_gath {σ : Mem} {s : A} (hW : WF s) (hC : RelC σ s) : ∃ u, f_X9_gatherTotals σ = some (nI (s.TL s.P).length, u) ∧ eqv σ u ∧ T42 u (s.TL s.P) := by
  have hP := hW.P
  obtain ⟨N, hN⟩ : ∃ N, FUEL = N + s.P + 1 := ⟨99999 - s.P, by unfold FUEL; omega⟩
  obtain ⟨u, d1, d2, d3⟩ := c_gather hW hC s.P 0 (by omega) N σ eqv.rfl (fun i t h => by cases h)
  refine ⟨u, ?_, d2, d3⟩
  unfold f_X9_gatherTotals
  rw [hN]
  exact d1
/-- how many of a list are a line or more -/
def cge (b : Nat) (l : List Nat) : Nat := (l.filter (fun t => decide (b ≤ t))).length
theorem cge_c (b t : Nat) (l : List Nat) : cge b (t :: l) = (if b ≤ t then 1 else 0) + cge b l := by
  unfold cge
  by_cases h : b ≤ t
  · rw [List.filter_cons_of_pos (p := fun t => decide (b ≤ t)) (decide_eq_true h), if_pos h, List.length_cons, Nat.add_comm]
  · rw [List.filter_cons_of_neg (p := fun t => decide (b ≤ t)) (fun z => h (of_decide_eq_true z)), if_neg h, Nat.zero_add]
theorem cge_a (b : Nat) (l m : List Nat) : cge b (l ++ m) = cge b l + cge b m := by
  unfold cge
  rw [List.filter_append, List.length_append]
theorem cge_le (b : Nat) (l : List Nat) : cge b l ≤ l.length := List.length_filter_le _ _
theorem c_from {τ : Mem} {l : List Nat} (hT : T42 τ l) (h16 : l.length ≤ 16) (hl : ∀ t, t ∈ l → t < 1000) {b : Nat} (hb : b < 2 ^ 30) : ∀ d i c, i + d = l.length → ∀ N, f_X9_pupilsFrom_5 (N + d + 1) (nI b) (nI l.length) (nI c) (nI i) τ = some (nI (c + cge b (l.drop i)), τ) := by
  intro d
  induction d with
  | zero =>
    intro i c hi N
    show (if nI l.length ≤ nI i then _ else _) = _
    rw [if_pos (nI_le (by omega) (by omega)), List.drop_eq_nil_of_le (by omega)]
    rfl
  | succ d ih =>
    intro i c hi N
    obtain ⟨t, e⟩ := get_y (l := l) (i := i) (by omega)
    have ht := hl t (List.mem_of_getElem? e)
    show (if nI l.length ≤ nI i then _ else _) = _
    rw [if_neg (nle (by omega) (by omega) (by omega)), rget_n (show i < 16 by omega) (by decide), hT i t e, drop_g e, cge_c]
    unfold f_X9_pupilsFrom_27
    rw [nI_1, nI_1]
    by_cases h : b ≤ t
    · rw [if_neg (nlt (by omega) (by omega) h), if_pos h, show c + (1 + cge b (l.drop (i + 1))) = c + 1 + cge b (l.drop (i + 1)) by omega]
      exact ih (i + 1) (c + 1) (by omega) N
    · rw [if_pos ((nI_ltI (by omega) (by omega)).mpr (by omega)), if_neg h, Nat.zero_add]
      exact ih (i + 1) c (by omega) N
theorem TL_le {s : A} (hW : WF s) {k t : Nat} (hk : k ≤ 16) (h : t ∈ s.TL k) : t ≤ 306 := by
  obtain ⟨p, hp, e⟩ := List.mem_filterMap.mp h
  exact tot_le hW (by have := List.mem_range.mp hp; omega) e
theorem c_pf {τ : Mem} {s : A} (hW : WF s) (hT : T42 τ (s.TL s.P)) {b : Nat} (hb : b < 2 ^ 30) : f_X9_pupilsFrom (nI b) (nI (s.TL s.P).length) τ = some (nI (cge b (s.TL s.P)), τ) := by
  have hP := hW.P
  have hl := TL_len s s.P
  obtain ⟨N, hN⟩ : ∃ N, FUEL = N + (s.TL s.P).length + 1 := ⟨99999 - (s.TL s.P).length, by unfold FUEL; omega⟩
  have h := c_from hT (by omega) (fun t h => by have := TL_le hW hP h; omega) hb (s.TL s.P).length 0 0 (by omega) N
  rw [Nat.zero_add] at h
  unfold f_X9_pupilsFrom
  rw [hN]
  exact h
