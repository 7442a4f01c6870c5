/-! PURE: the class enters a scheme, and weighs its readings anew. By hand. -/
theorem c_copy {τ : Mem} {q V at9 len : Nat} {W : Nat → Int32} (hat : at9 < 24) (hlen : len ≤ 80) (h0 : τ 76 0 = nI len) (hW : ∀ j, j < len → τ 0 j = W j) : ∀ d j, j + d = len → ∀ N T, (∀ r, r ≠ 32 → T r = τ r) → (∀ i, T 32 i = if 80 * at9 ≤ i ∧ i < 80 * at9 + j then W (i - 80 * at9) else τ 32 i) → ∃ T', f_X6_enter_20 (N + d + 1) (nI q) (nI V) (nI at9) (nI j) T = f_X6_enter_20 (N + 1) (nI q) (nI V) (nI at9) (nI len) T' ∧ (∀ r, r ≠ 32 → T' r = τ r) ∧ (∀ i, T' 32 i = if 80 * at9 ≤ i ∧ i < 80 * at9 + len then W (i - 80 * at9) else τ 32 i) := by
  intro d
  induction d with
  | zero =>
    intro j hj N T h1 h2
    have e : j = len := by omega
    subst e
    exact ⟨T, rfl, h1, h2⟩
  | succ d ih =>
    intro j hj N T h1 h2
    obtain ⟨T', a1, a2, a3⟩ := ih (j + 1) (by omega) N (wr T 32 (80 * at9 + j) (W j)) (fun r hr => by rw [wr_ne hr]; exact h1 r hr) (fun i => by
      rw [wr_at]
      by_cases e : i = 80 * at9 + j
      · rw [if_pos ⟨rfl, e⟩, if_pos (by omega), e, show 80 * at9 + j - 80 * at9 = j by omega]
      · rw [if_neg (fun h => e h.2), h2 i]
        by_cases c : 80 * at9 ≤ i ∧ i < 80 * at9 + j
        · rw [if_pos c, if_pos (by omega)]
        · rw [if_neg c, if_neg (by omega)])
    refine ⟨T', ?_, a2, a3⟩
    rw [← a1]
    show (if T 76 0 ≤ nI j then _ else _) = _
    rw [h1 76 (by decide), h0, if_neg (nle (by omega) (by omega) (by omega)), show (80 : Int32) = nI 80 from rfl, pk_mul, nI_add, show at9 * 80 + j = 80 * at9 + j by omega, rset_n (show 80 * at9 + j < 1920 by omega) (by decide), rget_n (show j < 80 by omega) (by decide), h1 0 (by decide), hW j (by omega)]
    simp only [nw]
    rw [nI_1]
    all_goals rfl
theorem c_ent {τ : Mem} {q V len most L : Nat} {W : Nat → Int32} (hq : q < 4) (hV : V < 6) (hlen : len ≤ 80) (h31 : τ 31 q = nI V) (h0 : τ 76 0 = nI len) (hW : ∀ j, j < len → τ 0 j = W j) (h1 : τ 76 1 = nI L) (h2 : (if τ 76 2 = -1 then 99 else τ 76 2) = nI most) : ∃ M, f_X6_enter (nI q) τ = some (nI V, M) ∧ (∀ i, M 32 i = if 80 * (6 * q + V) ≤ i ∧ i < 80 * (6 * q + V) + len then W (i - 80 * (6 * q + V)) else τ 32 i) ∧ (∀ j, M 33 j = if j = 6 * q + V then nI len else τ 33 j) ∧ (∀ j, M 34 j = if j = 6 * q + V then nI L else τ 34 j) ∧ (∀ j, M 35 j = if j = 6 * q + V then nI most else τ 35 j) ∧ (∀ j, M 31 j = if j = q then nI (V + 1) else τ 31 j) ∧ ∀ r, r ≠ 31 → r ≠ 32 → r ≠ 33 → r ≠ 34 → r ≠ 35 → M r = τ r := by
  have hat : 6 * q + V < 24 := by omega
  obtain ⟨N, hN⟩ : ∃ N, FUEL = N + len + 1 := ⟨99999 - len, by unfold FUEL; omega⟩
  obtain ⟨T, a1, a2, a3⟩ := c_copy (q := q) (V := V) hat hlen h0 hW len 0 (by omega) N τ (fun _ _ => rfl) (fun i => by rw [if_neg (by omega)])
  refine ⟨wr (wr (wr (wr T 33 (6 * q + V) (nI len)) 34 (6 * q + V) (nI L)) 35 (6 * q + V) (nI most)) 31 q (nI (V + 1)), ?_, ?_, ?_, ?_, ?_, ?_, ?_⟩
  · have st : f_X6_enter (nI q) τ = f_X6_enter_20 (N + 1) (nI q) (nI V) (nI (6 * q + V)) (nI len) T := by
      rw [← a1]
      unfold f_X6_enter
      rw [rget_n (show q < 4 from hq) (by decide), h31, show (6 : Int32) = nI 6 from rfl, pk_mul]
      simp only [nv]
      rw [nI_add, show q * 6 + V = 6 * q + V by omega, hN]
      rfl
    rw [st]
    show (if T 76 0 ≤ nI len then nw (rset 33 (nI (6 * q + V)) (T 76 0) T) _ else _) = _
    rw [a2 76 (by decide), h0, if_pos (nI_le (Nat.le_refl _) (by omega)), rset_n (show 6 * q + V < 24 from hat) (by decide)]
    simp only [nw]
    rw [rset_n (r := 34) (show 6 * q + V < 24 from hat) (by decide), wr_ne (show (76 : Nat) ≠ 33 by decide), a2 76 (by decide), h1, wr_ne (show (76 : Nat) ≠ 34 by decide), wr_ne (show (76 : Nat) ≠ 33 by decide), a2 76 (by decide)]
    have e108 : ∀ (x : Int32) (Y : Mem), x = nI most → Y 31 q = nI V → f_X6_enter_108 (nI q) (nI V) x (nI (6 * q + V)) Y = some (nI V, wr (wr Y 35 (6 * q + V) (nI most)) 31 q (nI (V + 1))) := by
      intro x Y hx hY
      unfold f_X6_enter_108
      rw [rset_n (show 6 * q + V < 24 from hat) (by decide), hx]
      simp only [nw]
      rw [radd_n (show q < 4 from hq) (by decide), wr_ne (show (31 : Nat) ≠ 35 by decide), hY, nI_1]
    have hY : (wr (wr T 33 (6 * q + V) (nI len)) 34 (6 * q + V) (nI L)) 31 q = nI V := by
      rw [wr_ne (by decide), wr_ne (by decide), a2 31 (by decide)]
      exact h31
    by_cases c : τ 76 2 = -1
    · rw [if_pos c] at h2
      rw [if_pos c, e108 99 _ h2 hY]
    · rw [if_neg c] at h2
      rw [if_neg c, e108 (τ 76 2) _ h2 hY]
  · intro i
    rw [wr_ne (by decide), wr_ne (by decide), wr_ne (by decide), wr_ne (by decide)]
    exact a3 i
  · intro j
    rw [wr_ne (by decide), wr_ne (by decide), wr_ne (by decide), wr_at, a2 33 (by decide)]
    by_cases e : j = 6 * q + V
    · rw [if_pos ⟨rfl, e⟩, if_pos e]
    · rw [if_neg (fun h => e h.2), if_neg e]
  · intro j
    rw [wr_ne (by decide), wr_ne (by decide), wr_at, wr_ne (by decide), a2 34 (by decide)]
    by_cases e : j = 6 * q + V
    · rw [if_pos ⟨rfl, e⟩, if_pos e]
    · rw [if_neg (fun h => e h.2), if_neg e]
  · intro j
    rw [wr_ne (by decide), wr_at, wr_ne (by decide), wr_ne (by decide), a2 35 (by decide)]
    by_cases e : j = 6 * q + V
    · rw [if_pos ⟨rfl, e⟩, if_pos e]
    · rw [if_neg (fun h => e h.2), if_neg e]
  · intro j
    rw [wr_at, wr_ne (by decide), wr_ne (by decide), wr_ne (by decide), a2 31 (by decide)]
    by_cases e : j = q
    · rw [if_pos ⟨rfl, e⟩, if_pos e]
    · rw [if_neg (fun h => e h.2), if_neg e]
  · intro r h31 h32 h33 h34 h35
    rw [wr_ne h31, wr_ne h35, wr_ne h34, wr_ne h33]
    exact a2 r h32
theorem c_cnt2 {σ : Mem} {s : A} (hW : WF s) (h3 : RC3 σ s) {k : Nat} (hk : k < s.n) (hv : σ 6 k = nI (s.voi k)) (hl : σ 5 k = nI (s.lts k)) : f_X9_isCounting (nI k) (nI (s.ans k % 4)) σ = some (if s.cts k = true then 1 else 0, σ) := by
  have hn := hW.n
  obtain ⟨ha, hv0⟩ := hW.ans k hk
  have hvo := hW.voi k (by omega)
  unfold f_X9_isCounting f_X9_isCounting_43 f_X9_isCounting_44
  rw [ris_n (show k < 300 by omega) (by decide), hv, ris_b hvo]
  by_cases v0 : s.voi k = 0
  · rw [if_pos (show nI (s.voi k) = (0 : Int32) by rw [v0]; rfl), c_latest hW h3 (by omega) hv0, bd_some, rget_n (show k < 300 by omega) (by decide), hl]
    unfold A.cts
    by_cases c : nI (s.let9 (s.at9 (s.ans k % 4))) &&& (nI (s.lts k) ^^^ (-1)) = 0
    · rw [if_pos c, if_pos (decide_eq_true ⟨v0, c⟩), gdz1]
    · rw [if_neg c, if_neg (fun h => c (of_decide_eq_true h).2), gdz0]
  · rw [if_neg (show ¬ nI (s.voi k) = (0 : Int32) from nne (b := 0) (by omega) (by decide) v0)]
    unfold A.cts
    rw [if_neg (fun h => v0 (of_decide_eq_true h).1), gdz0]
/-- the log but for what the readings are worth -/
def R6w (σ : Mem) (s : A) : Prop := σ 76 6 = nI s.n ∧ (∀ k, k < s.n → σ 2 k = nI (s.ans k) ∧ σ 3 k = nI (s.rby k) ∧ σ 4 k = nI (s.pts k) ∧ σ 5 k = nI (s.lts k) ∧ σ 7 k = nI (s.apr k)) ∧ (∀ k, k < 300 → σ 6 k = nI (s.voi k)) ∧ ∀ r, r < 6 → σ 25 r = nI (s.nby r) ∧ σ 26 r = nI (s.nvoid r)
theorem c_weigh {s : A} (hW : WF s) {q : Nat} (hq : q < 4) : ∀ d k, k + d = s.n → ∀ N X, RC3 X s → R6w X s → (∀ j, j < s.n → (j < k ∨ s.ans j % 4 ≠ q) → X 8 j = s.worth j) → ∃ u, f_X9_weighReadings_2 (N + d + 1) (nI q) (nI k) X = some (0, u) ∧ RC6 u s ∧ ∀ i, i ≠ 6 → i ≠ 0 → keep i X u := by
  have hn := hW.n
  have hP := hW.P
  intro d
  induction d with
  | zero =>
    intro k hk N X h3 h6 h8
    have e : k = s.n := by omega
    subst e
    obtain ⟨z1, z2, z3, z4⟩ := h6
    refine ⟨X, ?_, ⟨z1, fun j hj => ?_, z3, z4⟩, fun _ _ _ => keep.rf⟩
    · show (if X 76 6 ≤ nI s.n then _ else _) = _
      rw [z1, if_pos (nI_le (Nat.le_refl _) (by omega))]
    · obtain ⟨q1, q2, q3, q4, q5⟩ := z2 j hj
      exact ⟨q1, q2, q3, q4, q5, h8 j hj (Or.inl hj)⟩
  | succ d ih =>
    intro k hk N X h3 h6 h8
    have hkn : k < s.n := by omega
    obtain ⟨z1, z2, z3, z4⟩ := id h6
    obtain ⟨q1, q2, q3, q4, q5⟩ := z2 k hkn
    obtain ⟨ha, hv⟩ := hW.ans k hkn
    have body : f_X9_weighReadings_2 (N + (d + 1) + 1) (nI q) (nI k) X = if nI (s.ans k % 4) = nI q then bd (f_X9_isCounting (nI k) (nI q) X) (fun y2 τ3 => if y2 = 0 then f_X9_weighReadings_73 (f_X9_weighReadings_2 (N + d + 1)) (nI q) (nI k) (-1) (nI k) τ3 else bd (f_X6_markByLatest (nI q) (rget 4 (nI k) τ3) τ3) (fun y4 τ5 => f_X9_weighReadings_73 (f_X9_weighReadings_2 (N + d + 1)) (nI q) (nI k) y4 (nI k) τ5)) else f_X9_weighReadings_2 (N + d + 1) (nI q) (nI (k + 1)) X := by
      show (if X 76 6 ≤ nI k then _ else _) = _
      rw [z1, if_neg (nle (by omega) (by omega) hkn), rget_n (show k < 300 by omega) (by decide), q1, md4 (by omega)]
      unfold f_X9_weighReadings_76
      rw [nI_1]
      all_goals rfl
    rw [body]
    by_cases c : s.ans k % 4 = q
    · rw [if_pos (show nI (s.ans k % 4) = nI q by rw [c]), ← c, c_cnt2 hW h3 hkn (z3 k (by omega)) q4, bd_some, c]
      have go : ∀ (Y : Mem) (v : Int32), eqv X Y → v = s.worth k → ∃ u, f_X9_weighReadings_73 (f_X9_weighReadings_2 (N + d + 1)) (nI q) (nI k) v (nI k) Y = some (0, u) ∧ RC6 u s ∧ ∀ i, i ≠ 6 → i ≠ 0 → keep i X u := by
        intro Y v hY hv
        have kY : ∀ i, i ≠ 6 → i ≠ 0 → keep i X (wr Y 8 k v) := fun i h6 h0 => (hY.keep h0).tr (keep.w (show (6 : Nat) ≠ i by omega) keep.rf)
        have h6' : R6w (wr Y 8 k v) s := by
          refine ⟨by simp [wr_at]; rw [hY.at rfl]; exact z1, fun j hj => ?_, fun j hj => by simp [wr_at]; rw [hY.at rfl]; exact z3 j hj, fun r hr => ⟨by simp [wr_at]; rw [hY.at rfl]; exact (z4 r hr).1, by simp [wr_at]; rw [hY.at rfl]; exact (z4 r hr).2⟩⟩
          obtain ⟨q1, q2, q3, q4, q5⟩ := z2 j hj
          exact ⟨by simp [wr_at]; rw [hY.at rfl]; exact q1, by simp [wr_at]; rw [hY.at rfl]; exact q2, by simp [wr_at]; rw [hY.at rfl]; exact q3, by simp [wr_at]; rw [hY.at rfl]; exact q4, by simp [wr_at]; rw [hY.at rfl]; exact q5⟩
        have h8' : ∀ j, j < s.n → (j < k + 1 ∨ s.ans j % 4 ≠ q) → (wr Y 8 k v) 8 j = s.worth j := by
          intro j hj h
          rw [wr_at]
          by_cases e : j = k
          · rw [if_pos ⟨rfl, e⟩, e]; exact hv
          · rw [if_neg (fun h => e h.2), hY.at rfl]
            refine h8 j hj ?_
            rcases h with h | h
            · exact Or.inl (by omega)
            · exact Or.inr h
        obtain ⟨u, e1, e2, e3⟩ := ih (k + 1) (by omega) N _ (h3.k (kY 3 (by decide) (by decide))) h6' h8'
        refine ⟨u, ?_, e2, fun i h6 h0 => (kY i h6 h0).tr (e3 i h6 h0)⟩
        unfold f_X9_weighReadings_73 f_X9_weighReadings_76
        rw [rset_n (show k < 300 by omega) (by decide)]
        simp only [nw]
        rw [nI_1]
        exact e1
      by_cases f : s.cts k = true
      · have hp := (hW.pts k hkn).1
        obtain ⟨Y, d1, d2⟩ := c_ml (p := s.pts k) hW h3 hq (by rw [← c]; exact hv) (by omega)
        have w : nI (s.ml q (s.pts k)) = s.worth k := by
          unfold A.worth
          rw [if_pos f, ← c]
          rfl
        rw [if_pos f, if_neg i10, rget_n (show k < 300 by omega) (by decide), q3, d1, bd_some]
        exact go Y _ d2 w
      · have w : (-1 : Int32) = s.worth k := by
          unfold A.worth
          rw [if_neg f]
        rw [if_neg f, if_pos rfl]
        exact go X _ eqv.rfl w
    · rw [if_neg (show ¬ nI (s.ans k % 4) = nI q from nne (by omega) (by omega) c)]
      refine ih (k + 1) (by omega) N X h3 h6 ?_
      intro j hj h
      by_cases e : j = k
      · rw [e]; exact h8 k hkn (Or.inr c)
      · refine h8 j hj ?_
        rcases h with h | h
        · exact Or.inl (by omega)
        · exact Or.inr h
/-- what entering leaves -/
def Ent (τ M : Mem) (q V len most L : Nat) (W : Nat → Int32) : Prop := (∀ i, M 32 i = if 80 * (6 * q + V) ≤ i ∧ i < 80 * (6 * q + V) + len then W (i - 80 * (6 * q + V)) else τ 32 i) ∧ (∀ j, M 33 j = if j = 6 * q + V then nI len else τ 33 j) ∧ (∀ j, M 34 j = if j = 6 * q + V then nI L else τ 34 j) ∧ (∀ j, M 35 j = if j = 6 * q + V then nI most else τ 35 j) ∧ (∀ j, M 31 j = if j = q then nI (V + 1) else τ 31 j) ∧ ∀ r, r ≠ 31 → r ≠ 32 → r ≠ 33 → r ≠ 34 → r ≠ 35 → M r = τ r
theorem ent_keep {τ M : Mem} {q V len most L : Nat} {W : Nat → Int32} (h : Ent τ M q V len most L W) {i : Nat} (h3 : i ≠ 3) : keep i τ M := by
  intro r j hg
  have n31 : r ≠ 31 := fun e => by rw [e] at hg; exact h3 hg.symm
  have n32 : r ≠ 32 := fun e => by rw [e] at hg; exact h3 hg.symm
  have n33 : r ≠ 33 := fun e => by rw [e] at hg; exact h3 hg.symm
  have n34 : r ≠ 34 := fun e => by rw [e] at hg; exact h3 hg.symm
  have n35 : r ≠ 35 := fun e => by rw [e] at hg; exact h3 hg.symm
  rw [h.2.2.2.2.2 r n31 n32 n33 n34 n35]
theorem ent_3 {τ M : Mem} {s : A} (hW : WF s) {q len tm most : Nat} {W : Nat → Int32} (h : Ent τ M q (s.V q) len most (lets W tm) W) (h3 : RC3 τ s) (hq : q < 4) (hV : s.V q < 6) (ht : tm ≤ 80) (hl : len ≤ 80) : RC3 M (s.sc q W len tm most) := by
  obtain ⟨e2, e3, e4, e5, e6, e7⟩ := h
  refine ⟨fun x hx => ?_, fun x v hx hv => ?_⟩
  · rw [e6, sc_V]
    by_cases e : x = q
    · rw [if_pos e, if_pos e]
    · rw [if_neg e, if_neg e]
      exact h3.1 x hx
  · by_cases e : 6 * x + v = 6 * q + s.V q
    · rw [e, let9_sc (by omega), sc_len, sc_most, if_pos rfl, if_pos rfl, e3, e4, e5, if_pos rfl, if_pos rfl, if_pos rfl]
      refine ⟨fun j hj => ?_, rfl, rfl, rfl⟩
      have hj' : j < 100 := by omega
      rw [e2, if_pos (by omega), show 80 * (6 * q + s.V q) + j - 80 * (6 * q + s.V q) = j by omega, sc_txt hj']
    · have hv' : v < s.V x := by
        rw [sc_V] at hv
        by_cases z : x = q
        · rw [if_pos z] at hv
          subst z
          omega
        · rw [if_neg z] at hv; exact hv
      have t := hW.T x v hx hv'
      have t5 := t.1.lt.1
      have t6 := t.2.2.1
      obtain ⟨g1, g2, g3, g4⟩ := h3.2 x v hx hv'
      rw [let9_sc2 e (by omega), sc_len, sc_most, if_neg e, if_neg e, e3, e4, e5, if_neg e, if_neg e, if_neg e]
      refine ⟨fun j hj => ?_, g2, g3, g4⟩
      have hj' : j < 100 := by omega
      rw [e2, if_neg (by omega), sc_txt2 hj' e]
      exact g1 j hj
theorem R6w_sc {σ : Mem} {s : A} {q len tm most : Nat} {W : Nat → Int32} (h : RC6 σ s) : R6w σ (s.sc q W len tm most) := by
  obtain ⟨z1, z2, z3, z4⟩ := h
  refine ⟨z1, fun j hj => ?_, z3, z4⟩
  obtain ⟨q1, q2, q3, q4, q5, q6⟩ := z2 j hj
  exact ⟨q1, q2, q3, q4, q5⟩
/-- the class's scheme, a line that is one -/
theorem c_scheme {σ u : Mem} {s : A} (hW : WF s) (hC : RelC σ s) {q len tm most : Nat} {W : Nat → Int32} (hq : q < 4) (hV : s.V q < 6) (hs : eqv σ u) (hf : f_X0_faultOf σ = some (-1, u)) (r1 : ∀ j, j < len → u 0 j = W j) (r2 : u 76 0 = nI len) (r3 : u 76 1 = nI (lets W tm)) (hm : (if u 76 2 = -1 then 99 else u 76 2) = nI most) (ht : Tl W tm len most) (hb : WFb W tm) (hl : len ≤ 80) (h0 : ∀ j, j < len → W j ≠ 0) : ∃ F, f_X9_scheme (nI q) σ = some ((0, nI (s.V q)), F) ∧ RelC F (s.sc q W len tm most) ∧ frC σ F := by
  have hn := hW.n
  have tle := ht.lt.1
  have C1 := hC.ev hs
  have hW' := WF_sc hW hq hV ht hb hl h0
  have kc : ∀ i, i ≠ 1 → keep i u (wr u 76 5 0) := fun i h1 => keep.w (show (1 : Nat) ≠ i by omega) keep.rf
  have g0 : (wr u 76 5 0) 76 0 = nI len := by simp [wr_at]; exact r2
  have g1 : (wr u 76 5 0) 76 1 = nI (lets W tm) := by simp [wr_at]; exact r3
  have g2 : (if (wr u 76 5 0) 76 2 = -1 then 99 else (wr u 76 5 0) 76 2) = nI most := by
    rw [show (wr u 76 5 0) 76 2 = u 76 2 by simp [wr_at]]
    exact hm
  have g3 : ∀ j, j < len → (wr u 76 5 0) 0 j = W j := fun j hj => by rw [wr_at, if_neg (fun h => absurd h.1 (by decide))]; exact r1 j hj
  have g4 := C1.c3.k (kc 3 (by decide))
  obtain ⟨M, e1, e2⟩ := c_ent (τ := wr u 76 5 0) (V := s.V q) (L := lets W tm) (most := most) hq hV hl (g4.1 q hq) g0 g3 g1 g2
  have eM : Ent (wr u 76 5 0) M q (s.V q) len most (lets W tm) W := e2
  have kM : ∀ i, i ≠ 1 → i ≠ 3 → i ≠ 0 → keep i σ M := fun i h1 h3 hz => ((hs.keep hz).tr (kc i h1)).tr (ent_keep eM h3)
  have h3 := ent_3 hW eM g4 hq hV (by omega) hl
  have C6 := hC.c6.k (kM 6 (by decide) (by decide) (by decide))
  obtain ⟨N, hN⟩ : ∃ N, FUEL = N + s.n + 1 := ⟨99999 - s.n, by unfold FUEL; omega⟩
  obtain ⟨F, f1, f2, f3⟩ := c_weigh hW' hq s.n 0 (by show 0 + s.n = s.n; omega) N M h3 (R6w_sc C6) (fun j hj h => by
    have hj' : j < s.n := hj
    have ne : s.ans j % 4 ≠ q := by
      rcases h with h | h
      · omega
      · exact h
    rw [worth_sc hW hq hV hj' ne]
    exact (C6.2.1 j hj').2.2.2.2.2)
  have kF : ∀ i, i ≠ 1 → i ≠ 3 → i ≠ 6 → i ≠ 0 → keep i σ F := fun i h1 h3 h6 hz => (kM i h1 h3 hz).tr (f3 i h6 hz)
  refine ⟨F, ?_, ⟨?_, ?_, h3.k (f3 3 (by decide) (by decide)), ?_, ?_, f2, ?_⟩, fun i hi => kF i (by omega) (by omega) (by omega) (by omega)⟩
  · unfold f_X9_scheme f_X1_clear
    rw [cQ_y hq, bd_some, if_neg i10, rget_n (show q < 4 from hq) (by decide), hC.c3.1 q hq, if_pos (show nI (s.V q) < (6 : Int32) from (nI_ltI (b := 6) (by omega) (by decide)).mpr hV), hf, bd_some]
    simp only [nw]
    rw [bd_some, if_pos trivial, e1, bd_some]
    unfold f_X9_weighReadings
    rw [hN]
    have f1' : f_X9_weighReadings_2 (N + s.n + 1) (nI q) 0 M = some (0, F) := f1
    rw [f1', bd_some]
  · refine ⟨?_, fun j hj => absurd hj (Nat.not_lt_zero j)⟩
    have k1 := (ent_keep eM (i := 1) (by decide)).tr (f3 1 (by decide) (by decide))
    rw [k1 76 5 rfl]
    simp [wr_at]
    rfl
  · exact hC.c2.k (kF _ (by decide) (by decide) (by decide) (by decide))
  · exact hC.c4.k (kF _ (by decide) (by decide) (by decide) (by decide))
  · exact hC.c5.k (kF _ (by decide) (by decide) (by decide) (by decide))
  · exact hC.c7.k (kF _ (by decide) (by decide) (by decide) (by decide))
