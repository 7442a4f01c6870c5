/-! PURE: one room: its line, how many versions each question has, no readings; a version's text. By hand. -/
def Rm (σ : Mem) (V : Nat → Nat) (m : Nat) (l : Nat → Int32) : Prop := σ 76 5 = nI m ∧ σ 76 6 = 0 ∧ (∀ q, q < 4 → σ 31 q = nI (V q)) ∧ ∀ j, j < m → σ 1 j = l j
def Tx (σ : Mem) (at9 len most : Nat) (W : Nat → Int32) : Prop := (∀ j, j < len → σ 32 (80 * at9 + j) = W j) ∧ σ 33 at9 = nI len ∧ σ 35 at9 = nI most
theorem Rm.ev {σ u : Mem} {V : Nat → Nat} {m : Nat} {l : Nat → Int32} (h : Rm σ V m l) (e : eqv σ u) : Rm u V m l := by
  obtain ⟨h1, h2, h3, h4⟩ := h
  exact ⟨by rw [e.at rfl]; exact h1, by rw [e.at rfl]; exact h2, fun q hq => by rw [e.at rfl]; exact h3 q hq, fun j hj => by rw [e.at rfl]; exact h4 j hj⟩
theorem Tx.ev {σ u : Mem} {at9 len most : Nat} {W : Nat → Int32} (h : Tx σ at9 len most W) (e : eqv σ u) : Tx u at9 len most W := by
  obtain ⟨h1, h2, h3⟩ := h
  exact ⟨fun j hj => by rw [e.at rfl]; exact h1 j hj, by rw [e.at rfl]; exact h2, by rw [e.at rfl]; exact h3⟩
theorem ltI {a b : Nat} (ha : a < 2 ^ 31) (hb : b < 2 ^ 31) (h : a < b) : nI a < nI b := (nI_ltI ha hb).mpr h
theorem eqI {a b : Nat} (h : a = b) : nI a = nI b := by rw [h]
-- type
theorem r_type {σ : Mem} {V : Nat → Nat} {m c : Nat} {l : Nat → Int32} (h : Rm σ V m l) (hm : m < 40) (h1 : 32 ≤ c) (h2 : c ≤ 126) : ∃ u, f_L_does 1 (nI c) 0 σ = some (nI (m + 1), u) ∧ Rm u V (m + 1) (app l m (nI c)) := by
  obtain ⟨r5, r6, r31, r1⟩ := h
  have n1 : ¬ nI c < (32 : Int32) := nlt (b := 32) (by omega) (by decide) h1
  have n2 : nI c ≤ (126 : Int32) := (nI_leI (b := 126) (by omega) (by decide)).mpr h2
  have n3 : nI m < (40 : Int32) := ltI (b := 40) (by omega) (by decide) hm
  have hA : f_X1_append (nI c) σ = some (0, wr (wr σ 1 m (nI c)) 76 5 (nI (m + 1))) := by
    unfold f_X1_append
    rw [r5, if_pos n3, rset_n (show m < 40 by omega) (by decide)]
    simp only [nw]
    rw [show wr σ 1 m (nI c) 76 5 = nI m by simp [wr_at]; exact r5, nI_1]
  have hT : f_X9_type (nI c) σ = some (nI (m + 1), wr (wr σ 1 m (nI c)) 76 5 (nI (m + 1))) := by
    unfold f_X9_type
    rw [if_neg n1, if_pos n2, r5, if_pos n3, hA, bd_some]
    simp [wr_at]
  refine ⟨wr (wr σ 1 m (nI c)) 76 5 (nI (m + 1)), ?_, by simp [wr_at], by simp [wr_at]; exact r6, fun q hq => by simp [wr_at]; exact r31 q hq, fun j hj => ?_⟩
  · unfold f_L_does f_L_does_215
    rw [if_neg (show ¬ (1 : Int32) = 0 by decide), if_pos (show (1 : Int32) = 1 from rfl), hT, bd_some]
  · by_cases e : j = m
    · subst e
      rw [app_s]
      simp [wr_at]
    · rw [app_n e]
      simp [wr_at, e]
      exact r1 j (by omega)
-- versions
theorem r_vers {σ : Mem} {V : Nat → Nat} {m q : Nat} {l : Nat → Int32} (h : Rm σ V m l) (hq : q < 4) : f_L_does 9 (nI q) 0 σ = some (nI (V q), σ) := by
  have hV : f_X9_versions (nI q) σ = some (nI (V q), σ) := by
    unfold f_X9_versions
    rw [cQ_y hq, bd_some, if_neg i10, rget_n (show q < 4 from hq) (by decide), h.2.2.1 q hq]
  unfold f_L_does f_L_does_215
  rw [if_neg (show ¬ (9 : Int32) = 0 by decide), if_neg (show ¬ (9 : Int32) = 1 by decide), if_neg (show ¬ (9 : Int32) = 2 by decide), if_neg (show ¬ (9 : Int32) = 3 by decide), if_neg (show ¬ (9 : Int32) = 4 by decide), if_neg (show ¬ (9 : Int32) = 5 by decide), if_neg (show ¬ (9 : Int32) = 6 by decide), if_neg (show ¬ (9 : Int32) = 7 by decide), if_neg (show ¬ (9 : Int32) = 8 by decide), if_pos (show (9 : Int32) = 9 from rfl), hV, bd_some]
-- scheme
theorem d_scheme {x : Int32} {σ : Mem} : f_L_does 2 x 0 σ = bd (f_X9_scheme x σ) (fun y t => some (y, t)) := by
  unfold f_L_does f_L_does_215
  rw [if_neg (show ¬ (2 : Int32) = 0 by decide), if_neg (show ¬ (2 : Int32) = 1 by decide), if_pos (show (2 : Int32) = 2 from rfl)]
theorem c_clear {σ : Mem} : f_X1_clear σ = some (0, wr σ 76 5 0) := by
  unfold f_X1_clear
  simp only [nw]
/-- up to the parse -/
theorem s_scheme {σ u : Mem} {V : Nat → Nat} {m q : Nat} {l : Nat → Int32} {y : Int32} (h : Rm σ V m l) (hq : q < 4) (hV : V q < 6) (hf : f_X0_faultOf σ = some (y, u)) : f_X9_scheme (nI q) σ = if y = -1 then bd (f_X6_enter (nI q) (wr u 76 5 0)) (fun y7 τ8 => bd (f_X9_weighReadings (nI q) τ8) (fun _ τ10 => some (y7, τ10))) else some (-1 - y, wr u 76 5 0) := by
  unfold f_X9_scheme
  rw [cQ_y hq, bd_some, if_neg i10, rget_n (show q < 4 from hq) (by decide), h.2.2.1 q hq, if_pos (show nI (V q) < (6 : Int32) from ltI (b := 6) (by omega) (by decide) hV), hf, bd_some, c_clear, bd_some]
theorem Rm.cl {σ u : Mem} {V : Nat → Nat} {m : Nat} {l l' : Nat → Int32} (h : Rm σ V m l) (e : eqv σ u) : Rm (wr u 76 5 0) V 0 l' := by
  obtain ⟨h1, h2, h3, h4⟩ := h.ev e
  exact ⟨by simp [wr_at]; rfl, by simp [wr_at]; exact h2, fun q hq => by simp [wr_at]; exact h3 q hq, fun j hj => absurd hj (Nat.not_lt_zero j)⟩
/-- a line at fault at j -/
theorem r_bad {σ : Mem} {V : Nat → Nat} {m q j : Nat} {l : Nat → Int32} {s : PS} (h : Rm σ V m l) (hm : m ≤ 40) (hq : q < 4) (hV : V q < 6) (hj : j < m) (p1 : pst l j = some s) (p2 : pst l (j + 1) = none) : ∃ u, f_L_does 2 (nI q) 0 σ = some (-1 - nI j, u) ∧ Rm u V 0 l := by
  have hc : ∀ k, k ≤ m → pst (σ 1) k = pst l k := fun k hk => pst_cong k (fun i hi => h.2.2.2 i (by omega))
  rcases c_fault hm h.1 with ⟨i, u, a1, ⟨s1, a2⟩, a3, a4, a5⟩ | ⟨s1, u, a1, a2, a3⟩
  · rw [hc _ (by omega)] at a2 a3
    have e : i = j := by
      by_cases h1 : i < j
      · have := pst_lt a3 j (by omega); rw [p1] at this; cases this
      · by_cases h2 : j < i
        · have := pst_lt p2 i (by omega); rw [a2] at this; cases this
        · omega
    subst e
    refine ⟨wr u 76 5 0, ?_, h.cl a5⟩
    rw [d_scheme, s_scheme h hq hV a4, if_neg (nm1 (by omega)), bd_some]
  · rw [hc _ (Nat.le_refl m), pst_lt p2 m (by omega)] at a1
    cases a1
/-- nothing is weighed where nothing was read -/
theorem w_none {σ : Mem} {x : Int32} (h : σ 76 6 = 0) : f_X9_weighReadings x σ = some (0, σ) := by
  obtain ⟨N, hN⟩ : ∃ N, FUEL = N + 1 := ⟨99999, rfl⟩
  unfold f_X9_weighReadings
  rw [hN]
  show (if σ 76 6 ≤ 0 then _ else _) = _
  rw [h, if_pos (show (0 : Int32) ≤ 0 by decide)]
/-- a line that is a scheme -/
theorem r_good {σ : Mem} {V : Nat → Nat} {m q : Nat} {l : Nat → Int32} {s : PS} (h : Rm σ V m l) (hm : m ≤ 40) (hq : q < 4) (hV : V q < 6) (p1 : pst l m = some s) (hw : whl s) : ∃ u tm most, f_L_does 2 (nI q) 0 σ = some (nI (V q), u) ∧ Rm u (fun j => if j = q then V q + 1 else V j) 0 l ∧ Tx u (6 * q + V q) (fin9 s).1 most (fin9 s).2 ∧ Tl (fin9 s).2 tm (fin9 s).1 most ∧ WFb (fin9 s).2 tm ∧ (fin9 s).1 ≤ 80 := by
  have hc : ∀ k, k ≤ m → pst (σ 1) k = pst l k := fun k hk => pst_cong k (fun i hi => h.2.2.2 i (by omega))
  obtain ⟨q1, q2⟩ := P_pst m s p1
  obtain ⟨tm, most, t1, t2, t3, t4, t5, t6⟩ := fin_ok q1 q2 hm hw
  rcases c_fault hm h.1 with ⟨i, u, a1, a2, a3, a4, a5⟩ | ⟨s1, u, a1, a2, a3⟩
  · rw [hc _ (by omega)] at a3
    rw [pst_lt a3 m (by omega)] at p1
    cases p1
  · rw [hc _ (Nat.le_refl m), p1] at a1
    cases a1
    rcases a3 with ⟨-, b1, b2⟩ | ⟨b0, -⟩
    · obtain ⟨r1, r2, r3, r4⟩ := b2
      have R0 : Rm (wr u 76 5 0) V 0 l := h.cl a2
      have g0 : (wr u 76 5 0) 76 0 = nI (fin9 s).1 := by simp [wr_at]; exact r2
      have g1 : (wr u 76 5 0) 76 1 = nI (lets s.2.2.2.1 s.2.2.1) := by simp [wr_at]; exact r3
      have g2 : (if (wr u 76 5 0) 76 2 = -1 then 99 else (wr u 76 5 0) 76 2) = nI most := by
        rw [show (wr u 76 5 0) 76 2 = u 76 2 by simp [wr_at], r4]
        exact t6
      have g3 : ∀ j, j < (fin9 s).1 → (wr u 76 5 0) 0 j = (fin9 s).2 j := fun j hj => by rw [wr_at, if_neg (fun h => absurd h.1 (by decide))]; exact r1 j hj
      obtain ⟨M, e1, e2, e3, e4, e5, e6, e7⟩ := c_ent (τ := wr u 76 5 0) (V := V q) (most := most) hq hV t3 (R0.2.2.1 q hq) g0 g3 g1 g2
      have M6 : M 76 6 = 0 := by rw [e7 76 (by decide) (by decide) (by decide) (by decide) (by decide)]; exact R0.2.1
      refine ⟨M, tm, most, ?_, ⟨?_, M6, fun x hx => ?_, fun j hj => absurd hj (Nat.not_lt_zero j)⟩, ⟨fun j hj => ?_, ?_, ?_⟩, t1, t2, t3⟩
      · rw [d_scheme, s_scheme h hq hV b1, if_pos rfl, e1, bd_some, w_none M6, bd_some, bd_some]
      · rw [e7 76 (by decide) (by decide) (by decide) (by decide) (by decide)]; exact R0.1
      · rw [e6]
        show _ = nI (if x = q then V q + 1 else V x)
        by_cases e : x = q
        · rw [if_pos e, if_pos e]
        · rw [if_neg e, if_neg e]; exact R0.2.2.1 x hx
      · rw [e2, if_pos (by omega), show 80 * (6 * q + V q) + j - 80 * (6 * q + V q) = j by omega]
      · rw [e3, if_pos rfl]
      · rw [e5, if_pos rfl]
    · exact absurd hw b0
-- written
theorem ch127 : ∀ a, a < 127 → ((nI a).toUInt32 % 65536).toInt32 = nI a := by decide
theorem r_written {σ : Mem} {V : Nat → Nat} {m q v len most j : Nat} {l W : Nat → Int32} (h : Rm σ V m l) (hq : q < 4) (hv : v < V q) (hV : V q ≤ 6) (hT : Tx σ (6 * q + v) len most W) (hl : len ≤ 80) (hW : ∀ j, j < len → ∃ a, a < 127 ∧ W j = nI a) (hj : j < 2 ^ 31) : f_L_written (nI q) (nI v) (nI j) σ = some (if j < len then W j else 0, σ) := by
  have e9 : nI q * 6 + nI v = nI (6 * q + v) := by rw [show (6 : Int32) = nI 6 from rfl, pk_mul, nI_add]; congr 1; omega
  have hX : f_X9_written (nI q) (nI v) (nI j) σ = some (if j < len then W j else 0, σ) := by
    unfold f_X9_written
    rw [cQ_y hq, bd_some, if_neg i10, cS_y hq (h.2.2.1 q hq) (by omega) hv, bd_some, if_neg i10, if_pos (nI_pos' hj)]
    unfold f_X6_signAt f_X6_signAt_39
    simp only [nv]
    rw [e9, rget_n (show 6 * q + v < 24 by omega) (by decide), hT.2.1]
    by_cases hjl : j < len
    · obtain ⟨a, ha, ea⟩ := hW j hjl
      rw [if_neg (nle (by omega) hj hjl), if_pos hjl, show (80 : Int32) = nI 80 from rfl, pk_mul, nI_add, rget_n (show (6 * q + v) * 80 + j < 1920 by omega) (by decide), show (6 * q + v) * 80 + j = 80 * (6 * q + v) + j by omega, hT.1 j hjl, bd_some, gdc, ea, ch127 a ha]
    · rw [if_pos (nI_le (by omega) hj), if_neg hjl, bd_some, nc0, gdc0]
  unfold f_L_written
  rw [hX, bd_some]
-- markOf
theorem r_mark {σ : Mem} {V : Nat → Nat} {m q v len tm most p : Nat} {l W : Nat → Int32} (h : Rm σ V m l) (hq : q < 4) (hv : v < V q) (hV : V q ≤ 6) (hT : Tx σ (6 * q + v) len most W) (hl : len ≤ 80) (ht : Tl W tm len most) (hb : WFb W tm) (hp : p < 256) : ∃ u, f_L_markOf (nI q) (nI v) (nI p) σ = some (nI (mk9 p W tm most), u) ∧ eqv σ u := by
  obtain ⟨u, c1, c2⟩ := c_mark (q := q) (v := v) (p := p) hq (by omega) (⟨by omega, hl, ht.lt.1, hT.1, hb, ht.lt.2⟩ : TC σ (6 * q + v) len tm W) hp hT.2.1 hT.2.2 ht.most
  refine ⟨u, ?_, c2⟩
  have hX : f_X9_markOf (nI q) (nI v) (nI p) σ = some (nI (mk9 p W tm most), u) := by
    unfold f_X9_markOf
    rw [cQ_y hq, bd_some, if_neg i10, cS_y hq (h.2.2.1 q hq) (by omega) hv, bd_some, if_neg i10, cB_y hp, bd_some, if_neg i10, c1, bd_some]
  unfold f_L_markOf
  rw [hX, bd_some]
