/-! PURE: what is next: the answers in their order, on both sides. By hand. -/
def A.gf (s : A) (r u a : Nat) : Bool := decide (s.urg (a / 4) = u) && s.cg r a
/-- the first answer from a on that is urgent as told and can be given -/
def A.fnd (s : A) (r u a : Nat) : Option Nat := (List.range' a (4 * s.P - a)).find? (s.gf r u)
theorem fnd_s {s : A} {r u a : Nat} (h : a < 4 * s.P) : s.fnd r u a = if s.gf r u a = true then some a else s.fnd r u (a + 1) := by
  unfold A.fnd
  obtain ⟨m, hm⟩ : ∃ m, 4 * s.P - a = m + 1 := ⟨4 * s.P - a - 1, by omega⟩
  rw [hm, show 4 * s.P - (a + 1) = m by omega, show List.range' a (m + 1) = a :: List.range' (a + 1) m from rfl]
  by_cases c : s.gf r u a = true
  · rw [List.find?_cons_of_pos c, if_pos c]
  · rw [List.find?_cons_of_neg c, if_neg c]
theorem fnd_z {s : A} {r u : Nat} : s.fnd r u (4 * s.P) = none := by
  unfold A.fnd
  rw [Nat.sub_self]
  rfl
theorem fnd_x {s : A} {r u p : Nat} (hp : p < s.P) (h : ¬ s.urg p = u) : s.fnd r u (4 * p) = s.fnd r u (4 * (p + 1)) := by
  have n : ∀ q, q < 4 → s.fnd r u (4 * p + q) = s.fnd r u (4 * p + q + 1) := by
    intro q hq
    rw [fnd_s (show 4 * p + q < 4 * s.P by omega), if_neg]
    unfold A.gf
    rw [show (4 * p + q) / 4 = p by omega, decide_eq_false h, Bool.false_and]
    decide
  have n0 := n 0 (by decide)
  have n1 := n 1 (by decide)
  have n2 := n 2 (by decide)
  have n3 := n 3 (by decide)
  exact ((n0.trans n1).trans n2).trans n3
theorem gf_in {s : A} {r u a : Nat} (h : s.gf r u a = true) : s.cg r a = true := by
  unfold A.gf at h
  by_cases c : s.cg r a = true
  · exact c
  · rw [Bool.eq_false_iff.mpr c, Bool.and_false] at h; cases h
theorem fnd_in {s : A} {r u a b : Nat} (h : s.fnd r u a = some b) : a ≤ b ∧ b < 4 * s.P ∧ s.cg r b = true := by
  have h1 := List.mem_of_find?_eq_some h
  have h2 := List.find?_some h
  have h3 := List.mem_range'_1.mp h1
  exact ⟨h3.1, by omega, gf_in h2⟩
/-- the hand of a reader filled with an answer -/
def A.ha (s : A) (r a : Nat) : A := (s.u1 19 r (a + 1)).u1 20 r (if s.wf a = 0 then 1 else 0)
theorem b01n (c : Prop) [Decidable c] : (if (if c then (1 : Int32) else 0) = 0 then (0 : Int32) else 1) = if c then 1 else 0 := by
  by_cases h : c
  · rw [if_pos h, if_neg i10]
  · rw [if_neg h, if_pos rfl]
theorem nI_if (c : Prop) [Decidable c] : nI (if c then 1 else 0) = if c then (1 : Int32) else 0 := by
  by_cases h : c
  · rw [if_pos h, if_pos h]; rfl
  · rw [if_neg h, if_neg h]; rfl
theorem c_hand {τ : Mem} {s : A} (hW : WF s) (hC : RelC τ s) {r p q : Nat} (hr : r < s.R) (hp : p < s.P) (hq : q < 4) : RelC (wr (wr τ 22 r (nI (10 * p + q))) 24 r (if s.wf (4 * p + q) = 0 then 1 else 0)) (s.ha r (4 * p + q)) := by
  have hP := hW.P
  have kk : ∀ i, i ≠ 4 → keep i τ (wr (wr τ 22 r (nI (10 * p + q))) 24 r (if s.wf (4 * p + q) = 0 then 1 else 0)) := fun i hi => keep.w (show (4 : Nat) ≠ i by omega) (keep.w (show (4 : Nat) ≠ i by omega) keep.rf)
  refine ⟨hC.c1.k (kk _ (by decide)), hC.c2.k (kk _ (by decide)), hC.c3.k (kk _ (by decide)), ?_, hC.c5.k (kk _ (by decide)), hC.c6.k (kk _ (by decide)), hC.c7.k (kk _ (by decide))⟩
  obtain ⟨b1, b2, b3⟩ := hC.c4
  have f1 : ∀ j, (s.ha r (4 * p + q)).hc j = if j = r then 4 * p + q + 1 else s.hc j := fun j => rfl
  have f2 : ∀ j, (s.ha r (4 * p + q)).hap j = if j = r then (if s.wf (4 * p + q) = 0 then 1 else 0) else s.hap j := fun j => rfl
  refine ⟨by simp [wr_at]; exact b1, fun j hj => ?_, fun j hj => by simp [wr_at]; exact b3 j hj⟩
  obtain ⟨q1, q2, q3, q4, q5, q6⟩ := b2 j hj
  by_cases e : j = r
  · have hh : (s.ha r (4 * p + q)).hand j = nI (10 * p + q) := by
      unfold A.hand
      rw [f1, if_pos e, if_neg (by omega), if_pos (by omega), show 10 * ((4 * p + q + 1 - 1) / 4) + (4 * p + q + 1 - 1) % 4 = 10 * p + q by rw [Nat.add_sub_cancel]; omega]
    refine ⟨by simp [wr_at]; exact q1, by simp [wr_at]; exact q2, by simp [wr_at]; exact q3, ?_, fun _ _ => ?_, fun h => ?_⟩
    · rw [hh, wr_at, if_neg (fun h => absurd h.1 (by decide)), wr_at, if_pos ⟨rfl, e⟩]
    · rw [f2, if_pos e, nI_if, wr_at, if_pos ⟨rfl, e⟩]
    · rw [f1, if_pos e] at h
      omega
  · have hh : (s.ha r (4 * p + q)).hand j = s.hand j := by
      unfold A.hand
      rw [f1, if_neg e]
      rfl
    refine ⟨by simp [wr_at]; exact q1, by simp [wr_at]; exact q2, by simp [wr_at]; exact q3, ?_, fun h1 h2 => ?_, fun h => ?_⟩
    · rw [hh, wr_at, if_neg (fun h => absurd h.1 (by decide)), wr_at, if_neg (fun h => e h.2)]
      exact q4
    · rw [f1, if_neg e] at h1 h2
      rw [f2, if_neg e, wr_at, if_neg (fun h => e h.2), wr_at, if_neg (fun h => absurd h.1 (by decide))]
      exact q5 h1 h2
    · rw [f1, if_neg e] at h
      rw [f1, if_neg e, wr_at, if_neg (fun h => absurd h.1 (by decide)), wr_at, if_neg (fun h => absurd h.1 (by decide))]
      exact q6 h
/-- the class's search -/
theorem c_g34 {σ : Mem} {s : A} (hW : WF s) (hC : RelC σ s) {r p u : Nat} {k2 : Int32 → Int32 → Int32 → Mem → Option (Int32 × Mem)} (hr : r < s.R) (hp : p < s.P) (hu : s.urg p = u) : ∀ d q, q + d = 4 → ∀ N τ, eqv σ τ →
    (∃ b u2, s.fnd r u (4 * p + q) = some b ∧ f_X9_giveAnswer_34 k2 (N + d + 1) (nI r) (nI u) (nI p) (nI q) τ = some (1, u2) ∧ RelC u2 (s.ha r b) ∧ frC σ u2) ∨
    (∃ u2, s.fnd r u (4 * p + q) = s.fnd r u (4 * (p + 1)) ∧ f_X9_giveAnswer_34 k2 (N + d + 1) (nI r) (nI u) (nI p) (nI q) τ = k2 (nI r) (nI u) (nI (p + 1)) u2 ∧ eqv σ u2) := by
  have hR := hW.R
  have hP := hW.P
  intro d
  induction d with
  | zero =>
    intro q hq N τ ht
    have e : q = 4 := by omega
    subst e
    refine Or.inr ⟨τ, by rw [show 4 * (p + 1) = 4 * p + 4 by omega], ?_, ht⟩
    show (if (4 : Int32) ≤ nI 4 then _ else _) = _
    rw [if_pos (show (4 : Int32) ≤ nI 4 by decide)]
    unfold f_X9_giveAnswer_108
    rw [nI_1]
  | succ d ih =>
    intro q hq N τ ht
    have hq4 : q < 4 := by omega
    obtain ⟨u1, d1, d2, d3⟩ := c_can hW (hC.ev ht) hr hp hq4
    have C1 := (hC.ev ht).ev d2
    have fs := fnd_s (s := s) (r := r) (u := u) (a := 4 * p + q) (by omega)
    have gfe : s.gf r u (4 * p + q) = s.cg r (4 * p + q) := by
      unfold A.gf
      rw [show (4 * p + q) / 4 = p by omega, decide_eq_true hu, Bool.true_and]
    rw [gfe] at fs
    have body : f_X9_giveAnswer_34 k2 (N + (d + 1) + 1) (nI r) (nI u) (nI p) (nI q) τ = if (if s.cg r (4 * p + q) = true then (1 : Int32) else 0) = 0 then f_X9_giveAnswer_34 k2 (N + d + 1) (nI r) (nI u) (nI p) (nI (q + 1)) u1 else bd (f_X8_lackingAsPlain (ris 41 (nI q) u1) (u1 76 17) u1) (fun y7 τ8 => if y7 = 0 then f_X9_giveAnswer_82 (nI r) (nI p) (nI q) 1 τ8 else f_X9_giveAnswer_82 (nI r) (nI p) (nI q) 0 τ8) := by
      show (if (4 : Int32) ≤ nI q then _ else _) = _
      rw [if_neg (show ¬ (4 : Int32) ≤ nI q from nle (a := 4) (by decide) (by omega) hq4), d1, bd_some, nI_1]
      all_goals rfl
    by_cases c : s.cg r (4 * p + q) = true
    · have T := d3 c
      have o := c_lack hW T
      rw [show (4 * p + q) % 4 = q by omega] at o
      rw [if_pos c] at fs
      refine Or.inl ⟨4 * p + q, _, fs, ?_, c_hand hW C1 hr hp hq4, fun i hi => ((ht.keep (by omega)).tr (d2.keep (by omega))).tr (keep.w (show (4 : Nat) ≠ i by omega) (keep.w (show (4 : Nat) ≠ i by omega) keep.rf))⟩
      have wb := wf_le (s := s) (a := 4 * p + q)
      rw [body, if_pos c, if_neg i10, ris_n (show q < 4 from hq4) (by decide), C1.c5.2.2.1 q hq4, ris_b (hW.tw q hq4), C1.c5.2.2.2.1, o, bd_some]
      have e82 : ∀ v : Int32, (v = 0 ∨ v = 1) → f_X9_giveAnswer_82 (nI r) (nI p) (nI q) v u1 = some (1, wr (wr u1 22 r (nI (10 * p + q))) 24 r v) := by
        intro v hv
        unfold f_X9_giveAnswer_82 f_X9_codeOf f_X4_handAnswer
        rw [bd_some, show (10 : Int32) = nI 10 from rfl, pk_mul, nI_add, rset_n (show r < 6 by omega) (by decide)]
        simp only [nw]
        rw [rput_n (show r < 6 by omega) (by decide), bd_some, gdz1]
        rcases hv with rfl | rfl
        · rw [if_pos rfl]
        · rw [if_neg i10]
      by_cases w : s.wf (4 * p + q) = 0
      · rw [if_pos (show nI (s.wf (4 * p + q)) = (0 : Int32) by rw [w]; rfl), e82 1 (Or.inr rfl), if_pos w]
      · rw [if_neg (show ¬ nI (s.wf (4 * p + q)) = (0 : Int32) from nne (b := 0) (by omega) (by decide) w), e82 0 (Or.inl rfl), if_neg w]
    · rw [if_neg c] at fs
      rw [body, if_neg c, if_pos rfl, fs]
      exact ih (q + 1) (by omega) N u1 (ht.trans d2)
theorem c_g2 {σ : Mem} {s : A} (hW : WF s) (hC : RelC σ s) {r u : Nat} (hr : r < s.R) (hu : u ≤ 1) : ∀ d p, p + d = s.P → ∀ N τ, eqv σ τ →
    (∃ b u2, s.fnd r u (4 * p) = some b ∧ f_X9_giveAnswer_2 (N + d + 1) (nI r) (nI u) (nI p) τ = some (1, u2) ∧ RelC u2 (s.ha r b) ∧ frC σ u2) ∨
    (∃ u2, s.fnd r u (4 * p) = none ∧ f_X9_giveAnswer_2 (N + d + 1) (nI r) (nI u) (nI p) τ = some (0, u2) ∧ eqv σ u2) := by
  have hP := hW.P
  intro d
  induction d with
  | zero =>
    intro p hp N τ ht
    have e : p = s.P := by omega
    subst e
    refine Or.inr ⟨τ, fnd_z, ?_, ht⟩
    show (if τ 76 7 ≤ nI s.P then _ else _) = _
    rw [(hC.ev ht).c2.1, if_pos (nI_le (Nat.le_refl _) (by omega)), gdz0]
  | succ d ih =>
    intro p hp N τ ht
    have C1 := hC.ev ht
    have hug := hW.urg p (by omega)
    have body : f_X9_giveAnswer_2 (N + (d + 1) + 1) (nI r) (nI u) (nI p) τ = if nI (s.urg p) = nI u then f_X9_giveAnswer_34 (f_X9_giveAnswer_2 (N + d + 1)) FUEL (nI r) (nI u) (nI p) 0 τ else f_X9_giveAnswer_2 (N + d + 1) (nI r) (nI u) (nI (p + 1)) τ := by
      show (if τ 76 7 ≤ nI p then _ else _) = _
      rw [C1.c2.1, if_neg (nle (by omega) (by omega) (by omega)), ris_n (show p < 16 by omega) (by decide), (C1.c2.2.1 p (by omega)).2.2.1, ris_b hug]
      unfold f_X9_giveAnswer_108
      rw [nI_1]
      all_goals rfl
    by_cases c : s.urg p = u
    · rw [body, if_pos (show nI (s.urg p) = nI u by rw [c])]
      rcases c_g34 hW hC (k2 := f_X9_giveAnswer_2 (N + d + 1)) hr (show p < s.P by omega) c 4 0 (by omega) 99995 τ ht with ⟨b, u2, a1, a2, a3, a4⟩ | ⟨u2, a1, a2, a3⟩
      · exact Or.inl ⟨b, u2, a1, a2, a3, a4⟩
      · have a1' : s.fnd r u (4 * p) = s.fnd r u (4 * (p + 1)) := a1
        have a2' : f_X9_giveAnswer_34 (f_X9_giveAnswer_2 (N + d + 1)) FUEL (nI r) (nI u) (nI p) 0 τ = f_X9_giveAnswer_2 (N + d + 1) (nI r) (nI u) (nI (p + 1)) u2 := a2
        rw [a1', a2']
        exact ih (p + 1) (by omega) N u2 a3
    · rw [body, if_neg (show ¬ nI (s.urg p) = nI u from nne (by omega) (by omega) c), fnd_x (by omega) c]
      exact ih (p + 1) (by omega) N τ ht
/-- the answer that is next -/
def A.nx (s : A) (r : Nat) : Option Nat := match s.fnd r 1 0 with
  | some b => some b
  | none => s.fnd r 0 0
theorem c_give {σ : Mem} {s : A} (hW : WF s) (hC : RelC σ s) {r : Nat} (hr : r < s.R) : ∃ u2, bd (f_X9_giveAnswer (nI r) 1 σ) (fun y3 τ4 => if y3 = 0 then bd (f_X9_giveAnswer (nI r) 0 τ4) (fun _ τ6 => f_X9_giveWhatIsNext_52 τ6) else f_X9_giveWhatIsNext_52 τ4) = some (0, u2) ∧ RelC u2 (match s.nx r with | some b => s.ha r b | none => s) ∧ frC σ u2 := by
  have hP := hW.P
  obtain ⟨N, hN⟩ : ∃ N, FUEL = N + s.P + 1 := ⟨99999 - s.P, by unfold FUEL; omega⟩
  have e1 : f_X9_giveAnswer (nI r) 1 σ = f_X9_giveAnswer_2 (N + s.P + 1) (nI r) (nI 1) (nI 0) σ := by unfold f_X9_giveAnswer; rw [hN]; all_goals rfl
  have e0 : ∀ τ, f_X9_giveAnswer (nI r) 0 τ = f_X9_giveAnswer_2 (N + s.P + 1) (nI r) (nI 0) (nI 0) τ := by intro τ; unfold f_X9_giveAnswer; rw [hN]; all_goals rfl
  unfold A.nx f_X9_giveWhatIsNext_52
  rcases c_g2 hW hC hr (u := 1) (by omega) s.P 0 (by omega) N σ eqv.rfl with ⟨b, u2, a1, a2, a3, a4⟩ | ⟨u2, a1, a2, a3⟩
  · have a1' : s.fnd r 1 0 = some b := a1
    rw [e1, a2, bd_some, if_neg i10, a1']
    exact ⟨u2, rfl, a3, a4⟩
  · have a1' : s.fnd r 1 0 = none := a1
    rw [e1, a2, bd_some, if_pos rfl, a1']
    rcases c_g2 hW hC hr (u := 0) (by omega) s.P 0 (by omega) N u2 a3 with ⟨b, u3, b1, b2, b3, b4⟩ | ⟨u3, b1, b2, b3⟩
    · have b1' : s.fnd r 0 0 = some b := b1
      rw [e0, b2, bd_some]
      show ∃ u2, _ ∧ RelC u2 (match s.fnd r 0 0 with | some b => s.ha r b | none => s) ∧ _
      rw [b1']
      exact ⟨u3, rfl, b3, b4⟩
    · have b1' : s.fnd r 0 0 = none := b1
      rw [e0, b2, bd_some]
      show ∃ u2, _ ∧ RelC u2 (match s.fnd r 0 0 with | some b => s.ha r b | none => s) ∧ _
      rw [b1']
      exact ⟨u3, rfl, hC.ev b3, b3.frC⟩
