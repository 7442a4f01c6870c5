/-! PURE: release. By hand; long conjunctions by wfmk.py. -/
def A.grn (s : A) (p : Nat) : Nat := match s.tot p with
  | none => 0
  | some t => if t < s.b0 then (if t < s.b1 then (if t < s.b2 then 1 else 2) else 3) else 4
theorem grn_e {s : A} {p : Nat} : s.grd p = nI (s.grn p) - 1 := by
  unfold A.grd A.grn A.grt
  cases s.tot p with
  | none => rfl
  | some t =>
    show (if t < s.b0 then (if t < s.b1 then (if t < s.b2 then 0 else 1) else 2) else 3) = nI (if t < s.b0 then (if t < s.b1 then (if t < s.b2 then 1 else 2) else 3) else 4) - 1
    by_cases c0 : t < s.b0
    · rw [if_pos c0, if_pos c0]
      by_cases c1 : t < s.b1
      · rw [if_pos c1, if_pos c1]
        by_cases c2 : t < s.b2
        · rw [if_pos c2, if_pos c2]; rfl
        · rw [if_neg c2, if_neg c2]; rfl
      · rw [if_neg c1, if_neg c1]; rfl
    · rw [if_neg c0, if_neg c0]; rfl
/-- the state as it is released, the first k grades kept -/
def A.rl (s : A) (k : Nat) : A := (s.u1 29 0 1).ud 8 (fun j => if j < k then s.grn j else s 8 j)
theorem grd_rl {s : A} {k p : Nat} : (s.rl k).grd p = s.grd p := rfl
theorem rel_rl {s : A} {k j : Nat} : (s.rl k).rel j = if j < k then s.grd j else s.rel j := by
  show nI (if j < k then s.grn j else s 8 j) - 1 = _
  by_cases h : j < k
  · rw [if_pos h, if_pos h, grn_e]
  · rw [if_neg h, if_neg h]; rfl
theorem WF_rl {s : A} (hW : WF s) {k : Nat} (hk : k ≤ s.P) : WF (s.rl k) := by
  refine ⟨hW.m, hW.P, hW.lack, hW.urg, hW.gift, hW.app, ?_, hW.V, hW.T, hW.R, hW.rq, hW.sen, hW.stp, hW.hap, hW.given, hW.since, hW.good, hW.freshR, hW.hc, hW.stop, hW.S, hW.sq, hW.tw, hW.tol, (show 1 ≤ 1 from Nat.le_refl 1), hW.b0, hW.b1, hW.b2, hW.n, hW.ans, hW.rby, hW.pts, hW.voi, hW.freshL, hW.apr, hW.clean, hW.al, hW.ah, hW.ar⟩
  intro j h1 h2
  have h1' : s.P ≤ j := h1
  refine ⟨(hW.fresh j h1 h2).1, (hW.fresh j h1 h2).2.1, ?_⟩
  rw [rel_rl, if_neg (by omega)]
  exact (hW.fresh j h1 h2).2.2
def A.abv (s : A) : Nat → Nat
  | 0 => 0
  | k + 1 => s.abv k + (if s.grd k ≤ 0 then 0 else 1)
theorem c_rl {s : A} (hW : WF s) : ∀ d p, p + d = s.P → ∀ N τ, RelC τ (s.rl p) → ∃ u, f_X9_release_48 (N + d + 1) (nI (s.abv p)) (nI p) τ = some ((0, nI (s.abv s.P)), u) ∧ RelC u (s.rl s.P) ∧ frC τ u := by
  have hP := hW.P
  intro d
  induction d with
  | zero =>
    intro p hp N τ ht
    have e : p = s.P := by omega
    subst e
    refine ⟨τ, ?_, ht, fun i _ => keep.rf⟩
    show (if τ 76 7 ≤ nI s.P then _ else _) = _
    rw [show τ 76 7 = nI s.P from ht.c2.1, if_pos (nI_le (Nat.le_refl _) (by omega))]
  | succ d ih =>
    intro p hp N τ ht
    obtain ⟨u1, d1, d2⟩ := c_grade (WF_rl hW (k := p) (by omega)) ht (p := p) (by show p < s.P; omega)
    rw [grd_rl] at d1
    have ht1 := ht.ev d2
    have kk : ∀ i, i ≠ 2 → keep i u1 (wr u1 16 p (s.grd p)) := fun i hi => keep.w (show (2 : Nat) ≠ i by omega) keep.rf
    have ht2 : RelC (wr u1 16 p (s.grd p)) (s.rl (p + 1)) := by
      refine ⟨ht1.c1.k (kk _ (by decide)), ?_, ht1.c3.k (kk _ (by decide)), ht1.c4.k (kk _ (by decide)), ht1.c5.k (kk _ (by decide)), ht1.c6.k (kk _ (by decide)), ht1.c7.k (kk _ (by decide))⟩
      obtain ⟨b1, b2, b3⟩ := ht1.c2
      refine ⟨by simp [wr_at]; exact b1, fun j hj => ?_, fun j hj => by simp [wr_at]; exact b3 j hj⟩
      obtain ⟨q1, q2, q3, q4⟩ := b2 j hj
      refine ⟨by simp [wr_at]; exact q1, by simp [wr_at]; exact q2, by simp [wr_at]; exact q3, ?_⟩
      rw [rel_rl, wr_at]
      rw [rel_rl] at q4
      by_cases e : j = p
      · rw [if_pos ⟨rfl, e⟩, if_pos (by omega), e]
      · rw [if_neg (fun h => e h.2), q4]
        by_cases f : j < p
        · rw [if_pos f, if_pos (by omega)]
        · rw [if_neg f, if_neg (by omega)]
    obtain ⟨u2, e1, e2, e3⟩ := ih (p + 1) (by omega) N _ ht2
    refine ⟨u2, ?_, e2, fun i hi => ((d2.keep (by omega)).tr (kk i (by omega))).tr (e3 i hi)⟩
    rw [show s.abv (p + 1) = s.abv p + (if s.grd p ≤ 0 then 0 else 1) from rfl] at e1
    show (if τ 76 7 ≤ nI p then _ else _) = _
    rw [show τ 76 7 = nI s.P from ht.c2.1, if_neg (nle (by omega) (by omega) (by omega)), d1, bd_some, rset_n (show p < 16 by omega) (by decide)]
    simp only [nw]
    unfold f_X9_release_84
    rw [nI_1]
    by_cases c : s.grd p ≤ 0
    · rw [if_pos c, Nat.add_zero] at e1
      rw [if_pos c]
      exact e1
    · rw [if_neg c] at e1
      rw [if_neg c, nI_1]
      exact e1
theorem m_rl {s : A} (hW : WF s) : ∀ d p, p + d = s.P → ∀ N τ, RelM τ (s.rl p) → ∃ u, f_X10_release_74 (N + d + 1) (nI (s.abv p)) (nI p) τ = some (nI (s.abv s.P), u) ∧ RelM u (s.rl s.P) ∧ frM τ u ∧ u 76 22 = τ 76 22 := by
  have hP := hW.P
  intro d
  induction d with
  | zero =>
    intro p hp N τ ht
    have e : p = s.P := by omega
    subst e
    refine ⟨τ, ?_, ht, fun i _ _ => keep.rf, rfl⟩
    show (if τ 76 25 ≤ nI s.P then _ else _) = _
    rw [show τ 76 25 = nI s.P from ht.m2.1, if_pos (nI_le (Nat.le_refl _) (by omega))]
  | succ d ih =>
    intro p hp N τ ht
    obtain ⟨u1, d1, d2⟩ := m_grade (WF_rl hW (k := p) (by omega)) ht (p := p) (by show p < s.P; omega)
    rw [grd_rl] at d1
    have ht1 := ht.ev d2
    have kk : ∀ i, i ≠ 12 → keep i u1 (wr u1 49 p (s.grd p)) := fun i hi => keep.w (show (12 : Nat) ≠ i by omega) keep.rf
    have ht2 : RelM (wr u1 49 p (s.grd p)) (s.rl (p + 1)) := by
      refine ⟨ht1.m1.k (kk _ (by decide)), ?_, ht1.m3.k (kk _ (by decide)), ht1.m4.k (kk _ (by decide)), ht1.m5.k (kk _ (by decide)), ht1.m6.k (kk _ (by decide))⟩
      obtain ⟨b1, b2, b3⟩ := ht1.m2
      refine ⟨by simp [wr_at]; exact b1, fun j hj => by simp [wr_at]; exact b2 j hj, fun j hj => ?_⟩
      obtain ⟨q1, q2, q3⟩ := b3 j hj
      refine ⟨by simp [wr_at]; exact q1, ?_, fun q hq => by simp [wr_at]; exact q3 q hq⟩
      rw [rel_rl, wr_at]
      rw [rel_rl] at q2
      by_cases e : j = p
      · rw [if_pos ⟨rfl, e⟩, if_pos (by omega), e]
      · rw [if_neg (fun h => e h.2), q2]
        by_cases f : j < p
        · rw [if_pos f, if_pos (by omega)]
        · rw [if_neg f, if_neg (by omega)]
    obtain ⟨u2, e1, e2, e3, e4⟩ := ih (p + 1) (by omega) N _ ht2
    refine ⟨u2, ?_, e2, fun i h1 h2 => ((d2.keep (by omega)).tr (kk i (by omega))).tr (e3 i h1 h2), e4.trans (Eq.trans (by simp [wr_at]) d2.2)⟩
    rw [show s.abv (p + 1) = s.abv p + (if s.grd p ≤ 0 then 0 else 1) from rfl] at e1
    show (if τ 76 25 ≤ nI p then _ else _) = _
    rw [show τ 76 25 = nI s.P from ht.m2.1, if_neg (nle (by omega) (by omega) (by omega)), d1, bd_some, gd_r (show p < 16 by omega) (by decide), na_nI (by omega)]
    simp only [nw]
    rw [gd_r (show p < 16 by omega) (by decide), show wr u1 49 p (s.grd p) 49 p = s.grd p by simp [wr_at]]
    unfold f_X10_release_108
    simp only [nv]
    rw [nI_1]
    by_cases c : s.grd p ≤ 0
    · rw [if_pos c] at e1
      rw [if_pos c, show (0 : Int32) = nI 0 from rfl, nI_add]
      exact e1
    · rw [if_neg c] at e1
      rw [if_neg c, show (1 : Int32) = nI 1 from rfl, nI_add]
      exact e1
theorem TL_all {s : A} : ∀ k, (∀ p, p < k → s.tot p ≠ none) → (s.TL k).length = k := by
  intro k
  induction k with
  | zero => intro _; rfl
  | succ k ih =>
    intro h
    have i := ih (fun p hp => h p (by omega))
    have hs := TL_s s k
    cases e : s.tot k with
    | none => exact absurd e (h k (by omega))
    | some t =>
      rw [e] at hs
      have hs' : s.TL (k + 1) = s.TL k ++ [t] := hs
      rw [hs', List.length_append, List.length_singleton, i]
theorem TL_not {s : A} : ∀ k, (∃ p, p < k ∧ s.tot p = none) → (s.TL k).length < k := by
  intro k
  induction k with
  | zero => intro ⟨p, hp, _⟩; omega
  | succ k ih =>
    intro ⟨p, hp, e⟩
    have hs := TL_s s k
    have hl := TL_len s k
    cases f : s.tot k with
    | none =>
      rw [f] at hs
      have hs' : s.TL (k + 1) = s.TL k := hs
      rw [hs']
      omega
    | some t =>
      rw [f] at hs
      have hs' : s.TL (k + 1) = s.TL k ++ [t] := hs
      have i := ih ⟨p, by
        by_cases z : p = k
        · rw [z, f] at e; cases e
        · omega, e⟩
      rw [hs', List.length_append, List.length_singleton]
      omega
theorem m_can {σ : Mem} {s : A} (hW : WF s) (hM : RelM σ s) : ∀ d p, p + d = s.P → ∀ N τ, eqv σ τ → ∃ u, eqv σ u ∧ (((∀ j, p ≤ j → j < s.P → s.tot j ≠ none) → f_X10_release_22 (N + d + 1) 1 (nI p) τ = f_X10_release_55 1 u)) ∧ ((∃ j, p ≤ j ∧ j < s.P ∧ s.tot j = none) → f_X10_release_22 (N + d + 1) 1 (nI p) τ = f_X10_release_55 0 u) := by
  have hP := hW.P
  intro d
  induction d with
  | zero =>
    intro p hp N τ ht
    refine ⟨τ, ht, fun _ => ?_, fun ⟨j, h1, h2, _⟩ => absurd h2 (by omega)⟩
    show (if τ 76 25 ≤ nI p then _ else _) = _
    rw [(hM.ev ht).m2.1, if_pos (nI_le (by omega) (by omega))]
  | succ d ih =>
    intro p hp N τ ht
    have M1 := hM.ev ht
    obtain ⟨u1, d1, d2⟩ := m_total hW M1 (show p < s.P by omega)
    have body : f_X10_release_22 (N + (d + 1) + 1) 1 (nI p) τ = if oi (s.tot p) = -1 then f_X10_release_22 (N + d + 1) 0 (nI (p + 1)) u1 else f_X10_release_22 (N + d + 1) 1 (nI (p + 1)) u1 := by
      show (if τ 76 25 ≤ nI p then _ else (if (1 : Int32) = 0 then _ else _)) = _
      rw [M1.m2.1, if_neg (nle (by omega) (by omega) (by omega)), if_neg i10, d1, bd_some]
      unfold f_X10_release_48
      rw [nI_1]
      all_goals rfl
    rw [body]
    cases e : s.tot p with
    | none =>
      rw [if_pos oi_n]
      refine ⟨u1, ht.trans d2, fun h => absurd e (h p (Nat.le_refl _) (by omega)), fun _ => ?_⟩
      show (if u1 76 25 ≤ nI (p + 1) then _ else (if (0 : Int32) = 0 then _ else _)) = _
      rw [if_pos (show (0 : Int32) = 0 from rfl), ite_self]
    | some t =>
      have htt := tot_le hW (show p < 16 by omega) e
      rw [if_neg (oi_s (show t < 2 ^ 31 by omega))]
      obtain ⟨u2, e1, e2, e3⟩ := ih (p + 1) (by omega) N u1 (ht.trans d2)
      refine ⟨u2, e1, fun h => e2 (fun j h1 h2 => h j (by omega) h2), fun ⟨j, h1, h2, h3⟩ => e3 ⟨j, ?_, h2, h3⟩⟩
      by_cases z : j = p
      · rw [z, e] at h3; cases h3
      · omega
/-- release -/
theorem step_release {σ : Mem} (hI : Inv9 σ) : StpG Inv9 f_X9_release f_X10_release [2] σ := by
  obtain ⟨s, hW, hC, hM⟩ := hI
  have hP := hW.P
  have hr1 := hW.isr
  obtain ⟨N, hN⟩ : ∃ N, FUEL = N + s.P + 1 := ⟨99999 - s.P, by unfold FUEL; omega⟩
  have no : ∀ u, f_X10_release_55 0 u = some (0, ask 1 u) := by
    intro u
    unfold f_X10_release_55
    rw [aa1, bd_some, if_pos rfl]
  have no18 : ∀ u, f_X10_release_18 u = some (0, ask 1 u) := by
    intro u
    unfold f_X10_release_18 f_X10_release_19
    rw [hN]
    show (if u 76 25 ≤ 0 then f_X10_release_55 0 u else (if (0 : Int32) = 0 then f_X10_release_55 0 u else _)) = _
    rw [if_pos (show (0 : Int32) = 0 from rfl), ite_self]
    exact no u
  by_cases hr : s.isr = 0
  · by_cases h0 : s.P = 0
    · refine stepS (oc := (2, 0)) hW hC hM ⟨σ, ?_, eqv.rfl⟩ (fun u hu => ⟨0, ask 1 u, ?_, ask_22, core_ask, fun h => absurd h (by decide)⟩) (Or.inr (by decide))
      · unfold f_X9_release f_X9_release_31
        rw [hC.c5.2.2.2.2.1, hr, if_pos (show nI 0 = (0 : Int32) from rfl), hC.c2.1, h0, if_pos (show nI 0 = (0 : Int32) from rfl)]
      · unfold f_X10_release
        rw [hu.m5.2.2.2.2.1, hr, if_pos (show nI 0 = (0 : Int32) from rfl), hu.m2.1, h0, if_pos (show nI 0 ≤ (0 : Int32) by decide)]
        exact no18 u
    · obtain ⟨u1, d1, d2, d3⟩ := c_gath hW hC
      have hl := TL_len s s.P
      have cl : f_X9_release σ = if nI s.P ≤ nI (s.TL s.P).length then nw (wr u1 76 21 1) (fun τ6 => f_X9_release_48 FUEL 0 0 τ6) else some ((2, 0), u1) := by
        unfold f_X9_release f_X9_release_31
        rw [hC.c5.2.2.2.2.1, hr, if_pos (show nI 0 = (0 : Int32) from rfl), hC.c2.1, if_neg (show ¬ nI s.P = (0 : Int32) from nne (b := 0) (by omega) (by decide) h0), d1, bd_some, (hC.ev d2).c2.1]
      have ml : ∀ u, RelM u s → f_X10_release u = f_X10_release_22 FUEL 1 0 u := by
        intro u hu
        unfold f_X10_release f_X10_release_19
        rw [hu.m5.2.2.2.2.1, hr, if_pos (show nI 0 = (0 : Int32) from rfl), hu.m2.1, if_neg (show ¬ nI s.P ≤ (0 : Int32) from nle (b := 0) (by omega) (by decide) (by omega))]
      by_cases hall : ∀ p, p < s.P → s.tot p ≠ none
      · have hlen := TL_all s.P hall
        have hC1 := hC.ev d2
        have hC' : RelC (wr u1 76 21 1) (s.rl 0) := by
          refine ⟨hC1.c1.k (keep.w (show (5 : Nat) ≠ _ by decide) keep.rf), ?_, hC1.c3.k (keep.w (show (5 : Nat) ≠ _ by decide) keep.rf), hC1.c4.k (keep.w (show (5 : Nat) ≠ _ by decide) keep.rf), ?_, hC1.c6.k (keep.w (show (5 : Nat) ≠ _ by decide) keep.rf), hC1.c7.k (keep.w (show (5 : Nat) ≠ _ by decide) keep.rf)⟩
          · obtain ⟨b1, b2, b3⟩ := hC1.c2.k (keep.w (v := 1) (r := 76) (k := 21) (show (5 : Nat) ≠ _ by decide) keep.rf)
            refine ⟨b1, fun j hj => ?_, b3⟩
            obtain ⟨q1, q2, q3, q4⟩ := b2 j hj
            exact ⟨q1, q2, q3, by rw [rel_rl, if_neg (Nat.not_lt_zero j)]; exact q4⟩
          · obtain ⟨a1, a2, a3, a4, a5, a6, a7, a8⟩ := hC1.c5
            exact ⟨by simp [wr_at]; exact a1, fun k hk => by simp [wr_at]; exact a2 k hk, fun k hk => by simp [wr_at]; exact a3 k hk, by simp [wr_at]; exact a4, by simp [wr_at]; rfl, by simp [wr_at]; exact a6, by simp [wr_at]; exact a7, by simp [wr_at]; exact a8⟩
        obtain ⟨u2, b1, b2, b3⟩ := c_rl hW s.P 0 (by omega) N _ hC'
        refine stepG (s' := s.rl s.P) (oc := (0, nI (s.abv s.P))) (r := nI (s.abv s.P)) (s := s) (WF_rl hW (Nat.le_refl _)) hM ?_ ?_ (Or.inl rfl) (fun _ => rfl)
        · refine ⟨u2, ?_, b2, fun i hi => ((d2.keep (by omega)).tr (keep.w (r := 76) (k := 21) (v := 1) (show (5 : Nat) ≠ i by omega) keep.rf)).tr (b3 i hi)⟩
          rw [cl, hlen, if_pos (nI_le (Nat.le_refl _) (by omega)), hN]
          exact b1
        · intro u hu
          obtain ⟨v1, w1, w2, -⟩ := m_can hW hu s.P 0 (by omega) N u eqv.rfl
          have hM1 := (hu.ev w1).ask (c := 0)
          have hM' : RelM (wr (ask 0 v1) 76 26 1) (s.rl 0) := by
            refine ⟨hM1.m1.k (keep.w (show (15 : Nat) ≠ _ by decide) keep.rf), ?_, hM1.m3.k (keep.w (show (15 : Nat) ≠ _ by decide) keep.rf), hM1.m4.k (keep.w (show (15 : Nat) ≠ _ by decide) keep.rf), ?_, hM1.m6.k (keep.w (show (15 : Nat) ≠ _ by decide) keep.rf)⟩
            · obtain ⟨b1, b2, b3⟩ := hM1.m2.k (keep.w (v := 1) (r := 76) (k := 26) (show (15 : Nat) ≠ _ by decide) keep.rf)
              refine ⟨b1, b2, fun j hj => ?_⟩
              obtain ⟨q1, q2, q3⟩ := b3 j hj
              exact ⟨q1, by rw [rel_rl, if_neg (Nat.not_lt_zero j)]; exact q2, q3⟩
            obtain ⟨a1, a2, a3, a4, a5, a6, a7, a8⟩ := hM1.m5
            exact ⟨by simp [wr_at]; exact a1, fun k hk => by simp [wr_at]; exact a2 k hk, fun k hk => by simp [wr_at]; exact a3 k hk, by simp [wr_at]; exact a4, by simp [wr_at]; rfl, by simp [wr_at]; exact a6, by simp [wr_at]; exact a7, by simp [wr_at]; exact a8⟩
          obtain ⟨u3, f1, f2, f3, f4⟩ := m_rl hW s.P 0 (by omega) N _ hM'
          refine ⟨u3, ?_, f4.trans (Eq.trans (by simp [wr_at]) (ask_22 (c := 0) (σ := v1))), f2, fun i h1 h2 => (((w1.keep (by omega)).tr (ck core_ask (by omega))).tr (keep.w (r := 76) (k := 26) (v := 1) (show (15 : Nat) ≠ i by omega) keep.rf)).tr (f3 i h1 h2)⟩
          rw [ml u hu, hN]
          refine (w2 (fun j _ hj => hall j hj)).trans ?_
          unfold f_X10_release_55
          rw [aa0, bd_some, if_neg i10, hN]
          exact f1
      · have hex : ∃ p, p < s.P ∧ s.tot p = none := by
          by_cases z : ∃ p, p < s.P ∧ s.tot p = none
          · exact z
          · exact absurd (fun p hp e => z ⟨p, hp, e⟩) hall
        have hlen := TL_not s.P hex
        obtain ⟨p, hp, e⟩ := hex
        refine stepS (oc := (2, 0)) hW hC hM ⟨u1, ?_, d2⟩ (fun u hu => ?_) (Or.inr (by decide))
        · rw [cl, if_neg (nle (by omega) (by omega) hlen)]
        · obtain ⟨v1, w1, -, w3⟩ := m_can hW hu s.P 0 (by omega) N u eqv.rfl
          refine ⟨0, ask 1 v1, ?_, ask_22, core_ask.trans w1.1, fun h => absurd h (by decide)⟩
          rw [ml u hu, hN]
          exact (w3 ⟨p, Nat.zero_le _, hp, e⟩).trans (no v1)
  · refine stepS (oc := (2, 0)) hW hC hM ⟨σ, ?_, eqv.rfl⟩ (fun u hu => ⟨0, ask 1 u, ?_, ask_22, core_ask, fun h => absurd h (by decide)⟩) (Or.inr (by decide))
    · unfold f_X9_release f_X9_release_31
      rw [hC.c5.2.2.2.2.1, if_neg (show ¬ nI s.isr = (0 : Int32) from nne (b := 0) (by omega) (by decide) hr)]
    · unfold f_X10_release
      rw [hu.m5.2.2.2.2.1, if_neg (show ¬ nI s.isr = (0 : Int32) from nne (b := 0) (by omega) (by decide) hr)]
      exact no18 u
