/-! PURE: next: seeds, then answers; the reference's search; next. By hand. -/
theorem m_han {σ τ : Mem} {s : A} (hM : RelM τ s) {r a : Nat} (hr : r < s.R) (ha : a < 64) (h59 : σ 59 r = nI a) (h60 : σ 60 r = if s.wf a = 0 then 1 else 0) (hk : ∀ q j, (q, j) ≠ (59, r) → (q, j) ≠ (60, r) → grp q j ≠ 0 → σ q j = τ q j) : RelM σ (s.ha r a) := by
  have kk : ∀ i, i ≠ 14 → i ≠ 0 → keep i τ σ := by
    intro i h1 h2 q j hg
    refine hk q j (fun e => ?_) (fun e => ?_) (by rw [hg]; exact h2)
    · cases e; exact h1 hg.symm
    · cases e; exact h1 hg.symm
  have kn : ∀ q j, (q, j) ≠ (59, r) → (q, j) ≠ (60, r) → grp q j = 14 → σ q j = τ q j := fun q j h1 h2 hg => hk q j h1 h2 (by rw [hg]; decide)
  refine ⟨hM.m1.k (kk _ (by decide) (by decide)), hM.m2.k (kk _ (by decide) (by decide)), hM.m3.k (kk _ (by decide) (by decide)), ?_, hM.m5.k (kk _ (by decide) (by decide)), hM.m6.k (kk _ (by decide) (by decide))⟩
  obtain ⟨b1, b2, b3⟩ := hM.m4
  have f1 : ∀ j, (s.ha r a).hc j = if j = r then a + 1 else s.hc j := fun j => rfl
  have f2 : ∀ j, (s.ha r a).hap j = if j = r then (if s.wf a = 0 then 1 else 0) else s.hap j := fun j => rfl
  refine ⟨(kn 76 27 (by simp) (by simp) rfl).trans b1, fun j hj => ?_, fun j hj => ?_⟩
  · obtain ⟨q1, q2, q3, q4, q5⟩ := b2 j hj
    refine ⟨(kn 55 j (by simp) (by simp) rfl).trans q1, (kn 56 j (by simp) (by simp) rfl).trans q2, (kn 57 j (by simp) (by simp) rfl).trans q3, ?_, ?_⟩
    · rw [f1]
      by_cases e : j = r
      · rw [if_pos e, e, h59, nI_pred]
      · rw [if_neg e]
        exact (kn 59 j (fun h => e (congrArg Prod.snd h)) (by simp) rfl).trans q4
    · rw [f1, f2]
      by_cases e : j = r
      · intro _ _
        rw [if_pos e, e, h60, nI_if]
      · rw [if_neg e, if_neg e]
        intro h1 h2
        exact (kn 60 j (by simp) (fun h => e (congrArg Prod.snd h)) rfl).trans (q5 h1 h2)
  · obtain ⟨q1, q2, q3, q4⟩ := b3 j hj
    exact ⟨(kn 58 j (by simp) (by simp) rfl).trans q1, (kn 61 j (by simp) (by simp) rfl).trans q2, (kn 63 j (by simp) (by simp) rfl).trans q3, fun h => (kn 62 j (by simp) (by simp) rfl).trans (q4 h)⟩
theorem nar_if {c : Prop} [Decidable c] : vp_nar .boolean (if c then (1 : Int32) else 0) = if c then 1 else 0 := by
  by_cases h : c
  · rw [if_pos h]; rfl
  · rw [if_neg h]; rfl
def A.nk (s : A) (r k : Nat) : Option Nat := if k < 4 * s.P then (match s.fnd r 1 k with
  | some b => some b
  | none => s.fnd r 0 0) else s.fnd r 0 (k - 4 * s.P)
def A.hs (s : A) (r : Nat) (o : Option Nat) : A := match o with
  | some b => s.ha r b
  | none => s
theorem nk_s {s : A} {r k : Nat} (h : k < 8 * s.P) : s.nk r k = if s.gf r (if k < 4 * s.P then 1 else 0) (if k < 4 * s.P then k else k - 4 * s.P) = true then some (if k < 4 * s.P then k else k - 4 * s.P) else s.nk r (k + 1) := by
  unfold A.nk
  by_cases c : k < 4 * s.P
  · rw [if_pos c, if_pos c, if_pos c, fnd_s c]
    by_cases g : s.gf r 1 k = true
    · rw [if_pos g, if_pos g]
      all_goals rfl
    · rw [if_neg g, if_neg g]
      by_cases e : k + 1 < 4 * s.P
      · rw [if_pos e]
      · rw [if_neg e, show k + 1 = 4 * s.P by omega, fnd_z, Nat.sub_self]
        all_goals rfl
  · rw [if_neg c, if_neg c, if_neg c, fnd_s (show k - 4 * s.P < 4 * s.P by omega), if_neg (show ¬ k + 1 < 4 * s.P by omega), show k - 4 * s.P + 1 = k + 1 - 4 * s.P by omega]
theorem nk_z {s : A} {r : Nat} : s.nk r (8 * s.P) = none := by
  unfold A.nk
  by_cases c : 8 * s.P < 4 * s.P
  · omega
  · rw [if_neg c, show 8 * s.P - 4 * s.P = 4 * s.P by omega, fnd_z]
theorem nk_0 {s : A} {r : Nat} : s.nk r 0 = s.nx r := by
  unfold A.nk A.nx
  by_cases c : 0 < 4 * s.P
  · rw [if_pos c]
    cases s.fnd r 1 0 <;> rfl
  · have z : 4 * s.P = 0 := by omega
    have e1 : s.fnd r 1 0 = none := by have h := fnd_z (s := s) (r := r) (u := 1); rw [z] at h; exact h
    rw [if_neg c, e1, z]
    all_goals rfl
theorem wf_ha {s : A} {r a b : Nat} : (s.ha r a).wf b = s.wf b := rfl
theorem WF_ha {s : A} (hW : WF s) {r a : Nat} (hr : r < s.R) (ha : a < 4 * s.P) (hc : s.cg r a = true) (hs : s.stp r = 0) : WF (s.ha r a) := by
  have hz := of_decide_eq_true hc
  have f1 : ∀ j, (s.ha r a).hc j = if j = r then a + 1 else s.hc j := fun j => rfl
  have f2 : ∀ j, (s.ha r a).hap j = if j = r then (if s.wf a = 0 then 1 else 0) else s.hap j := fun j => rfl
  refine ⟨hW.m, hW.P, hW.lack, hW.urg, hW.gift, hW.app, hW.fresh, hW.V, hW.T, hW.R, hW.rq, hW.sen, hW.stp, ?_, hW.given, hW.since, hW.good, hW.freshR, ?_, ?_, hW.S, hW.sq, hW.tw, hW.tol, hW.isr, hW.b0, hW.b1, hW.b2, hW.n, hW.ans, hW.rby, hW.pts, hW.voi, hW.freshL, hW.apr, hW.clean, hW.al, ?_, hW.ar⟩
  · intro j hj
    rw [f2]
    split
    · split <;> omega
    · exact hW.hap j hj
  · intro j hj
    rw [f1]
    by_cases e : j = r
    · rw [if_pos e]
      exact Or.inr (Or.inl ⟨ha, by rw [Nat.add_sub_cancel]; exact hz.2.2.2.1⟩)
    · rw [if_neg e]; exact hW.hc j hj
  · intro j hj h1
    rw [f1]
    by_cases e : j = r
    · have h1' : s.stp j = 1 := h1
      rw [e, hs] at h1'
      exact absurd h1' (by decide)
    · rw [if_neg e]; exact hW.stop j hj h1
  · intro j hj h1 h2 h3
    rw [f1] at h1 h2
    rw [f2] at h3
    rw [f1]
    by_cases e : j = r
    · rw [if_pos e] at h3
      rw [if_pos e, Nat.add_sub_cancel]
      show s.apb a = 1
      by_cases w : s.wf a = 0
      · have hw : 0 < s.wnt a := by have := hz.2.2.2.2.2.1; omega
        unfold A.wnt at hw
        rw [if_pos hz.1, if_neg (by omega)] at hw
        by_cases b : s.apb a = 1
        · exact b
        · rw [if_neg (fun h => b h.1)] at hw
          omega
      · rw [if_neg w] at h3
        omega
    · rw [if_neg e] at h1 h2 h3
      rw [if_neg e]
      exact hW.ah j hj h1 h2 h3
theorem m_220 {τ : Mem} {s : A} (hW : WF s) (hM : RelM τ s) {r : Nat} (hr : r < s.R) : f_X10_next_220 (nI r) τ = some (s.hand r, τ) := by
  unfold f_X10_next_220
  rw [m_handed hW hM.m4 hM.m5 hr, bd_some]
theorem m_126 {σ : Mem} {s : A} (hW : WF s) (hM : RelM σ s) {r : Nat} (hr : r < s.R) (h0 : s.hc r = 0) (hs : s.stp r = 0) : ∀ d k, k + d = 8 * s.P → ∀ N τ, eqv σ τ → ∃ u, f_X10_next_126 (N + d + 1) (nI r) (nI k) τ = some ((s.hs r (s.nk r k)).hand r, u) ∧ RelM u (s.hs r (s.nk r k)) ∧ frM σ u ∧ u 76 22 = σ 76 22 := by
  have hP := hW.P
  have hR := hW.R
  intro d
  induction d with
  | zero =>
    intro k hk N τ ht
    have e : k = 8 * s.P := by omega
    subst e
    rw [nk_z]
    refine ⟨τ, ?_, hM.ev ht, ht.frM, ht.2⟩
    show (if (8 : Int32) * τ 76 25 ≤ nI (8 * s.P) then _ else _) = _
    rw [(hM.ev ht).m2.1, show (8 : Int32) = nI 8 from rfl, pk_mul, if_pos (nI_le (Nat.le_refl _) (by omega))]
    exact m_220 hW (hM.ev ht) hr
  | succ d ih =>
    intro k hk N τ ht
    have M1 := hM.ev ht
    have h59 : τ 59 r = -1 := by rw [(M1.m4.2.1 r hr).2.2.2.1, h0]; rfl
    obtain ⟨a, hae⟩ : ∃ a, a = if k < 4 * s.P then k else k - 4 * s.P := ⟨_, rfl⟩
    obtain ⟨v, hve⟩ : ∃ v, v = if k < 4 * s.P then 1 else 0 := ⟨_, rfl⟩
    have ha : a < 4 * s.P := by rw [hae]; split <;> omega
    have hv : v ≤ 1 := by rw [hve]; split <;> omega
    have hmod : k - k / (4 * s.P) * (4 * s.P) = a := by
      rw [hae]
      by_cases c : k < 4 * s.P
      · rw [if_pos c, Nat.div_eq_of_lt c, Nat.zero_mul, Nat.sub_zero]
      · have e1 : k / (4 * s.P) = 1 := Nat.div_eq_of_lt_le (by omega) (by omega)
        rw [if_neg c, e1, Nat.one_mul]
    have hle : k / (4 * s.P) * (4 * s.P) ≤ k := Nat.div_mul_le_self k _
    have hug := hW.urg (a / 4) (by omega)
    have ns := nk_s (s := s) (r := r) (k := k) (by omega)
    rw [← hae, ← hve] at ns
    have body : f_X10_next_126 (N + (d + 1) + 1) (nI r) (nI k) τ = f_X10_next_181 (f_X10_next_126 (N + d + 1)) (nI r) (nI k) (nI a) (nI v) (nI (s.urg (a / 4))) τ := by
      show (if (8 : Int32) * τ 76 25 ≤ nI k then _ else _) = _
      rw [M1.m2.1, show (8 : Int32) = nI 8 from rfl, show (4 : Int32) = nI 4 from rfl, pk_mul, pk_mul, if_neg (nle (by omega) (by omega) (by omega)), gd_r (show r < 6 by omega) (by decide), na_nI (show r < 2 ^ 31 by omega), h59, if_pos rfl, decide_eq_false (show ¬ nI (4 * s.P) = (0 : Int32) from nne (b := 0) (by omega) (by decide) (by omega)), show (!false) = true from rfl, gd_t]
      simp only [nv]
      rw [pk_div (show k < 2 ^ 31 by omega) (show 0 < 4 * s.P by omega) (by omega), pk_mul, pk_sub hle, hmod, show nI a / nI 4 = nI (a / 4) from dv4 a (by omega), gd_r (show a / 4 < 16 by omega) (by decide), na_nI (by omega), (M1.m2.2.1 _ (show a / 4 < s.P by omega)).2.2]
      by_cases c : k < 4 * s.P
      · rw [if_neg (nle (by omega) (by omega) c), hve, if_pos c]
        all_goals rfl
      · rw [if_pos (nI_le (by omega) (by omega)), hve, if_neg c]
        all_goals rfl
    rw [body]
    have nx214 : ∀ τ', f_X10_next_214 (f_X10_next_126 (N + d + 1)) (nI r) (nI k) τ' = f_X10_next_126 (N + d + 1) (nI r) (nI (k + 1)) τ' := by
      intro τ'
      unfold f_X10_next_214
      rw [nI_1]
    unfold f_X10_next_181
    have gfe : s.gf r v a = (decide (s.urg (a / 4) = v) && s.cg r a) := rfl
    by_cases c : s.urg (a / 4) = v
    · rw [if_pos (show nI (s.urg (a / 4)) = nI v by rw [c])]
      rw [decide_eq_true c, Bool.true_and] at gfe
      rw [gfe] at ns
      obtain ⟨u1, d1, d2⟩ := m_can3 hW M1 hr ha
      have M2 := M1.ev d2
      rw [d1, bd_some]
      by_cases g : s.cg r a = true
      · rw [if_pos g] at ns
        rw [ns, if_pos g, if_neg i10, gd_r (show r < 6 by omega) (by decide), na_nI (show r < 2 ^ 31 by omega)]
        simp only [nw]
        have ha64 : a < 64 := by omega
        have k3 : ∀ i, i ≠ 14 → keep i u1 (wr u1 59 r (nI a)) := fun i hi => keep.w (show (14 : Nat) ≠ i by omega) keep.rf
        obtain ⟨u2, e1, e2⟩ := m_wa hW (M2.m3.k (k3 _ (by decide))) (fun j hj => by rw [wr_at, if_neg (fun h => absurd h.1 (by decide))]; exact M2.m4.sn j hj) (M2.m5.k (k3 _ (by decide))) (M2.m6.k (k3 _ (by decide))) ha64
        rw [e1, bd_some, gd_r (show r < 6 by omega) (by decide), nar_if, nx214]
        have hM' : RelM (wr u2 60 r (if s.wf a = 0 then 1 else 0)) (s.ha r a) := by
          refine m_han M2 hr ha64 ?_ ?_ ?_
          · rw [wr_at, if_neg (fun h => absurd h.1 (by decide)), e2.at rfl, wr_at, if_pos ⟨rfl, rfl⟩]
          · rw [wr_at, if_pos ⟨rfl, rfl⟩]
          · intro q j h1 h2 h3
            rw [wr_at, if_neg (fun h => h2 (by rw [h.1, h.2])), e2.at (scr_grp h3), wr_at, if_neg (fun h => h1 (by rw [h.1, h.2]))]
        have hWh := WF_ha hW hr ha g hs
        have hR' : r < (s.ha r a).R := hr
        refine ⟨wr u2 60 r (if s.wf a = 0 then 1 else 0), ?_, hM', fun i h1 h2 => (((ht.keep (by omega)).tr (d2.keep (by omega))).tr (k3 i (by omega))).tr ((e2.keep (by omega)).tr (keep.w (show (14 : Nat) ≠ i by omega) keep.rf)), ?_⟩
        · show (if (8 : Int32) * (wr u2 60 r (if s.wf a = 0 then 1 else 0)) 76 25 ≤ nI (k + 1) then _ else _) = _
          have h220 := m_220 hWh hM' hR'
          have hn1 : ¬ (wr u2 60 r (if s.wf a = 0 then 1 else 0)) 59 r = -1 := by
            rw [(hM'.m4.2.1 r hR').2.2.2.1, show (s.ha r a).hc r = a + 1 from if_pos rfl, nI_pred]
            exact nm1 (by omega)
          rw [gd_r (show r < 6 by omega) (by decide), na_nI (show r < 2 ^ 31 by omega), if_neg hn1, ite_self]
          exact h220
        · rw [wr_at, if_neg (fun h => absurd h.1 (by decide)), e2.2, wr_at, if_neg (fun h => absurd h.1 (by decide)), d2.2, ht.2]
      · rw [if_neg g] at ns
        rw [ns, if_neg g, if_pos rfl, nx214]
        exact ih (k + 1) (by omega) N u1 (ht.trans d2)
    · rw [if_neg (show ¬ nI (s.urg (a / 4)) = nI v from nne (by omega) (by omega) c)]
      rw [decide_eq_false c, Bool.false_and] at gfe
      rw [gfe, if_neg (show ¬ false = true by decide)] at ns
      rw [ns, nx214]
      exact ih (k + 1) (by omega) N τ ht
