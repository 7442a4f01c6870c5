/-! PURE: calls that ask little: type, twice, tolerance, gift. By hand; the long conjunctions printed by wip/whole/gen/wfmk.py. -/
theorem ck {σ u : Mem} (h : core u = core σ) {i : Nat} (hi : i ≠ 0) : keep i σ u := by
  intro r k hg
  have hs : scr r k = false := scr_grp (by rw [hg]; exact hi)
  rw [← core_at (σ := u) hs, h, core_at hs]
theorem ak1 {y : Int32} {σ : Mem} : f_X10_asked_ 0 y σ = some (0, ask 1 σ) := by
  simp [f_X10_asked_, f_X10_asked__18, f_X10_asked__33, nw, wr_at, gd, isZ, ask]; rfl
theorem ak2 {σ : Mem} : f_X10_asked_ 1 0 σ = some (0, ask 2 σ) := by
  simp [f_X10_asked_, f_X10_asked__18, f_X10_asked__33, nw, wr_at, gd, isZ, ask]; rfl
theorem ak0 {σ : Mem} : f_X10_asked_ 1 1 σ = some (1, ask 0 σ) := by
  simp [f_X10_asked_, f_X10_asked__18, f_X10_asked__33, nw, wr_at, gd, isZ, ask]; rfl
theorem aa1 {σ : Mem} : f_X10_asked 0 σ = some (0, ask 1 σ) := by
  simp [f_X10_asked, f_X10_asked_10, nw, gd, isZ, ask]; rfl
theorem aa0 {σ : Mem} : f_X10_asked 1 σ = some (1, ask 0 σ) := by
  simp [f_X10_asked, f_X10_asked_10, nw, gd, isZ, ask]; rfl
/-- nothing changes: a refusal or a question -/
theorem stepS {fA : Mem → Option ((Nat × Int32) × Mem)} {fM : Mem → Option (Int32 × Mem)} {cs : List Nat} {σ : Mem} {s : A} {oc : Nat × Int32} (hW : WF s) (hC : RelC σ s) (hM : RelM σ s) (hA : ∃ u, fA σ = some (oc, u) ∧ eqv σ u) (hB : ∀ u, RelM u s → ∃ r u2, fM u = some (r, u2) ∧ u2 76 22 = wcode cs oc.1 ∧ core u2 = core u ∧ (oc.1 = 0 → oc.2 = r)) (h1 : oc.1 = 0 ∨ oc.1 ∈ cs) : StpG Inv9 fA fM cs σ := by
  obtain ⟨u, a1, a2⟩ := hA
  obtain ⟨r, u2, b1, b2, b3, b4⟩ := hB u (hM.ev a2)
  have k : ∀ i, i ≠ 0 → keep i u u2 := fun i hi => ck b3 hi
  exact ⟨oc, u, r, u2, a1, h1, b1, b2, b4, s, hW, (hC.ev a2).fr (fun i h1 h2 => k i (by omega)), (hM.ev a2).fr (fun i h1 => k i (by omega))⟩
theorem in01 (lo hi v : Int32) : (lo ≤ v ∧ v ≤ hi) ∨ ¬ (lo ≤ v ∧ v ≤ hi) := Classical.em _
theorem keepA {σ u : Mem} (h : core u = core σ) {i : Nat} (hi : 1 ≤ i) : keep i σ u := ck h (by omega)
/-- type -/
theorem step_type (x : Int32) {σ : Mem} (hI : Inv9 σ) : StpG Inv9 (f_X9_type x) (f_X10_type x) [1, 2] σ := by
  obtain ⟨s, hW, hC, hM⟩ := hI
  have hm := hW.m
  by_cases hx : 32 ≤ x ∧ x ≤ 126
  · have n1 : ¬ x < 32 := fun h => by rw [lt_int] at h; have := hx.1; rw [le_int] at this; omega
    obtain ⟨a, ha1, ha2, ea⟩ := rng (lo := 32) (hi := 126) (by decide) (by decide) hx
    by_cases hf : s.m < 40
    · have l1 : nI s.m < (40 : Int32) := (nI_ltI (b := 40) (by omega) (by decide)).mpr hf
      refine stepG (s' := (s.u1 1 s.m a).u1 0 0 (s.m + 1)) (oc := (0, nI (s.m + 1))) (r := nI (s.m + 1)) (s := s) ⟨hf, hW.P, hW.lack, hW.urg, hW.gift, hW.app, hW.fresh, hW.V, hW.T, hW.R, hW.rq, hW.sen, hW.stp, hW.hap, hW.given, hW.since, hW.good, hW.freshR, hW.hc, hW.stop, hW.S, hW.sq, hW.tw, hW.tol, hW.isr, hW.b0, hW.b1, hW.b2, hW.n, hW.ans, hW.rby, hW.pts, hW.voi, hW.freshL, hW.apr, hW.clean, hW.al, hW.ah, hW.ar⟩ hM ?_ ?_ (Or.inl rfl) (fun _ => rfl)
      · refine ⟨wr (wr σ 1 s.m x) 76 5 (nI (s.m + 1)), ?_, ⟨⟨by simp [wr_at]; rfl, ?_⟩, hC.c2.k (keep.w (by decide) (keep.w (show (1 : Nat) ≠ _ by decide) keep.rf)), hC.c3.k (keep.w (by decide) (keep.w (show (1 : Nat) ≠ _ by decide) keep.rf)), hC.c4.k (keep.w (by decide) (keep.w (show (1 : Nat) ≠ _ by decide) keep.rf)), hC.c5.k (keep.w (by decide) (keep.w (show (1 : Nat) ≠ _ by decide) keep.rf)), hC.c6.k (keep.w (by decide) (keep.w (show (1 : Nat) ≠ _ by decide) keep.rf)), hC.c7.k (keep.w (by decide) (keep.w (show (1 : Nat) ≠ _ by decide) keep.rf))⟩, fun i hi => keep.w (show (1 : Nat) ≠ i by omega) (keep.w (show (1 : Nat) ≠ i by omega) keep.rf)⟩
        · unfold f_X9_type
          rw [if_neg n1, if_pos hx.2, hC.c1.1, if_pos l1]
          unfold f_X1_append
          rw [hC.c1.1, if_pos l1, rset_n (show s.m < 40 by omega) (by decide)]
          simp only [nw]
          rw [show wr σ 1 s.m x 76 5 = nI s.m by simp [wr_at]; exact hC.c1.1, nI_1, bd_some]
          simp [wr_at]
        · intro j hj
          show _ = nI (p1 (s 1) s.m a j)
          have hj' : j < s.m + 1 := hj
          unfold p1
          by_cases e : j = s.m
          · rw [if_pos e]; simp [wr_at, e]; exact ea
          · rw [if_neg e]; simp [wr_at, e]; exact hC.c1.2 j (by omega)
      · intro u hu
        refine ⟨wr (wr (ask 0 u) 43 s.m x) 76 23 (nI (s.m + 1)), ?_, ?_, ⟨⟨by simp [wr_at]; rfl, ?_⟩, hu.m2.k (keep.w (by decide) (keep.w (show (11 : Nat) ≠ _ by decide) (ck core_ask (by decide)))), hu.m3.k (keep.w (by decide) (keep.w (show (11 : Nat) ≠ _ by decide) (ck core_ask (by decide)))), hu.m4.k (keep.w (by decide) (keep.w (show (11 : Nat) ≠ _ by decide) (ck core_ask (by decide)))), hu.m5.k (keep.w (by decide) (keep.w (show (11 : Nat) ≠ _ by decide) (ck core_ask (by decide)))), hu.m6.k (keep.w (by decide) (keep.w (show (11 : Nat) ≠ _ by decide) (ck core_ask (by decide))))⟩, fun i h1 h2 => keep.w (show (11 : Nat) ≠ i by omega) (keep.w (show (11 : Nat) ≠ i by omega) (keepA core_ask h1))⟩
        · unfold f_X10_type
          rw [m_in, bd_some, if_pos hx, hu.m1.1, if_neg (show ¬ (40 : Int32) ≤ nI s.m from nle (a := 40) (by decide) (by omega) hf)]
          unfold f_X10_type_23
          rw [ak0, bd_some, if_neg (by decide), ask_at rfl, hu.m1.1, gd_r (show s.m < 40 from hf) (by decide), na_nI (by omega)]
          simp only [nw]
          rw [show wr (ask 0 u) 43 s.m x 76 23 = nI s.m by simp [wr_at]; rw [ask_at rfl]; exact hu.m1.1, nI_1]
          simp [wr_at]
        · simp [wr_at]; exact ask_22
        · intro j hj
          show _ = nI (p1 (s 1) s.m a j)
          have hj' : j < s.m + 1 := hj
          unfold p1
          by_cases e : j = s.m
          · rw [if_pos e]; simp [wr_at, e]; exact ea
          · rw [if_neg e]; simp [wr_at, e]; rw [ask_at rfl]; exact hu.m1.2 j (by omega)
    · refine stepS (oc := (2, 0)) hW hC hM ⟨σ, ?_, eqv.rfl⟩ (fun u hu => ⟨0, ask 2 u, ?_, ask_22, core_ask, fun h => absurd h (by decide)⟩) (Or.inr (by decide))
      · unfold f_X9_type
        rw [if_neg n1, if_pos hx.2, hC.c1.1, if_neg (show ¬ nI s.m < (40 : Int32) from nlt (b := 40) (by omega) (by decide) (by omega))]
      · unfold f_X10_type
        rw [m_in, bd_some, if_pos hx, hu.m1.1, if_pos (show (40 : Int32) ≤ nI s.m from nI_le (a := 40) (by omega) (by omega))]
        unfold f_X10_type_23
        rw [ak2, bd_some, if_pos rfl]
  · refine stepS (oc := (1, 0)) hW hC hM ⟨σ, ?_, eqv.rfl⟩ (fun u hu => ⟨0, ask 1 u, ?_, ask_22, core_ask, fun h => absurd h (by decide)⟩) (Or.inr (by decide))
    · unfold f_X9_type f_X9_type_12
      by_cases n1 : x < 32
      · rw [if_pos n1]
      · rw [if_neg n1, if_neg (fun h => hx ⟨by rw [lt_int] at n1; rw [le_int]; omega, h⟩)]
    · unfold f_X10_type
      rw [m_in, bd_some, if_neg hx]
      have : ∀ y, f_X10_type_23 x y 0 u = some (0, ask 1 u) := by
        intro y
        unfold f_X10_type_23
        rw [ak1, bd_some, if_pos rfl]
      rw [this, this, ite_self]
