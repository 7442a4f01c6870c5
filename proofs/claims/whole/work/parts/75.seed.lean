/-! PURE: seed, reader. By hand; long conjunctions by wfmk.py. -/
theorem ab1 {y z : Int32} {σ : Mem} : f_X10_asked__ 0 y z σ = some (0, ask 1 σ) := by
  simp [f_X10_asked__, f_X10_asked___26, f_X10_asked___41, nw, wr_at, gd, isZ, ask]; rfl
theorem ab2 {z : Int32} {σ : Mem} : f_X10_asked__ 1 0 z σ = some (0, ask 2 σ) := by
  simp [f_X10_asked__, f_X10_asked___26, f_X10_asked___41, nw, wr_at, gd, isZ, ask]; rfl
theorem ab3 {σ : Mem} : f_X10_asked__ 1 1 0 σ = some (0, ask 3 σ) := by
  simp [f_X10_asked__, f_X10_asked___26, f_X10_asked___41, nw, wr_at, gd, isZ, ask]; rfl
theorem ab0 {σ : Mem} : f_X10_asked__ 1 1 1 σ = some (1, ask 0 σ) := by
  simp [f_X10_asked__, f_X10_asked___26, f_X10_asked___41, nw, wr_at, gd, isZ, ask]; rfl
theorem holds_n {q v : Nat} {σ : Mem} (hq : q < 4) (hv : v < 2 ^ 31) (h : σ 31 q = nI v) : f_X6_holdsFor (nI q) σ = some (if 0 < v then 1 else 0, σ) := by
  unfold f_X6_holdsFor f_X6_holdsFor_16
  rw [rget_n (show q < 4 from hq) (by decide), h]
  by_cases z : 0 < v
  · rw [if_pos z, if_neg (show ¬ nI v ≤ (0 : Int32) from nle (b := 0) hv (by decide) z), gdz1]
  · rw [if_neg z, if_pos (show nI v ≤ (0 : Int32) from (nI_leI (b := 0) hv (by decide)).mpr (by omega)), gdz0]
/-- seed -/
theorem step_seed (x y : Int32) {σ : Mem} (hI : Inv9 σ) : StpG Inv9 (f_X9_seed x y) (f_X10_seed x y) [3, 1, 2] σ := by
  obtain ⟨s, hW, hC, hM⟩ := hI
  have hS := hW.S
  rcases idx x 4 with ⟨q, hq, rfl⟩ | hx
  · have hV := hW.V q hq
    rcases idx y 256 with ⟨p, hp, rfl⟩ | hy
    · by_cases hf : s.S < 8 ∧ 0 < s.V q
      · have e3 : ∀ k, k ≠ s.S → (((s.u1 25 s.S q).u1 26 s.S p).u1 24 0 (s.S + 1)).sq k = s.sq k := fun k h => if_neg h
        have e4 : ∀ k, k ≠ s.S → (((s.u1 25 s.S q).u1 26 s.S p).u1 24 0 (s.S + 1)).sp k = s.sp k := fun k h => if_neg h
        have e5 : (((s.u1 25 s.S q).u1 26 s.S p).u1 24 0 (s.S + 1)).sq s.S = q := if_pos rfl
        have e6 : (((s.u1 25 s.S q).u1 26 s.S p).u1 24 0 (s.S + 1)).sp s.S = p := if_pos rfl
        have wq : ∀ k, k < s.S + 1 → (((s.u1 25 s.S q).u1 26 s.S p).u1 24 0 (s.S + 1)).sq k ≤ 3 ∧ (((s.u1 25 s.S q).u1 26 s.S p).u1 24 0 (s.S + 1)).sp k ≤ 255 ∧ 0 < s.V ((((s.u1 25 s.S q).u1 26 s.S p).u1 24 0 (s.S + 1)).sq k) := by
          intro k hk
          by_cases e : k = s.S
          · subst e; rw [e5, e6]; exact ⟨by omega, by omega, hf.2⟩
          · rw [e3 k e, e4 k e]; exact hW.sq k (by omega)
        have wh : ∀ r, r < s.R → s.hc r = 0 ∨ (s.hc r ≤ 4 * s.P ∧ 0 < s.V ((s.hc r - 1) % 4)) ∨ (101 ≤ s.hc r ∧ s.hc r < 101 + (s.S + 1)) := by
          intro r hr
          rcases hW.hc r hr with h | h | h
          · exact Or.inl h
          · exact Or.inr (Or.inl h)
          · exact Or.inr (Or.inr ⟨h.1, by omega⟩)
        have hP := hW.P
        have hh : ∀ r, r < s.R → (((s.u1 25 s.S q).u1 26 s.S p).u1 24 0 (s.S + 1)).hand r = s.hand r := by
          intro r hr
          show (if s.hc r = 0 then (-1 : Int32) else if s.hc r ≤ 100 then nI (10 * ((s.hc r - 1) / 4) + (s.hc r - 1) % 4) else nI (1000 + (((s.u1 25 s.S q).u1 26 s.S p).u1 24 0 (s.S + 1)).sq (s.hc r - 101))) = _
          unfold A.hand
          rcases hW.hc r hr with h | h | h
          · rw [if_pos h, if_pos h]
          · by_cases z : s.hc r = 0
            · rw [if_pos z, if_pos z]
            · rw [if_neg z, if_neg z, if_pos (show s.hc r ≤ 100 by omega), if_pos (show s.hc r ≤ 100 by omega)]
          · rw [e3 _ (by omega)]
        refine stepG (s' := ((s.u1 25 s.S q).u1 26 s.S p).u1 24 0 (s.S + 1)) (oc := (0, nI s.S)) (r := nI s.S) (s := s) ⟨hW.m, hW.P, hW.lack, hW.urg, hW.gift, hW.app, hW.fresh, hW.V, hW.T, hW.R, hW.rq, hW.sen, hW.stp, hW.hap, hW.given, hW.since, hW.good, hW.freshR, wh, hW.stop, hf.1, wq, hW.tw, hW.tol, hW.isr, hW.b0, hW.b1, hW.b2, hW.n, hW.ans, hW.rby, hW.pts, hW.voi, hW.freshL, hW.apr, hW.clean, hW.al, hW.ah, hW.ar⟩ hM ?_ ?_ (Or.inl rfl) (fun _ => rfl)
        · have kk : ∀ i, i ≠ 5 → keep i σ (wr (wr (wr σ 39 s.S (nI q)) 40 s.S (nI p)) 76 9 (nI (s.S + 1))) := fun i hi => keep.w (show (5 : Nat) ≠ i by omega) (keep.w (show (5 : Nat) ≠ i by omega) (keep.w (show (5 : Nat) ≠ i by omega) keep.rf))
          refine ⟨wr (wr (wr σ 39 s.S (nI q)) 40 s.S (nI p)) 76 9 (nI (s.S + 1)), ?_, ⟨hC.c1.k (kk _ (by decide)), hC.c2.k (kk _ (by decide)), hC.c3.k (kk _ (by decide)), ?_, ?_, hC.c6.k (kk _ (by decide)), hC.c7.k (kk _ (by decide))⟩, fun i hi => kk i (by omega)⟩
          · unfold f_X9_seed
            rw [cQ_y hq, bd_some, if_neg (by decide), cB_y hp, bd_some, if_neg (by decide), hC.c5.1, if_neg (show ¬ (8 : Int32) ≤ nI s.S from nle (a := 8) (by decide) (by omega) hf.1), holds_n hq (by omega) (hC.c3.1 q hq), bd_some, if_pos hf.2, if_neg (by decide)]
            unfold f_X7_enter
            simp only [nv]
            rw [hC.c5.1, rset_n (show s.S < 8 from hf.1) (by decide)]
            simp only [nw]
            rw [rset_n (show s.S < 8 from hf.1) (by decide), show (wr (wr σ 39 s.S (nI q)) 40 s.S (nI p)) 76 9 = nI s.S by simp [wr_at]; exact hC.c5.1, nI_1, bd_some]
          · have h4 := hC.c4.k (kk 4 (by decide))
            refine ⟨h4.1, fun r hr => ?_, h4.2.2⟩
            rw [hh r hr]
            exact h4.2.1 r hr
          · obtain ⟨a1, a2, a3, a4, a5, a6, a7, a8⟩ := hC.c5
            refine ⟨by simp [wr_at]; rfl, fun k hk => ?_, fun k hk => by simp [wr_at]; exact a3 k hk, by simp [wr_at]; exact a4, by simp [wr_at]; exact a5, by simp [wr_at]; exact a6, by simp [wr_at]; exact a7, by simp [wr_at]; exact a8⟩
            have hk' : k < s.S + 1 := hk
            by_cases e : k = s.S
            · subst e; rw [e5, e6]; simp [wr_at]
            · rw [e3 k e, e4 k e]; simp [wr_at, e]; exact a2 k (by omega)
        · intro u hu
          refine ⟨wr (wr (wr (ask 0 u) 64 s.S (nI q)) 65 s.S (nI p)) 76 28 (nI (s.S + 1)), ?_, by simp [wr_at]; exact ask_22, ⟨hu.m1.k (keep.w (show (15 : Nat) ≠ _ by decide) (keep.w (show (15 : Nat) ≠ _ by decide) (keep.w (show (15 : Nat) ≠ _ by decide) (ck core_ask (by decide))))), hu.m2.k (keep.w (show (15 : Nat) ≠ _ by decide) (keep.w (show (15 : Nat) ≠ _ by decide) (keep.w (show (15 : Nat) ≠ _ by decide) (ck core_ask (by decide))))), hu.m3.k (keep.w (show (15 : Nat) ≠ _ by decide) (keep.w (show (15 : Nat) ≠ _ by decide) (keep.w (show (15 : Nat) ≠ _ by decide) (ck core_ask (by decide))))), hu.m4.k (keep.w (show (15 : Nat) ≠ _ by decide) (keep.w (show (15 : Nat) ≠ _ by decide) (keep.w (show (15 : Nat) ≠ _ by decide) (ck core_ask (by decide))))), ?_, hu.m6.k (keep.w (show (15 : Nat) ≠ _ by decide) (keep.w (show (15 : Nat) ≠ _ by decide) (keep.w (show (15 : Nat) ≠ _ by decide) (ck core_ask (by decide)))))⟩, fun i h1 h2 => keep.w (show (15 : Nat) ≠ i by omega) (keep.w (show (15 : Nat) ≠ i by omega) (keep.w (show (15 : Nat) ≠ i by omega) (keepA core_ask h1)))⟩
          · unfold f_X10_seed
            rw [mQ_y hq, bd_some, mB_y hp, bd_some, if_neg (by decide), hu.m5.1, if_neg (show ¬ (8 : Int32) ≤ nI s.S from nle (a := 8) (by decide) (by omega) hf.1), gd_r (show q < 4 from hq) (by decide), na_nI (by omega), hu.m3.1 q hq, if_neg (show ¬ nI (s.V q) ≤ (0 : Int32) from nle (b := 0) (by omega) (by decide) hf.2)]
            unfold f_X10_seed_42
            rw [ab0, bd_some, if_neg (by decide), ask_at rfl, hu.m5.1, gd_r (show s.S < 8 from hf.1) (by decide), na_nI (by omega)]
            simp only [nw]
            rw [show (wr (ask 0 u) 64 s.S (nI q)) 76 28 = nI s.S by simp [wr_at]; rw [ask_at rfl]; exact hu.m5.1, gd_r (show s.S < 8 from hf.1) (by decide), na_nI (by omega), show (wr (wr (ask 0 u) 64 s.S (nI q)) 65 s.S (nI p)) 76 28 = nI s.S by simp [wr_at]; rw [ask_at rfl]; exact hu.m5.1, nI_1]
            simp [wr_at, nI_pred]
          · obtain ⟨a1, a2, a3, a4, a5, a6, a7, a8⟩ := hu.m5
            refine ⟨by simp [wr_at]; rfl, fun k hk => ?_, fun k hk => by simp [wr_at]; rw [ask_at rfl]; exact a3 k hk, by simp [wr_at]; rw [ask_at rfl]; exact a4, by simp [wr_at]; rw [ask_at rfl]; exact a5, by simp [wr_at]; rw [ask_at rfl]; exact a6, by simp [wr_at]; rw [ask_at rfl]; exact a7, by simp [wr_at]; rw [ask_at rfl]; exact a8⟩
            have hk' : k < s.S + 1 := hk
            by_cases e : k = s.S
            · subst e; rw [e5, e6]; simp [wr_at]
            · rw [e3 k e, e4 k e]; simp [wr_at, e]; rw [ask_at rfl, ask_at rfl]; exact a2 k (by omega)
      · have nv0 : s.S < 8 → s.V q ≤ 0 := fun z => Nat.le_of_not_lt (fun h => hf ⟨z, h⟩)
        refine stepS (oc := (2, 0)) hW hC hM ⟨σ, ?_, eqv.rfl⟩ (fun u hu => ⟨0, ask 3 u, ?_, ask_22, core_ask, fun h => absurd h (by decide)⟩) (Or.inr (by decide))
        · unfold f_X9_seed f_X9_seed_53
          rw [cQ_y hq, bd_some, if_neg (by decide), cB_y hp, bd_some, if_neg (by decide), hC.c5.1]
          by_cases z : s.S < 8
          · rw [if_neg (show ¬ (8 : Int32) ≤ nI s.S from nle (a := 8) (by decide) (by omega) z), holds_n hq (by omega) (hC.c3.1 q hq), bd_some, if_neg (fun h => hf ⟨z, h⟩), if_pos rfl]
          · rw [if_pos (show (8 : Int32) ≤ nI s.S from nI_le (a := 8) (by omega) (by omega))]
        · unfold f_X10_seed f_X10_seed_41 f_X10_seed_42
          rw [mQ_y hq, bd_some, mB_y hp, bd_some, if_neg (by decide), hu.m5.1, ab3, bd_some, if_pos rfl]
          by_cases z : s.S < 8
          · rw [if_neg (show ¬ (8 : Int32) ≤ nI s.S from nle (a := 8) (by decide) (by omega) z), gd_r (show q < 4 from hq) (by decide), na_nI (by omega), hu.m3.1 q hq, if_pos (show nI (s.V q) ≤ (0 : Int32) from (nI_leI (b := 0) (by omega) (by decide)).mpr (nv0 z))]
          · rw [if_pos (show (8 : Int32) ≤ nI s.S from nI_le (a := 8) (by omega) (by omega))]
    · refine stepS (oc := (1, 0)) hW hC hM ⟨σ, ?_, eqv.rfl⟩ (fun u hu => ⟨0, ask 2 u, ?_, ask_22, core_ask, fun h => absurd h (by decide)⟩) (Or.inr (by decide))
      · unfold f_X9_seed
        rw [cQ_y hq, bd_some, if_neg (by decide), cB_n hy, bd_some, if_pos rfl]
      · unfold f_X10_seed f_X10_seed_41 f_X10_seed_42
        rw [mQ_y hq, bd_some, mB_n hy, bd_some, if_neg (by decide), ab2, ab2, bd_some, if_pos rfl, gd_r (show q < 4 from hq) (by decide), ite_self, ite_self]
  · refine stepS (oc := (3, 0)) hW hC hM ⟨σ, ?_, eqv.rfl⟩ (fun u hu => ⟨0, ask 1 u, ?_, ask_22, core_ask, fun h => absurd h (by decide)⟩) (Or.inr (by decide))
    · unfold f_X9_seed
      rw [cQ_n hx, bd_some, if_pos rfl]
    · unfold f_X10_seed f_X10_seed_41 f_X10_seed_42
      rw [mQ_n hx, bd_some, m_in, bd_some, if_pos rfl, ab1, bd_some, if_pos rfl]
