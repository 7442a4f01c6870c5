/-! PURE: gift, pupil, reader, seed, versions. By hand; long conjunctions by wfmk.py. -/
theorem ov {x : Int32} {N : Nat} (hN : N + 1 < 2 ^ 31) (hx : ¬ ∃ k, k < N + 1 ∧ x = nI k) : x < 0 ∨ ¬ x ≤ nI N := by
  rcases idx_n hN hx with z | z
  · exact Or.inl z
  · right
    intro h
    rw [le_int, nI_toInt hN] at z
    rw [le_int, nI_toInt (by omega)] at h
    omega
/-- gift -/
theorem step_gift (x y : Int32) {σ : Mem} (hI : Inv9 σ) : StpG Inv9 (f_X9_gift x y) (f_X10_gift x y) [3, 1] σ := by
  obtain ⟨s, hW, hC, hM⟩ := hI
  have hP := hW.P
  rcases idx x s.P with ⟨p, hp, rfl⟩ | hx
  · rcases idx y 10 with ⟨g, hg, rfl⟩ | hy
    · have two : ∀ j, (s.u1 6 p g).gift j = if j = p then g else s.gift j := fun j => rfl
      have ng : ∀ k, s.P ≤ k → ¬ k = p := fun k h e => by omega
      refine stepG (s' := s.u1 6 p g) (oc := (0, nI (s.gift p))) (r := nI (s.gift p)) (s := s) ⟨hW.m, hW.P, hW.lack, hW.urg, (fun j hj => by rw [two]; split; omega; exact hW.gift j hj), hW.app, (fun k h1 h2 => ⟨by rw [two, if_neg (ng k h1)]; exact (hW.fresh k h1 h2).1, (hW.fresh k h1 h2).2⟩), hW.V, hW.T, hW.R, hW.rq, hW.sen, hW.stp, hW.hap, hW.given, hW.since, hW.good, hW.freshR, hW.hc, hW.stop, hW.S, hW.sq, hW.tw, hW.tol, hW.isr, hW.b0, hW.b1, hW.b2, hW.n, hW.ans, hW.rby, hW.pts, hW.voi, hW.freshL, hW.apr, hW.clean, hW.al, hW.ah, hW.ar⟩ hM ?_ ?_ (Or.inl rfl) (fun _ => rfl)
      · refine ⟨wr σ 15 p (nI g), ?_, ⟨hC.c1.k (keep.w (show (2 : Nat) ≠ _ by decide) keep.rf), ⟨by simp [wr_at]; exact hC.c2.1, fun k hk => by simp [wr_at]; exact hC.c2.2.1 k hk, fun k hk => ⟨?_, by simp [wr_at]; exact (hC.c2.2.2 k hk).2⟩⟩, hC.c3.k (keep.w (show (2 : Nat) ≠ _ by decide) keep.rf), hC.c4.k (keep.w (show (2 : Nat) ≠ _ by decide) keep.rf), hC.c5.k (keep.w (show (2 : Nat) ≠ _ by decide) keep.rf), hC.c6.k (keep.w (show (2 : Nat) ≠ _ by decide) keep.rf), hC.c7.k (keep.w (show (2 : Nat) ≠ _ by decide) keep.rf)⟩, fun i hi => keep.w (show (2 : Nat) ≠ i by omega) keep.rf⟩
        · unfold f_X9_gift
          rw [cP_y hC.c2.1 hp (by omega), bd_some, if_neg (by decide), if_neg (nI_pos (by omega)), if_pos (show nI g ≤ (9 : Int32) from (nI_leI (b := 9) (by omega) (by decide)).mpr (by omega)), rget_n (show p < 16 by omega) (by decide), rset_n (show p < 16 by omega) (by decide)]
          simp only [nv, nw]
          rw [(hC.c2.2.2 p (by omega)).1]
        · rw [two, wr_at]
          by_cases e : k = p
          · rw [if_pos ⟨rfl, e⟩, if_pos e]
          · rw [if_neg (fun h => e h.2), if_neg e]; exact (hC.c2.2.2 k hk).1
      · intro u hu
        refine ⟨wr (ask 0 u) 47 p (nI g), ?_, by simp [wr_at]; exact ask_22, ⟨hu.m1.k (keep.w (show (12 : Nat) ≠ _ by decide) (ck core_ask (by decide))), ⟨by simp [wr_at]; rw [ask_at rfl]; exact hu.m2.1, fun k hk => by simp [wr_at]; rw [ask_at rfl, ask_at rfl, ask_at rfl]; exact hu.m2.2.1 k hk, fun k hk => ⟨?_, by simp [wr_at]; rw [ask_at rfl]; exact (hu.m2.2.2 k hk).2.1, fun q hq => by simp [wr_at]; rw [ask_at rfl]; exact (hu.m2.2.2 k hk).2.2 q hq⟩⟩, hu.m3.k (keep.w (show (12 : Nat) ≠ _ by decide) (ck core_ask (by decide))), hu.m4.k (keep.w (show (12 : Nat) ≠ _ by decide) (ck core_ask (by decide))), hu.m5.k (keep.w (show (12 : Nat) ≠ _ by decide) (ck core_ask (by decide))), hu.m6.k (keep.w (show (12 : Nat) ≠ _ by decide) (ck core_ask (by decide)))⟩, fun i h1 h2 => keep.w (show (12 : Nat) ≠ i by omega) (keepA core_ask h1)⟩
        · unfold f_X10_gift
          rw [mP_y hu.m2.1 hp (by omega), bd_some, show (9 : Int32) = nI 10 - 1 from rfl, in_y hg (by decide), bd_some, ak0, bd_some, if_neg (by decide), gd_r (show p < 16 by omega) (by decide), na_nI (by omega)]
          simp only [nv, nw]
          rw [gd_r (show p < 16 by omega) (by decide), ask_at rfl, (hu.m2.2.2 p (by omega)).1]
        · rw [two, wr_at]
          by_cases e : k = p
          · rw [if_pos ⟨rfl, e⟩, if_pos e]
          · rw [if_neg (fun h => e h.2), if_neg e, ask_at rfl]; exact (hu.m2.2.2 k hk).1
    · refine stepS (oc := (1, 0)) hW hC hM ⟨σ, ?_, eqv.rfl⟩ (fun u hu => ⟨0, ask 2 u, ?_, ask_22, core_ask, fun h => absurd h (by decide)⟩) (Or.inr (by decide))
      · unfold f_X9_gift f_X9_gift_29
        rw [cP_y hC.c2.1 hp (by omega), bd_some, if_neg (by decide)]
        rcases ov (by decide) hy with z | z
        · rw [if_pos z]
        · rw [if_neg (show ¬ y ≤ 9 from z), ite_self]
      · unfold f_X10_gift
        rw [mP_y hu.m2.1 hp (by omega), bd_some, show (9 : Int32) = nI 10 - 1 from rfl, in_n (by decide) hy, bd_some, ak2, bd_some, if_pos rfl]
  · refine stepS (oc := (3, 0)) hW hC hM ⟨σ, ?_, eqv.rfl⟩ (fun u hu => ⟨0, ask 1 u, ?_, ask_22, core_ask, fun h => absurd h (by decide)⟩) (Or.inr (by decide))
    · unfold f_X9_gift
      rw [cP_n hC.c2.1 (by omega) hx, bd_some, if_pos rfl]
    · unfold f_X10_gift
      rw [mP_n hu.m2.1 (by omega) hx, bd_some, m_in, bd_some, ak1, bd_some, if_pos rfl]
/-- versions -/
theorem step_versions (x : Int32) {σ : Mem} (hI : Inv9 σ) : StpG Inv9 (f_X9_versions x) (f_X10_versions x) [3] σ := by
  obtain ⟨s, hW, hC, hM⟩ := hI
  rcases idx x 4 with ⟨q, hq, rfl⟩ | hx
  · refine stepS (oc := (0, nI (s.V q))) hW hC hM ⟨σ, ?_, eqv.rfl⟩ (fun u hu => ⟨nI (s.V q), ask 0 u, ?_, ask_22, core_ask, fun _ => rfl⟩) (Or.inl rfl)
    · unfold f_X9_versions
      rw [cQ_y hq, bd_some, if_neg (by decide), rget_n (show q < 4 from hq) (by decide), hC.c3.1 q hq]
    · unfold f_X10_versions f_X10_versions_21
      rw [mQ_y hq, bd_some, aa0, bd_some, if_neg (by decide), gd_r (show q < 4 from hq) (by decide), na_nI (by omega), ask_at rfl, hu.m3.1 q hq]
  · refine stepS (oc := (3, 0)) hW hC hM ⟨σ, ?_, eqv.rfl⟩ (fun u hu => ⟨0, ask 1 u, ?_, ask_22, core_ask, fun h => absurd h (by decide)⟩) (Or.inr (by decide))
    · unfold f_X9_versions
      rw [cQ_n hx, bd_some, if_pos rfl]
    · unfold f_X10_versions f_X10_versions_21
      rw [mQ_n hx, bd_some, aa1, bd_some, if_pos rfl]
/-- pupil -/
theorem step_pupil (x y z : Int32) {σ : Mem} (hI : Inv9 σ) : StpG Inv9 (f_X9_pupil x y (bz z)) (f_X10_pupil x y (bz z)) [1, 2] σ := by
  obtain ⟨s, hW, hC, hM⟩ := hI
  have hP := hW.P
  obtain ⟨c, hc, ec⟩ := bz_n z
  rw [ec]
  have bad : (¬ ∃ k, k < 5 ∧ x = nI k) ∨ (¬ ∃ k, k < 16 ∧ y = nI k) → StpG Inv9 (f_X9_pupil x y (nI c)) (f_X10_pupil x y (nI c)) [1, 2] σ := by
    intro hb
    refine stepS (oc := (1, 0)) hW hC hM ⟨σ, ?_, eqv.rfl⟩ (fun u hu => ⟨0, ask 1 u, ?_, ask_22, core_ask, fun h => absurd h (by decide)⟩) (Or.inr (by decide))
    · unfold f_X9_pupil f_X9_pupil_19
      by_cases x0 : x < 0
      · rw [if_pos x0]
      · rw [if_neg x0]
        by_cases x4 : (4 : Int32) < x
        · rw [if_pos x4]
        · rw [if_neg x4]
          rcases hb with h | h
          · exfalso
            rcases ov (by decide) h with h | h
            · exact x0 h
            · exact x4 (by rw [lt_int]; rw [le_int] at h; have : (nI 4).toInt = (4 : Int32).toInt := rfl; omega)
          · rcases ov (by decide) h with h | h
            · rw [if_pos h]
            · rw [if_neg (show ¬ y ≤ 15 from h), ite_self]
    · unfold f_X10_pupil f_X10_pupil_24
      have e25 : f_X10_pupil_25 x y (nI c) 0 u = some (0, ask 1 u) := by
        unfold f_X10_pupil_25 f_X10_pupil_39
        rw [ak1, ak1, bd_some, if_pos rfl, ite_self]
      rcases hb with h | h
      · rw [show (4 : Int32) = nI 5 - 1 from rfl, in_n (by decide) h, bd_some, if_pos rfl]
        exact e25
      · rw [m_in, bd_some]
        by_cases x0 : 0 ≤ x ∧ x ≤ 4
        · rw [if_pos x0, if_neg (by decide), show (15 : Int32) = nI 16 - 1 from rfl, in_n (by decide) h, bd_some, if_pos rfl]
          exact e25
        · rw [if_neg x0, if_pos rfl]
          exact e25
  rcases idx x 5 with ⟨a, ha, rfl⟩ | hx
  · rcases idx y 16 with ⟨b, hb, rfl⟩ | hy
    · by_cases hf : s.P < 16
      · have f1 := hW.fresh s.P (Nat.le_refl _) hf
        have lk : ∀ k, k < s.P + 1 → ((((s.u1 3 s.P a).u1 4 s.P b).u1 5 s.P c).u1 2 0 (s.P + 1)).lack k ≤ 15 := by
          intro k hk
          show p1 (s 4) s.P b k ≤ 15
          unfold p1
          split
          · omega
          · exact hW.lack k (by omega)
        have ug : ∀ k, k < s.P + 1 → ((((s.u1 3 s.P a).u1 4 s.P b).u1 5 s.P c).u1 2 0 (s.P + 1)).urg k ≤ 1 := by
          intro k hk
          show p1 (s 5) s.P c k ≤ 1
          unfold p1
          split
          · omega
          · exact hW.urg k (by omega)
        have hh : ∀ r, r < s.R → s.hc r = 0 ∨ (s.hc r ≤ 4 * (s.P + 1) ∧ 0 < s.V ((s.hc r - 1) % 4)) ∨ (101 ≤ s.hc r ∧ s.hc r < 101 + s.S) := by
          intro r hr
          rcases hW.hc r hr with h | h | h
          · exact Or.inl h
          · exact Or.inr (Or.inl ⟨by omega, h.2⟩)
          · exact Or.inr (Or.inr h)
        have ll : ∀ e, e < 4 * (s.P + 1) → s.app (e / 4) / 2 ^ (e % 4) % 2 = 1 → p1 (s 4) s.P b (e / 4) / 2 ^ (e % 4) % 2 = 0 := by
          intro e he h1
          by_cases z : e / 4 = s.P
          · rw [z, f1.2.1, Nat.zero_div] at h1
            exact absurd h1 (by decide)
          · unfold p1
            rw [if_neg z]
            exact hW.al e (by omega) h1
        have aa : ∀ k, k < s.n → s.ans k < 4 * (s.P + 1) ∧ 0 < s.V (s.ans k % 4) := fun k hk => ⟨by have := (hW.ans k hk).1; omega, (hW.ans k hk).2⟩
        refine stepG (s' := (((s.u1 3 s.P a).u1 4 s.P b).u1 5 s.P c).u1 2 0 (s.P + 1)) (oc := (0, nI s.P)) (r := nI s.P) (s := s) ⟨hW.m, hf, lk, ug, hW.gift, hW.app, (fun k h1 h2 => hW.fresh k (Nat.le_of_succ_le h1) h2), hW.V, hW.T, hW.R, hW.rq, hW.sen, hW.stp, hW.hap, hW.given, hW.since, hW.good, hW.freshR, hh, hW.stop, hW.S, hW.sq, hW.tw, hW.tol, hW.isr, hW.b0, hW.b1, hW.b2, hW.n, aa, hW.rby, hW.pts, hW.voi, hW.freshL, hW.apr, hW.clean, ll, hW.ah, hW.ar⟩ hM ?_ ?_ (Or.inl rfl) (fun _ => rfl)
        · refine ⟨wr (wr (wr (wr (wr σ 13 s.P (nI a)) 17 s.P (nI b)) 14 s.P (nI c)) 16 s.P (-1)) 76 7 (nI (s.P + 1)), ?_, ⟨hC.c1.k (keep.w (show (2 : Nat) ≠ _ by decide) (keep.w (show (2 : Nat) ≠ _ by decide) (keep.w (show (2 : Nat) ≠ _ by decide) (keep.w (show (2 : Nat) ≠ _ by decide) (keep.w (show (2 : Nat) ≠ _ by decide) keep.rf))))), ⟨by simp [wr_at]; rfl, fun k hk => ?_, fun k hk => by simp [wr_at]; exact hC.c2.2.2 k hk⟩, hC.c3.k (keep.w (show (2 : Nat) ≠ _ by decide) (keep.w (show (2 : Nat) ≠ _ by decide) (keep.w (show (2 : Nat) ≠ _ by decide) (keep.w (show (2 : Nat) ≠ _ by decide) (keep.w (show (2 : Nat) ≠ _ by decide) keep.rf))))), hC.c4.k (keep.w (show (2 : Nat) ≠ _ by decide) (keep.w (show (2 : Nat) ≠ _ by decide) (keep.w (show (2 : Nat) ≠ _ by decide) (keep.w (show (2 : Nat) ≠ _ by decide) (keep.w (show (2 : Nat) ≠ _ by decide) keep.rf))))), hC.c5.k (keep.w (show (2 : Nat) ≠ _ by decide) (keep.w (show (2 : Nat) ≠ _ by decide) (keep.w (show (2 : Nat) ≠ _ by decide) (keep.w (show (2 : Nat) ≠ _ by decide) (keep.w (show (2 : Nat) ≠ _ by decide) keep.rf))))), hC.c6.k (keep.w (show (2 : Nat) ≠ _ by decide) (keep.w (show (2 : Nat) ≠ _ by decide) (keep.w (show (2 : Nat) ≠ _ by decide) (keep.w (show (2 : Nat) ≠ _ by decide) (keep.w (show (2 : Nat) ≠ _ by decide) keep.rf))))), hC.c7.k (keep.w (show (2 : Nat) ≠ _ by decide) (keep.w (show (2 : Nat) ≠ _ by decide) (keep.w (show (2 : Nat) ≠ _ by decide) (keep.w (show (2 : Nat) ≠ _ by decide) (keep.w (show (2 : Nat) ≠ _ by decide) keep.rf)))))⟩, fun i hi => keep.w (show (2 : Nat) ≠ i by omega) (keep.w (show (2 : Nat) ≠ i by omega) (keep.w (show (2 : Nat) ≠ i by omega) (keep.w (show (2 : Nat) ≠ i by omega) (keep.w (show (2 : Nat) ≠ i by omega) keep.rf))))⟩
          · unfold f_X9_pupil
            rw [if_neg (nI_pos (by omega)), if_neg (show ¬ (4 : Int32) < nI a from nlt (a := 4) (by decide) (by omega) (by omega)), if_neg (nI_pos (by omega)), if_pos (show nI b ≤ (15 : Int32) from (nI_leI (b := 15) (by omega) (by decide)).mpr (by omega)), hC.c2.1, if_pos (show nI s.P < (16 : Int32) from (nI_ltI (b := 16) (by omega) (by decide)).mpr hf)]
            unfold f_X3_enter
            simp only [nv]
            rw [hC.c2.1, rset_n (show s.P < 16 from hf) (by decide)]
            simp only [nw]
            rw [rset_n (show s.P < 16 from hf) (by decide), rput_n (show s.P < 16 from hf) (by decide), rset_n (show s.P < 16 from hf) (by decide), put_n hc, show (wr (wr (wr (wr σ 13 s.P (nI a)) 17 s.P (nI b)) 14 s.P (nI c)) 16 s.P (-1)) 76 7 = nI s.P by simp [wr_at]; exact hC.c2.1, nI_1, bd_some]
          · have hk' : k < s.P + 1 := hk
            show _ = nI (p1 (s 3) s.P a k) ∧ _ = nI (p1 (s 4) s.P b k) ∧ _ = nI (p1 (s 5) s.P c k) ∧ _ = s.rel k
            unfold p1
            by_cases e : k = s.P
            · subst e; simp [wr_at]; exact f1.2.2.symm
            · simp [wr_at, e]; exact hC.c2.2.1 k (by omega)
        · intro u hu
          refine ⟨wr (wr (wr (wr (ask 0 u) 44 s.P (nI a)) 45 s.P (nI b)) 46 s.P (nI c)) 76 25 (nI (s.P + 1)), ?_, by simp [wr_at]; exact ask_22, ⟨hu.m1.k (keep.w (show (12 : Nat) ≠ _ by decide) (keep.w (show (12 : Nat) ≠ _ by decide) (keep.w (show (12 : Nat) ≠ _ by decide) (keep.w (show (12 : Nat) ≠ _ by decide) (ck core_ask (by decide)))))), ⟨by simp [wr_at]; rfl, fun k hk => ?_, fun k hk => ⟨by simp [wr_at]; rw [ask_at rfl]; exact (hu.m2.2.2 k hk).1, by simp [wr_at]; rw [ask_at rfl]; exact (hu.m2.2.2 k hk).2.1, fun q hq => by simp [wr_at]; rw [ask_at rfl]; exact (hu.m2.2.2 k hk).2.2 q hq⟩⟩, hu.m3.k (keep.w (show (12 : Nat) ≠ _ by decide) (keep.w (show (12 : Nat) ≠ _ by decide) (keep.w (show (12 : Nat) ≠ _ by decide) (keep.w (show (12 : Nat) ≠ _ by decide) (ck core_ask (by decide)))))), hu.m4.k (keep.w (show (12 : Nat) ≠ _ by decide) (keep.w (show (12 : Nat) ≠ _ by decide) (keep.w (show (12 : Nat) ≠ _ by decide) (keep.w (show (12 : Nat) ≠ _ by decide) (ck core_ask (by decide)))))), hu.m5.k (keep.w (show (12 : Nat) ≠ _ by decide) (keep.w (show (12 : Nat) ≠ _ by decide) (keep.w (show (12 : Nat) ≠ _ by decide) (keep.w (show (12 : Nat) ≠ _ by decide) (ck core_ask (by decide)))))), hu.m6.k (keep.w (show (12 : Nat) ≠ _ by decide) (keep.w (show (12 : Nat) ≠ _ by decide) (keep.w (show (12 : Nat) ≠ _ by decide) (keep.w (show (12 : Nat) ≠ _ by decide) (ck core_ask (by decide))))))⟩, fun i h1 h2 => keep.w (show (12 : Nat) ≠ i by omega) (keep.w (show (12 : Nat) ≠ i by omega) (keep.w (show (12 : Nat) ≠ i by omega) (keep.w (show (12 : Nat) ≠ i by omega) (keepA core_ask h1))))⟩
          · unfold f_X10_pupil
            rw [show (4 : Int32) = nI 5 - 1 from rfl, in_y ha (by decide), bd_some, if_neg (by decide), show (15 : Int32) = nI 16 - 1 from rfl, in_y hb (by decide), bd_some, if_neg (by decide)]
            unfold f_X10_pupil_25
            rw [hu.m2.1, if_neg (show ¬ (16 : Int32) ≤ nI s.P from nle (a := 16) (by decide) (by omega) hf)]
            unfold f_X10_pupil_39
            rw [ak0, bd_some, if_neg (by decide), ask_at rfl, hu.m2.1, gd_r (show s.P < 16 from hf) (by decide), na_nI (by omega)]
            simp only [nw]
            rw [show (wr (ask 0 u) 44 s.P (nI a)) 76 25 = nI s.P by simp [wr_at]; rw [ask_at rfl]; exact hu.m2.1, gd_r (show s.P < 16 from hf) (by decide), na_nI (by omega), show (wr (wr (ask 0 u) 44 s.P (nI a)) 45 s.P (nI b)) 76 25 = nI s.P by simp [wr_at]; rw [ask_at rfl]; exact hu.m2.1, gd_r (show s.P < 16 from hf) (by decide), na_nI (by omega), nar_n hc, show (wr (wr (wr (ask 0 u) 44 s.P (nI a)) 45 s.P (nI b)) 46 s.P (nI c)) 76 25 = nI s.P by simp [wr_at]; rw [ask_at rfl]; exact hu.m2.1, nI_1]
            simp [wr_at, nI_pred]
          · have hk' : k < s.P + 1 := hk
            show _ = nI (p1 (s 3) s.P a k) ∧ _ = nI (p1 (s 4) s.P b k) ∧ _ = nI (p1 (s 5) s.P c k)
            unfold p1
            by_cases e : k = s.P
            · subst e; simp [wr_at]
            · simp [wr_at, e]; rw [ask_at rfl, ask_at rfl, ask_at rfl]; exact hu.m2.2.1 k (by omega)
      · refine stepS (oc := (2, 0)) hW hC hM ⟨σ, ?_, eqv.rfl⟩ (fun u hu => ⟨0, ask 2 u, ?_, ask_22, core_ask, fun h => absurd h (by decide)⟩) (Or.inr (by decide))
        · unfold f_X9_pupil
          rw [if_neg (nI_pos (by omega)), if_neg (show ¬ (4 : Int32) < nI a from nlt (a := 4) (by decide) (by omega) (by omega)), if_neg (nI_pos (by omega)), if_pos (show nI b ≤ (15 : Int32) from (nI_leI (b := 15) (by omega) (by decide)).mpr (by omega)), hC.c2.1, if_neg (show ¬ nI s.P < (16 : Int32) from nlt (b := 16) (by omega) (by decide) (by omega))]
        · unfold f_X10_pupil
          rw [show (4 : Int32) = nI 5 - 1 from rfl, in_y ha (by decide), bd_some, if_neg (by decide), show (15 : Int32) = nI 16 - 1 from rfl, in_y hb (by decide), bd_some, if_neg (by decide)]
          unfold f_X10_pupil_25
          rw [hu.m2.1, if_pos (show (16 : Int32) ≤ nI s.P from nI_le (a := 16) (by omega) (by omega))]
          unfold f_X10_pupil_39
          rw [ak2, bd_some, if_pos rfl]
    · exact bad (Or.inr hy)
  · exact bad (Or.inl hx)
