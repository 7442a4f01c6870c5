/-! PURE: who is who: pupils, questions, readers, points; tolerance, twice, gift. By hand; long conjunctions by wfmk.py. -/
theorem gdz1 {β : Type} {x : Option β} : gd (isZ 1) x = x := rfl
theorem gdz0 {β : Type} {x : Option β} : gd (isZ 0) x = x := rfl
theorem bz01 (x : Int32) : bz x = 0 ∨ bz x = 1 := by
  unfold bz
  by_cases h : x = 0
  · rw [if_pos h]; exact Or.inl rfl
  · rw [if_neg h]; exact Or.inr rfl
theorem bz_n (x : Int32) : ∃ b, b ≤ 1 ∧ bz x = nI b := by
  rcases bz01 x with h | h
  · exact ⟨0, by omega, h⟩
  · exact ⟨1, by omega, h⟩
theorem nar_n {b : Nat} (h : b ≤ 1) : vp_nar .boolean (nI b) = nI b := by
  have : b = 0 ∨ b = 1 := by omega
  rcases this with rfl | rfl <;> rfl
theorem iz_n {β : Type} {b : Nat} {x : Option β} (h : b ≤ 1) : gd (isZ (nI b)) x = x := by
  have : b = 0 ∨ b = 1 := by omega
  rcases this with rfl | rfl <;> rfl
theorem put_n {b : Nat} (h : b ≤ 1) : (if nI b = 0 then (0 : Int32) else 1) = nI b := by
  have : b = 0 ∨ b = 1 := by omega
  rcases this with rfl | rfl <;> rfl
theorem ris_b {b : Nat} (h : b ≤ 1) : (if nI b ≠ 0 then (1 : Int32) else 0) = nI b := by
  have : b = 0 ∨ b = 1 := by omega
  rcases this with rfl | rfl <;> rfl
theorem idx (x : Int32) (P : Nat) : (∃ k, k < P ∧ x = nI k) ∨ ¬ ∃ k, k < P ∧ x = nI k := Classical.em _
theorem idx_n {x : Int32} {P : Nat} (hP : P < 2 ^ 31) (h : ¬ ∃ k, k < P ∧ x = nI k) : x < 0 ∨ nI P ≤ x := by
  by_cases h0 : x < 0
  · exact Or.inl h0
  · obtain ⟨j, hj, e⟩ := nI_of h0
    right
    subst e
    exact (nI_leI hP hj).mpr (by
      by_cases z : P ≤ j
      · exact z
      · exact absurd ⟨j, by omega, rfl⟩ h)
theorem in_y {k P : Nat} (hk : k < P) (hP : P < 2 ^ 31) {σ : Mem} : f_X10_in (nI k) 0 (nI P - 1) σ = some (1, σ) := by
  have e : nI P - 1 = nI (P - 1) := by rw [show P = (P - 1) + 1 by omega, nI_pred]; rfl
  rw [m_in, e, if_pos ⟨nI_le (a := 0) (Nat.zero_le k) (by omega), nI_le (by omega) (by omega)⟩]
theorem in_n {x : Int32} {P : Nat} (hP : P < 2 ^ 31) (h : ¬ ∃ k, k < P ∧ x = nI k) {σ : Mem} : f_X10_in x 0 (nI P - 1) σ = some (0, σ) := by
  rw [m_in, if_neg]
  intro ⟨h0, h1⟩
  rcases idx_n hP h with z | z
  · rw [lt_int] at z; rw [le_int] at h0; omega
  · by_cases zP : P = 0
    · subst zP
      rw [le_int] at h0 h1
      have a : ((nI 0 : Int32) - 1).toInt = -1 := rfl
      have b : (0 : Int32).toInt = 0 := rfl
      omega
    · have e : nI P - 1 = nI (P - 1) := by rw [show P = (P - 1) + 1 by omega, nI_pred]; rfl
      rw [e, le_int, nI_toInt (by omega)] at h1
      rw [le_int, nI_toInt hP] at z
      omega
theorem cP_y {k P : Nat} {σ : Mem} (h : σ 76 7 = nI P) (hk : k < P) (hP : P < 2 ^ 31) : f_X3_has (nI k) σ = some (1, σ) := by
  unfold f_X3_has f_X3_has_17
  rw [if_neg (nI_pos (by omega)), h, if_neg (nle hP (by omega) hk), gdz1]
theorem cP_n {x : Int32} {P : Nat} {σ : Mem} (h : σ 76 7 = nI P) (hP : P < 2 ^ 31) (hx : ¬ ∃ k, k < P ∧ x = nI k) : f_X3_has x σ = some (0, σ) := by
  unfold f_X3_has f_X3_has_16 f_X3_has_17
  rw [gdz0, h]
  rcases idx_n hP hx with z | z
  · rw [if_pos z]
  · rw [if_pos z, ite_self]
theorem cR_y {k P : Nat} {σ : Mem} (h : σ 76 8 = nI P) (hk : k < P) (hP : P < 2 ^ 31) : f_X4_has (nI k) σ = some (1, σ) := by
  unfold f_X4_has f_X4_has_17
  rw [if_neg (nI_pos (by omega)), h, if_neg (nle hP (by omega) hk), gdz1]
theorem cR_n {x : Int32} {P : Nat} {σ : Mem} (h : σ 76 8 = nI P) (hP : P < 2 ^ 31) (hx : ¬ ∃ k, k < P ∧ x = nI k) : f_X4_has x σ = some (0, σ) := by
  unfold f_X4_has f_X4_has_16 f_X4_has_17
  rw [gdz0, h]
  rcases idx_n hP hx with z | z
  · rw [if_pos z]
  · rw [if_pos z, ite_self]
theorem mP_y {k P : Nat} {σ : Mem} (h : σ 76 25 = nI P) (hk : k < P) (hP : P < 2 ^ 31) : f_X10_isPupil (nI k) σ = some (1, σ) := by
  unfold f_X10_isPupil
  rw [h, in_y hk hP, bd_some, gdz1]
theorem mP_n {x : Int32} {P : Nat} {σ : Mem} (h : σ 76 25 = nI P) (hP : P < 2 ^ 31) (hx : ¬ ∃ k, k < P ∧ x = nI k) : f_X10_isPupil x σ = some (0, σ) := by
  unfold f_X10_isPupil
  rw [h, in_n hP hx, bd_some, gdz0]
theorem mR_y {k P : Nat} {σ : Mem} (h : σ 76 27 = nI P) (hk : k < P) (hP : P < 2 ^ 31) : f_X10_isReader (nI k) σ = some (1, σ) := by
  unfold f_X10_isReader
  rw [h, in_y hk hP, bd_some, gdz1]
theorem mR_n {x : Int32} {P : Nat} {σ : Mem} (h : σ 76 27 = nI P) (hP : P < 2 ^ 31) (hx : ¬ ∃ k, k < P ∧ x = nI k) : f_X10_isReader x σ = some (0, σ) := by
  unfold f_X10_isReader
  rw [h, in_n hP hx, bd_some, gdz0]
theorem mQ_y {k : Nat} {σ : Mem} (hk : k < 4) : f_X10_isQuestion (nI k) σ = some (1, σ) := by
  unfold f_X10_isQuestion
  rw [show (3 : Int32) = nI 4 - 1 from rfl, in_y hk (by decide), bd_some, gdz1]
theorem mQ_n {x : Int32} {σ : Mem} (hx : ¬ ∃ k, k < 4 ∧ x = nI k) : f_X10_isQuestion x σ = some (0, σ) := by
  unfold f_X10_isQuestion
  rw [show (3 : Int32) = nI 4 - 1 from rfl, in_n (by decide) hx, bd_some, gdz0]
theorem cQ_y {k : Nat} {σ : Mem} (hk : k < 4) : f_X9_isQuestion (nI k) σ = some (1, σ) := by
  unfold f_X9_isQuestion f_X9_isQuestion_14
  rw [if_neg (nI_pos (by omega)), if_neg (show ¬ (4 : Int32) ≤ nI k from nle (a := 4) (by decide) (by omega) hk), gdz1]
theorem cQ_n {x : Int32} {σ : Mem} (hx : ¬ ∃ k, k < 4 ∧ x = nI k) : f_X9_isQuestion x σ = some (0, σ) := by
  unfold f_X9_isQuestion f_X9_isQuestion_13 f_X9_isQuestion_14
  rw [gdz0]
  rcases idx_n (by decide) hx with z | z
  · rw [if_pos z]
  · rw [if_pos (show (4 : Int32) ≤ x from z), ite_self]
theorem cB_y {k : Nat} {σ : Mem} (hk : k < 256) : f_X9_arePoints (nI k) σ = some (1, σ) := by
  unfold f_X9_arePoints f_X9_arePoints_16
  rw [if_neg (nI_pos (by omega)), if_neg (show ¬ (255 : Int32) < nI k from nlt (a := 255) (by decide) (by omega) (by omega)), gdz1]
theorem cB_n {x : Int32} {σ : Mem} (hx : ¬ ∃ k, k < 256 ∧ x = nI k) : f_X9_arePoints x σ = some (0, σ) := by
  unfold f_X9_arePoints f_X9_arePoints_15 f_X9_arePoints_16
  rw [gdz0]
  rcases idx_n (by decide) hx with z | z
  · rw [if_pos z]
  · have : (255 : Int32) < x := by
      rw [lt_int]; rw [le_int, nI_toInt (by decide)] at z
      have : (255 : Int32).toInt = 255 := rfl
      omega
    rw [if_pos this, ite_self]
theorem mB_y {k : Nat} {σ : Mem} (hk : k < 256) : f_X10_in (nI k) 0 255 σ = some (1, σ) := in_y (P := 256) hk (by decide)
theorem mB_n {x : Int32} {σ : Mem} (hx : ¬ ∃ k, k < 256 ∧ x = nI k) : f_X10_in x 0 255 σ = some (0, σ) := in_n (P := 256) (by decide) hx
/-- tolerance -/
theorem step_tol (x : Int32) {σ : Mem} (hI : Inv9 σ) : StpG Inv9 (f_X9_tolerance x) (f_X10_tolerance x) [1] σ := by
  obtain ⟨s, hW, hC, hM⟩ := hI
  rcases idx x 10 with ⟨a, ha, rfl⟩ | hx
  · refine stepG (s' := s.u1 28 0 a) (oc := (0, nI s.tol)) (r := nI s.tol) (s := s) ⟨hW.m, hW.P, hW.lack, hW.urg, hW.gift, hW.app, hW.fresh, hW.V, hW.T, hW.R, hW.rq, hW.sen, hW.stp, hW.hap, hW.given, hW.since, hW.good, hW.freshR, hW.hc, hW.stop, hW.S, hW.sq, hW.tw, (show a ≤ 9 by omega), hW.isr, hW.b0, hW.b1, hW.b2, hW.n, hW.ans, hW.rby, hW.pts, hW.voi, hW.freshL, hW.apr, hW.clean, hW.al, hW.ah, hW.ar⟩ hM ?_ ?_ (Or.inl rfl) (fun _ => rfl)
    · refine ⟨wr σ 76 17 (nI a), ?_, ⟨hC.c1.k (keep.w (show (5 : Nat) ≠ _ by decide) keep.rf), hC.c2.k (keep.w (show (5 : Nat) ≠ _ by decide) keep.rf), hC.c3.k (keep.w (show (5 : Nat) ≠ _ by decide) keep.rf), hC.c4.k (keep.w (show (5 : Nat) ≠ _ by decide) keep.rf), ?_, hC.c6.k (keep.w (show (5 : Nat) ≠ _ by decide) keep.rf), hC.c7.k (keep.w (show (5 : Nat) ≠ _ by decide) keep.rf)⟩, fun i hi => keep.w (show (5 : Nat) ≠ i by omega) keep.rf⟩
      · unfold f_X9_tolerance
        rw [if_neg (nI_pos (by omega)), if_pos (show nI a ≤ (9 : Int32) from (nI_leI (b := 9) (by omega) (by decide)).mpr (by omega))]
        simp only [nv, nw]
        rw [hC.c5.2.2.2.1]
      · obtain ⟨a1, a2, a3, a4, a5, a6, a7, a8⟩ := hC.c5
        exact ⟨by simp [wr_at]; exact a1, fun k hk => by simp [wr_at]; exact a2 k hk, fun k hk => by simp [wr_at]; exact a3 k hk, by simp [wr_at]; rfl, by simp [wr_at]; exact a5, by simp [wr_at]; exact a6, by simp [wr_at]; exact a7, by simp [wr_at]; exact a8⟩
    · intro u hu
      refine ⟨wr (ask 0 u) 76 24 (nI a), ?_, by simp [wr_at]; exact ask_22, ⟨hu.m1.k (keep.w (show (15 : Nat) ≠ _ by decide) (ck core_ask (by decide))), hu.m2.k (keep.w (show (15 : Nat) ≠ _ by decide) (ck core_ask (by decide))), hu.m3.k (keep.w (show (15 : Nat) ≠ _ by decide) (ck core_ask (by decide))), hu.m4.k (keep.w (show (15 : Nat) ≠ _ by decide) (ck core_ask (by decide))), ?_, hu.m6.k (keep.w (show (15 : Nat) ≠ _ by decide) (ck core_ask (by decide)))⟩, fun i h1 h2 => keep.w (show (15 : Nat) ≠ i by omega) (keepA core_ask h1)⟩
      · unfold f_X10_tolerance
        rw [show (9 : Int32) = nI 10 - 1 from rfl, in_y ha (by decide), bd_some, aa0, bd_some, if_neg (by decide)]
        simp only [nv, nw]
        rw [ask_at rfl, hu.m5.2.2.2.1]
      · obtain ⟨a1, a2, a3, a4, a5, a6, a7, a8⟩ := hu.m5
        exact ⟨by simp [wr_at]; rw [ask_at rfl]; exact a1, fun k hk => by simp [wr_at]; rw [ask_at rfl, ask_at rfl]; exact a2 k hk, fun k hk => by simp [wr_at]; rw [ask_at rfl]; exact a3 k hk, by simp [wr_at]; rfl, by simp [wr_at]; rw [ask_at rfl]; exact a5, by simp [wr_at]; rw [ask_at rfl]; exact a6, by simp [wr_at]; rw [ask_at rfl]; exact a7, by simp [wr_at]; rw [ask_at rfl]; exact a8⟩
  · refine stepS (oc := (1, 0)) hW hC hM ⟨σ, ?_, eqv.rfl⟩ (fun u hu => ⟨0, ask 1 u, ?_, ask_22, core_ask, fun h => absurd h (by decide)⟩) (Or.inr (by decide))
    · unfold f_X9_tolerance f_X9_tolerance_10
      rcases idx_n (by decide) hx with z | z
      · rw [if_pos z]
      · rw [if_neg (fun h : x ≤ 9 => by rw [le_int] at h; rw [le_int, nI_toInt (by decide)] at z; have : (9 : Int32).toInt = 9 := rfl; omega), ite_self]
    · unfold f_X10_tolerance
      rw [show (9 : Int32) = nI 10 - 1 from rfl, in_n (by decide) hx, bd_some, aa1, bd_some, if_pos rfl]
/-- twice -/
theorem step_twice (x y : Int32) {σ : Mem} (hI : Inv9 σ) : StpG Inv9 (f_X9_twice x (bz y)) (f_X10_twice x (bz y)) [3] σ := by
  obtain ⟨s, hW, hC, hM⟩ := hI
  obtain ⟨b, hb, eb⟩ := bz_n y
  rw [eb]
  rcases idx x 4 with ⟨q, hq, rfl⟩ | hx
  · have hold := hW.tw q hq
    have two : ∀ j, (s.u1 27 q b).tw j = if j = q then b else s.tw j := fun j => rfl
    refine stepG (s' := s.u1 27 q b) (oc := (0, nI (s.tw q))) (r := nI (s.tw q)) (s := s) ⟨hW.m, hW.P, hW.lack, hW.urg, hW.gift, hW.app, hW.fresh, hW.V, hW.T, hW.R, hW.rq, hW.sen, hW.stp, hW.hap, hW.given, hW.since, hW.good, hW.freshR, hW.hc, hW.stop, hW.S, hW.sq, (fun j hj => by rw [two]; split; exact hb; exact hW.tw j hj), hW.tol, hW.isr, hW.b0, hW.b1, hW.b2, hW.n, hW.ans, hW.rby, hW.pts, hW.voi, hW.freshL, hW.apr, hW.clean, hW.al, hW.ah, hW.ar⟩ hM ?_ ?_ (Or.inl rfl) (fun _ => rfl)
    · refine ⟨wr σ 41 q (nI b), ?_, ⟨hC.c1.k (keep.w (show (5 : Nat) ≠ _ by decide) keep.rf), hC.c2.k (keep.w (show (5 : Nat) ≠ _ by decide) keep.rf), hC.c3.k (keep.w (show (5 : Nat) ≠ _ by decide) keep.rf), hC.c4.k (keep.w (show (5 : Nat) ≠ _ by decide) keep.rf), ?_, hC.c6.k (keep.w (show (5 : Nat) ≠ _ by decide) keep.rf), hC.c7.k (keep.w (show (5 : Nat) ≠ _ by decide) keep.rf)⟩, fun i hi => keep.w (show (5 : Nat) ≠ i by omega) keep.rf⟩
      · unfold f_X9_twice
        rw [cQ_y hq, bd_some, if_neg (by decide), ris_n (show q < 4 from hq) (by decide), rput_n (show q < 4 from hq) (by decide)]
        simp only [nv, nw]
        rw [hC.c5.2.2.1 q hq, ris_b hold, iz_n hold, put_n hb]
      · obtain ⟨a1, a2, a3, a4, a5, a6, a7, a8⟩ := hC.c5
        refine ⟨by simp [wr_at]; exact a1, fun k hk => by simp [wr_at]; exact a2 k hk, fun k hk => ?_, by simp [wr_at]; exact a4, by simp [wr_at]; exact a5, by simp [wr_at]; exact a6, by simp [wr_at]; exact a7, by simp [wr_at]; exact a8⟩
        rw [two, wr_at]
        by_cases e : k = q
        · rw [if_pos ⟨rfl, e⟩, if_pos e]
        · rw [if_neg (fun h => e h.2), if_neg e]; exact a3 k hk
    · intro u hu
      refine ⟨wr (ask 0 u) 54 q (nI b), ?_, by simp [wr_at]; exact ask_22, ⟨hu.m1.k (keep.w (show (15 : Nat) ≠ _ by decide) (ck core_ask (by decide))), hu.m2.k (keep.w (show (15 : Nat) ≠ _ by decide) (ck core_ask (by decide))), hu.m3.k (keep.w (show (15 : Nat) ≠ _ by decide) (ck core_ask (by decide))), hu.m4.k (keep.w (show (15 : Nat) ≠ _ by decide) (ck core_ask (by decide))), ?_, hu.m6.k (keep.w (show (15 : Nat) ≠ _ by decide) (ck core_ask (by decide)))⟩, fun i h1 h2 => keep.w (show (15 : Nat) ≠ i by omega) (keepA core_ask h1)⟩
      · unfold f_X10_twice
        rw [mQ_y hq, bd_some, aa0, bd_some, if_neg (by decide), gd_r (show q < 4 from hq) (by decide), na_nI (by omega)]
        simp only [nv, nw]
        rw [gd_r (show q < 4 from hq) (by decide), ask_at rfl, hu.m5.2.2.1 q hq, iz_n hold, nar_n hb]
      · obtain ⟨a1, a2, a3, a4, a5, a6, a7, a8⟩ := hu.m5
        refine ⟨by simp [wr_at]; rw [ask_at rfl]; exact a1, fun k hk => by simp [wr_at]; rw [ask_at rfl, ask_at rfl]; exact a2 k hk, fun k hk => ?_, by simp [wr_at]; rw [ask_at rfl]; exact a4, by simp [wr_at]; rw [ask_at rfl]; exact a5, by simp [wr_at]; rw [ask_at rfl]; exact a6, by simp [wr_at]; rw [ask_at rfl]; exact a7, by simp [wr_at]; rw [ask_at rfl]; exact a8⟩
        rw [two, wr_at]
        by_cases e : k = q
        · rw [if_pos ⟨rfl, e⟩, if_pos e]
        · rw [if_neg (fun h => e h.2), if_neg e, ask_at rfl]; exact a3 k hk
  · refine stepS (oc := (3, 0)) hW hC hM ⟨σ, ?_, eqv.rfl⟩ (fun u hu => ⟨0, ask 1 u, ?_, ask_22, core_ask, fun h => absurd h (by decide)⟩) (Or.inr (by decide))
    · unfold f_X9_twice
      rw [cQ_n hx, bd_some, if_pos rfl]
    · unfold f_X10_twice
      rw [mQ_n hx, bd_some, aa1, bd_some, if_pos rfl, gdz0]
