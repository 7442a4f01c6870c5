/-! PURE: reader. By hand; long conjunctions by wfmk.py. -/
theorem m1_or (x : Int32) : (∃ a, a < 6 ∧ x = nI a - 1) ∨ ¬ (-1 ≤ x ∧ x ≤ 4) := by
  by_cases h : -1 ≤ x ∧ x ≤ 4
  · left
    have h1 := h.1
    have h2 := h.2
    rw [le_int] at h1 h2
    have a1 : (-1 : Int32).toInt = -1 := rfl
    have a2 : (4 : Int32).toInt = 4 := rfl
    by_cases z : x.toInt = -1
    · exact ⟨0, by omega, Int32.toInt_inj.mp (by rw [z]; rfl)⟩
    · refine ⟨(x.toInt + 1).toNat, by omega, Int32.toInt_inj.mp ?_⟩
      rw [show (x.toInt + 1).toNat = x.toInt.toNat + 1 by omega, nI_pred, nI_toInt (by omega)]
      omega
  · exact Or.inr h
theorem m1_in {a : Nat} (h : a < 6) : -1 ≤ nI a - 1 ∧ nI a - 1 ≤ 4 := by
  have : a = 0 ∨ a = 1 ∨ a = 2 ∨ a = 3 ∨ a = 4 ∨ a = 5 := by omega
  rcases this with rfl | rfl | rfl | rfl | rfl | rfl <;> decide
/-- reader -/
theorem step_reader (x y z : Int32) {σ : Mem} (hI : Inv9 σ) : StpG Inv9 (f_X9_reader x y (bz z)) (f_X10_reader x y (bz z)) [1, 2] σ := by
  obtain ⟨s, hW, hC, hM⟩ := hI
  have hR := hW.R
  obtain ⟨c, hc, ec⟩ := bz_n z
  rw [ec]
  have goodA : ∀ σ : Mem, (-1 ≤ x ∧ x ≤ 4) → (1 ≤ y ∧ y ≤ 15) → f_X9_reader x y (nI c) σ = if σ 76 8 < 6 then bd (f_X4_enter x y (nI c) σ) (fun y1 τ2 => some ((0, y1), τ2)) else some ((2, 0), σ) := by
    intro σ h1 h2
    unfold f_X9_reader
    rw [if_neg (fun h => by rw [lt_int] at h; have := h1.1; rw [le_int] at this; omega), if_neg (fun h => by rw [lt_int] at h; have := h1.2; rw [le_int] at this; omega), if_neg (fun h => by rw [lt_int] at h; have := h2.1; rw [le_int] at this; omega), if_pos h2.2]
  have goodM : ∀ u : Mem, (-1 ≤ x ∧ x ≤ 4) → (1 ≤ y ∧ y ≤ 15) → f_X10_reader x y (nI c) u = f_X10_reader_25 x y (nI c) 1 u := by
    intro u h1 h2
    unfold f_X10_reader
    rw [m_in, bd_some, if_pos h1, if_neg (by decide), m_in, bd_some, if_pos h2, if_neg (by decide)]
  by_cases hxy : (-1 ≤ x ∧ x ≤ 4) ∧ (1 ≤ y ∧ y ≤ 15)
  · obtain ⟨a, ha, ea⟩ := (m1_or x).resolve_right (fun h => h hxy.1)
    obtain ⟨b, hb1, hb2, eb⟩ := rng (lo := 1) (hi := 15) (by decide) (by decide) hxy.2
    by_cases hf : s.R < 6
    · have f1 := hW.freshR s.R (Nat.le_refl _) hf
      have d1 : ∀ r, r ≠ s.R → ((((((s.u1 15 s.R a).u1 16 s.R b).u1 17 s.R c).u1 19 s.R 0).u1 20 s.R 0).u1 14 0 (s.R + 1)).rs r = s.rs r := fun r h => congrArg (fun v => nI v - 1) (if_neg h : p1 (s 15) s.R a r = s 15 r)
      have d2 : ∀ r, r ≠ s.R → ((((((s.u1 15 s.R a).u1 16 s.R b).u1 17 s.R c).u1 19 s.R 0).u1 20 s.R 0).u1 14 0 (s.R + 1)).rq r = s.rq r := fun r h => if_neg h
      have d3 : ∀ r, r ≠ s.R → ((((((s.u1 15 s.R a).u1 16 s.R b).u1 17 s.R c).u1 19 s.R 0).u1 20 s.R 0).u1 14 0 (s.R + 1)).sen r = s.sen r := fun r h => if_neg h
      have d4 : ∀ r, r ≠ s.R → ((((((s.u1 15 s.R a).u1 16 s.R b).u1 17 s.R c).u1 19 s.R 0).u1 20 s.R 0).u1 14 0 (s.R + 1)).hc r = s.hc r := fun r h => if_neg h
      have d5 : ∀ r, r ≠ s.R → ((((((s.u1 15 s.R a).u1 16 s.R b).u1 17 s.R c).u1 19 s.R 0).u1 20 s.R 0).u1 14 0 (s.R + 1)).hap r = s.hap r := fun r h => if_neg h
      have g1 : ((((((s.u1 15 s.R a).u1 16 s.R b).u1 17 s.R c).u1 19 s.R 0).u1 20 s.R 0).u1 14 0 (s.R + 1)).rs s.R = nI a - 1 := congrArg (fun v => nI v - 1) (if_pos rfl : p1 (s 15) s.R a s.R = a)
      have g2 : ((((((s.u1 15 s.R a).u1 16 s.R b).u1 17 s.R c).u1 19 s.R 0).u1 20 s.R 0).u1 14 0 (s.R + 1)).rq s.R = b := if_pos rfl
      have g3 : ((((((s.u1 15 s.R a).u1 16 s.R b).u1 17 s.R c).u1 19 s.R 0).u1 20 s.R 0).u1 14 0 (s.R + 1)).sen s.R = c := if_pos rfl
      have g4 : ((((((s.u1 15 s.R a).u1 16 s.R b).u1 17 s.R c).u1 19 s.R 0).u1 20 s.R 0).u1 14 0 (s.R + 1)).hc s.R = 0 := if_pos rfl
      have g5 : ((((((s.u1 15 s.R a).u1 16 s.R b).u1 17 s.R c).u1 19 s.R 0).u1 20 s.R 0).u1 14 0 (s.R + 1)).hap s.R = 0 := if_pos rfl
      have hsq : ∀ r, ((((((s.u1 15 s.R a).u1 16 s.R b).u1 17 s.R c).u1 19 s.R 0).u1 20 s.R 0).u1 14 0 (s.R + 1)).sq r = s.sq r := fun r => rfl
      have hst : ∀ r, ((((((s.u1 15 s.R a).u1 16 s.R b).u1 17 s.R c).u1 19 s.R 0).u1 20 s.R 0).u1 14 0 (s.R + 1)).stp r = s.stp r := fun r => rfl
      have hPP : ((((((s.u1 15 s.R a).u1 16 s.R b).u1 17 s.R c).u1 19 s.R 0).u1 20 s.R 0).u1 14 0 (s.R + 1)).P = s.P := rfl
      have hSS : ((((((s.u1 15 s.R a).u1 16 s.R b).u1 17 s.R c).u1 19 s.R 0).u1 20 s.R 0).u1 14 0 (s.R + 1)).S = s.S := rfl
      have hVV : ∀ q, ((((((s.u1 15 s.R a).u1 16 s.R b).u1 17 s.R c).u1 19 s.R 0).u1 20 s.R 0).u1 14 0 (s.R + 1)).V q = s.V q := fun q => rfl
      have hRR : ((((((s.u1 15 s.R a).u1 16 s.R b).u1 17 s.R c).u1 19 s.R 0).u1 20 s.R 0).u1 14 0 (s.R + 1)).R = s.R + 1 := rfl
      have kC : ∀ i, i ≠ 4 → keep i σ (wr (wr (wr (wr (wr σ 19 s.R x) 30 s.R y) 20 s.R (nI c)) 22 s.R (-1)) 76 8 (nI (s.R + 1))) := fun i hi => keep.w (show (4 : Nat) ≠ i by omega) (keep.w (show (4 : Nat) ≠ i by omega) (keep.w (show (4 : Nat) ≠ i by omega) (keep.w (show (4 : Nat) ≠ i by omega) (keep.w (show (4 : Nat) ≠ i by omega) keep.rf))))
      have uv : ∀ r, r < s.R + 1 → r ≠ s.R → r < s.R := fun r h1 h2 => by omega
      refine stepG (s' := (((((s.u1 15 s.R a).u1 16 s.R b).u1 17 s.R c).u1 19 s.R 0).u1 20 s.R 0).u1 14 0 (s.R + 1)) (oc := (0, nI s.R)) (r := nI s.R) (s := s) ⟨hW.m, hW.P, hW.lack, hW.urg, hW.gift, hW.app, hW.fresh, hW.V, hW.T, hf, ?_, ?_, hW.stp, ?_, hW.given, hW.since, hW.good, (fun r h1 h2 => hW.freshR r (Nat.le_of_succ_le h1) h2), ?_, ?_, hW.S, hW.sq, hW.tw, hW.tol, hW.isr, hW.b0, hW.b1, hW.b2, hW.n, hW.ans, (fun k hk => Nat.lt_succ_of_lt (hW.rby k hk)), hW.pts, hW.voi, hW.freshL, hW.apr, hW.clean, hW.al, ?_, hW.ar⟩ hM ?_ ?_ (Or.inl rfl) (fun _ => rfl)
      · intro r hr
        by_cases e : r = s.R
        · rw [e, g2]; exact hb2
        · rw [d2 r e]; exact hW.rq r (uv r hr e)
      · intro r hr
        by_cases e : r = s.R
        · rw [e, g3]; exact hc
        · rw [d3 r e]; exact hW.sen r (uv r hr e)
      · intro r hr
        by_cases e : r = s.R
        · rw [e, g5]; exact Nat.zero_le _
        · rw [d5 r e]; exact hW.hap r (uv r hr e)
      · intro r hr
        by_cases e : r = s.R
        · rw [e, g4]; exact Or.inl rfl
        · rw [d4 r e]; exact hW.hc r (uv r hr e)
      · intro r hr h1
        by_cases e : r = s.R
        · rw [e, g4]
        · rw [d4 r e]; exact hW.stop r (uv r hr e) h1
      · intro r hr h1 h2 h3
        by_cases e : r = s.R
        · rw [e, g4] at h1; exact absurd h1 (by decide)
        · rw [d4 r e] at h1 h2
          rw [d5 r e] at h3
          rw [d4 r e]
          exact hW.ah r (uv r hr e) h1 h2 h3
      · refine ⟨wr (wr (wr (wr (wr σ 19 s.R x) 30 s.R y) 20 s.R (nI c)) 22 s.R (-1)) 76 8 (nI (s.R + 1)), ?_, ⟨hC.c1.k (kC _ (by decide)), hC.c2.k (kC _ (by decide)), hC.c3.k (kC _ (by decide)), ⟨by simp [wr_at]; rfl, fun r hr => ?_, fun r hr => by simp [wr_at]; exact hC.c4.2.2 r hr⟩, hC.c5.k (kC _ (by decide)), hC.c6.k (kC _ (by decide)), hC.c7.k (kC _ (by decide))⟩, fun i hi => kC i (by omega)⟩
        · rw [goodA σ hxy.1 hxy.2, hC.c4.1, if_pos (show nI s.R < (6 : Int32) from (nI_ltI (b := 6) (by omega) (by decide)).mpr hf)]
          unfold f_X4_enter
          simp only [nv]
          rw [hC.c4.1, rset_n (show s.R < 6 from hf) (by decide)]
          simp only [nw]
          rw [rset_n (show s.R < 6 from hf) (by decide), rput_n (show s.R < 6 from hf) (by decide), rset_n (show s.R < 6 from hf) (by decide), put_n hc, show (wr (wr (wr (wr σ 19 s.R x) 30 s.R y) 20 s.R (nI c)) 22 s.R (-1)) 76 8 = nI s.R by simp [wr_at]; exact hC.c4.1, nI_1, bd_some]
        · by_cases e : r = s.R
          · have eh : ((((((s.u1 15 s.R a).u1 16 s.R b).u1 17 s.R c).u1 19 s.R 0).u1 20 s.R 0).u1 14 0 (s.R + 1)).hand s.R = -1 := by unfold A.hand; rw [g4, if_pos rfl]
            rw [e, g1, g2, g3, g4, eh]
            simp [wr_at]
            exact ⟨ea, eb⟩
          · have eh : ((((((s.u1 15 s.R a).u1 16 s.R b).u1 17 s.R c).u1 19 s.R 0).u1 20 s.R 0).u1 14 0 (s.R + 1)).hand r = s.hand r := by unfold A.hand; rw [d4 r e, hsq]
            rw [d1 r e, d2 r e, d3 r e, d4 r e, d5 r e, eh]
            simp [wr_at, e]
            exact hC.c4.2.1 r (uv r hr e)
      · intro u hu
        refine ⟨wr (wr (wr (wr (wr (ask 0 u) 55 s.R x) 56 s.R y) 57 s.R (nI c)) 59 s.R (-1)) 76 27 (nI (s.R + 1)), ?_, by simp [wr_at]; exact ask_22, ⟨hu.m1.k (keep.w (show (14 : Nat) ≠ _ by decide) (keep.w (show (14 : Nat) ≠ _ by decide) (keep.w (show (14 : Nat) ≠ _ by decide) (keep.w (show (14 : Nat) ≠ _ by decide) (keep.w (show (14 : Nat) ≠ _ by decide) (ck core_ask (by decide))))))), hu.m2.k (keep.w (show (14 : Nat) ≠ _ by decide) (keep.w (show (14 : Nat) ≠ _ by decide) (keep.w (show (14 : Nat) ≠ _ by decide) (keep.w (show (14 : Nat) ≠ _ by decide) (keep.w (show (14 : Nat) ≠ _ by decide) (ck core_ask (by decide))))))), hu.m3.k (keep.w (show (14 : Nat) ≠ _ by decide) (keep.w (show (14 : Nat) ≠ _ by decide) (keep.w (show (14 : Nat) ≠ _ by decide) (keep.w (show (14 : Nat) ≠ _ by decide) (keep.w (show (14 : Nat) ≠ _ by decide) (ck core_ask (by decide))))))), ⟨by simp [wr_at]; rfl, fun r hr => ?_, fun r hr => by simp [wr_at]; rw [ask_at rfl, ask_at rfl, ask_at rfl, ask_at rfl]; exact hu.m4.2.2 r hr⟩, hu.m5.k (keep.w (show (14 : Nat) ≠ _ by decide) (keep.w (show (14 : Nat) ≠ _ by decide) (keep.w (show (14 : Nat) ≠ _ by decide) (keep.w (show (14 : Nat) ≠ _ by decide) (keep.w (show (14 : Nat) ≠ _ by decide) (ck core_ask (by decide))))))), hu.m6.k (keep.w (show (14 : Nat) ≠ _ by decide) (keep.w (show (14 : Nat) ≠ _ by decide) (keep.w (show (14 : Nat) ≠ _ by decide) (keep.w (show (14 : Nat) ≠ _ by decide) (keep.w (show (14 : Nat) ≠ _ by decide) (ck core_ask (by decide)))))))⟩, fun i h1 h2 => keep.w (show (14 : Nat) ≠ i by omega) (keep.w (show (14 : Nat) ≠ i by omega) (keep.w (show (14 : Nat) ≠ i by omega) (keep.w (show (14 : Nat) ≠ i by omega) (keep.w (show (14 : Nat) ≠ i by omega) (keepA core_ask h1)))))⟩
        · rw [goodM u hxy.1 hxy.2]
          unfold f_X10_reader_25
          rw [hu.m4.1, if_neg (show ¬ (6 : Int32) ≤ nI s.R from nle (a := 6) (by decide) (by omega) hf)]
          unfold f_X10_reader_39
          rw [ak0, bd_some, if_neg (by decide), ask_at rfl, hu.m4.1, gd_r (show s.R < 6 from hf) (by decide), na_nI (by omega)]
          simp only [nw]
          rw [show (wr (ask 0 u) 55 s.R x) 76 27 = nI s.R by simp [wr_at]; rw [ask_at rfl]; exact hu.m4.1, gd_r (show s.R < 6 from hf) (by decide), na_nI (by omega), show (wr (wr (ask 0 u) 55 s.R x) 56 s.R y) 76 27 = nI s.R by simp [wr_at]; rw [ask_at rfl]; exact hu.m4.1, gd_r (show s.R < 6 from hf) (by decide), na_nI (by omega), nar_n hc, show (wr (wr (wr (ask 0 u) 55 s.R x) 56 s.R y) 57 s.R (nI c)) 76 27 = nI s.R by simp [wr_at]; rw [ask_at rfl]; exact hu.m4.1, gd_r (show s.R < 6 from hf) (by decide), na_nI (by omega), show (wr (wr (wr (wr (ask 0 u) 55 s.R x) 56 s.R y) 57 s.R (nI c)) 59 s.R (-1)) 76 27 = nI s.R by simp [wr_at]; rw [ask_at rfl]; exact hu.m4.1, nI_1]
          simp [wr_at, nI_pred]
        · by_cases e : r = s.R
          · rw [e, g1, g2, g3, g4]
            simp [wr_at]
            exact ⟨ea, eb, rfl⟩
          · rw [d1 r e, d2 r e, d3 r e, d4 r e, d5 r e]
            simp [wr_at, e]
            rw [ask_at rfl, ask_at rfl, ask_at rfl, ask_at rfl, ask_at rfl]
            exact hu.m4.2.1 r (uv r hr e)
    · refine stepS (oc := (2, 0)) hW hC hM ⟨σ, ?_, eqv.rfl⟩ (fun u hu => ⟨0, ask 2 u, ?_, ask_22, core_ask, fun h => absurd h (by decide)⟩) (Or.inr (by decide))
      · rw [goodA σ hxy.1 hxy.2, hC.c4.1, if_neg (show ¬ nI s.R < (6 : Int32) from nlt (b := 6) (by omega) (by decide) (by omega))]
      · rw [goodM u hxy.1 hxy.2]
        unfold f_X10_reader_25 f_X10_reader_39
        rw [hu.m4.1, if_pos (show (6 : Int32) ≤ nI s.R from nI_le (a := 6) (by omega) (by omega)), ak2, bd_some, if_pos rfl]
  · refine stepS (oc := (1, 0)) hW hC hM ⟨σ, ?_, eqv.rfl⟩ (fun u hu => ⟨0, ask 1 u, ?_, ask_22, core_ask, fun h => absurd h (by decide)⟩) (Or.inr (by decide))
    · unfold f_X9_reader f_X9_reader_21
      by_cases z1 : x < -1
      · rw [if_pos z1]
      · rw [if_neg z1]
        by_cases z2 : (4 : Int32) < x
        · rw [if_pos z2]
        · rw [if_neg z2]
          have hx : -1 ≤ x ∧ x ≤ 4 := by rw [lt_int] at z1 z2; rw [le_int, le_int]; omega
          by_cases z3 : y < 1
          · rw [if_pos z3]
          · rw [if_neg z3, if_neg (fun h => hxy ⟨hx, by rw [lt_int] at z3; rw [le_int]; omega, h⟩)]
    · have e25 : f_X10_reader_25 x y (nI c) 0 u = some (0, ask 1 u) := by
        unfold f_X10_reader_25 f_X10_reader_39
        rw [ak1, ak1, bd_some, if_pos rfl, ite_self]
      unfold f_X10_reader f_X10_reader_24
      rw [m_in, bd_some]
      by_cases hx : -1 ≤ x ∧ x ≤ 4
      · rw [if_pos hx, if_neg (by decide), m_in, bd_some, if_neg (fun h => hxy ⟨hx, h⟩), if_pos rfl]
        exact e25
      · rw [if_neg hx, if_pos rfl]
        exact e25
