/-! PURE: written. By hand. -/
theorem isC_c (w : Int32) : isC ((w.toUInt32 % 65536).toInt32) = true := by
  unfold isC
  rw [decide_eq_true_eq]
  have e : ((w.toUInt32 % 65536).toInt32).toUInt32 = w.toUInt32 % 65536 := rfl
  rw [e]
  congr 1
  apply UInt32.toNat_inj.mp
  rw [UInt32.toNat_mod, UInt32.toNat_mod]
  exact Nat.mod_mod _ _
theorem nc0 : (((0 : Int32)).toUInt32 % 65536).toInt32 = 0 := by decide
theorem gdc {β : Type} {w : Int32} {x : Option β} : gd (isC ((w.toUInt32 % 65536).toInt32)) x = x := by rw [isC_c, gd_t]
theorem gdc0 {β : Type} {x : Option β} : gd (isC 0) x = x := rfl
theorem step_written (x y z : Int32) {σ : Mem} (hI : Inv9 σ) : StpG Inv9 (f_X9_written x y z) (f_X10_written x y z) [3] σ := by
  obtain ⟨s, hW, hC, hM⟩ := hI
  have no : ∀ u, f_X10_written_33 x y z 0 u = some (0, ask 1 u) := by
    intro u
    unfold f_X10_written_33
    rw [aa1, bd_some, if_pos rfl, gdc0]
  rcases idx x 4 with ⟨q, hq, rfl⟩ | hx
  · have hV := hW.V q hq
    rcases idx y (s.V q) with ⟨v, hv, rfl⟩ | hy
    · have hu1 : ∀ u, RelM u s → f_X10_written (nI q) (nI v) z u = if z < 0 then some (0, ask 1 u) else f_X10_written_33 (nI q) (nI v) z 1 u := by
        intro u hu
        unfold f_X10_written f_X10_written_32
        rw [mQ_y hq, bd_some, if_neg (by decide), gd_r (show q < 4 from hq) (by decide), na_nI (by omega), hu.m3.1 q hq, in_y hv (by omega), bd_some, if_neg (by decide)]
        by_cases z0 : z < 0
        · rw [if_pos z0, if_pos z0]; exact no u
        · rw [if_neg z0, if_neg z0]
      by_cases z0 : z < 0
      · refine stepS (oc := (3, 0)) hW hC hM ⟨σ, ?_, eqv.rfl⟩ (fun u hu => ⟨0, ask 1 u, ?_, ask_22, core_ask, fun h => absurd h (by decide)⟩) (Or.inr (by decide))
        · unfold f_X9_written f_X9_written_23
          rw [cQ_y hq, bd_some, if_neg (by decide), cS_y hq (hC.c3.1 q hq) (by omega) hv, bd_some, if_neg (by decide), if_neg (fun h => by rw [le_int] at h; rw [lt_int] at z0; omega)]
        · rw [hu1 u hu, if_pos z0]
      · obtain ⟨j, hj, rfl⟩ := nI_of z0
        obtain ⟨r1, r2, -, -⟩ := hC.c3.2 q v hq hv
        have hl := (hW.T q v hq hv).2.2.1
        have e9 : nI q * 6 + nI v = nI (6 * q + v) := by rw [show (6 : Int32) = nI 6 from rfl, pk_mul, nI_add]; congr 1; omega
        have e9' : (6 : Int32) * nI q + nI v = nI (6 * q + v) := by rw [show (6 : Int32) = nI 6 from rfl, pk_mul, nI_add]
        refine stepS (oc := (0, if j < s.len (6 * q + v) then ((s.txt (6 * q + v) j).toUInt32 % 65536).toInt32 else 0)) hW hC hM ⟨σ, ?_, eqv.rfl⟩ (fun u hu => ⟨if j < s.len (6 * q + v) then ((s.txt (6 * q + v) j).toUInt32 % 65536).toInt32 else 0, ask 0 u, ?_, ask_22, core_ask, fun _ => rfl⟩) (Or.inl rfl)
        · unfold f_X9_written
          rw [cQ_y hq, bd_some, if_neg (by decide), cS_y hq (hC.c3.1 q hq) (by omega) hv, bd_some, if_neg (by decide), if_pos (nI_pos' hj)]
          unfold f_X6_signAt f_X6_signAt_39
          simp only [nv]
          rw [e9, rget_n (show 6 * q + v < 24 by omega) (by decide), r2]
          by_cases hjl : j < s.len (6 * q + v)
          · rw [if_neg (nle (by omega) hj hjl), if_pos hjl, show (80 : Int32) = nI 80 from rfl, pk_mul, nI_add, rget_n (show (6 * q + v) * 80 + j < 1920 by omega) (by decide), show (6 * q + v) * 80 + j = 80 * (6 * q + v) + j by omega, r1 j hjl, bd_some, gdc]
          · rw [if_pos (nI_le (by omega) hj), if_neg hjl, bd_some, nc0, gdc0]
        · rw [hu1 u hu, if_neg z0]
          unfold f_X10_written_33 f_X10_written_68
          obtain ⟨-, -, t3, t4, -, -⟩ := (hu.m3.2 q v hq hv).1
          rw [aa0, bd_some, if_neg (by decide)]
          by_cases h90 : j < 90
          · rw [if_neg (show ¬ (90 : Int32) ≤ nI j from nle (a := 90) (by decide) hj h90), e9', show (90 : Int32) = nI 90 from rfl, pk_mul, nI_add, gd_r (show 90 * (6 * q + v) + j < 2160 by omega) (by decide), na_nI (by omega), ask_at rfl]
            by_cases hjl : j < s.len (6 * q + v)
            · rw [(t3 j hjl).1, if_pos hjl, gdc]
            · rw [t4 j (by omega) h90, if_neg hjl, nc0, gdc0]
          · rw [if_pos (show (90 : Int32) ≤ nI j from nI_le (a := 90) (by omega) hj), if_neg (by omega), gdc0]
    · refine stepS (oc := (3, 0)) hW hC hM ⟨σ, ?_, eqv.rfl⟩ (fun u hu => ⟨0, ask 1 u, ?_, ask_22, core_ask, fun h => absurd h (by decide)⟩) (Or.inr (by decide))
      · unfold f_X9_written f_X9_written_23
        rw [cQ_y hq, bd_some, if_neg (by decide), cS_n hq (hC.c3.1 q hq) (by omega) hy, bd_some, if_pos rfl]
      · unfold f_X10_written f_X10_written_32
        rw [mQ_y hq, bd_some, if_neg (by decide), gd_r (show q < 4 from hq) (by decide), na_nI (by omega), hu.m3.1 q hq, in_n (by omega) hy, bd_some, if_pos rfl]
        exact no u
  · refine stepS (oc := (3, 0)) hW hC hM ⟨σ, ?_, eqv.rfl⟩ (fun u hu => ⟨0, ask 1 u, ?_, ask_22, core_ask, fun h => absurd h (by decide)⟩) (Or.inr (by decide))
    · unfold f_X9_written f_X9_written_23
      rw [cQ_n hx, bd_some, if_pos rfl]
    · unfold f_X10_written f_X10_written_32
      rw [mQ_n hx, bd_some, if_pos rfl]
      exact no u
