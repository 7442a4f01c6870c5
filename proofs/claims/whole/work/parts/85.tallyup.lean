/-! PURE: the class's tally of an answer. By hand. -/
theorem c_tallyUp {σ : Mem} {s : A} (hW : WF s) (hC : RelC σ s) {p q : Nat} (hp : p < 16) (hq : q < 4) : ∃ u, f_X9_tallyUp (nI p) (nI q) σ = some (0, u) ∧ eqv σ u ∧ RT u ((s.L (4 * p + q)).foldl s.tf (0, 0, 0, -1, -1, -1, -1)) := by
  have hn := hW.n
  obtain ⟨l1, l2, l3, l4⟩ := hC.c7 (4 * p + q) (by omega)
  have ln : (s.L (4 * p + q)).length ≤ s.n := cl_le _ _
  unfold f_X9_tallyUp f_X8_clear
  simp only [nw]
  rw [bd_some]
  have h1 : eqv σ (wr (wr (wr (wr (wr (wr (wr σ 76 10 0) 76 11 0) 76 13 0) 76 14 (-1)) 76 15 (-1)) 76 16 (-1)) 76 12 (-1)) := eqv_wrs (eqv_wrs (eqv_wrs (eqv_wrs (eqv_wrs (eqv_wrs (eqv_wrs eqv.rfl rfl (by decide)) rfl (by decide)) rfl (by decide)) rfl (by decide)) rfl (by decide)) rfl (by decide)) rfl (by decide)
  have h2 : RT (wr (wr (wr (wr (wr (wr (wr σ 76 10 0) 76 11 0) 76 13 0) 76 14 (-1)) 76 15 (-1)) 76 16 (-1)) 76 12 (-1)) (0, 0, 0, -1, -1, -1, -1) := ⟨by simp [wr_at]; rfl, by simp [wr_at]; rfl, by simp [wr_at]; rfl, by simp [wr_at], by simp [wr_at], by simp [wr_at], by simp [wr_at]⟩
  generalize wr (wr (wr (wr (wr (wr (wr σ 76 10 0) 76 11 0) 76 13 0) 76 14 (-1)) 76 15 (-1)) 76 16 (-1)) 76 12 (-1) = τ at h1 h2 ⊢
  unfold f_X9_answerOf
  rw [bd_some, show (4 : Int32) = nI 4 from rfl, pk_mul, nI_add, show p * 4 + q = 4 * p + q by omega, rget_n (show 4 * p + q < 64 by omega) (by decide), rget_n (show 4 * p + q < 64 by omega) (by decide), h1.at rfl, h1.at rfl, l1]
  simp only [nv]
  obtain ⟨M, hM⟩ : ∃ M, FUEL = M + (s.L (4 * p + q)).length + 1 := ⟨99999 - (s.L (4 * p + q)).length, by unfold FUEL; omega⟩
  rw [hM]
  exact c_tally hW hC.c4 hC.c6 (N := (s.L (4 * p + q)).length) (by omega) (s.L (4 * p + q)) 0 _ _ τ (by omega) l3 l2 (fun k hk => List.mem_range.mp (List.mem_filter.mp hk).1) h1 h2 (by show 0 + _ < 1000; omega) M
