/-! PURE: marks apart. By hand. -/
theorem sub_i {x y : Nat} (hx : x < 1000) (hy : y < 1000) : (nI x - nI y).toInt = (x : Int) - y := by
  rw [Int32.toInt_sub, nI_toInt (by omega), nI_toInt (by omega)]
  unfold Int.bmod
  dsimp only
  split <;> omega
def apt (t x y : Nat) : Prop := t < x - y ∨ t < y - x
theorem c_apart {σ : Mem} {x y t : Nat} (hx : x < 1000) (hy : y < 1000) (ht : t < 1000) : (apt t x y ∧ f_X9_areApart (nI x) (nI y) (nI t) σ = some (1, σ)) ∨ (¬ apt t x y ∧ f_X9_areApart (nI x) (nI y) (nI t) σ = some (0, σ)) := by
  unfold f_X9_areApart f_X9_areApart_14 f_X9_areApart_19 apt
  have l1 : (nI t < nI x - nI y) ↔ t < x - y := by rw [lt_int, sub_i hx hy, nI_toInt (by omega)]; omega
  have l2 : (nI y - nI x ≤ nI t) ↔ ¬ t < y - x := by rw [le_int, sub_i hy hx, nI_toInt (by omega)]; omega
  by_cases h1 : t < x - y
  · rw [if_pos (l1.mpr h1), gdz1]
    exact Or.inl ⟨Or.inl h1, rfl⟩
  · rw [if_neg (fun h => h1 (l1.mp h))]
    by_cases h2 : t < y - x
    · rw [if_neg (fun h => l2.mp h h2), gdz1]
      exact Or.inl ⟨Or.inr h2, rfl⟩
    · rw [if_pos (l2.mpr h2), gdz0]
      exact Or.inr ⟨fun h => h.elim h1 h2, rfl⟩
theorem m_apart {σ : Mem} {x y : Nat} (hx : x < 1000) (hy : y < 1000) : f_X10_apart (nI x) (nI y) σ = some (nI (x - y + (y - x)), σ) := by
  unfold f_X10_apart f_X10_apart_14
  by_cases h : x ≤ y
  · rw [if_pos ((nI_leI (by omega) (by omega)).mpr h), pk_sub h, show x - y + (y - x) = y - x by omega]
  · rw [if_neg (nle (by omega) (by omega) (by omega)), pk_sub (by omega), show x - y + (y - x) = x - y by omega]
theorem apt_iff {t x y : Nat} : apt t x y ↔ ¬ x - y + (y - x) ≤ t := by unfold apt; omega
