/-! PURE: both hold the same state at the start. By hand. -/
def s00 : A := fun i _ => if i = 28 then 1 else 0
theorem WF00 : WF s00 := by
  unfold WF
  repeat' apply And.intro
  all_goals first
    | exact Nat.le_of_ble_eq_true rfl
    | (intro k hk; exact absurd hk (Nat.not_lt_zero k))
    | (intro k hk; exact Nat.zero_le _)
    | (intro k hk; exact Nat.le_of_ble_eq_true rfl)
    | (intro k h1 h2; exact ⟨rfl, rfl, rfl⟩)
    | (intro k h1 h2; exact ⟨rfl, rfl, rfl, rfl⟩)
    | (intro k h1 h2; rfl)
    | (intro q v h1 h2; exact absurd h2 (Nat.not_lt_zero v))
    | (intro k h; exact absurd h (Nat.not_lt_zero k))
theorem C00 : RelC sg0 s00 := by
  refine ⟨⟨rfl, ?_⟩, ⟨rfl, ?_, ?_⟩, ⟨?_, ?_⟩, ⟨rfl, ?_, ?_⟩, ⟨rfl, ?_, ?_, rfl, rfl, rfl, rfl, rfl⟩, ⟨rfl, ?_, ?_, ?_⟩, ?_⟩
  · intro j hj; exact absurd hj (Nat.not_lt_zero j)
  · intro j hj; exact absurd hj (Nat.not_lt_zero j)
  · intro k hk; exact ⟨rfl, rfl⟩
  · intro q hq; rfl
  · intro q v hq hv; exact absurd hv (Nat.not_lt_zero v)
  · intro j hj; exact absurd hj (Nat.not_lt_zero j)
  · intro r hr; exact ⟨rfl, rfl, rfl, fun _ => rfl⟩
  · intro j hj; exact absurd hj (Nat.not_lt_zero j)
  · intro q hq; rfl
  · intro j hj; exact absurd hj (Nat.not_lt_zero j)
  · intro k hk; rfl
  · intro r hr; exact ⟨rfl, rfl⟩
  · intro a ha; exact ⟨rfl, trivial, fun k h => (by cases h), fun k h => (by cases h)⟩
theorem rel9_at : ∀ k, k < 16 → rel9 16 k = -1 := by decide
theorem M00 : RelM sg0 s00 := by
  refine ⟨⟨rfl, ?_⟩, ⟨rfl, ?_, ?_⟩, ⟨?_, ?_⟩, ⟨rfl, ?_, ?_⟩, ⟨rfl, ?_, ?_, rfl, rfl, rfl, rfl, rfl⟩, ⟨rfl, ?_, ?_⟩⟩
  · intro j hj; exact absurd hj (Nat.not_lt_zero j)
  · intro j hj; exact absurd hj (Nat.not_lt_zero j)
  · intro k hk
    refine ⟨rfl, ?_, ?_⟩
    · show rel9 16 k = _
      rw [rel9_at k hk]; rfl
    · intro q hq
      show (0 : Int32) = nI (0 / 2 ^ q % 2)
      rw [Nat.zero_div]; rfl
  · intro q hq; rfl
  · intro q v hq hv; exact absurd hv (Nat.not_lt_zero v)
  · intro j hj; exact absurd hj (Nat.not_lt_zero j)
  · intro r hr; exact ⟨rfl, rfl, rfl, fun _ => rfl⟩
  · intro j hj; exact absurd hj (Nat.not_lt_zero j)
  · intro q hq; rfl
  · intro j hj; exact absurd hj (Nat.not_lt_zero j)
  · intro k hk; rfl
theorem Inv9_0 : Inv9 sg0 := ⟨s00, WF00, C00, M00⟩
