/-! PURE: the law's rounds, its end. By hand. -/
section LAW4
variable {L : Nat} {xs : Nat → Int32} {k21 : K2}
theorem nv_e {β : Type} {x : Int32} {k : Int32 → β} : nv x k = k x := by unfold nv; rfl
theorem l_667 {τ : M2} : f_L_law_667 L xs 1 τ = some (1, τ) := by
  unfold f_L_law_667
  exact gdz1
/-- a round -/
theorem l_21 (N : Nat) : ∀ d k, k + d = 20 → ∀ (V : Nat → Nat) (τ : M2), Bt τ V → (∀ q, q < 4 → V q ≤ (k + 3 - q) / 4) → ∃ u : M2, f_L_law_21 L xs (N + d + 1) 1 (nI k) τ = some (1, u) := by
  intro d
  induction d with
  | zero =>
    intro k hk V τ hB hV
    refine ⟨τ, ?_⟩
    rw [f_L_law_21, if_pos (show (20 : Int32) ≤ nI k from nI_le (a := 20) (by omega) (by omega))]
    exact l_667
  | succ d ih =>
    intro k hk V τ hB hV
    obtain ⟨⟨l1, h1⟩, ⟨l2, h2⟩⟩ := hB
    obtain ⟨q, hq, eq⟩ : ∃ q, q < 4 ∧ k % 4 = q := ⟨k % 4, by omega, rfl⟩
    have hVq : V q < 6 := by have := hV q hq; omega
    obtain ⟨z, hz, ez⟩ := dw_nn (L := L) (xs := xs) (nI k)
    obtain ⟨N2, hN2⟩ := fuelN 15 (by omega)
    have h0 : Rm τ.1 V 0 (fun _ => 0) := ⟨h1.1, h1.2.1, h1.2.2.1, fun j hj => absurd hj (Nat.not_lt_zero j)⟩
    obtain ⟨τ', V', b1, b2, b3⟩ := l_66 (L := L) (xs := xs) (k21 := f_L_law_21 L xs (N + d + 1)) (q := q) (k := k) hq (by omega) h2 hVq N2 15 0 0 0 0 z (fun _ => 0) (fun _ => 0) τ.1 (by decide) (by omega) (by omega) (fun h => absurd h (by omega)) hz h0 Ty_0
    obtain ⟨u, g⟩ := ih (k + 1) (by omega) V' τ' b1 (fun x hx => by
      have a := b2 x
      by_cases e : x = q
      · rw [if_pos e] at a
        have := hV q hq
        subst e
        omega
      · rw [if_neg e] at a
        have := hV x hx
        omega)
    refine ⟨u, ?_⟩
    have e4 : nI k - nI k / 4 * 4 = nI q := by rw [← eq]; exact rem_n (d := 4) (by omega) (by decide) (by decide)
    have e1 : nI k + 1 = nI (k + 1) := nI_1 k
    rw [e1] at b3
    rw [show N + (d + 1) + 1 = N + d + 1 + 1 by omega, f_L_law_21, if_neg (show ¬ (20 : Int32) ≤ nI k from nle (a := 20) (by decide) (by omega) (by omega)), if_neg i10]
    rw [nv_e, e4, onO_e (r_vers h1 hq), bd2_some, gd_d (show 0 ≤ nI k from nI_pos' (by omega)), nv_e, ez, hN2, show (0 : Int32) = nI 0 from rfl]
    exact b3.trans g
theorem goal_1 : goal1 := by
  intro L xs hL
  obtain ⟨N, hN⟩ := fuelN 20 (by omega)
  have h0 : Rm sg0 (fun _ => 0) 0 (fun _ => 0) := ⟨rfl, rfl, fun q _ => rfl, fun j hj => absurd hj (Nat.not_lt_zero j)⟩
  obtain ⟨u, hu⟩ := l_21 (L := L) (xs := xs) N 20 0 (by omega) (fun _ => 0) (sg0, sg0) ⟨⟨_, h0⟩, ⟨_, h0⟩⟩ (fun q hq => Nat.zero_le _)
  refine ⟨u, ?_⟩
  unfold f_L_law
  rw [hN, show (0 : Int32) = nI 0 from rfl]
  exact hu
end LAW4
/-- YOUR PART, of the skeleton -/
theorem whole_start {p : Program} {e : Env} {s : State} {m : MethodId} {below : List Frame} {meth : Method} {c : Code} (l : Launch) (hflags : l.flags = flags0) {b L : Nat} {xs : Nat → Int32} (hL : L ≤ 260) (C0 : lw_At p s m meth c b L xs) : W p l e room_1 s m #[Value.ref b] below meth c s.heap [] 0 0 (lw_Z below #[Value.ref b] s) (entryFrame m ([Value.ref b] : List Value).toArray 16) := whole_of goal_1 l hflags hL C0
