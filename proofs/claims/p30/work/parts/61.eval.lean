/-! PURE: the mark of points by a scheme's text, on both sides one number. By hand. -/
theorem rng {x : Int32} {lo hi : Nat} (hl9 : lo < 2 ^ 31) (hh : hi < 2 ^ 31) (h : nI lo ≤ x ∧ x ≤ nI hi) : ∃ a, lo ≤ a ∧ a ≤ hi ∧ x = nI a := by
  rw [le_int, le_int, lit lo hl9, lit hi hh] at h
  obtain ⟨a, ha, e⟩ := sm.of (x := x) (n := hi) (by omega) h.2 hh
  refine ⟨a, ?_, ha, e⟩
  rw [e, lit a (by omega)] at h
  omega
def un (f : Nat → Nat) (k v : Nat) : Nat → Nat := fun j => if j = k then v else f j
theorem un_s {f : Nat → Nat} {k v : Nat} : un f k v k = v := if_pos rfl
theorem un_n {f : Nat → Nat} {k v j : Nat} (h : j ≠ k) : un f k v j = f j := if_neg h
abbrev St5 : Type := (Nat → Nat) × (Nat → Nat) × (Nat → Nat) × Nat × Nat
/-- one sign of the text: sums, bests, factors by level, the level, the factor -/
def evs (p : Nat) (c : Int32) (s : St5) : St5 :=
  if 49 ≤ c ∧ c ≤ 57 then (s.1, s.2.1, s.2.2.1, s.2.2.2.1, (c - 48).toNatClampNeg)
  else if 97 ≤ c ∧ c ≤ 104 then (un s.1 s.2.2.2.1 (s.1 s.2.2.2.1 + s.2.2.2.2 * (p / 2 ^ (c - 97).toNatClampNeg % 2)), s.2.1, s.2.2.1, s.2.2.2.1, s.2.2.2.2)
  else if c = 40 then (un s.1 (s.2.2.2.1 + 1) 0, un s.2.1 (s.2.2.2.1 + 1) 0, un s.2.2.1 (s.2.2.2.1 + 1) s.2.2.2.2, s.2.2.2.1 + 1, s.2.2.2.2)
  else if c = 124 then (un s.1 s.2.2.2.1 0, un s.2.1 s.2.2.2.1 (max (s.2.1 s.2.2.2.1) (s.1 s.2.2.2.1)), s.2.2.1, s.2.2.2.1, s.2.2.2.2)
  else if c = 41 then (un (un s.1 s.2.2.2.1 0) (s.2.2.2.1 - 1) (s.1 (s.2.2.2.1 - 1) + s.2.2.1 s.2.2.2.1 * max (s.2.1 s.2.2.2.1) (s.1 s.2.2.2.1)), un s.2.1 s.2.2.2.1 (max (s.2.1 s.2.2.2.1) (s.1 s.2.2.2.1)), s.2.2.1, s.2.2.2.1 - 1, s.2.2.2.2)
  else s
def ev (p : Nat) (w : Nat → Int32) : Nat → St5
  | 0 => (fun _ => 0, fun _ => 0, fun _ => 1, 0, 1)
  | k + 1 => evs p (w k) (ev p w k)
/-- the level alone -/
def dep (w : Nat → Int32) : Nat → Nat
  | 0 => 0
  | k + 1 => if w k = 40 then dep w k + 1 else if w k = 41 then dep w k - 1 else dep w k
theorem ev_dep (p : Nat) (w : Nat → Int32) : ∀ k, (ev p w k).2.2.2.1 = dep w k := by
  intro k
  induction k with
  | zero => rfl
  | succ k ih =>
    show (evs p (w k) (ev p w k)).2.2.2.1 = dep w (k + 1)
    unfold evs dep
    by_cases h1 : 49 ≤ w k ∧ w k ≤ 57
    · have a : w k ≠ 40 := fun e => by rw [e] at h1; exact absurd h1.1 (by decide)
      have b : w k ≠ 41 := fun e => by rw [e] at h1; exact absurd h1.1 (by decide)
      rw [if_pos h1, if_neg a, if_neg b]; exact ih
    · rw [if_neg h1]
      by_cases h2 : 97 ≤ w k ∧ w k ≤ 104
      · have a : w k ≠ 40 := fun e => by rw [e] at h2; exact absurd h2.1 (by decide)
        have b : w k ≠ 41 := fun e => by rw [e] at h2; exact absurd h2.1 (by decide)
        rw [if_pos h2, if_neg a, if_neg b]; exact ih
      · rw [if_neg h2]
        by_cases h3 : w k = 40
        · rw [if_pos h3, if_pos h3]; show _ + 1 = _; rw [ih]
        · rw [if_neg h3, if_neg h3]
          by_cases h4 : w k = 124
          · have b : w k ≠ 41 := fun e => by rw [e] at h4; exact absurd h4 (by decide)
            rw [if_pos h4, if_neg b]; exact ih
          · rw [if_neg h4]
            by_cases h5 : w k = 41
            · rw [if_pos h5, if_pos h5]; show _ - 1 = _; rw [ih]
            · rw [if_neg h5, if_neg h5]; exact ih
/-- a body of m signs that may stand in a scheme -/
def WFb (w : Nat → Int32) (m : Nat) : Prop := ∀ k, k < m → w k ≠ 60 ∧ w k ≠ 48 ∧ (w k = 40 → dep w k ≤ 3) ∧ ((w k = 41 ∨ w k = 124) → 1 ≤ dep w k)
theorem dep_le {w : Nat → Int32} {m : Nat} (h : WFb w m) : ∀ k, k ≤ m → dep w k ≤ 4 := by
  intro k
  induction k with
  | zero => intro _; exact Nat.zero_le _
  | succ k ih =>
    intro hk
    have i1 := ih (by omega)
    have i2 := (h k (by omega)).2.2.1
    unfold dep
    by_cases h3 : w k = 40
    · rw [if_pos h3]; have := i2 h3; omega
    · rw [if_neg h3]
      by_cases h5 : w k = 41
      · rw [if_pos h5]; omega
      · rw [if_neg h5]; exact i1
/-- a potential that bounds every sum -/
def phi (S B : Nat → Nat) : Nat → Nat
  | 0 => S 0 + B 0
  | d + 1 => phi S B d + 9 ^ (d + 1) * (S (d + 1) + B (d + 1))
theorem phi_cong {S B S' B' : Nat → Nat} : ∀ d, (∀ l, l ≤ d → S l = S' l ∧ B l = B' l) → phi S B d = phi S' B' d := by
  intro d
  induction d with
  | zero => intro h; unfold phi; rw [(h 0 (Nat.le_refl _)).1, (h 0 (Nat.le_refl _)).2]
  | succ d ih => intro h; unfold phi; rw [ih (fun l hl => h l (by omega)), (h (d + 1) (Nat.le_refl _)).1, (h (d + 1) (Nat.le_refl _)).2]
theorem phi_ge {S B : Nat → Nat} : ∀ d l, l ≤ d → S l + B l ≤ phi S B d := by
  intro d
  induction d with
  | zero => intro l hl; have : l = 0 := by omega
            subst this; exact Nat.le_refl _
  | succ d ih =>
    intro l hl
    unfold phi
    by_cases h : l = d + 1
    · subst h
      have : 1 * (S (d + 1) + B (d + 1)) ≤ 9 ^ (d + 1) * (S (d + 1) + B (d + 1)) := Nat.mul_le_mul_right _ (Nat.le_trans Nat.one_le_two_pow (Nat.pow_le_pow_left (by decide : 2 ≤ 9) (d + 1)))
      omega
    · have := ih l (by omega); omega
/-- one level changed -/
theorem phi_up {S B S' B' : Nat → Nat} {d : Nat} (e : Nat) (h : ∀ l, l < d → S l = S' l ∧ B l = B' l) (hd : S' d + B' d ≤ S d + B d + e) : phi S' B' d ≤ phi S B d + 9 ^ d * e := by
  cases d with
  | zero => unfold phi; simp; omega
  | succ d =>
    unfold phi
    rw [phi_cong d (fun l hl => h l (by omega))]
    have : 9 ^ (d + 1) * (S' (d + 1) + B' (d + 1)) ≤ 9 ^ (d + 1) * (S (d + 1) + B (d + 1) + e) := Nat.mul_le_mul_left _ hd
    rw [Nat.mul_add (9 ^ (d + 1)) (S (d + 1) + B (d + 1)) e] at this
    rw [Nat.add_assoc]
    exact Nat.add_le_add_left this _
def evInv (s : St5) (k : Nat) : Prop := phi s.1 s.2.1 s.2.2.2.1 ≤ 59049 * k ∧ s.2.2.2.2 ≤ 9 ∧ ∀ l, l ≤ s.2.2.2.1 → s.2.2.1 l ≤ 9
theorem ev_inv {w : Nat → Int32} {m : Nat} (p : Nat) (h : WFb w m) : ∀ k, k ≤ m → evInv (ev p w k) k := by
  intro k
  induction k with
  | zero => intro _; exact ⟨by show 0 + 0 ≤ 59049 * 0; decide, by show 1 ≤ 9; decide, fun l _ => by show 1 ≤ 9; decide⟩
  | succ k ih =>
    intro hk
    obtain ⟨i1, i2, i3⟩ := ih (by omega)
    obtain ⟨-, h48, h40, h41⟩ := h k (by omega)
    have hd4 := dep_le h k (by omega)
    rw [← ev_dep p w k] at h40 h41 hd4
    show evInv (evs p (w k) (ev p w k)) (k + 1)
    generalize ev p w k = s at i1 i2 i3 h40 h41 hd4 ⊢
    obtain ⟨S, B, F, d, f⟩ := s
    dsimp only at i1 i2 i3 h40 h41 hd4
    unfold evs
    dsimp only
    by_cases h1 : 49 ≤ w k ∧ w k ≤ 57
    · rw [if_pos h1]
      refine ⟨by show phi S B d ≤ _; omega, ?_, i3⟩
      show (w k - 48).toNatClampNeg ≤ 9
      obtain ⟨a, ha49, ha, e⟩ := rng (lo := 49) (hi := 57) (by decide) (by decide) h1
      rw [e, show (48 : Int32) = nI 48 from rfl, pk_sub (by omega), na_nI (by omega)]
      omega
    · rw [if_neg h1]
      by_cases h2 : 97 ≤ w k ∧ w k ≤ 104
      · rw [if_pos h2]
        refine ⟨?_, i2, i3⟩
        show phi (un S d _) B d ≤ _
        have hb : f * (p / 2 ^ (w k - 97).toNatClampNeg % 2) ≤ 9 := by
          have : p / 2 ^ (w k - 97).toNatClampNeg % 2 ≤ 1 := by omega
          calc f * (p / 2 ^ (w k - 97).toNatClampNeg % 2) ≤ 9 * 1 := Nat.mul_le_mul i2 this
            _ = 9 := rfl
        have := phi_up (S := S) (B := B) (S' := un S d (S d + f * (p / 2 ^ (w k - 97).toNatClampNeg % 2))) (B' := B) (d := d) 9 (fun l hl => ⟨(un_n (by omega)).symm, rfl⟩) (by rw [un_s]; omega)
        have h9 : 9 ^ d * 9 ≤ 59049 := by
          calc 9 ^ d * 9 ≤ 9 ^ 4 * 9 := Nat.mul_le_mul_right _ (Nat.pow_le_pow_right (by decide) hd4)
            _ = 59049 := by decide
        omega
      · rw [if_neg h2]
        by_cases h3 : w k = 40
        · rw [if_pos h3]
          refine ⟨?_, i2, fun l hl => ?_⟩
          · show phi (un S (d + 1) 0) (un B (d + 1) 0) (d + 1) ≤ _
            unfold phi
            rw [un_s, un_s, phi_cong (S' := S) (B' := B) d (fun l hl => ⟨un_n (by omega), un_n (by omega)⟩)]
            omega
          · show un F (d + 1) f l ≤ 9
            by_cases e : l = d + 1
            · rw [e, un_s]; exact i2
            · rw [un_n e]; exact i3 l (by have : l ≤ d + 1 := hl
                                          omega)
        · rw [if_neg h3]
          by_cases h4 : w k = 124
          · rw [if_pos h4]
            refine ⟨?_, i2, i3⟩
            show phi (un S d 0) (un B d (max (B d) (S d))) d ≤ _
            have := phi_up (S := S) (B := B) (S' := un S d 0) (B' := un B d (max (B d) (S d))) (d := d) 0 (fun l hl => ⟨(un_n (by omega)).symm, (un_n (by omega)).symm⟩) (by rw [un_s, un_s]; omega)
            omega
          · rw [if_neg h4]
            by_cases h5 : w k = 41
            · rw [if_pos h5]
              have hd1 := h41 (Or.inl h5)
              obtain ⟨e, rfl⟩ : ∃ e, d = e + 1 := ⟨d - 1, by omega⟩
              refine ⟨?_, i2, fun l hl => i3 l (by have : l ≤ e + 1 - 1 := hl
                                                   omega)⟩
              show phi (un (un S (e + 1) 0) (e + 1 - 1) (S (e + 1 - 1) + F (e + 1) * max (B (e + 1)) (S (e + 1)))) (un B (e + 1) (max (B (e + 1)) (S (e + 1)))) (e + 1 - 1) ≤ _
              rw [Nat.add_sub_cancel]
              have hm : F (e + 1) * max (B (e + 1)) (S (e + 1)) ≤ 9 * (S (e + 1) + B (e + 1)) := Nat.mul_le_mul (i3 _ (Nat.le_refl _)) (by omega)
              have := phi_up (S := S) (B := B) (S' := un (un S (e + 1) 0) e (S e + F (e + 1) * max (B (e + 1)) (S (e + 1)))) (B' := un B (e + 1) (max (B (e + 1)) (S (e + 1)))) (d := e) (9 * (S (e + 1) + B (e + 1))) (fun l hl => ⟨by rw [un_n (by omega), un_n (by omega)], (un_n (by omega)).symm⟩) (by rw [un_s, un_n (by omega)]; omega)
              have h9 : 9 ^ e * (9 * (S (e + 1) + B (e + 1))) = 9 ^ (e + 1) * (S (e + 1) + B (e + 1)) := by rw [← Nat.mul_assoc, Nat.pow_succ]
              unfold phi at i1
              omega
            · rw [if_neg h5]
              exact ⟨by show phi S B d ≤ _; omega, i2, i3⟩
theorem ev_small {w : Nat → Int32} {m : Nat} (p : Nat) (h : WFb w m) (hm : m ≤ 80) {k : Nat} (hk : k ≤ m) {l : Nat} (hl : l ≤ dep w k) : (ev p w k).1 l < 2 ^ 30 ∧ (ev p w k).2.1 l < 2 ^ 30 := by
  have hi := (ev_inv p h k hk).1
  have := phi_ge (S := (ev p w k).1) (B := (ev p w k).2.1) (ev p w k).2.2.2.1 l (by rw [ev_dep]; exact hl)
  have : 59049 * k ≤ 59049 * 80 := Nat.mul_le_mul_left _ (by omega)
  omega
/-- the mark -/
def mk9 (p : Nat) (w : Nat → Int32) (m most : Nat) : Nat := min ((ev p w m).1 0) most
