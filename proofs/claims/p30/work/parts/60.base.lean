/-! PURE: memories up to what is scratch, small numbers, reads in range. By hand. -/
/-- scratch: rows and scalars that no answer remembers -/
def scr (r k : Nat) : Bool := match r with
  | 0 => true
  | 36 => true
  | 37 => true
  | 38 => true
  | 42 => true
  | 72 => true
  | 73 => true
  | 74 => true
  | 75 => true
  | 76 => decide (k < 5) || (decide (10 ≤ k) && decide (k < 17)) || decide (k = 22)
  | _ => false
def core (σ : Mem) : Mem := fun r k => if scr r k = true then 0 else σ r k
theorem core_at {σ : Mem} {r k : Nat} (h : scr r k = false) : core σ r k = σ r k := by simp [core, h]
theorem core_row {σ : Mem} {r : Nat} (h : ∀ k, scr r k = false) : core σ r = σ r := by funext k; exact core_at (h k)
theorem wr_at {σ : Mem} {r k : Nat} {v : Int32} (q j : Nat) : wr σ r k v q j = if q = r ∧ j = k then v else σ q j := by
  unfold wr
  by_cases h : q = r
  · subst h
    by_cases h2 : j = k
    · simp [upd, h2]
    · simp [upd, h2]
  · simp [h]
theorem core_wr_s {σ : Mem} {r k : Nat} {v : Int32} (h : scr r k = true) : core (wr σ r k v) = core σ := by
  funext q j
  unfold core
  by_cases hs : scr q j = true
  · rw [if_pos hs, if_pos hs]
  · rw [if_neg hs, if_neg hs, wr_at]
    exact if_neg (fun e => hs (by rw [e.1, e.2]; exact h))
theorem core_wr {σ : Mem} {r k : Nat} {v : Int32} (h : scr r k = false) : core (wr σ r k v) = wr (core σ) r k v := by
  funext q j
  rw [wr_at]
  by_cases e : q = r ∧ j = k
  · rw [if_pos e, e.1, e.2, core_at h, wr_at, if_pos ⟨rfl, rfl⟩]
  · rw [if_neg e]
    unfold core
    by_cases hs : scr q j = true
    · rw [if_pos hs, if_pos hs]
    · rw [if_neg hs, if_neg hs, wr_at, if_neg e]
/-- the same but for scratch, and the number of the exception -/
def eqv (σ u : Mem) : Prop := core u = core σ ∧ u 76 22 = σ 76 22
theorem eqv.rfl {σ : Mem} : eqv σ σ := ⟨by rfl, by rfl⟩
theorem eqv.trans {σ τ u : Mem} (h : eqv σ τ) (h2 : eqv τ u) : eqv σ u := ⟨h2.1.trans h.1, h2.2.trans h.2⟩
theorem eqv.at {σ u : Mem} (h : eqv σ u) {r k : Nat} (hs : scr r k = false) : u r k = σ r k := by
  rw [← core_at (σ := u) hs, h.1, core_at hs]
theorem eqv.wr {σ u : Mem} (h : eqv σ u) {r k : Nat} {v : Int32} (hs : scr r k = true) (h22 : (r, k) ≠ (76, 22)) : eqv σ (wr u r k v) := by
  refine ⟨by rw [core_wr_s hs]; exact h.1, ?_⟩
  rw [wr_at, if_neg (fun e => h22 (by rw [e.1, e.2]))]
  exact h.2
-- small numbers
theorem na_nI {n : Nat} (h : n < 2 ^ 31) : Int32.toNatClampNeg (nI n) = n := nI_clamp h
theorem inb_nI {k n : Nat} (h : k < n) (hn : n < 2 ^ 31) : inb (nI k) n = true := by
  have h3 := vp_in_nI h hn
  unfold vp_in at h3
  simp only [inb, Bool.not_eq_true', Bool.or_eq_false_iff, decide_eq_false_iff_not]
  exact ⟨fun h => h3 (Or.inl h), fun h => h3 (Or.inr h)⟩
theorem rl {r : Nat} (h : r < 76) : rlen r < 2 ^ 31 := Nat.lt_trans (rlen_ltB r h) (by decide)
theorem rget_n {r k : Nat} {σ : Mem} (h : k < rlen r) (hr : r < 76) : rget r (nI k) σ = σ r k := by
  unfold rget
  rw [if_pos (inb_nI h (rl hr)), na_nI (Nat.lt_trans h (rl hr))]
theorem ris_n {r k : Nat} {σ : Mem} (h : k < rlen r) (hr : r < 76) : ris r (nI k) σ = if σ r k ≠ 0 then 1 else 0 := by
  unfold ris
  rw [na_nI (Nat.lt_trans h (rl hr)), inb_nI h (rl hr)]
  simp
theorem rset_n {r k : Nat} {v : Int32} {σ : Mem} (h : k < rlen r) (hr : r < 76) : rset r (nI k) v σ = wr σ r k v := by
  unfold rset
  rw [if_pos (inb_nI h (rl hr)), na_nI (Nat.lt_trans h (rl hr))]
theorem radd_n {r k : Nat} {v : Int32} {σ : Mem} (h : k < rlen r) (hr : r < 76) : radd r (nI k) v σ = wr σ r k (σ r k + v) := by
  unfold radd
  rw [if_pos (inb_nI h (rl hr)), na_nI (Nat.lt_trans h (rl hr))]
theorem rput_n {r k : Nat} {v : Int32} {σ : Mem} (h : k < rlen r) (hr : r < 76) : rput r (nI k) v σ = wr σ r k (if v = 0 then 0 else 1) := by
  unfold rput
  rw [if_pos (inb_nI h (rl hr)), na_nI (Nat.lt_trans h (rl hr))]
theorem gd_t {β : Type} {x : Option β} : gd true x = x := by rfl
theorem gd_n {β : Type} {k n : Nat} {x : Option β} (h : k < n) (hn : n < 2 ^ 31) : gd (inb (nI k) n) x = x := by rw [inb_nI h hn, gd_t]
theorem gd_z {β : Type} {v : Int32} {x : Option β} (h : v = 0 ∨ v = 1) : gd (isZ v) x = x := by
  rcases h with rfl | rfl <;> rfl
theorem bd_some {β : Type} {r : Int32} {u : Mem} {k : Int32 → Mem → Option β} : bd (some (r, u)) k = k r u := by rfl
/-- a small number -/
def sm (x : Int32) (n : Nat) : Prop := ∃ k, k ≤ n ∧ x = nI k
theorem sm.eq {x : Int32} {n : Nat} (h : sm x n) (hn : n < 2 ^ 31) : x = nI x.toNatClampNeg ∧ x.toNatClampNeg ≤ n := by
  obtain ⟨k, hk, rfl⟩ := h
  rw [na_nI (by omega)]
  exact ⟨rfl, hk⟩
theorem sm.of {x : Int32} {n : Nat} (h0 : 0 ≤ x.toInt) (h1 : x.toInt ≤ n) (hn : n < 2 ^ 31) : sm x n := by
  refine ⟨x.toInt.toNat, by omega, ?_⟩
  apply Int32.toInt_inj.mp
  rw [nI_toInt (by omega)]
  omega
theorem lt_int (a b : Int32) : a < b ↔ a.toInt < b.toInt := Int32.lt_iff_toInt_lt
theorem le_int (a b : Int32) : a ≤ b ↔ a.toInt ≤ b.toInt := Int32.le_iff_toInt_le
theorem eq_int (a b : Int32) : a = b ↔ a.toInt = b.toInt := Int32.toInt_inj.symm
theorem lit (n : Nat) (h : n < 2 ^ 31) : (nI n).toInt = (n : Int) := nI_toInt h
theorem li (n : Nat) : (OfNat.ofNat n : Int32) = nI n := rfl
theorem b01 (b : Prop) [Decidable b] : (if b then (1 : Int32) else 0) = 0 ∨ (if b then (1 : Int32) else 0) = 1 := by
  by_cases h : b
  · exact Or.inr (if_pos h)
  · exact Or.inl (if_neg h)
