/-! THE WORLD OF ONE ROOM: one list of 95 cells; a memory is a function of row and place. Cell i < 9: the object of class cl i of vwCl; 9 + r: the Row object r; 52 + r: the array r. Row 76 of a memory: the scalars. Printed by wip/p30/gen/world.py -/
abbrev vwCl : List vw_C := [(RX0, TX0, 6), (RX1, TX1, 2), (RX2, TX2, 12), (RX3, TX3, 7), (RX4, TX4, 13), (RX5, TX5, 1), (RX6, TX6, 8), (RX7, TX7, 3), (RX8, TX8, 7), (RX9, TX9, 15)]
abbrev Mem : Type := Nat → Nat → Int32
def wr (σ : Mem) (r k : Nat) (v : Int32) : Mem := fun q => if q = r then upd (σ r) k v else σ q
abbrev Geo : Type := (Nat → Nat) × (ClassId × ClassId × ClassId) × va_G
def gok (G : Geo) : Prop := ∀ i j : Nat, i < 95 → j < 95 → G.1 i = G.1 j → i = j
def cl (i : Nat) : Nat := if i = 5 then 9 else i
def flds (i : Nat) : List (Nat ⊕ Nat) := match i with
  | 0 => [.inl 9, .inr 0, .inr 1, .inr 2, .inr 3, .inr 4]
  | 1 => [.inl 10, .inr 5]
  | 2 => [.inr 6, .inl 11, .inl 12, .inl 13, .inl 14, .inl 15, .inl 16, .inl 17, .inl 18, .inl 19, .inl 20, .inl 21]
  | 3 => [.inr 7, .inl 22, .inl 23, .inl 24, .inl 25, .inl 26, .inl 27]
  | 4 => [.inr 8, .inl 28, .inl 29, .inl 30, .inl 31, .inl 32, .inl 33, .inl 34, .inl 35, .inl 36, .inl 37, .inl 38, .inl 39]
  | 6 => [.inl 40, .inl 41, .inl 42, .inl 43, .inl 44, .inl 45, .inl 46, .inl 47]
  | 7 => [.inr 9, .inl 48, .inl 49]
  | 8 => [.inr 10, .inr 11, .inr 12, .inr 13, .inr 14, .inr 15, .inr 16]
  | 5 => [.inl 1, .inl 0, .inl 6, .inl 3, .inl 4, .inl 7, .inl 2, .inl 8, .inl 50, .inl 51, .inr 17, .inr 18, .inr 19, .inr 20, .inr 21]
  | 10 => []
  | _ => []
/-- where a scalar lies -/
def owS (j : Nat) : Nat × Nat := match j with
  | 0 => (0, 1)
  | 1 => (0, 2)
  | 2 => (0, 3)
  | 3 => (0, 4)
  | 4 => (0, 5)
  | 5 => (1, 1)
  | 6 => (2, 0)
  | 7 => (3, 0)
  | 8 => (4, 0)
  | 9 => (7, 0)
  | 10 => (8, 0)
  | 11 => (8, 1)
  | 12 => (8, 2)
  | 13 => (8, 3)
  | 14 => (8, 4)
  | 15 => (8, 5)
  | 16 => (8, 6)
  | 17 => (5, 10)
  | 18 => (5, 11)
  | 19 => (5, 12)
  | 20 => (5, 13)
  | 21 => (5, 14)
  | _ => (99, 99)
def rlen (r : Nat) : Nat := match r with
  | 0 => 80
  | 1 => 40
  | 2 => 300
  | 3 => 300
  | 4 => 300
  | 5 => 300
  | 6 => 300
  | 7 => 300
  | 8 => 300
  | 9 => 300
  | 10 => 64
  | 11 => 64
  | 12 => 64
  | 13 => 16
  | 14 => 16
  | 15 => 16
  | 16 => 16
  | 17 => 16
  | 18 => 16
  | 19 => 6
  | 20 => 6
  | 21 => 6
  | 22 => 6
  | 23 => 6
  | 24 => 6
  | 25 => 6
  | 26 => 6
  | 27 => 6
  | 28 => 6
  | 29 => 6
  | 30 => 6
  | 31 => 4
  | 32 => 1920
  | 33 => 24
  | 34 => 24
  | 35 => 24
  | 36 => 5
  | 37 => 5
  | 38 => 5
  | 39 => 8
  | 40 => 8
  | 41 => 4
  | 42 => 16
  | _ => 0
def rA (G : Geo) (_ : Nat) : ClassId := G.2.1.1
def fval (G : Geo) (σ : Mem) (q : Nat ⊕ Nat) : Value := match q with
  | .inl k => .ref (G.1 k)
  | .inr j => .int (σ 76 j)
def cellAt (G : Geo) (σ : Mem) (_ : Int64) (i : Nat) : va_E :=
  if i < 9 then .inr (cl i, (flds i).map (fval G σ))
  else if i < 52 then .inr (5, [.ref (G.1 (i + 43))])
  else .inl (rA G (i - 52), rlen (i - 52), .inl (σ (i - 52)))
def Wl (G : Geo) (σ : Mem) (o : Int64) : va_W := (List.range 95).map (fun i => (G.1 i, cellAt G σ o i))
def tysG (G : Geo) : List (ClassId × FieldType) := [(G.2.1.1, .int)]
theorem Wl_at {G : Geo} {σ : Mem} {o : Int64} {i : Nat} (h : i < 95) : (Wl G σ o)[i]? = some (G.1 i, cellAt G σ o i) := by
  simp [Wl, h]
theorem Wl_len {G : Geo} {σ : Mem} {o : Int64} : (Wl G σ o).length = 95 := by simp [Wl]
theorem cell_obj {G : Geo} {σ : Mem} {o : Int64} {i : Nat} (h : i < 9) : cellAt G σ o i = .inr (cl i, (flds i).map (fval G σ)) := by
  simp [cellAt, h]
theorem cell_row {G : Geo} {σ : Mem} {o : Int64} {r : Nat} (h : r < 43) : cellAt G σ o (9 + r) = .inr (5, [.ref (G.1 (52 + r))]) := by
  have h1 : ¬ 9 + r < 9 := by omega
  have h2 : 9 + r < 52 := by omega
  have h3 : 9 + r + 43 = 52 + r := by omega
  simp [cellAt, h1, h2, h3]
theorem cell_arr {G : Geo} {σ : Mem} {o : Int64} {r : Nat} (_ : r < 43) : cellAt G σ o (52 + r) = .inl (rA G r, rlen r, .inl (σ r)) := by
  have h1 : ¬ 52 + r < 9 := by omega
  have h2 : ¬ 52 + r < 52 := by omega
  have h3 : 52 + r - 52 = r := by omega
  simp [cellAt, h1, h2, h3]
theorem at_obj {G : Geo} {σ : Mem} {o : Int64} {i : Nat} (h : i < 9) : (Wl G σ o)[i]? = some (G.1 i, .inr (cl i, (flds i).map (fval G σ))) := by
  rw [Wl_at (by omega), cell_obj h]
theorem at_row {G : Geo} {σ : Mem} {o : Int64} {r : Nat} (h : r < 43) : (Wl G σ o)[9 + r]? = some (G.1 (9 + r), .inr (5, [.ref (G.1 (52 + r))])) := by
  rw [Wl_at (by omega), cell_row h]
theorem at_arr {G : Geo} {σ : Mem} {o : Int64} {r : Nat} (h : r < 43) : (Wl G σ o)[52 + r]? = some (G.1 (52 + r), .inl (rA G r, rlen r, .inl (σ r))) := by
  rw [Wl_at (by omega), cell_arr h]
theorem wr_same {σ : Mem} {r k : Nat} {v : Int32} : wr σ r k v r = upd (σ r) k v := by simp [wr]
theorem wr_ne {σ : Mem} {r k q : Nat} {v : Int32} (h : q ≠ r) : wr σ r k v q = σ q := by simp [wr, h]
theorem Wl_ext {G : Geo} {σ : Mem} {o : Int64} {p : Nat} {e : va_E} {τ : Mem} {o' : Int64} (hp : p < 95) (he : cellAt G τ o' p = e) (hn : ∀ i, i < 95 → i ≠ p → cellAt G τ o' i = cellAt G σ o i) :
    (Wl G σ o).set p (G.1 p, e) = Wl G τ o' := by
  apply List.ext_getElem?
  intro i
  by_cases hi : i < 95
  · by_cases hip : i = p
    · subst hip
      rw [List.getElem?_set_self (by rw [Wl_len]; exact hi), Wl_at hi, he]
    · rw [List.getElem?_set_ne (Ne.symm hip), Wl_at hi, Wl_at hi, hn i hi hip]
  · rw [List.getElem?_eq_none (by rw [List.length_set, Wl_len]; omega), List.getElem?_eq_none (by rw [Wl_len]; omega)]
theorem fval_wr {G : Geo} {σ : Mem} {r k : Nat} {v : Int32} (h : r ≠ 76) : fval G (wr σ r k v) = fval G σ := by
  funext q
  cases q with
  | inl a => rfl
  | inr j => simp [fval, wr_ne (Ne.symm h)]
theorem Wl_set_arr {G : Geo} {σ : Mem} {o : Int64} {r k : Nat} {v : Int32} (h : r < 43) : (Wl G σ o).set (52 + r) (G.1 (52 + r), .inl (rA G r, rlen r, .inl (upd (σ r) k v))) = Wl G (wr σ r k v) o := by
  refine Wl_ext (by omega) (by rw [cell_arr h, wr_same]) (fun i hi hne => ?_)
  unfold cellAt
  rw [fval_wr (by omega)]
  by_cases h1 : i < 9
  · simp only [if_pos h1]
  · rw [if_neg h1, if_neg h1]
    by_cases h2 : i < 52
    · rw [if_pos h2, if_pos h2]
    · rw [if_neg h2, if_neg h2, wr_ne (by omega)]
theorem flds_owB : ∀ i, i < 9 → (List.range 41).all (fun p => match (flds i)[p]? with | some (.inr j) => decide (owS j = (i, p)) | _ => true) = true := by decide +kernel
theorem flds_ow : ∀ i, i < 9 → ∀ p, p < 41 → ∀ j, j < 30 → (flds i)[p]? = some (.inr j) → owS j = (i, p) := by
  intro i hi p hp j _ hj
  have h := List.all_eq_true.mp (flds_owB i hi) p (List.mem_range.mpr hp)
  rw [hj] at h
  simpa using h
theorem flds_lt : ∀ i, i < 9 → (flds i).length ≤ 41 := by decide +kernel
theorem flds_sc : ∀ i, i < 9 → ∀ p, p < 41 → ∀ j, (flds i)[p]? = some (.inr j) → j < 30 := by
  have h : ∀ i, i < 9 → (flds i).all (fun q => match q with | .inl _ => true | .inr j => decide (j < 30)) = true := by decide +kernel
  intro i hi p _ j hj
  have h2 := List.all_eq_true.mp (h i hi) _ (List.mem_of_getElem? hj)
  simpa using h2
theorem Wl_set_fld {G : Geo} {σ : Mem} {o : Int64} {i p j : Nat} {v : Int32} (hi : i < 9) (hp : (flds i)[p]? = some (.inr j)) : (Wl G σ o).set i (G.1 i, .inr (cl i, ((flds i).map (fval G σ)).set p (.int v))) = Wl G (wr σ 76 j v) o := by
  have hpl : p < (flds i).length := (List.getElem?_eq_some_iff.mp hp).1
  have hp41 : p < 41 := Nat.lt_of_lt_of_le hpl (flds_lt i hi)
  have hj := flds_sc i hi p hp41 j hp
  have how := flds_ow i hi p hp41 j hj hp
  have key : ∀ i2, i2 < 9 → ∀ p2 j2, (flds i2)[p2]? = some (.inr j2) → j2 = j → i2 = i ∧ p2 = p := by
    intro i2 hi2 p2 j2 h2 e
    subst e
    have hl2 := (List.getElem?_eq_some_iff.mp h2).1
    have := flds_ow i2 hi2 p2 (Nat.lt_of_lt_of_le hl2 (flds_lt i2 hi2)) j2 hj h2
    rw [how] at this
    exact ⟨(congrArg Prod.fst this).symm, (congrArg Prod.snd this).symm⟩
  have val : ∀ i2, i2 < 9 → ∀ p2, (i2 ≠ i ∨ p2 ≠ p) → ((flds i2)[p2]?).map (fval G (wr σ 76 j v)) = ((flds i2)[p2]?).map (fval G σ) := by
    intro i2 hi2 p2 hne
    cases h2 : (flds i2)[p2]? with
    | none => rfl
    | some q =>
      cases q with
      | inl a => rfl
      | inr j2 =>
        have hj2 : j2 ≠ j := fun e => by
          have := key i2 hi2 p2 j2 h2 e
          rcases hne with h | h
          · exact h this.1
          · exact h this.2
        simp [fval, wr_same, upd, hj2]
  refine Wl_ext (by omega) ?_ (fun i2 hi2 hne => ?_)
  · rw [cell_obj hi]
    refine congrArg _ (congrArg _ ?_)
    apply List.ext_getElem?
    intro p2
    by_cases e : p2 = p
    · subst e
      rw [List.getElem?_set_self (by simpa using hpl), List.getElem?_map, hp]
      simp [fval, wr_same, upd]
    · rw [List.getElem?_set_ne (Ne.symm e), List.getElem?_map, List.getElem?_map]
      exact val i hi p2 (Or.inr e)
  · unfold cellAt
    by_cases h1 : i2 < 9
    · rw [if_pos h1, if_pos h1]
      refine congrArg _ (congrArg _ ?_)
      apply List.ext_getElem?
      intro p2
      rw [List.getElem?_map, List.getElem?_map]
      exact val i2 h1 p2 (Or.inl hne)
    · rw [if_neg h1, if_neg h1]
      by_cases h2 : i2 < 52
      · rw [if_pos h2, if_pos h2]
      · rw [if_neg h2, if_neg h2, wr_ne (by omega)]
theorem Wl_D {G : Geo} {σ : Mem} {o : Int64} {A : Nat → Prop} (h : gok G) (hA : ∀ i, i < 95 → A (G.1 i)) : va_D A (Wl G σ o) := by
  have key : ∀ (i : Nat) (p : Nat × va_E), (Wl G σ o)[i]? = some p → i < 95 ∧ p.1 = G.1 i := by
    intro i p hp
    have hi : i < 95 := by have := (List.getElem?_eq_some_iff.mp hp).1; rwa [Wl_len] at this
    rw [Wl_at hi] at hp
    exact ⟨hi, by rw [← Option.some.inj hp]⟩
  refine ⟨fun i j p q hp hq e => ?_, fun i p hp => ?_⟩
  · obtain ⟨hi, e1⟩ := key i p hp
    obtain ⟨hj, e2⟩ := key j q hq
    exact h i j hi hj (by rw [← e1, ← e2, e])
  · obtain ⟨hi, e1⟩ := key i p hp
    rw [e1]
    exact hA i hi
/-- what a method may write: the world's cells, and new ones -/
def wA (G : Geo) (sz : Nat) : Nat → Prop := fun q => (∃ i, i < 95 ∧ q = G.1 i) ∨ sz ≤ q
/-- the nest's link that the class's own words don't hold -/
def wN (_ : State) : Prop := True
def wK (G : Geo) (U : State) : Prop := va_K G.2.2 vwCl (tysG G) U ∧ wN U
def wPc (G : Geo) (sz : Nat) (σ : Mem) (o : Int64) : State → Prop := fun U => U.heap.size = sz ∧ va_P G.2.2 vwCl (Wl G σ o) U.heap ∧ wK G U
def wB (G : Geo) (o : Int64) (u : Mem) (t : State) : Prop := va_P G.2.2 vwCl (Wl G u o) t.heap
