/-! PURE: the class's tally against the counting readings. By hand. -/
theorem mkr_le {s : A} (hW : WF s) {k : Nat} (hk : k < s.n) : s.mkr k ≤ 99 := by
  obtain ⟨ha, hv⟩ := hW.ans k hk
  have t := (hW.T (s.ans k % 4) (s.V (s.ans k % 4) - 1) (by omega) (by omega)).1.most
  unfold A.mkr
  rw [at9_e hv]
  exact mk9_le t
theorem nm1 {x : Nat} (h : x < 2 ^ 31) : nI x ≠ -1 := by
  intro e
  have := congrArg Int32.toInt e
  rw [nI_toInt h] at this
  have z : (-1 : Int32).toInt = -1 := rfl
  omega
/-- the mark at a place of a list of readings; of the first by a senior from the third on -/
def A.wl (s : A) (o : Option Nat) : Int32 := match o with
  | some j => nI (s.mkr j)
  | none => -1
def A.thr (s : A) (l : List Nat) : Option Nat := (l.drop 2).find? (fun j => decide (s.sen (s.rby j) ≠ 0))
theorem get_snoc (l : List Nat) (k i : Nat) : (l ++ [k])[i]? = if l.length = i then some k else l[i]? := by
  rw [List.getElem?_append]
  by_cases h : i < l.length
  · rw [if_pos h, if_neg (by omega)]
  · rw [if_neg h]
    by_cases e : l.length = i
    · rw [if_pos e, e, Nat.sub_self]; rfl
    · rw [if_neg e, List.getElem?_eq_none (l := [k]) (by rw [List.length_singleton]; omega), List.getElem?_eq_none (l := l) (by omega)]
theorem thr_snoc (s : A) (l : List Nat) (k : Nat) : s.thr (l ++ [k]) = if 2 ≤ l.length ∧ s.sen (s.rby k) ≠ 0 ∧ s.thr l = none then some k else s.thr l := by
  unfold A.thr
  by_cases h : 2 ≤ l.length
  · rw [List.drop_append_of_le_length h, List.find?_append]
    cases e : (l.drop 2).find? (fun j => decide (s.sen (s.rby j) ≠ 0)) with
    | some j => rw [if_neg (fun hh => by cases hh.2.2)]; rfl
    | none =>
      by_cases c : s.sen (s.rby k) ≠ 0
      · rw [if_pos ⟨h, c, rfl⟩, List.find?_cons_of_pos (by exact decide_eq_true c)]; rfl
      · rw [if_neg (fun hh => c hh.2.1), List.find?_cons_of_neg (by simpa using c)]; rfl
  · rw [if_neg (fun hh => h hh.1), List.drop_eq_nil_of_le (by rw [List.length_append, List.length_singleton]; omega), List.drop_eq_nil_of_le (by omega)]
/-- readings of a among the first k: all; counting, appeals or not -/
def A.Lk (s : A) (a k : Nat) : List Nat := (List.range k).filter (fun j => decide (s.ans j = a))
def A.Ck (s : A) (a ap k : Nat) : List Nat := (List.range k).filter (s.pc a ap)
def A.tal (s : A) (a k : Nat) : TS := ((s.Lk a k).length, (s.Ck a 0 k).length + (s.Ck a 1 k).length, (s.Ck a 0 k).length, s.wl ((s.Ck a 0 k)[0]?), s.wl ((s.Ck a 0 k)[1]?), s.wl (s.thr (s.Ck a 0 k)), s.wl ((s.Ck a 1 k)[0]?))
theorem fil_s (p : Nat → Bool) (k : Nat) : (List.range (k + 1)).filter p = if p k = true then (List.range k).filter p ++ [k] else (List.range k).filter p := by
  rw [List.range_succ, List.filter_append]
  by_cases h : p k = true
  · rw [if_pos h, List.filter_cons_of_pos h]; rfl
  · rw [if_neg h, List.filter_cons_of_neg h]; exact List.append_nil _
theorem tal_fold {s : A} (hW : WF s) (a : Nat) : ∀ k, k ≤ s.n → (s.Lk a k).foldl s.tf (0, 0, 0, -1, -1, -1, -1) = s.tal a k := by
  intro k
  induction k with
  | zero => intro _; rfl
  | succ k ih =>
    intro hk
    have ih := ih (by omega)
    have hap := hW.apr k (by omega)
    have hmk := mkr_le hW (show k < s.n by omega)
    have fL : s.Lk a (k + 1) = if s.ans k = a then s.Lk a k ++ [k] else s.Lk a k := by
      unfold A.Lk
      rw [fil_s]
      by_cases e : s.ans k = a
      · rw [if_pos (decide_eq_true e), if_pos e]
      · rw [if_neg (fun h => e (of_decide_eq_true h)), if_neg e]
    have fC : ∀ ap, s.Ck a ap (k + 1) = if s.ans k = a ∧ s.apr k = ap ∧ s.cts k = true then s.Ck a ap k ++ [k] else s.Ck a ap k := by
      intro ap
      unfold A.Ck
      rw [fil_s]
      by_cases e : s.ans k = a ∧ s.apr k = ap ∧ s.cts k = true
      · rw [if_pos (show s.pc a ap k = true from decide_eq_true e), if_pos e]
      · rw [if_neg (show ¬ s.pc a ap k = true from fun h => e (of_decide_eq_true h)), if_neg e]
    have hin : ∀ j, s.thr (s.Ck a 0 k) = some j → j < s.n := by
      intro j hj
      have h1 := List.mem_of_find?_eq_some hj
      have h2 := List.mem_range.mp (List.mem_filter.mp (List.mem_of_mem_drop h1)).1
      omega
    have hin1 : ∀ j, (s.Ck a 1 k)[0]? = some j → j < s.n := by
      intro j hj
      have h2 := List.mem_range.mp (List.mem_filter.mp (List.mem_of_getElem? hj)).1
      omega
    by_cases e1 : s.ans k = a
    · rw [fL, if_pos e1, List.foldl_append, ih]
      show s.tf (s.tal a k) k = _
      unfold A.tf A.worth A.tal tk
      rw [fL, if_pos e1, List.length_append, List.length_singleton]
      by_cases e3 : s.cts k = true
      · rw [if_pos e3]
        dsimp only
        rw [if_neg (nm1 (by omega))]
        by_cases e2 : s.apr k = 0
        · have f0 : s.Ck a 0 (k + 1) = s.Ck a 0 k ++ [k] := by rw [fC 0, if_pos ⟨e1, e2, e3⟩]
          have f1 : s.Ck a 1 (k + 1) = s.Ck a 1 k := by rw [fC 1, if_neg (fun h => by have := h.2.1; omega)]
          rw [if_pos e2, f0, f1, List.length_append, List.length_singleton, get_snoc, get_snoc, thr_snoc]
          have q0 : (if (s.Ck a 0 k).length = 0 then nI (s.mkr k) else s.wl ((s.Ck a 0 k)[0]?)) = s.wl (if (s.Ck a 0 k).length = 0 then some k else (s.Ck a 0 k)[0]?) := by split <;> rfl
          have q1 : (if (s.Ck a 0 k).length = 1 then nI (s.mkr k) else s.wl ((s.Ck a 0 k)[1]?)) = s.wl (if (s.Ck a 0 k).length = 1 then some k else (s.Ck a 0 k)[1]?) := by split <;> rfl
          have q2 : (if 2 ≤ (s.Ck a 0 k).length ∧ s.sen (s.rby k) ≠ 0 ∧ s.wl (s.thr (s.Ck a 0 k)) = -1 then nI (s.mkr k) else s.wl (s.thr (s.Ck a 0 k))) = s.wl (if 2 ≤ (s.Ck a 0 k).length ∧ s.sen (s.rby k) ≠ 0 ∧ s.thr (s.Ck a 0 k) = none then some k else s.thr (s.Ck a 0 k)) := by
            cases t : s.thr (s.Ck a 0 k) with
            | none =>
              by_cases c : 2 ≤ (s.Ck a 0 k).length ∧ s.sen (s.rby k) ≠ 0
              · rw [if_pos ⟨c.1, c.2, rfl⟩, if_pos ⟨c.1, c.2, rfl⟩]; rfl
              · rw [if_neg (fun h => c ⟨h.1, h.2.1⟩), if_neg (fun h => c ⟨h.1, h.2.1⟩)]
            | some j =>
              have hj := mkr_le hW (hin j t)
              rw [if_neg (fun h => nm1 (show s.mkr j < 2 ^ 31 by omega) h.2.2), if_neg (fun h => by cases h.2.2)]
          rw [q0, q1, q2, show (s.Ck a 0 k).length + (s.Ck a 1 k).length + 1 = (s.Ck a 0 k).length + 1 + (s.Ck a 1 k).length by omega]
        · have f0 : s.Ck a 0 (k + 1) = s.Ck a 0 k := by rw [fC 0, if_neg (fun h => e2 h.2.1)]
          have f1 : s.Ck a 1 (k + 1) = s.Ck a 1 k ++ [k] := by rw [fC 1, if_pos ⟨e1, by omega, e3⟩]
          rw [if_neg e2, f0, f1, List.length_append, List.length_singleton, get_snoc]
          have q3 : (if s.wl ((s.Ck a 1 k)[0]?) = -1 then nI (s.mkr k) else s.wl ((s.Ck a 1 k)[0]?)) = s.wl (if (s.Ck a 1 k).length = 0 then some k else (s.Ck a 1 k)[0]?) := by
            by_cases z : (s.Ck a 1 k).length = 0
            · rw [if_pos z, List.getElem?_eq_none (by omega)]; rfl
            · rw [if_neg z]
              cases t : (s.Ck a 1 k)[0]? with
              | none => exact absurd (List.getElem?_eq_none_iff.mp t) (by omega)
              | some j =>
                have hj := mkr_le hW (hin1 j t)
                exact if_neg (nm1 (by omega))
          rw [q3, Nat.add_assoc]
      · rw [if_neg e3]
        dsimp only
        rw [if_pos rfl, fC 0, fC 1, if_neg (fun h => e3 h.2.2), if_neg (fun h => e3 h.2.2)]
    · rw [fL, if_neg e1, ih]
      unfold A.tal
      rw [fL, if_neg e1, fC 0, fC 1, if_neg (fun h => e1 h.1), if_neg (fun h => e1 h.1)]
