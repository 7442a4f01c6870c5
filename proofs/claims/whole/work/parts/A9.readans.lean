/-! PURE: an answer is read: the class's log. By hand. -/
theorem L_ra {s s' : A} {a : Nat} (hn : s'.n = s.n + 1) (ha : ∀ j, s'.ans j = if j = s.n then a else s.ans j) (b : Nat) : s'.L b = if a = b then s.L b ++ [s.n] else s.L b := by
  have en : s'.ans s.n = a := by rw [ha, if_pos rfl]
  unfold A.L
  rw [hn, fil_s]
  have e : (List.range s.n).filter (fun k => decide (s'.ans k = b)) = (List.range s.n).filter (fun k => decide (s.ans k = b)) := List.filter_congr (fun k hk => by rw [ha, if_neg (by have := List.mem_range.mp hk; omega)])
  rw [e]
  by_cases c : a = b
  · rw [if_pos (show decide (s'.ans s.n = b) = true from decide_eq_true (by rw [en]; exact c)), if_pos c]
  · rw [if_neg (show ¬ decide (s'.ans s.n = b) = true from fun h => c (by rw [← en]; exact of_decide_eq_true h)), if_neg c]
theorem lnk_c {f g : Nat → Int32} (l : List Nat) (h : ∀ x, x ∈ l → g x = f x) (hl : lnk f l) : lnk g l := by
  induction l with
  | nil => exact trivial
  | cons a l ih =>
    cases l with
    | nil => exact trivial
    | cons b t => exact ⟨(h a (List.mem_cons_self ..)).trans hl.1, ih (fun x hx => h x (List.mem_cons_of_mem _ hx)) hl.2⟩
theorem last_m : ∀ (l : List Nat) (z : Nat), l.getLast? = some z → z ∈ l := by
  intro l
  induction l with
  | nil => intro z h; cases h
  | cons a l ih =>
    intro z h
    cases l with
    | nil =>
      have : some a = some z := h
      cases this
      exact List.mem_cons_self ..
    | cons b t => exact List.mem_cons_of_mem _ (ih z h)
theorem lnk_a {f g : Nat → Int32} {n : Nat} : ∀ (l : List Nat) (z : Nat), l.getLast? = some z → List.Pairwise (· < ·) l → (∀ x, x ∈ l → x ≠ z → g x = f x) → g z = nI n → lnk f l → lnk g (l ++ [n]) := by
  intro l
  induction l with
  | nil => intro z h; cases h
  | cons a l ih =>
    intro z hz hp h hg hl
    cases l with
    | nil =>
      have e : some a = some z := hz
      cases e
      exact ⟨hg, trivial⟩
    | cons b t =>
      have hz' : (b :: t).getLast? = some z := hz
      have hm := last_m _ _ hz'
      have hp' := List.pairwise_cons.mp hp
      have lt := hp'.1 z hm
      exact ⟨(h a (List.mem_cons_self ..) (by omega)).trans hl.1, ih z hz' hp'.2 (fun x hx => h x (List.mem_cons_of_mem _ hx)) hg hl.2⟩
theorem L_pw {s : A} {a : Nat} : List.Pairwise (· < ·) (s.L a) := List.Pairwise.filter _ List.pairwise_lt_range
theorem L_in {s : A} {a k : Nat} (h : k ∈ s.L a) : k < s.n ∧ s.ans k = a := by
  have h2 := List.mem_filter.mp h
  exact ⟨List.mem_range.mp h2.1, of_decide_eq_true h2.2⟩
theorem c_enter {τ : Mem} {s s' : A} (hW : WF s) (hC : RelC τ s) {r a : Nat} (ha : a < 64) (h300 : s.n < 300) (hn : s'.n = s.n + 1) (hans : ∀ j, s'.ans j = if j = s.n then a else s.ans j) : ∃ M, f_X2_enter (nI a) (nI r) τ = some (nI s.n, M) ∧ (∀ i, i ≠ 6 → i ≠ 7 → keep i τ M) ∧ RC7 M s' ∧ M 76 6 = nI (s.n + 1) ∧ (∀ j, M 2 j = if j = s.n then nI a else τ 2 j) ∧ (∀ j, M 3 j = if j = s.n then nI r else τ 3 j) ∧ ∀ q j, q ≠ 2 → q ≠ 3 → grp q j = 6 → (q, j) ≠ (76, 6) → M q j = τ q j := by
  obtain ⟨l1, l2, l3, l4⟩ := hC.c7 a ha
  have hL := L_ra hn hans
  have h6 := hC.c6.1
  have hlen : (s.L a).length ≤ s.n := cl_le _ _
  have ev : f_X2_enter (nI a) (nI r) τ = if nI (s.L a).length = 0 then f_X2_enter_62 (nI a) (nI s.n) (wr (wr (wr τ 2 s.n (nI a)) 3 s.n (nI r)) 10 a (nI s.n)) else f_X2_enter_62 (nI a) (nI s.n) (rset 9 (τ 12 a) (nI s.n) (wr (wr τ 2 s.n (nI a)) 3 s.n (nI r))) := by
    unfold f_X2_enter
    rw [h6]
    simp only [nv]
    rw [rset_n (show s.n < 300 from h300) (by decide)]
    simp only [nw]
    rw [rset_n (show s.n < 300 from h300) (by decide), rget_n (show a < 64 from ha) (by decide), rget_n (show a < 64 from ha) (by decide), rset_n (show a < 64 from ha) (by decide), show (wr (wr τ 2 s.n (nI a)) 3 s.n (nI r)) 11 a = τ 11 a by simp [wr_at], show (wr (wr τ 2 s.n (nI a)) 3 s.n (nI r)) 12 a = τ 12 a by simp [wr_at], l1]
  have e62 : ∀ τ1 : Mem, τ1 11 a = τ 11 a → τ1 76 6 = τ 76 6 → f_X2_enter_62 (nI a) (nI s.n) τ1 = some (nI s.n, wr (wr (wr τ1 12 a (nI s.n)) 11 a (nI ((s.L a).length + 1))) 76 6 (nI (s.n + 1))) := by
    intro τ1 g1 g2
    unfold f_X2_enter_62
    rw [rset_n (show a < 64 from ha) (by decide)]
    simp only [nw]
    rw [radd_n (show a < 64 from ha) (by decide), show (wr τ1 12 a (nI s.n)) 11 a = τ1 11 a by simp [wr_at], g1, l1, nI_1, show (wr (wr τ1 12 a (nI s.n)) 11 a (nI ((s.L a).length + 1))) 76 6 = τ1 76 6 by simp [wr_at], g2, h6, nI_1]
  by_cases z : (s.L a).length = 0
  · have hnil : s.L a = [] := List.eq_nil_of_length_eq_zero z
    refine ⟨wr (wr (wr (wr (wr (wr τ 2 s.n (nI a)) 3 s.n (nI r)) 10 a (nI s.n)) 12 a (nI s.n)) 11 a (nI ((s.L a).length + 1))) 76 6 (nI (s.n + 1)), ?_, ?_, ?_, ?_, ?_, ?_, ?_⟩
    · rw [ev, if_pos (show nI (s.L a).length = (0 : Int32) by rw [z]; rfl), e62 _ (by simp [wr_at]) (by simp [wr_at])]
    · intro i h1 h2
      exact keep.w (show (6 : Nat) ≠ i by omega) (keep.w (show (7 : Nat) ≠ i by omega) (keep.w (show (7 : Nat) ≠ i by omega) (keep.w (show (7 : Nat) ≠ i by omega) (keep.w (show (6 : Nat) ≠ i by omega) (keep.w (show (6 : Nat) ≠ i by omega) keep.rf)))))
    · intro b hb
      obtain ⟨m1, m2, m3, m4⟩ := hC.c7 b hb
      rw [hL]
      by_cases c : a = b
      · rw [if_pos c, ← c, hnil]
        refine ⟨by simp [wr_at], trivial, fun k hk => ?_, fun k hk => ?_⟩
        · cases hk
          simp [wr_at]
        · cases hk
          simp [wr_at]
      · have c' : ¬ b = a := fun h => c h.symm
        rw [if_neg c]
        refine ⟨by simp [wr_at, c']; exact m1, lnk_c _ (fun x _ => by simp [wr_at]) m2, fun k hk => by simp [wr_at, c']; exact m3 k hk, fun k hk => by simp [wr_at, c']; exact m4 k hk⟩
    · simp [wr_at]
    · intro j
      simp [wr_at]
    · intro j
      simp [wr_at]
    · intro q j h1 h2 h3 h4
      have n10 : q ≠ 10 := fun e => by rw [e] at h3; exact absurd h3 (show ¬ (7 : Nat) = 6 by decide)
      have n11 : q ≠ 11 := fun e => by rw [e] at h3; exact absurd h3 (show ¬ (7 : Nat) = 6 by decide)
      have n12 : q ≠ 12 := fun e => by rw [e] at h3; exact absurd h3 (show ¬ (7 : Nat) = 6 by decide)
      rw [wr_at, if_neg (fun h => h4 (by rw [h.1, h.2])), wr_at, if_neg (fun h => n11 h.1), wr_at, if_neg (fun h => n12 h.1), wr_at, if_neg (fun h => n10 h.1), wr_at, if_neg (fun h => h2 h.1), wr_at, if_neg (fun h => h1 h.1)]
  · obtain ⟨y, hy⟩ : ∃ y, (s.L a).getLast? = some y := by
      cases e : (s.L a).getLast? with
      | none => exact absurd (by rw [List.getLast?_eq_none_iff.mp e]; rfl) z
      | some y => exact ⟨y, rfl⟩
    have hyn := (L_in (last_m _ _ hy)).1
    have h12 := l4 y hy
    refine ⟨wr (wr (wr (wr (wr (wr τ 2 s.n (nI a)) 3 s.n (nI r)) 9 y (nI s.n)) 12 a (nI s.n)) 11 a (nI ((s.L a).length + 1))) 76 6 (nI (s.n + 1)), ?_, ?_, ?_, ?_, ?_, ?_, ?_⟩
    · rw [ev, if_neg (show ¬ nI (s.L a).length = (0 : Int32) from nne (b := 0) (by omega) (by decide) z), h12, rset_n (show y < 300 by omega) (by decide), e62 _ (by simp [wr_at]) (by simp [wr_at])]
    · intro i h1 h2
      exact keep.w (show (6 : Nat) ≠ i by omega) (keep.w (show (7 : Nat) ≠ i by omega) (keep.w (show (7 : Nat) ≠ i by omega) (keep.w (show (7 : Nat) ≠ i by omega) (keep.w (show (6 : Nat) ≠ i by omega) (keep.w (show (6 : Nat) ≠ i by omega) keep.rf)))))
    · intro b hb
      obtain ⟨m1, m2, m3, m4⟩ := hC.c7 b hb
      rw [hL]
      by_cases c : a = b
      · subst c
        rw [if_pos rfl]
        refine ⟨by simp [wr_at], ?_, fun k hk => ?_, fun k hk => ?_⟩
        · refine lnk_a (f := τ 9) _ y hy L_pw (fun x _ hx => ?_) ?_ m2
          · simp [wr_at, hx]
          · simp [wr_at]
        · have hk' : (s.L a).head? = some k := by
            cases e : s.L a with
            | nil => rw [e] at z; exact absurd rfl z
            | cons w t => rw [e] at hk; exact hk
          simp [wr_at]
          exact m3 k hk'
        · rw [List.getLast?_concat] at hk
          cases hk
          simp [wr_at]
      · have c' : ¬ b = a := fun h => c h.symm
        rw [if_neg c]
        refine ⟨by simp [wr_at, c']; exact m1, lnk_c _ (fun x hx => ?_) m2, fun k hk => by simp [wr_at]; exact m3 k hk, fun k hk => by simp [wr_at, c']; exact m4 k hk⟩
        have hxy : ¬ x = y := fun e => c (by rw [← (L_in (last_m _ _ hy)).2, ← e]; exact (L_in hx).2)
        simp [wr_at, hxy]
    · simp [wr_at]
    · intro j
      simp [wr_at]
    · intro j
      simp [wr_at]
    · intro q j h1 h2 h3 h4
      have n9 : q ≠ 9 := fun e => by rw [e] at h3; exact absurd h3 (show ¬ (7 : Nat) = 6 by decide)
      have n11 : q ≠ 11 := fun e => by rw [e] at h3; exact absurd h3 (show ¬ (7 : Nat) = 6 by decide)
      have n12 : q ≠ 12 := fun e => by rw [e] at h3; exact absurd h3 (show ¬ (7 : Nat) = 6 by decide)
      rw [wr_at, if_neg (fun h => h4 (by rw [h.1, h.2])), wr_at, if_neg (fun h => n11 h.1), wr_at, if_neg (fun h => n12 h.1), wr_at, if_neg (fun h => n9 h.1), wr_at, if_neg (fun h => h2 h.1), wr_at, if_neg (fun h => h1 h.1)]
