/-! PURE: the class's draft goes as the automaton. By hand. -/
theorem eqv_wrs {σ u : Mem} (h : eqv σ u) {k : Nat} {v : Int32} (hs : scr 76 k = true) (hk : k ≠ 22) : eqv σ (wr u 76 k v) := h.wr hs (fun e => hk (congrArg Prod.snd e))
def num9 (h a b : Nat) : Int32 := if h ≤ 3 then -1 else if h = 4 then nI a else nI (10 * a + b)
/-- the class's draft holds a state -/
def RD (τ : Mem) (s : PS) : Prop := match s with
  | (h, o, n, w, a, b) => (∀ j, j < n → τ 0 j = w j) ∧ τ 76 0 = nI n ∧ τ 76 1 = nI (lets w n) ∧ τ 76 2 = num9 h a b ∧ τ 76 3 = nI o ∧ τ 76 4 = nI h
theorem c_write {τ : Mem} {n : Nat} {c : Int32} (h : τ 76 0 = nI n) (hn : n < 80) : f_X0_write c τ = some (0, wr (wr τ 0 n c) 76 0 (nI (n + 1))) := by
  unfold f_X0_write
  simp only [nw]
  rw [h, rset_n (by show n < 80; exact hn) (by decide)]
  have : wr τ 0 n c 76 0 = nI n := by rw [wr_at, if_neg (fun h => absurd h.1 (by decide))]; exact h
  rw [this, nI_1]
theorem c_goes {τ : Mem} {n : Nat} {x c : Int32} (h : τ 76 0 = nI n) (hn : n < 80) : f_X0_goesTo x c τ = some (1, wr (wr (wr τ 0 n c) 76 0 (nI (n + 1))) 76 4 x) := by
  unfold f_X0_goesTo
  rw [c_write h hn, bd_some]
  rfl
theorem RD_put {τ : Mem} {h o n a b h' o' : Nat} {w : Nat → Int32} {c : Int32} (hR : RD τ (h, o, n, w, a, b)) (hh : h ≤ 2) (hh' : h' ≤ 3) {τ' : Mem} (e0 : ∀ j, τ' 0 j = if j = n then c else τ 0 j) (e1 : τ' 76 0 = nI (n + 1)) (e2 : τ' 76 1 = nI (lets (app w n c) (n + 1))) (e3 : τ' 76 2 = τ 76 2) (e4 : τ' 76 3 = nI o') (e5 : τ' 76 4 = nI h') : RD τ' (h', o', n + 1, app w n c, a, b) := by
  obtain ⟨r1, r2, r3, r4, r5, r6⟩ := hR
  refine ⟨fun j hj => ?_, e1, e2, ?_, e4, e5⟩
  · rw [e0]
    by_cases e : j = n
    · subst e; rw [if_pos rfl, app_s]
    · rw [if_neg e, app_n e]; exact r1 j (by omega)
  · rw [e3, r4]
    unfold num9
    rw [if_pos (by omega), if_pos hh']
theorem sh1 : ∀ i, i < 8 → (1 : Int32) <<< (nI i &&& 31) = nI (2 ^ i) := by decide
theorem orI (a b : Nat) : nI a ||| nI b = nI (a ||| b) := by
  apply Int32.toBitVec_inj.mp
  show (nI a).toBitVec ||| (nI b).toBitVec = (nI (a ||| b)).toBitVec
  show BitVec.ofNat 32 a ||| BitVec.ofNat 32 b = BitVec.ofNat 32 (a ||| b)
  exact (BitVec.ofNat_or).symm
/-- takesAtHead, at a head -/
theorem c_head {σ τ : Mem} {o n a b h : Nat} {w : Nat → Int32} {c : Int32} (hR : RD τ (h, o, n, w, a, b)) (hs : eqv σ τ) (hh : h ≤ 2) (hn : n < 80) (ho : o ≤ 4) :
    (97 ≤ c ∧ c ≤ 104 ∧ ∃ τ', f_X0_takesAtHead c τ = some (1, τ') ∧ eqv σ τ' ∧ RD τ' (2, o, n + 1, app w n c, a, b)) ∨ (¬ (97 ≤ c ∧ c ≤ 104) ∧ c = 40 ∧ o < 4 ∧ ∃ τ', f_X0_takesAtHead c τ = some (1, τ') ∧ eqv σ τ' ∧ RD τ' (0, o + 1, n + 1, app w n c, a, b)) ∨ (¬ (97 ≤ c ∧ c ≤ 104) ∧ ¬ (c = 40 ∧ o < 4) ∧ ∃ τ', f_X0_takesAtHead c τ = some (0, τ') ∧ eqv σ τ') := by
  obtain ⟨r1, r2, r3, r4, r5, r6⟩ := id hR
  by_cases hc : 97 ≤ c ∧ c ≤ 104
  · refine Or.inl ⟨hc.1, hc.2, ?_⟩
    obtain ⟨x, h1, h2, e⟩ := rng (lo := 97) (hi := 104) (by decide) (by decide) hc
    unfold f_X0_takesAtHead
    have n1 : ¬ c < 97 := fun h => by rw [lt_int] at h; have := hc.1; rw [le_int] at this; omega
    have n2 : ¬ 104 < c := fun h => by rw [lt_int] at h; have := hc.2; rw [le_int] at this; omega
    rw [if_neg n1, if_neg n2]
    simp only [nw]
    rw [c_goes (n := n) (by rw [wr_at, if_neg (fun h => absurd h.2 (by decide))]; exact r2) hn, bd_some]
    refine ⟨_, rfl, eqv_wrs (eqv_wrs (eqv_wrr (eqv_wrs hs rfl (by decide)) rfl (by decide)) rfl (by decide)) rfl (by decide), RD_put hR hh (by omega) (c := c) (fun j => by simp [wr_at]) (by simp [wr_at]) ?_ (by simp [wr_at]) (by simp [wr_at]; exact r5) (by simp [wr_at]; rfl)⟩
    rw [lets_app, if_pos hc]
    simp [wr_at]
    rw [r3, e, show (97 : Int32) = nI 97 from rfl, pk_sub (by omega), sh1 _ (by omega), orI, na_nI (by omega)]
  · have h34 : f_X0_takesAtHead c τ = f_X0_takesAtHead_34 c τ := by
      unfold f_X0_takesAtHead
      by_cases n1 : c < 97
      · rw [if_pos n1]
      · rw [if_neg n1, if_pos]
        rw [le_int, le_int] at hc
        rw [lt_int] at n1
        rw [lt_int]
        omega
    rw [h34]
    unfold f_X0_takesAtHead_34 f_X0_takesAtHead_48
    by_cases h40 : c = 40
    · rw [if_pos h40, r5]
      by_cases ho4 : o < 4
      · refine Or.inr (Or.inl ⟨hc, h40, ho4, ?_⟩)
        rw [if_pos (show nI o < (4 : Int32) from (nI_ltI (b := 4) (by omega) (by decide)).mpr ho4), nI_1]
        simp only [nw]
        rw [c_goes (n := n) (by rw [wr_at, if_neg (fun h => absurd h.2 (by decide))]; exact r2) hn, bd_some]
        refine ⟨_, rfl, eqv_wrs (eqv_wrs (eqv_wrr (eqv_wrs hs rfl (by decide)) rfl (by decide)) rfl (by decide)) rfl (by decide), RD_put hR hh (by omega) (c := c) (fun j => by simp [wr_at]) (by simp [wr_at]) ?_ (by simp [wr_at]) (by simp [wr_at]) (by simp [wr_at]; rfl)⟩
        rw [lets_app, if_neg hc]
        simp [wr_at]
        exact r3
      · refine Or.inr (Or.inr ⟨hc, fun h => ho4 h.2, τ, ?_, hs⟩)
        rw [if_neg (show ¬ nI o < (4 : Int32) from nlt (b := 4) (by omega) (by decide) (by omega))]
        rfl
    · refine Or.inr (Or.inr ⟨hc, fun h => h40 h.1, τ, ?_, hs⟩)
      rw [if_neg h40]
      rfl
/-- one sign -/
theorem c_takes {σ τ : Mem} {s : PS} {c : Int32} {k : Nat} (hR : RD τ s) (hs : eqv σ τ) (hP : PI s k) (hk : k < 40) :
    (∃ s' τ', pstep c s = some s' ∧ f_X0_takes c τ = some (1, τ') ∧ eqv σ τ' ∧ RD τ' s') ∨ (pstep c s = none ∧ ∃ τ', f_X0_takes c τ = some (0, τ') ∧ eqv σ τ') := by
  obtain ⟨h9, o, n, w, a, b⟩ := s
  obtain ⟨p1, p2, p3, p4, p5, p6, p7, p8⟩ := hP
  obtain ⟨r1, r2, r3, r4, r5, r6⟩ := id hR
  have hn : n < 79 := by omega
  unfold pstep
  dsimp only
  have lit9 : ∀ j, j ≤ 5 → ((nI h9 = nI j) ↔ h9 = j) := fun j hj => nI_eq (by omega) (by omega)
  unfold f_X0_takes
  rw [r6]
  by_cases e0 : h9 = 0
  · subst e0
    rw [if_pos (show nI 0 = (0 : Int32) from rfl)]
    simp only [if_true]
    by_cases c1 : 49 ≤ c ∧ c ≤ 57
    · have n1 : ¬ c < 49 := fun h => by rw [lt_int] at h; have := c1.1; rw [le_int] at this; omega
      rw [if_neg n1, if_pos c1.2, if_pos c1]
      unfold f_X0_takes_30
      rw [r6, if_pos (show nI 0 = (0 : Int32) from rfl), c_goes r2 (by omega), bd_some]
      refine Or.inl ⟨_, _, rfl, rfl, eqv_wrs (eqv_wrs (eqv_wrr hs rfl (by decide)) rfl (by decide)) rfl (by decide), RD_put hR (by omega) (by omega) (c := c) (fun j => by simp [wr_at]) (by simp [wr_at]) ?_ (by simp [wr_at]) (by simp [wr_at]; exact r5) (by simp [wr_at]; rfl)⟩
      have hl : ¬ (97 ≤ c ∧ c ≤ 104) := fun h => by have h1 := c1.2; have h2 := h.1; rw [le_int] at h1 h2; have a1 : ((57 : Int32).toInt) = 57 := rfl; have a2 : ((97 : Int32).toInt) = 97 := rfl; omega
      rw [lets_app, if_neg hl]
      simp [wr_at]; exact r3
    · rw [if_neg c1]
      have key : (if c < 49 then f_X0_takes_19 c τ else if c ≤ 57 then f_X0_takes_30 c τ else f_X0_takes_19 c τ) = f_X0_takes_19 c τ := by
        by_cases n1 : c < 49
        · rw [if_pos n1]
        · rw [if_neg n1, if_neg (fun h => c1 ⟨by rw [lt_int] at n1; rw [le_int]; omega, h⟩)]
      rw [key]
      unfold f_X0_takes_19
      rw [c_write r2 (by omega), bd_some]
      simp only [nw]
      have hs1 : eqv σ (wr (wr (wr τ 0 n 49) 76 0 (nI (n + 1))) 76 4 1) := eqv_wrs (eqv_wrs (eqv_wrr hs rfl (by decide)) rfl (by decide)) rfl (by decide)
      have hR1 : RD (wr (wr (wr τ 0 n 49) 76 0 (nI (n + 1))) 76 4 1) (1, o, n + 1, app w n 49, a, b) := RD_put hR (by omega) (by omega) (c := 49) (fun j => by simp [wr_at]) (by simp [wr_at]) (by rw [lets_app, if_neg (by decide)]; simp [wr_at]; exact r3) (by simp [wr_at]) (by simp [wr_at]; exact r5) (by simp [wr_at]; rfl)
      have h4 : wr (wr (wr τ 0 n 49) 76 0 (nI (n + 1))) 76 4 1 76 4 = 1 := by simp [wr_at]
      generalize wr (wr (wr τ 0 n 49) 76 0 (nI (n + 1))) 76 4 1 = τ1 at hs1 hR1 h4 ⊢
      unfold f_X0_takes_30
      rw [h4, if_neg (show ¬ (1 : Int32) = 0 by decide), if_pos (show (1 : Int32) = 1 from rfl)]
      rcases c_head (c := c) hR1 hs1 (by omega) (by omega) p3 with ⟨h1, h2, τ', q1, q2, q3⟩ | ⟨h1, h2, h3, τ', q1, q2, q3⟩ | ⟨h1, h2, τ', q1, q2⟩
      · rw [if_pos ⟨h1, h2⟩, q1]
        exact Or.inl ⟨_, τ', rfl, rfl, q2, q3⟩
      · rw [if_neg h1, if_pos ⟨h2, h3⟩, q1]
        exact Or.inl ⟨_, τ', rfl, rfl, q2, q3⟩
      · rw [if_neg h1, if_neg h2, q1]
        exact Or.inr ⟨rfl, τ', rfl, q2⟩
  · have z0 : ¬ nI h9 = 0 := fun h => e0 ((lit9 0 (by omega)).mp h)
    rw [if_neg e0, if_neg z0]
    unfold f_X0_takes_30
    rw [r6, if_neg z0]
    by_cases e1 : h9 = 1
    · rw [if_pos e1, if_pos (show nI h9 = (1 : Int32) from (lit9 1 (by omega)).mpr e1)]
      rcases c_head (c := c) hR hs (by omega) (by omega) p3 with ⟨h1, h2, τ', q1, q2, q3⟩ | ⟨h1, h2, h3, τ', q1, q2, q3⟩ | ⟨h1, h2, τ', q1, q2⟩
      · rw [if_pos ⟨h1, h2⟩, q1]
        exact Or.inl ⟨_, τ', rfl, rfl, q2, q3⟩
      · rw [if_neg h1, if_pos ⟨h2, h3⟩, q1]
        exact Or.inl ⟨_, τ', rfl, rfl, q2, q3⟩
      · rw [if_neg h1, if_neg h2, q1]
        exact Or.inr ⟨rfl, τ', rfl, q2⟩
    · have z1 : ¬ nI h9 = 1 := fun h => e1 ((lit9 1 (by omega)).mp h)
      rw [if_neg e1, if_neg z1]
      by_cases e2 : h9 = 2
      · rw [if_pos e2, if_pos (show nI h9 = (2 : Int32) from (lit9 2 (by omega)).mpr e2)]
        have go : ∀ (x : Int32) (h' : Nat), h' ≤ 3 → x = nI h' → ¬ (97 ≤ c ∧ c ≤ 104) → ∀ τ0, eqv σ τ0 → (∀ j, τ0 0 j = τ 0 j) → τ0 76 0 = τ 76 0 → τ0 76 1 = τ 76 1 → τ0 76 2 = τ 76 2 → ∀ o', τ0 76 3 = nI o' → ∃ τ', f_X0_goesTo x c τ0 = some (1, τ') ∧ eqv σ τ' ∧ RD τ' (h', o', n + 1, app w n c, a, b) := by
          intro x h' hh' hx hl τ0 hs0 f0 f1 f2 f3 o' f4
          rw [c_goes (by rw [f1]; exact r2) (by omega)]
          refine ⟨_, rfl, eqv_wrs (eqv_wrs (eqv_wrr hs0 rfl (by decide)) rfl (by decide)) rfl (by decide), RD_put hR (by omega) hh' (c := c) (fun j => by simp [wr_at, f0]) (by simp [wr_at]) ?_ (by simp [wr_at]; exact f3) (by simp [wr_at]; exact f4) (by simp [wr_at]; exact hx)⟩
          rw [lets_app, if_neg hl]
          simp [wr_at]; rw [f2]; exact r3
        have og : (τ 76 3 ≤ 0) ↔ o = 0 := by
          rw [r5, show (0 : Int32) = nI 0 from rfl, nI_leI (by omega) (by decide)]; omega
        unfold f_X0_takesBehindPart
        by_cases c1 : c = 43
        · rw [if_pos c1, if_pos c1]
          obtain ⟨τ', q1, q2, q3⟩ := go 0 0 (by omega) rfl (by rw [c1]; decide) τ hs (fun _ => rfl) rfl rfl rfl o r5
          unfold f_X0_takesBehindPart_19
          rw [q1]
          exact Or.inl ⟨_, τ', rfl, rfl, q2, q3⟩
        · rw [if_neg c1, if_neg c1]
          have p26 : f_X0_takesBehindPart_26 c τ = (if c = 41 ∧ 0 < o then nw (wr τ 76 3 (τ 76 3 - 1)) (fun τ5 => bd (f_X0_goesTo 2 c τ5) (fun y6 τ7 => gd (isZ y6) (some (y6, τ7)))) else f_X0_takesBehindPart_56 c τ) := by
            unfold f_X0_takesBehindPart_26
            by_cases d1 : c = 41
            · rw [if_pos d1]
              by_cases d2 : o = 0
              · rw [if_pos (og.mpr d2), if_neg (fun h => by omega)]
              · rw [if_neg (fun h => d2 (og.mp h)), if_pos ⟨d1, by omega⟩]
            · rw [if_neg d1, if_neg (fun h => d1 h.1)]
          have done26 : c ≠ 124 ∨ o = 0 → (∃ s' τ', (if c = 41 ∧ 0 < o then some (2, o - 1, n + 1, app w n c, a, b) else if c = 60 ∧ o = 0 then some (3, o, n + 1, app w n c, a, b) else none : Option PS) = some s' ∧ bd (f_X0_takesBehindPart_26 c τ) (fun y5 τ6 => gd (isZ y5) (some (y5, τ6))) = some (1, τ') ∧ eqv σ τ' ∧ RD τ' s') ∨ ((if c = 41 ∧ 0 < o then some (2, o - 1, n + 1, app w n c, a, b) else if c = 60 ∧ o = 0 then some (3, o, n + 1, app w n c, a, b) else none : Option PS) = none ∧ ∃ τ', bd (f_X0_takesBehindPart_26 c τ) (fun y5 τ6 => gd (isZ y5) (some (y5, τ6))) = some (0, τ') ∧ eqv σ τ') := by
            intro _
            rw [p26]
            by_cases d1 : c = 41 ∧ 0 < o
            · rw [if_pos d1, if_pos d1]
              simp only [nw]
              have e3 : τ 76 3 - 1 = nI (o - 1) := by rw [r5, show (1 : Int32) = nI 1 from rfl, pk_sub (by omega)]
              rw [e3]
              obtain ⟨τ', q1, q2, q3⟩ := go 2 2 (by omega) rfl (by rw [d1.1]; decide) (wr τ 76 3 (nI (o - 1))) (eqv_wrs hs rfl (by decide)) (fun j => by simp [wr_at]) (by simp [wr_at]) (by simp [wr_at]) (by simp [wr_at]) (o - 1) (by simp [wr_at])
              rw [q1]
              exact Or.inl ⟨_, τ', rfl, rfl, q2, q3⟩
            · rw [if_neg d1, if_neg d1]
              unfold f_X0_takesBehindPart_56 f_X0_takesBehindPart_69
              by_cases d2 : c = 60
              · rw [if_pos d2]
                by_cases d3 : o = 0
                · rw [if_pos (og.mpr d3), if_pos ⟨d2, d3⟩]
                  obtain ⟨τ', q1, q2, q3⟩ := go 3 3 (by omega) rfl (by rw [d2]; decide) τ hs (fun _ => rfl) rfl rfl rfl o r5
                  rw [q1]
                  exact Or.inl ⟨_, τ', rfl, rfl, q2, q3⟩
                · rw [if_neg (fun h => d3 (og.mp h)), if_neg (fun h => d3 h.2)]
                  exact Or.inr ⟨rfl, τ, rfl, hs⟩
              · rw [if_neg d2, if_neg (fun h => d2 h.1)]
                exact Or.inr ⟨rfl, τ, rfl, hs⟩
          by_cases c2 : c = 124
          · rw [if_pos c2]
            by_cases d2 : o = 0
            · rw [if_pos (og.mpr d2), if_neg (fun h => by omega)]
              exact done26 (Or.inr d2)
            · rw [if_neg (fun h => d2 (og.mp h)), if_pos ⟨c2, by omega⟩]
              obtain ⟨τ', q1, q2, q3⟩ := go 0 0 (by omega) rfl (by rw [c2]; decide) τ hs (fun _ => rfl) rfl rfl rfl o r5
              unfold f_X0_takesBehindPart_19
              rw [q1]
              exact Or.inl ⟨_, τ', rfl, rfl, q2, q3⟩
          · rw [if_neg c2, if_neg (fun h => c2 h.1)]
            exact done26 (Or.inl c2)
      · have z2 : ¬ nI h9 = 2 := fun h => e2 ((lit9 2 (by omega)).mp h)
        rw [if_neg e2, if_neg z2]
        have inn : ∀ (ah : Nat) (th : Int32) , (48 ≤ c ∧ c ≤ 57 → f_X0_takesInNumber c (nI ah) th τ = some (1, wr (wr τ 76 2 (nI (10 * ah + (c - 48).toNatClampNeg))) 76 4 th)) ∧ (¬ (48 ≤ c ∧ c ≤ 57) → f_X0_takesInNumber c (nI ah) th τ = some (0, τ)) := by
          intro ah th
          unfold f_X0_takesInNumber f_X0_takesInNumber_12
          constructor
          · intro hc
            obtain ⟨x, hx, e1, e2, e3⟩ := dig9 hc
            have n1 : ¬ c < 48 := fun h => by rw [lt_int] at h; have := hc.1; rw [le_int] at this; omega
            rw [if_neg n1, if_pos hc.2, e2, show (10 : Int32) = nI 10 from rfl, pk_mul, e1, nI_add, show (48 : Int32) = nI 48 from rfl, pk_sub (by omega), show 10 * ah + (48 + x) - 48 = 10 * ah + x by omega]
            rfl
          · intro hc
            by_cases n1 : c < 48
            · rw [if_pos n1]; rfl
            · rw [if_neg n1, if_neg (fun h => hc ⟨by rw [lt_int] at n1; rw [le_int]; omega, h⟩)]; rfl
        by_cases e3 : h9 = 3
        · rw [if_pos e3, if_pos (show nI h9 = (3 : Int32) from (lit9 3 (by omega)).mpr e3), show f_X0_takesInNumber c 0 4 τ = f_X0_takesInNumber c (nI 0) 4 τ from rfl]
          by_cases hc : 48 ≤ c ∧ c ≤ 57
          · rw [if_pos hc, (inn 0 4).1 hc]
            refine Or.inl ⟨_, _, rfl, rfl, eqv_wrs (eqv_wrs hs rfl (by decide)) rfl (by decide), fun j hj => by simp [wr_at]; exact r1 j hj, by simp [wr_at]; exact r2, by simp [wr_at]; exact r3, ?_, by simp [wr_at]; exact r5, by simp [wr_at]; rfl⟩
            simp [wr_at, num9]
          · rw [if_neg hc, (inn 0 4).2 hc]
            exact Or.inr ⟨rfl, τ, rfl, hs⟩
        · have z3 : ¬ nI h9 = 3 := fun h => e3 ((lit9 3 (by omega)).mp h)
          rw [if_neg e3, if_neg z3]
          by_cases e4 : h9 = 4
          · have r4' : τ 76 2 = nI a := by rw [r4]; unfold num9; rw [if_neg (by omega), if_pos e4]
            rw [if_pos e4, if_pos (show nI h9 = (4 : Int32) from (lit9 4 (by omega)).mpr e4), r4']
            by_cases hc : 48 ≤ c ∧ c ≤ 57
            · rw [if_pos hc, (inn a 5).1 hc]
              refine Or.inl ⟨_, _, rfl, rfl, eqv_wrs (eqv_wrs hs rfl (by decide)) rfl (by decide), fun j hj => by simp [wr_at]; exact r1 j hj, by simp [wr_at]; exact r2, by simp [wr_at]; exact r3, ?_, by simp [wr_at]; exact r5, by simp [wr_at]; rfl⟩
              simp [wr_at, num9]
            · rw [if_neg hc, (inn a 5).2 hc]
              exact Or.inr ⟨rfl, τ, rfl, hs⟩
          · have z4 : ¬ nI h9 = 4 := fun h => e4 ((lit9 4 (by omega)).mp h)
            rw [if_neg e4, if_neg z4]
            exact Or.inr ⟨rfl, τ, rfl, hs⟩
