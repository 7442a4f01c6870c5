/-! PURE: texts. Out of the parts of whole. -/
theorem nm1 {x : Nat} (h : x < 2 ^ 31) : nI x ≠ -1 := by
  intro e
  have := congrArg Int32.toInt e
  rw [nI_toInt h] at this
  have z : (-1 : Int32).toInt = -1 := rfl
  omega
theorem i10 : ¬ (1 : Int32) = 0 := by decide
theorem fin9_3 {h o n a b : Nat} {w : Nat → Int32} (hh : h ≤ 3) : fin9 (h, o, n, w, a, b) = (n, w) := by
  unfold fin9
  dsimp only
  rw [if_neg (by omega), if_neg (by omega)]
theorem pst_cong {l l' : Nat → Int32} : ∀ k, (∀ j, j < k → l j = l' j) → pst l k = pst l' k := by
  intro k
  induction k with
  | zero => intro _; rfl
  | succ k ih =>
    intro h
    show (pst l k).bind (pstep (l k)) = (pst l' k).bind (pstep (l' k))
    rw [ih (fun j hj => h j (by omega)), h k (by omega)]
theorem pst_lt {l : Nat → Int32} {i : Nat} (h : pst l i = none) : ∀ k, i ≤ k → pst l k = none := by
  intro k hk
  induction k with
  | zero => rw [show i = 0 by omega] at h; exact h
  | succ k ih =>
    by_cases e : i = k + 1
    · subst e; exact h
    · show (pst l k).bind _ = none
      rw [ih (by omega)]; rfl
theorem ev_cong {p : Nat} {w w' : Nat → Int32} : ∀ k, (∀ j, j < k → w j = w' j) → ev p w k = ev p w' k := by
  intro k
  induction k with
  | zero => intro _; rfl
  | succ k ih =>
    intro h
    show evs p (w k) (ev p w k) = evs p (w' k) (ev p w' k)
    rw [h k (by omega), ih (fun j hj => h j (by omega))]
theorem mk9_cong {p m most : Nat} {w w' : Nat → Int32} (h : ∀ j, j < m → w j = w' j) : mk9 p w m most = mk9 p w' m most := by
  unfold mk9
  rw [ev_cong m h]
theorem Tl_cong {w w' : Nat → Int32} {m len most : Nat} (h : ∀ j, j < len → w j = w' j) (t : Tl w m len most) : Tl w' m len most := by
  rcases t with t | ⟨a, h1, h2, h3, h4, h5⟩ | ⟨a, b, h0, h1, h2, h3, h4, h5, h6⟩
  · exact Or.inl t
  · exact Or.inr (Or.inl ⟨a, h1, h2, by rw [← h m (by omega)]; exact h3, by rw [← h (m + 1) (by omega)]; exact h4, h5⟩)
  · exact Or.inr (Or.inr ⟨a, b, h0, h1, h2, by rw [← h m (by omega)]; exact h3, by rw [← h (m + 1) (by omega)]; exact h4, by rw [← h (m + 2) (by omega)]; exact h5, h6⟩)
theorem lets_no {w : Nat → Int32} {k : Nat} (h : ¬ (97 ≤ w k ∧ w k ≤ 104)) : lets w (k + 1) = lets w k := by
  show (if 97 ≤ w k ∧ w k ≤ 104 then _ else _) = _
  rw [if_neg h]
theorem nlet {a : Nat} (h : a ≤ 9) : ¬ (97 ≤ nI (48 + a) ∧ nI (48 + a) ≤ 104) := fun z => nle (a := 97) (b := 48 + a) (by decide) (by omega) (by omega) z.1
theorem nlet60 {c : Int32} (h : c = 60) : ¬ (97 ≤ c ∧ c ≤ 104) := by
  rw [h]
  decide
theorem d48 {a : Nat} (h : a ≤ 9) : nI (48 + a) ≠ 0 := nne (b := 0) (by omega) (by decide) (by omega)
theorem fin_ok {s : PS} {m : Nat} (hP : PI s m) (hN : PN s m) (hm : m ≤ 40) (hw : whl s) : ∃ tm most, Tl (fin9 s).2 tm (fin9 s).1 most ∧ WFb (fin9 s).2 tm ∧ (fin9 s).1 ≤ 80 ∧ (∀ j, j < (fin9 s).1 → (fin9 s).2 j ≠ 0) ∧ lets s.2.2.2.1 s.2.2.1 = lets (fin9 s).2 tm ∧ (if num9 s.1 s.2.2.2.2.1 s.2.2.2.2.2 = -1 then 99 else num9 s.1 s.2.2.2.2.1 s.2.2.2.2.2) = nI most := by
  obtain ⟨h9, o, n, w, a, b⟩ := s
  obtain ⟨p1, p2, p3, p4, p5, p6, p7, p8⟩ := hP
  unfold PN at hN
  unfold whl at hw
  dsimp only at hN hw ⊢
  have hh : h9 = 2 ∨ h9 = 4 ∨ h9 = 5 := by omega
  rcases hh with rfl | rfl | rfl
  · rw [fin9_3 (by omega)]
    exact ⟨n, 99, Or.inl ⟨rfl, rfl⟩, (p7 (by omega)).1, by show n ≤ 80; omega, p6, rfl, rfl⟩
  · obtain ⟨n1, wf, w60, o0, d0⟩ := p8 (by omega)
    obtain ⟨t, rfl⟩ : ∃ t, n = t + 1 := ⟨n - 1, by omega⟩
    rw [Nat.add_sub_cancel] at wf w60 d0
    have e9 : fin9 (4, o, t + 1, w, a, b) = (t + 1 + 1, app w (t + 1) (nI (48 + a))) := rfl
    rw [e9]
    have hc : ∀ j, j < t → w j = app w (t + 1) (nI (48 + a)) j := fun j hj => (app_n (by omega)).symm
    have hN' := hN (by omega)
    refine ⟨t, a, Or.inr (Or.inl ⟨a, p4, rfl, ?_, app_s, rfl⟩), WFb_cong hc wf, by show t + 1 + 1 ≤ 80; omega, app_ne0 (d48 p4) p6, ?_, ?_⟩
    · show app w (t + 1) (nI (48 + a)) t = 60
      rw [app_n (by omega)]; exact w60
    · show lets w (t + 1) = lets (app w (t + 1) (nI (48 + a))) t
      rw [lets_no (nlet60 w60)]
      exact lets_cong t hc
    · show (if nI a = -1 then 99 else nI a) = nI a
      rw [if_neg (nm1 (by omega))]
  · obtain ⟨n1, wf, w60, o0, d0⟩ := p8 (by omega)
    obtain ⟨t, rfl⟩ : ∃ t, n = t + 1 := ⟨n - 1, by omega⟩
    rw [Nat.add_sub_cancel] at wf w60 d0
    have hN' := hN (by omega)
    by_cases a0 : a = 0
    · subst a0
      have e9 : fin9 (5, o, t + 1, w, 0, b) = (t + 1 + 1, app w (t + 1) (nI (48 + b))) := rfl
      rw [e9]
      have hc : ∀ j, j < t → w j = app w (t + 1) (nI (48 + b)) j := fun j hj => (app_n (by omega)).symm
      refine ⟨t, b, Or.inr (Or.inl ⟨b, p5, rfl, ?_, app_s, rfl⟩), WFb_cong hc wf, by show t + 1 + 1 ≤ 80; omega, app_ne0 (d48 p5) p6, ?_, ?_⟩
      · show app w (t + 1) (nI (48 + b)) t = 60
        rw [app_n (by omega)]; exact w60
      · show lets w (t + 1) = lets (app w (t + 1) (nI (48 + b))) t
        rw [lets_no (nlet60 w60)]
        exact lets_cong t hc
      · show (if nI (10 * 0 + b) = -1 then 99 else nI (10 * 0 + b)) = nI b
        rw [if_neg (nm1 (by omega)), show 10 * 0 + b = b by omega]
    · have e9 : fin9 (5, o, t + 1, w, a, b) = (t + 1 + 2, app (app w (t + 1) (nI (48 + a))) (t + 1 + 1) (nI (48 + b))) := by
        unfold fin9
        dsimp only
        rw [if_neg (by omega), if_pos rfl, if_neg a0]
      rw [e9]
      have hc : ∀ j, j < t + 1 → w j = app (app w (t + 1) (nI (48 + a))) (t + 1 + 1) (nI (48 + b)) j := fun j hj => by rw [app_n (by omega), app_n (by omega)]
      refine ⟨t, 10 * a + b, Or.inr (Or.inr ⟨a, b, p4, p5, rfl, ?_, ?_, ?_, rfl⟩), WFb_cong (fun j hj => hc j (by omega)) wf, by show t + 1 + 2 ≤ 80; omega, app_ne0 (d48 p5) (app_ne0 (d48 p4) p6), ?_, ?_⟩
      · show app (app w (t + 1) (nI (48 + a))) (t + 1 + 1) (nI (48 + b)) t = 60
        rw [← hc t (by omega)]; exact w60
      · show app (app w (t + 1) (nI (48 + a))) (t + 1 + 1) (nI (48 + b)) (t + 1) = nI (48 + a)
        rw [app_n (by omega), app_s]
      · show app (app w (t + 1) (nI (48 + a))) (t + 1 + 1) (nI (48 + b)) (t + 2) = nI (48 + b)
        exact app_s
      · show lets w (t + 1) = lets (app (app w (t + 1) (nI (48 + a))) (t + 1 + 1) (nI (48 + b))) t
        rw [lets_no (nlet60 w60)]
        exact lets_cong t (fun j hj => hc j (by omega))
      · show (if nI (10 * a + b) = -1 then 99 else nI (10 * a + b)) = nI (10 * a + b)
        rw [if_neg (nm1 (by omega))]
theorem c_copy {τ : Mem} {q V at9 len : Nat} {W : Nat → Int32} (hat : at9 < 24) (hlen : len ≤ 80) (h0 : τ 76 0 = nI len) (hW : ∀ j, j < len → τ 0 j = W j) : ∀ d j, j + d = len → ∀ N T, (∀ r, r ≠ 32 → T r = τ r) → (∀ i, T 32 i = if 80 * at9 ≤ i ∧ i < 80 * at9 + j then W (i - 80 * at9) else τ 32 i) → ∃ T', f_X6_enter_20 (N + d + 1) (nI q) (nI V) (nI at9) (nI j) T = f_X6_enter_20 (N + 1) (nI q) (nI V) (nI at9) (nI len) T' ∧ (∀ r, r ≠ 32 → T' r = τ r) ∧ (∀ i, T' 32 i = if 80 * at9 ≤ i ∧ i < 80 * at9 + len then W (i - 80 * at9) else τ 32 i) := by
  intro d
  induction d with
  | zero =>
    intro j hj N T h1 h2
    have e : j = len := by omega
    subst e
    exact ⟨T, rfl, h1, h2⟩
  | succ d ih =>
    intro j hj N T h1 h2
    obtain ⟨T', a1, a2, a3⟩ := ih (j + 1) (by omega) N (wr T 32 (80 * at9 + j) (W j)) (fun r hr => by rw [wr_ne hr]; exact h1 r hr) (fun i => by
      rw [wr_at]
      by_cases e : i = 80 * at9 + j
      · rw [if_pos ⟨rfl, e⟩, if_pos (by omega), e, show 80 * at9 + j - 80 * at9 = j by omega]
      · rw [if_neg (fun h => e h.2), h2 i]
        by_cases c : 80 * at9 ≤ i ∧ i < 80 * at9 + j
        · rw [if_pos c, if_pos (by omega)]
        · rw [if_neg c, if_neg (by omega)])
    refine ⟨T', ?_, a2, a3⟩
    rw [← a1]
    show (if T 76 0 ≤ nI j then _ else _) = _
    rw [h1 76 (by decide), h0, if_neg (nle (by omega) (by omega) (by omega)), show (80 : Int32) = nI 80 from rfl, pk_mul, nI_add, show at9 * 80 + j = 80 * at9 + j by omega, rset_n (show 80 * at9 + j < 1920 by omega) (by decide), rget_n (show j < 80 by omega) (by decide), h1 0 (by decide), hW j (by omega)]
    simp only [nw]
    rw [nI_1]
    all_goals rfl
theorem c_ent {τ : Mem} {q V len most L : Nat} {W : Nat → Int32} (hq : q < 4) (hV : V < 6) (hlen : len ≤ 80) (h31 : τ 31 q = nI V) (h0 : τ 76 0 = nI len) (hW : ∀ j, j < len → τ 0 j = W j) (h1 : τ 76 1 = nI L) (h2 : (if τ 76 2 = -1 then 99 else τ 76 2) = nI most) : ∃ M, f_X6_enter (nI q) τ = some (nI V, M) ∧ (∀ i, M 32 i = if 80 * (6 * q + V) ≤ i ∧ i < 80 * (6 * q + V) + len then W (i - 80 * (6 * q + V)) else τ 32 i) ∧ (∀ j, M 33 j = if j = 6 * q + V then nI len else τ 33 j) ∧ (∀ j, M 34 j = if j = 6 * q + V then nI L else τ 34 j) ∧ (∀ j, M 35 j = if j = 6 * q + V then nI most else τ 35 j) ∧ (∀ j, M 31 j = if j = q then nI (V + 1) else τ 31 j) ∧ ∀ r, r ≠ 31 → r ≠ 32 → r ≠ 33 → r ≠ 34 → r ≠ 35 → M r = τ r := by
  have hat : 6 * q + V < 24 := by omega
  obtain ⟨N, hN⟩ : ∃ N, FUEL = N + len + 1 := ⟨99999 - len, by unfold FUEL; omega⟩
  obtain ⟨T, a1, a2, a3⟩ := c_copy (q := q) (V := V) hat hlen h0 hW len 0 (by omega) N τ (fun _ _ => rfl) (fun i => by rw [if_neg (by omega)])
  refine ⟨wr (wr (wr (wr T 33 (6 * q + V) (nI len)) 34 (6 * q + V) (nI L)) 35 (6 * q + V) (nI most)) 31 q (nI (V + 1)), ?_, ?_, ?_, ?_, ?_, ?_, ?_⟩
  · have st : f_X6_enter (nI q) τ = f_X6_enter_20 (N + 1) (nI q) (nI V) (nI (6 * q + V)) (nI len) T := by
      rw [← a1]
      unfold f_X6_enter
      rw [rget_n (show q < 4 from hq) (by decide), h31, show (6 : Int32) = nI 6 from rfl, pk_mul]
      simp only [nv]
      rw [nI_add, show q * 6 + V = 6 * q + V by omega, hN]
      rfl
    rw [st]
    show (if T 76 0 ≤ nI len then nw (rset 33 (nI (6 * q + V)) (T 76 0) T) _ else _) = _
    rw [a2 76 (by decide), h0, if_pos (nI_le (Nat.le_refl _) (by omega)), rset_n (show 6 * q + V < 24 from hat) (by decide)]
    simp only [nw]
    rw [rset_n (r := 34) (show 6 * q + V < 24 from hat) (by decide), wr_ne (show (76 : Nat) ≠ 33 by decide), a2 76 (by decide), h1, wr_ne (show (76 : Nat) ≠ 34 by decide), wr_ne (show (76 : Nat) ≠ 33 by decide), a2 76 (by decide)]
    have e108 : ∀ (x : Int32) (Y : Mem), x = nI most → Y 31 q = nI V → f_X6_enter_108 (nI q) (nI V) x (nI (6 * q + V)) Y = some (nI V, wr (wr Y 35 (6 * q + V) (nI most)) 31 q (nI (V + 1))) := by
      intro x Y hx hY
      unfold f_X6_enter_108
      rw [rset_n (show 6 * q + V < 24 from hat) (by decide), hx]
      simp only [nw]
      rw [radd_n (show q < 4 from hq) (by decide), wr_ne (show (31 : Nat) ≠ 35 by decide), hY, nI_1]
    have hY : (wr (wr T 33 (6 * q + V) (nI len)) 34 (6 * q + V) (nI L)) 31 q = nI V := by
      rw [wr_ne (by decide), wr_ne (by decide), a2 31 (by decide)]
      exact h31
    by_cases c : τ 76 2 = -1
    · rw [if_pos c] at h2
      rw [if_pos c, e108 99 _ h2 hY]
    · rw [if_neg c] at h2
      rw [if_neg c, e108 (τ 76 2) _ h2 hY]
  · intro i
    rw [wr_ne (by decide), wr_ne (by decide), wr_ne (by decide), wr_ne (by decide)]
    exact a3 i
  · intro j
    rw [wr_ne (by decide), wr_ne (by decide), wr_ne (by decide), wr_at, a2 33 (by decide)]
    by_cases e : j = 6 * q + V
    · rw [if_pos ⟨rfl, e⟩, if_pos e]
    · rw [if_neg (fun h => e h.2), if_neg e]
  · intro j
    rw [wr_ne (by decide), wr_ne (by decide), wr_at, wr_ne (by decide), a2 34 (by decide)]
    by_cases e : j = 6 * q + V
    · rw [if_pos ⟨rfl, e⟩, if_pos e]
    · rw [if_neg (fun h => e h.2), if_neg e]
  · intro j
    rw [wr_ne (by decide), wr_at, wr_ne (by decide), wr_ne (by decide), a2 35 (by decide)]
    by_cases e : j = 6 * q + V
    · rw [if_pos ⟨rfl, e⟩, if_pos e]
    · rw [if_neg (fun h => e h.2), if_neg e]
  · intro j
    rw [wr_at, wr_ne (by decide), wr_ne (by decide), wr_ne (by decide), a2 31 (by decide)]
    by_cases e : j = q
    · rw [if_pos ⟨rfl, e⟩, if_pos e]
    · rw [if_neg (fun h => e h.2), if_neg e]
  · intro r h31 h32 h33 h34 h35
    rw [wr_ne h31, wr_ne h35, wr_ne h34, wr_ne h33]
    exact a2 r h32
theorem gdz1 {β : Type} {x : Option β} : gd (isZ 1) x = x := rfl
theorem gdz0 {β : Type} {x : Option β} : gd (isZ 0) x = x := rfl
theorem cQ_y {k : Nat} {σ : Mem} (hk : k < 4) : f_X9_isQuestion (nI k) σ = some (1, σ) := by
  unfold f_X9_isQuestion f_X9_isQuestion_14
  rw [if_neg (nI_pos (by omega)), if_neg (show ¬ (4 : Int32) ≤ nI k from nle (a := 4) (by decide) (by omega) hk), gdz1]
theorem cB_y {k : Nat} {σ : Mem} (hk : k < 256) : f_X9_arePoints (nI k) σ = some (1, σ) := by
  unfold f_X9_arePoints f_X9_arePoints_16
  rw [if_neg (nI_pos (by omega)), if_neg (show ¬ (255 : Int32) < nI k from nlt (a := 255) (by decide) (by omega) (by omega)), gdz1]
theorem cS_y {q v V : Nat} {σ : Mem} (hq : q < 4) (h : σ 31 q = nI V) (hV : V < 2 ^ 31) (hv : v < V) : f_X6_has (nI q) (nI v) σ = some (1, σ) := by
  unfold f_X6_has f_X6_has_21
  rw [if_neg (nI_pos (by omega)), rget_n (show q < 4 from hq) (by decide), h, if_neg (nle hV (by omega) hv), gdz1]
theorem isC_c (w : Int32) : isC ((w.toUInt32 % 65536).toInt32) = true := by
  unfold isC
  rw [decide_eq_true_eq]
  have e : ((w.toUInt32 % 65536).toInt32).toUInt32 = w.toUInt32 % 65536 := rfl
  rw [e]
  congr 1
  apply UInt32.toNat_inj.mp
  rw [UInt32.toNat_mod, UInt32.toNat_mod]
  exact Nat.mod_mod _ _
theorem nc0 : (((0 : Int32)).toUInt32 % 65536).toInt32 = 0 := by decide
theorem gdc {β : Type} {w : Int32} {x : Option β} : gd (isC ((w.toUInt32 % 65536).toInt32)) x = x := by rw [isC_c, gd_t]
theorem gdc0 {β : Type} {x : Option β} : gd (isC 0) x = x := rfl
