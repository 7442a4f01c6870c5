/-! PURE: the line of a share, on both sides; lineOf, lineAnew. By hand. -/
/-- few enough of a list reach a line -/
def A.few (sh b : Nat) (l : List Nat) : Bool := decide (100 * cge b l ≤ sh * l.length)
theorem cge_an (b b' : Nat) (h : b ≤ b') (l : List Nat) : cge b' l ≤ cge b l := by
  induction l with
  | nil => exact Nat.le_refl _
  | cons t l ih =>
    rw [cge_c, cge_c]
    by_cases c : b' ≤ t
    · rw [if_pos c, if_pos (by omega)]; omega
    · rw [if_neg c]; omega
theorem few_mono {sh b b' : Nat} {l : List Nat} (h : b ≤ b') (f : A.few sh b l = true) : A.few sh b' l = true := by
  have h1 := of_decide_eq_true f
  have h2 := cge_an b b' h l
  exact decide_eq_true (by omega)
theorem cge_0 (b : Nat) (l : List Nat) (h : ∀ t, t ∈ l → t < b) : cge b l = 0 := by
  induction l with
  | nil => rfl
  | cons t l ih =>
    have := h t (List.mem_cons_self ..)
    rw [cge_c, if_neg (by omega), ih (fun x hx => h x (List.mem_cons_of_mem _ hx))]
/-- the least line, from 0 on -/
def lst (sh : Nat) (l : List Nat) : Nat → Nat → Nat
  | 0, b => b
  | n + 1, b => if A.few sh b l = true then b else lst sh l n (b + 1)
theorem c_with {τ : Mem} {s : A} (hW : WF s) (hT : T42 τ (s.TL s.P)) {sh b : Nat} (hb : b < 2000) (hs : sh ≤ 100) : f_X9_isWithin (nI b) (nI sh) (nI (s.TL s.P).length) τ = some (if A.few sh b (s.TL s.P) = true then 1 else 0, τ) := by
  have hP := hW.P
  have hl := TL_len s s.P
  have hc := cge_le b (s.TL s.P)
  have hm : sh * (s.TL s.P).length ≤ 100 * 16 := Nat.mul_le_mul hs (by omega)
  unfold f_X9_isWithin f_X9_isWithin_20
  rw [c_pf hW hT (b := b) (by omega), bd_some, show (100 : Int32) = nI 100 from rfl, pk_mul, pk_mul]
  by_cases c : 100 * cge b (s.TL s.P) ≤ sh * (s.TL s.P).length
  · rw [if_neg (nlt (by omega) (by omega) (by omega)), if_pos (show A.few sh b (s.TL s.P) = true from decide_eq_true c), gdz1]
  · rw [if_pos ((nI_ltI (by omega) (by omega)).mpr (by omega)), if_neg (show ¬ A.few sh b (s.TL s.P) = true from fun h => c (of_decide_eq_true h)), gdz0]
theorem lst_s {sh b n : Nat} {l : List Nat} : lst sh l (n + 1) b = if A.few sh b l = true then b else lst sh l n (b + 1) := rfl
theorem c_anew {τ : Mem} {s : A} (hW : WF s) (hT : T42 τ (s.TL s.P)) {sh : Nat} (hs : sh ≤ 100) : ∀ d b, b + d = 999 → ∀ N, f_X9_lineAnew_25 (N + d + 1) (nI sh) (nI (s.TL s.P).length) (nI b) τ = some ((0, nI (lst sh (s.TL s.P) d b)), τ) := by
  intro d
  induction d with
  | zero =>
    intro b hb N
    have e : b = 999 := by omega
    subst e
    show (if (999 : Int32) ≤ nI 999 then _ else _) = _
    rw [if_pos (show (999 : Int32) ≤ nI 999 by decide)]
    rfl
  | succ d ih =>
    intro b hb N
    show (if (999 : Int32) ≤ nI b then _ else _) = _
    rw [if_neg (show ¬ (999 : Int32) ≤ nI b from nle (a := 999) (by decide) (by omega) (by omega)), c_with hW hT (by omega) hs, bd_some, lst_s]
    by_cases c : A.few sh b (s.TL s.P) = true
    · rw [if_pos c, if_neg i10, if_pos c]
    · rw [if_neg c, if_pos rfl, if_neg c, nI_1]
      exact ih (b + 1) (by omega) N
/-- the least line is what every least one is -/
theorem lst_u {sh : Nat} {l : List Nat} : ∀ n b m, b ≤ m → m ≤ b + n → (m < b + n → A.few sh m l = true) → (∀ k, b ≤ k → k < m → ¬ A.few sh k l = true) → lst sh l n b = m := by
  intro n
  induction n with
  | zero =>
    intro b m h1 h2 _ _
    show b = m
    omega
  | succ n ih =>
    intro b m h1 h2 h3 h4
    rw [lst_s]
    by_cases c : A.few sh b l = true
    · rw [if_pos c]
      by_cases e : b = m
      · exact e
      · exact absurd c (h4 b (Nat.le_refl _) (by omega))
    · rw [if_neg c]
      have e : b ≠ m := fun e => c (by rw [e]; exact h3 (by omega))
      exact ih (b + 1) m (by omega) (by omega) (fun h => h3 (by omega)) (fun k k1 k2 => h4 k (by omega) k2)
theorem lst_le {sh : Nat} {l : List Nat} : ∀ n b, lst sh l n b ≤ b + n ∧ b ≤ lst sh l n b ∧ (lst sh l n b < b + n → A.few sh (lst sh l n b) l = true) ∧ ∀ k, b ≤ k → k < lst sh l n b → ¬ A.few sh k l = true := by
  intro n
  induction n with
  | zero => intro b; exact ⟨Nat.le_refl _, Nat.le_refl _, fun h => absurd h (Nat.lt_irrefl _), fun k h1 h2 => absurd h2 (Nat.not_lt.mpr h1)⟩
  | succ n ih =>
    intro b
    rw [lst_s]
    by_cases c : A.few sh b l = true
    · rw [if_pos c]
      exact ⟨by omega, Nat.le_refl _, fun _ => c, fun k h1 h2 => absurd h2 (Nat.not_lt.mpr h1)⟩
    · rw [if_neg c]
      obtain ⟨a1, a2, a3, a4⟩ := ih (b + 1)
      refine ⟨by omega, by omega, fun h => a3 (by omega), fun k h1 h2 => ?_⟩
      by_cases e : k = b
      · rw [e]; exact c
      · exact a4 k (by omega) h2
/-- a list whose numbers are all below a line is few there -/
theorem few_hi {sh b : Nat} {l : List Nat} (h : ∀ t, t ∈ l → t < b) : A.few sh b l = true := by
  refine decide_eq_true ?_
  rw [cge_0 b l h]
  exact Nat.zero_le _
/-- the number of those that reach a line changes only behind one of the numbers -/
theorem cge_st (b : Nat) (l : List Nat) (h : ¬ b ∈ l) : cge (b + 1) l = cge b l := by
  induction l with
  | nil => rfl
  | cons t l ih =>
    rw [cge_c, cge_c, ih (fun z => h (List.mem_cons_of_mem _ z))]
    have e : t ≠ b := fun e => h (by rw [e]; exact List.mem_cons_self ..)
    by_cases c : b + 1 ≤ t
    · rw [if_pos c, if_pos (by omega)]
    · rw [if_neg c, if_neg (by omega)]
/-- the class's search: the least of 999 and all that lie right behind a number and are few -/
def sch9 (sh : Nat) (l : List Nat) : List Nat → Nat → Nat
  | [], v => v
  | t :: m, v => sch9 sh l m (if v ≤ t + 1 then v else if A.few sh (t + 1) l = true then t + 1 else v)
theorem c_lnof {τ : Mem} {s : A} (hW : WF s) (hT : T42 τ (s.TL s.P)) {sh : Nat} (hs : sh ≤ 100) : ∀ d i v, i + d = (s.TL s.P).length → v ≤ 999 → ∀ N, f_X9_lineOf_42 (N + d + 1) (nI sh) (nI (s.TL s.P).length) (nI v) (nI i) τ = some ((0, nI (sch9 sh (s.TL s.P) ((s.TL s.P).drop i) v)), τ) := by
  have hP := hW.P
  have hl := TL_len s s.P
  intro d
  induction d with
  | zero =>
    intro i v hi hv N
    show (if nI (s.TL s.P).length ≤ nI i then _ else _) = _
    rw [if_pos (nI_le (by omega) (by omega)), List.drop_eq_nil_of_le (by omega)]
    rfl
  | succ d ih =>
    intro i v hi hv N
    obtain ⟨t, e⟩ := get_y (l := s.TL s.P) (i := i) (by omega)
    have ht := TL_le hW hP (List.mem_of_getElem? e)
    have sc : sch9 sh (s.TL s.P) (t :: (s.TL s.P).drop (i + 1)) v = sch9 sh (s.TL s.P) ((s.TL s.P).drop (i + 1)) (if v ≤ t + 1 then v else if A.few sh (t + 1) (s.TL s.P) = true then t + 1 else v) := rfl
    show (if nI (s.TL s.P).length ≤ nI i then _ else _) = _
    rw [if_neg (nle (by omega) (by omega) (by omega)), rget_n (show i < 16 by omega) (by decide), hT i t e, drop_g e, nI_1, sc]
    simp only [nv]
    unfold f_X9_lineOf_81
    rw [nI_1]
    by_cases c : v ≤ t + 1
    · rw [if_pos ((nI_leI (by omega) (by omega)).mpr c), if_pos c]
      exact ih (i + 1) v (by omega) hv N
    · rw [if_neg (nle (by omega) (by omega) (by omega)), if_neg c, c_with hW hT (by omega) hs, bd_some]
      by_cases f : A.few sh (t + 1) (s.TL s.P) = true
      · rw [if_pos f, if_neg i10, if_pos f]
        exact ih (i + 1) (t + 1) (by omega) (by omega) N
      · rw [if_neg f, if_pos rfl, if_neg f]
        exact ih (i + 1) v (by omega) hv N
/-- what the search finds -/
theorem sch9_p {sh : Nat} {l : List Nat} : ∀ (m : List Nat) (v : Nat), sch9 sh l m v ≤ v ∧ (sch9 sh l m v = v ∨ A.few sh (sch9 sh l m v) l = true) ∧ ∀ t, t ∈ m → A.few sh (t + 1) l = true → sch9 sh l m v ≤ t + 1 := by
  intro m
  induction m with
  | nil => intro v; exact ⟨Nat.le_refl _, Or.inl rfl, fun t h => absurd h (List.not_mem_nil)⟩
  | cons x m ih =>
    intro v
    have sc : sch9 sh l (x :: m) v = sch9 sh l m (if v ≤ x + 1 then v else if A.few sh (x + 1) l = true then x + 1 else v) := rfl
    rw [sc]
    by_cases c : v ≤ x + 1
    · rw [if_pos c]
      obtain ⟨a1, a2, a3⟩ := ih v
      refine ⟨a1, a2, fun t ht hf => ?_⟩
      rcases List.mem_cons.mp ht with e | e
      · rw [e]; omega
      · exact a3 t e hf
    · rw [if_neg c]
      by_cases f : A.few sh (x + 1) l = true
      · rw [if_pos f]
        obtain ⟨a1, a2, a3⟩ := ih (x + 1)
        refine ⟨by omega, ?_, fun t ht hf => ?_⟩
        · rcases a2 with e | e
          · exact Or.inr (by rw [e]; exact f)
          · exact Or.inr e
        · rcases List.mem_cons.mp ht with e | e
          · rw [e]; exact a1
          · exact a3 t e hf
      · rw [if_neg f]
        obtain ⟨a1, a2, a3⟩ := ih v
        refine ⟨a1, a2, fun t ht hf => ?_⟩
        rcases List.mem_cons.mp ht with e | e
        · rw [e] at hf; exact absurd hf f
        · exact a3 t e hf
/-- both searches find one line -/
theorem sch9_l {sh : Nat} {l : List Nat} (h0 : ¬ A.few sh 0 l = true) : sch9 sh l l 999 = lst sh l 999 0 := by
  obtain ⟨a1, a2, a3⟩ := sch9_p (sh := sh) (l := l) l 999
  obtain ⟨b1, b2, b3, b4⟩ := lst_le (sh := sh) (l := l) 999 0
  have up : lst sh l 999 0 ≤ sch9 sh l l 999 := by
    rcases a2 with e | e
    · rw [e]; omega
    · by_cases z : sch9 sh l l 999 < lst sh l 999 0
      · exact absurd e (b4 _ (Nat.zero_le _) z)
      · omega
  have dn : sch9 sh l l 999 ≤ lst sh l 999 0 := by
    by_cases z : lst sh l 999 0 < 999
    · have f := b3 (by omega)
      have p : lst sh l 999 0 ≠ 0 := fun e => h0 (by rw [e] at f; exact f)
      obtain ⟨k, hk⟩ : ∃ k, lst sh l 999 0 = k + 1 := ⟨lst sh l 999 0 - 1, by omega⟩
      rw [hk] at f ⊢
      by_cases c : k ∈ l
      · exact a3 k c f
      · have g := b4 k (Nat.zero_le _) (by omega)
        refine absurd ?_ g
        have f1 := of_decide_eq_true f
        rw [cge_st k l c] at f1
        exact decide_eq_true f1
    · omega
  omega
theorem m_l47 {σ : Mem} {s : A} (hW : WF s) (hM : RelM σ s) {sh t : Nat} (hs : sh ≤ 100) (ht : t < 2000) {k37 : Int32 → Int32 → Int32 → Mem → Option (Int32 × Mem)} : ∀ d p, p + d = s.P → ∀ N τ, eqv σ τ → ∃ u, f_X10_lineAt_47 k37 (N + d + 1) (nI sh) (nI (s.TL s.P).length) (nI t) (nI (cge t (s.TL p))) (nI p) τ = (if A.few sh t (s.TL s.P) = true then some (nI t, u) else k37 (nI sh) (nI (s.TL s.P).length) (nI (t + 1)) u) ∧ eqv σ u := by
  have hP := hW.P
  have hl := TL_len s s.P
  intro d
  induction d with
  | zero =>
    intro p hp N τ hτ
    have e : p = s.P := by omega
    subst e
    have hc := cge_le t (s.TL s.P)
    have hm : sh * (s.TL s.P).length ≤ 100 * 16 := Nat.mul_le_mul hs (by omega)
    refine ⟨τ, ?_, hτ⟩
    show (if τ 76 25 ≤ nI s.P then (if nI sh * nI (s.TL s.P).length < (100 : Int32) * nI (cge t (s.TL s.P)) then _ else _) else _) = _
    rw [(hM.ev hτ).m2.1, if_pos (nI_le (Nat.le_refl _) (by omega)), show (100 : Int32) = nI 100 from rfl, pk_mul, pk_mul, nI_1]
    by_cases c : 100 * cge t (s.TL s.P) ≤ sh * (s.TL s.P).length
    · rw [if_neg (nlt (by omega) (by omega) c), if_pos (show A.few sh t (s.TL s.P) = true from decide_eq_true c)]
    · rw [if_pos ((nI_ltI (by omega) (by omega)).mpr (by omega)), if_neg (show ¬ A.few sh t (s.TL s.P) = true from fun h => c (of_decide_eq_true h))]
  | succ d ih =>
    intro p hp N τ hτ
    have M1 := hM.ev hτ
    have hsT := TL_s s p
    obtain ⟨u1, d1, d2⟩ := m_total hW M1 (show p < s.P by omega)
    obtain ⟨u2, e1, e2⟩ := ih (p + 1) (by omega) N u1 (hτ.trans d2)
    refine ⟨u2, ?_, e2⟩
    show (if τ 76 25 ≤ nI p then _ else _) = _
    rw [M1.m2.1, if_neg (nle (by omega) (by omega) (by omega)), d1, bd_some]
    unfold f_X10_lineAt_73
    simp only [nv]
    rw [nI_1 p]
    cases e : s.tot p with
    | none =>
      rw [e] at hsT
      have hs' : s.TL (p + 1) = s.TL p := hsT
      rw [hs'] at e1
      rw [if_pos (show oi none < nI t by rw [oi_n, lt_int, nI_toInt (by omega)]; have : (-1 : Int32).toInt = -1 := rfl; omega), show (0 : Int32) = nI 0 from rfl, nI_add]
      exact e1
    | some x =>
      have hx := tot_le hW (show p < 16 by omega) e
      rw [e] at hsT
      have hs' : s.TL (p + 1) = s.TL p ++ [x] := hsT
      have h1 : cge t (s.TL (p + 1)) = cge t (s.TL p) + if t ≤ x then 1 else 0 := by
        rw [hs', cge_a, cge_c]
        rfl
      rw [h1] at e1
      show (if nI x < nI t then _ else _) = _
      by_cases c : t ≤ x
      · rw [if_pos c] at e1
        rw [if_neg (nlt (by omega) (by omega) c), show (1 : Int32) = nI 1 from rfl, nI_add]
        exact e1
      · rw [if_neg c] at e1
        rw [if_pos ((nI_ltI (by omega) (by omega)).mpr (by omega)), show (0 : Int32) = nI 0 from rfl, nI_add]
        exact e1
theorem m_l37 {σ : Mem} {s : A} (hW : WF s) (hM : RelM σ s) {sh : Nat} (hs : sh ≤ 100) (h0 : 0 < (s.TL s.P).length) : ∀ n t, t + n = 999 → ∀ N τ, eqv σ τ → ∃ u, f_X10_lineAt_37 (N + n + 1) (nI sh) (nI (s.TL s.P).length) (nI t) τ = some (nI (lst sh (s.TL s.P) n t), u) ∧ eqv σ u := by
  have hP := hW.P
  have hl := TL_len s s.P
  have body : ∀ N t τ, f_X10_lineAt_37 (N + 1) (nI sh) (nI (s.TL s.P).length) (nI t) τ = f_X10_lineAt_47 (f_X10_lineAt_37 N) FUEL (nI sh) (nI (s.TL s.P).length) (nI t) 0 0 τ := by
    intro N t τ
    show (if nI (s.TL s.P).length ≤ 0 then _ else _) = _
    rw [if_neg (show ¬ nI (s.TL s.P).length ≤ (0 : Int32) from nle (b := 0) (by omega) (by decide) h0)]
  obtain ⟨K, hK⟩ : ∃ K, FUEL = K + s.P + 1 := ⟨99999 - s.P, by unfold FUEL; omega⟩
  intro n
  induction n with
  | zero =>
    intro t ht N τ hτ
    have f : A.few sh t (s.TL s.P) = true := few_hi (fun x hx => by have := TL_le hW hP hx; omega)
    obtain ⟨u, d1, d2⟩ := m_l47 hW hM hs (show t < 2000 by omega) (k37 := f_X10_lineAt_37 (N + 0)) s.P 0 (by omega) K τ hτ
    rw [if_pos f] at d1
    refine ⟨u, ?_, d2⟩
    rw [body, hK]
    exact d1
  | succ n ih =>
    intro t ht N τ hτ
    obtain ⟨u, d1, d2⟩ := m_l47 hW hM hs (show t < 2000 by omega) (k37 := f_X10_lineAt_37 (N + n + 1)) s.P 0 (by omega) K τ hτ
    have b : f_X10_lineAt_37 (N + (n + 1) + 1) (nI sh) (nI (s.TL s.P).length) (nI t) τ = f_X10_lineAt_47 (f_X10_lineAt_37 (N + n + 1)) FUEL (nI sh) (nI (s.TL s.P).length) (nI t) 0 0 τ := body (N + (n + 1)) t τ
    by_cases f : A.few sh t (s.TL s.P) = true
    · rw [if_pos f] at d1
      refine ⟨u, ?_, d2⟩
      rw [b, hK, lst_s, if_pos f]
      exact d1
    · rw [if_neg f] at d1
      obtain ⟨u2, e1, e2⟩ := ih (t + 1) (by omega) N u d2
      refine ⟨u2, ?_, e2⟩
      rw [b, hK, lst_s, if_neg f]
      exact Eq.trans d1 e1
theorem m_l4 {σ : Mem} {s : A} (hW : WF s) (hM : RelM σ s) {sh : Nat} : ∀ d p, p + d = s.P → ∀ N τ, eqv σ τ → ∃ u, f_X10_lineAt_4 (N + d + 1) (nI sh) (nI (s.TL p).length) (nI p) τ = f_X10_lineAt_37 FUEL (nI sh) (nI (s.TL s.P).length) 0 u ∧ eqv σ u := by
  have hP := hW.P
  intro d
  induction d with
  | zero =>
    intro p hp N τ hτ
    have e : p = s.P := by omega
    subst e
    refine ⟨τ, ?_, hτ⟩
    show (if τ 76 25 ≤ nI s.P then _ else _) = _
    rw [(hM.ev hτ).m2.1, if_pos (nI_le (Nat.le_refl _) (by omega))]
  | succ d ih =>
    intro p hp N τ hτ
    have M1 := hM.ev hτ
    have hsT := TL_s s p
    obtain ⟨u1, d1, d2⟩ := m_total hW M1 (show p < s.P by omega)
    obtain ⟨u2, e1, e2⟩ := ih (p + 1) (by omega) N u1 (hτ.trans d2)
    refine ⟨u2, ?_, e2⟩
    show (if τ 76 25 ≤ nI p then _ else _) = _
    rw [M1.m2.1, if_neg (nle (by omega) (by omega) (by omega)), d1, bd_some]
    unfold f_X10_lineAt_27
    simp only [nv]
    rw [nI_1 p]
    cases e : s.tot p with
    | none =>
      rw [e] at hsT
      have hs' : s.TL (p + 1) = s.TL p := hsT
      rw [hs'] at e1
      rw [if_pos oi_n, show (0 : Int32) = nI 0 from rfl, nI_add]
      exact e1
    | some x =>
      have hx := tot_le hW (show p < 16 by omega) e
      rw [e] at hsT
      have hs' : s.TL (p + 1) = s.TL p ++ [x] := hsT
      rw [hs', List.length_append, List.length_singleton] at e1
      rw [if_neg (oi_s (show x < 2 ^ 31 by omega)), show (1 : Int32) = nI 1 from rfl, nI_add]
      exact e1
theorem m_lineAt {σ : Mem} {s : A} (hW : WF s) (hM : RelM σ s) {sh : Nat} (hs : sh ≤ 100) : ∃ u, f_X10_lineAt (nI sh) σ = some (nI (lst sh (s.TL s.P) 999 0), u) ∧ eqv σ u := by
  have hP := hW.P
  obtain ⟨N, hN⟩ : ∃ N, FUEL = N + s.P + 1 := ⟨99999 - s.P, by unfold FUEL; omega⟩
  obtain ⟨u1, d1, d2⟩ := m_l4 hW hM (sh := sh) s.P 0 (by omega) N σ eqv.rfl
  have st : f_X10_lineAt (nI sh) σ = f_X10_lineAt_37 FUEL (nI sh) (nI (s.TL s.P).length) 0 u1 := by
    rw [← d1]
    unfold f_X10_lineAt
    rw [hN]
    rfl
  rw [st]
  by_cases h0 : 0 < (s.TL s.P).length
  · obtain ⟨u2, e1, e2⟩ := m_l37 hW hM hs h0 999 0 (by omega) 99000 u1 d2
    exact ⟨u2, e1, e2⟩
  · have z : s.TL s.P = [] := List.eq_nil_of_length_eq_zero (by omega)
    rw [z]
    have e : f_X10_lineAt_37 FUEL (nI sh) (nI ([] : List Nat).length) 0 u1 = f_X10_lineAt_37 (99999 + 1) (nI sh) (nI ([] : List Nat).length) 0 u1 := rfl
    have l0 : lst sh [] 999 0 = 0 := by
      have f : A.few sh 0 [] = true := decide_eq_true (Nat.zero_le _)
      rw [show (999 : Nat) = 998 + 1 from rfl, lst_s, if_pos f]
    refine ⟨u1, ?_, d2⟩
    rw [e, l0]
    show (if nI ([] : List Nat).length ≤ 0 then _ else _) = _
    rw [if_pos (show nI ([] : List Nat).length ≤ (0 : Int32) by decide)]
    rfl
/-- lineAnew -/
theorem step_lineAnew (x : Int32) {σ : Mem} (hI : Inv9 σ) : StpG Inv9 (f_X9_lineAnew x) (f_X10_lineAnew x) [1] σ := by
  obtain ⟨s, hW, hC, hM⟩ := hI
  have i100 : (100 : Int32) = nI 101 - 1 := rfl
  rcases idx x 101 with ⟨sh, hs, rfl⟩ | hx
  · obtain ⟨u1, d1, d2, d3⟩ := c_gath hW hC
    refine stepS (oc := (0, nI (lst sh (s.TL s.P) 999 0))) hW hC hM ⟨u1, ?_, d2⟩ (fun u hu => ?_) (Or.inl rfl)
    · have a := c_anew hW d3 (sh := sh) (by omega) 999 0 (by omega) 99000
      have a' : f_X9_lineAnew_25 FUEL (nI sh) (nI (s.TL s.P).length) 0 u1 = some ((0, nI (lst sh (s.TL s.P) 999 0)), u1) := a
      unfold f_X9_lineAnew
      rw [if_neg (nI_pos (by omega)), if_pos (show nI sh ≤ (100 : Int32) from (nI_leI (b := 100) (by omega) (by decide)).mpr (by omega)), d1, bd_some, a']
    · obtain ⟨u2, m1, m2⟩ := m_lineAt hW (hu.ask (c := 0)) (show sh ≤ 100 by omega)
      refine ⟨nI (lst sh (s.TL s.P) 999 0), u2, ?_, m2.2.trans ask_22, m2.1.trans core_ask, fun _ => rfl⟩
      unfold f_X10_lineAnew f_X10_lineAnew_23
      rw [i100, in_y hs (by decide), bd_some, aa0, bd_some, if_neg i10, m1, bd_some]
  · refine stepS (oc := (1, 0)) hW hC hM ⟨σ, ?_, eqv.rfl⟩ (fun u hu => ⟨0, ask 1 u, ?_, ask_22, core_ask, fun h => absurd h (by decide)⟩) (Or.inr (by decide))
    · unfold f_X9_lineAnew f_X9_lineAnew_10
      rcases idx_n (by decide) hx with z | z
      · rw [if_pos z]
      · have h2 : ¬ x ≤ 100 := by
          rw [le_int, nI_toInt (by omega)] at z
          rw [le_int]
          have : (100 : Int32).toInt = 100 := rfl
          omega
        rw [if_neg h2, ite_self]
    · unfold f_X10_lineAnew f_X10_lineAnew_23
      rw [i100, in_n (by decide) hx, bd_some, aa1, bd_some, if_pos rfl]
/-- lineOf -/
theorem step_lineOf (x : Int32) {σ : Mem} (hI : Inv9 σ) : StpG Inv9 (f_X9_lineOf x) (f_X10_lineOf x) [1] σ := by
  obtain ⟨s, hW, hC, hM⟩ := hI
  have hP := hW.P
  have hl := TL_len s s.P
  have i100 : (100 : Int32) = nI 101 - 1 := rfl
  rcases idx x 101 with ⟨sh, hs, rfl⟩ | hx
  · obtain ⟨u1, d1, d2, d3⟩ := c_gath hW hC
    refine stepS (oc := (0, nI (lst sh (s.TL s.P) 999 0))) hW hC hM ⟨u1, ?_, d2⟩ (fun u hu => ?_) (Or.inl rfl)
    · have w0 := c_with hW d3 (sh := sh) (b := 0) (by omega) (by omega)
      have w0' : f_X9_isWithin 0 (nI sh) (nI (s.TL s.P).length) u1 = some (if A.few sh 0 (s.TL s.P) = true then 1 else 0, u1) := w0
      unfold f_X9_lineOf
      rw [if_neg (nI_pos (by omega)), if_pos (show nI sh ≤ (100 : Int32) from (nI_leI (b := 100) (by omega) (by decide)).mpr (by omega)), d1, bd_some, w0', bd_some]
      by_cases f : A.few sh 0 (s.TL s.P) = true
      · rw [if_pos f, if_neg i10, show (999 : Nat) = 998 + 1 from rfl, lst_s, if_pos f]
        all_goals rfl
      · rw [if_neg f, if_pos rfl]
        obtain ⟨N, hN⟩ : ∃ N, FUEL = N + (s.TL s.P).length + 1 := ⟨99999 - (s.TL s.P).length, by unfold FUEL; omega⟩
        have a := c_lnof hW d3 (sh := sh) (by omega) (s.TL s.P).length 0 999 (by omega) (by omega) N
        rw [List.drop_zero, sch9_l f] at a
        rw [hN]
        exact a
    · obtain ⟨u2, m1, m2⟩ := m_lineAt hW (hu.ask (c := 0)) (show sh ≤ 100 by omega)
      refine ⟨nI (lst sh (s.TL s.P) 999 0), u2, ?_, m2.2.trans ask_22, m2.1.trans core_ask, fun _ => rfl⟩
      unfold f_X10_lineOf f_X10_lineOf_23
      rw [i100, in_y hs (by decide), bd_some, aa0, bd_some, if_neg i10, m1, bd_some]
  · refine stepS (oc := (1, 0)) hW hC hM ⟨σ, ?_, eqv.rfl⟩ (fun u hu => ⟨0, ask 1 u, ?_, ask_22, core_ask, fun h => absurd h (by decide)⟩) (Or.inr (by decide))
    · unfold f_X9_lineOf f_X9_lineOf_10
      rcases idx_n (by decide) hx with z | z
      · rw [if_pos z]
      · have h2 : ¬ x ≤ 100 := by
          rw [le_int, nI_toInt (by omega)] at z
          rw [le_int]
          have : (100 : Int32).toInt = 100 := rfl
          omega
        rw [if_neg h2, ite_self]
    · unfold f_X10_lineOf f_X10_lineOf_23
      rw [i100, in_n (by decide) hx, bd_some, aa1, bd_some, if_pos rfl]
