/-! PURE: the law's picture over two rooms. By hand. -/
abbrev K2 : Type := Int32 → Int32 → M2 → Option (Int32 × M2)
theorem pst_ty {l : Nat → Int32} {t : Nat} {s : PS} {c : Int32} (hp : pst l t = some s) : pst (app l t c) (t + 1) = pstep c s := by
  show (pst (app l t c) t).bind (pstep (app l t c t)) = _
  rw [← pst_cong (l := l) (l' := app l t c) t (fun j hj => (app_n (by omega)).symm), hp, app_s]
  rfl
theorem bd2_some {β : Type} {r : Int32} {u : M2} {k : Int32 → M2 → Option β} : bd2 (some (r, u)) k = k r u := rfl
theorem onO_e {f : Mem → Option (Int32 × Mem)} {σ : M2} {r : Int32} {u : Mem} (h : f σ.1 = some (r, u)) : onO f σ = some (r, (u, σ.2)) := by
  unfold onO
  rw [h]
theorem onP_e {f : Mem → Option (Int32 × Mem)} {σ : M2} {r : Int32} {u : Mem} (h : f σ.2 = some (r, u)) : onP f σ = some (r, (σ.1, u)) := by
  unfold onP
  rw [h]
theorem gd_d {β : Type} {P : Prop} [Decidable P] {x : Option β} (h : P) : gd (decide P) x = x := by rw [decide_eq_true h, gd_t]
/-- both rooms: the same versions, lines of m and m' signs -/
def R2 (τ : M2) (V : Nat → Nat) (m : Nat) (l : Nat → Int32) (m' : Nat) (l' : Nat → Int32) : Prop := Rm τ.1 V m l ∧ Rm τ.2 V m' l'
section LAW
variable {L : Nat} {xs : Nat → Int32} {k21 : K2}
-- the end of a round: the versions of both
theorem l_630 {τ : M2} {V : Nat → Nat} {m m' q : Nat} {l l' : Nat → Int32} {v4 : Int32} (h1 : Rm τ.1 V m l) (h2 : Rm τ.2 V m' l') (hq : q < 4) : f_L_law_630 L xs k21 1 v4 (nI q) τ = k21 1 (v4 + 1) τ := by
  unfold f_L_law_630 f_L_law_660
  rw [if_neg i10, onO_e (r_vers h1 hq), bd2_some, onP_e (σ := (τ.1, τ.2)) (r_vers h2 hq), bd2_some, if_pos rfl]
  all_goals rfl
/-- a version that both rooms hold with the same text -/
def Vn (τ : M2) (V V' : Nat → Nat) (q v len tm most : Nat) (W W' : Nat → Int32) : Prop := v < V q ∧ V q ≤ 6 ∧ v < V' q ∧ V' q ≤ 6 ∧ Tx τ.1 (6 * q + v) len most W ∧ Tx τ.2 (6 * q + v) len most W' ∧ Tl W tm len most ∧ WFb W tm ∧ Tl W' tm len most ∧ WFb W' tm ∧ len ≤ 80 ∧ (∀ j, j < len → W' j = W j) ∧ ∀ j, j < len → ∃ a, 32 ≤ a ∧ a ≤ 126 ∧ W j = nI a
theorem dw_nn (k : Int32) : ∃ z, z < 2 ^ 30 ∧ dw L xs k = nI z := by
  unfold dw
  exact pk_andE _ 30 (by first | rfl | decide)
theorem pt256 {z j : Nat} (hz : z < 2 ^ 30) (hj : j < 24) : ∃ p, p < 256 ∧ (nI z / 64 + 41 * nI j) - (nI z / 64 + 41 * nI j) / 256 * 256 = nI p := by
  have e : nI z / 64 + 41 * nI j = nI (z / 64 + 41 * j) := by
    rw [show (64 : Int32) = nI 64 from rfl, pk_div (by omega) (by decide) (by decide), show (41 : Int32) = nI 41 from rfl, pk_mul, nI_add]
  have hb : z / 64 + 41 * j < 2 ^ 31 := by omega
  refine ⟨(z / 64 + 41 * j) % 256, by omega, ?_⟩
  rw [e, show (256 : Int32) = nI 256 from rfl, pk_div hb (by decide) (by decide), pk_mul, pk_sub (by omega)]
  congr 1
  omega
-- the marks
theorem l_545 {V V' : Nat → Nat} {m m' q v len tm most k : Nat} {l l' W W' : Nat → Int32} (hq : q < 4) (hk : k < 20) (N : Nat) : ∀ d j, j + d = 24 → ∀ τ : M2, Rm τ.1 V m l → Rm τ.2 V' m' l' → Vn τ V V' q v len tm most W W' → ∃ τ' : M2, Rm τ'.1 V m l ∧ Rm τ'.2 V' m' l' ∧ f_L_law_545 L xs k21 (N + d + 1) 1 (nI k) (nI q) (nI v) (nI j) τ = f_L_law_630 L xs k21 1 (nI k) (nI q) τ' := by
  intro d
  induction d with
  | zero =>
    intro j hj τ h1 h2 hV
    refine ⟨τ, h1, h2, ?_⟩
    show (if (24 : Int32) ≤ nI j then _ else _) = _
    rw [if_pos (show (24 : Int32) ≤ nI j from nI_le (a := 24) (by omega) (by omega))]
  | succ d ih =>
    intro j hj τ h1 h2 hV
    obtain ⟨a1, a2, a3, a4, t1, t2, c1, c2, c3, c4, hl, hw, hr⟩ := id hV
    obtain ⟨z, hz, ez⟩ := dw_nn (L := L) (xs := xs) (nI k + nI j)
    obtain ⟨p, hp, ep⟩ := pt256 (j := j) hz (by omega)
    obtain ⟨u1, m1, e1⟩ := r_mark h2 hq a3 a4 t2 hl c3 c4 hp
    obtain ⟨u2, m2, e2⟩ := r_mark h1 hq a1 a2 t1 hl c1 c2 hp
    obtain ⟨u3, m3, e3⟩ := r_mark (h1.ev e2) hq a1 a2 (t1.ev e2) hl c1 c2 hp
    have em : mk9 p W' tm most = mk9 p W tm most := mk9_cong (fun i hi => hw i (by have := c1.lt.1; omega))
    have h99 : mk9 p W tm most ≤ 99 := mk9_le c1.most
    have hV' : Vn (u3, u1) V V' q v len tm most W W' := ⟨a1, a2, a3, a4, (t1.ev e2).ev e3, t2.ev e1, c1, c2, c3, c4, hl, hw, hr⟩
    obtain ⟨τ', g1, g2, g3⟩ := ih (j + 1) (by omega) (u3, u1) ((h1.ev e2).ev e3) (h2.ev e1) hV'
    refine ⟨τ', g1, g2, ?_⟩
    rw [← g3]
    show (if (24 : Int32) ≤ nI j then _ else _) = _
    rw [if_neg (show ¬ (24 : Int32) ≤ nI j from nle (a := 24) (by decide) (by omega) (by omega)), if_neg i10, gd_d (show 0 ≤ nI k + nI j by rw [nI_add]; exact nI_pos' (by omega)), ez, ep]
    simp only [nv]
    rw [onP_e m1, bd2_some, onO_e (σ := (τ.1, u1)) m2, bd2_some, em, if_pos rfl, onO_e (σ := (u2, u1)) m3, bd2_some, if_neg (show ¬ (99 : Int32) < nI (mk9 p W tm most) from nlt (a := 99) (by decide) (by omega) h99)]
    unfold f_L_law_623
    rw [nI_1]
    all_goals rfl
-- the signs
theorem l_496 {V V' : Nat → Nat} {m m' q v len tm most k : Nat} {l l' W W' : Nat → Int32} {τ : M2} (hq : q < 4) (h1 : Rm τ.1 V m l) (h2 : Rm τ.2 V' m' l') (hV : Vn τ V V' q v len tm most W W') (N : Nat) : ∀ d j, j + d = len + 1 → f_L_law_496 L xs k21 (N + d + 1) 1 (nI k) (nI q) (nI v) (nI len) (nI j) τ = f_L_law_542 L xs k21 1 (nI k) (nI q) (nI v) τ := by
  obtain ⟨a1, a2, a3, a4, t1, t2, c1, c2, c3, c4, hl, hw, hr⟩ := id hV
  have hr1 : ∀ j, j < len → ∃ a, a < 127 ∧ W j = nI a := fun j hj => by
    obtain ⟨a, -, x, y⟩ := hr j hj
    exact ⟨a, by omega, y⟩
  have hr2 : ∀ j, j < len → ∃ a, a < 127 ∧ W' j = nI a := fun j hj => by rw [hw j hj]; exact hr1 j hj
  intro d
  induction d with
  | zero =>
    intro j hj
    show (if nI len < nI j then _ else _) = _
    rw [if_pos (ltI (by omega) (by omega) (by omega))]
  | succ d ih =>
    intro j hj
    have ew : (if j < len then W' j else 0) = (if j < len then W j else 0) := by
      by_cases e : j < len
      · rw [if_pos e, if_pos e]; exact hw j e
      · rw [if_neg e, if_neg e]
    rw [← ih (j + 1) (by omega)]
    show (if nI len < nI j then _ else _) = _
    rw [if_neg (nlt (by omega) (by omega) (by omega)), if_neg i10, onP_e (r_written h2 hq a3 a4 t2 hl hr2 (j := j) (by omega)), bd2_some, onO_e (σ := (τ.1, τ.2)) (r_written h1 hq a1 a2 t1 hl hr1 (j := j) (by omega)), bd2_some, ew, if_pos rfl]
    unfold f_L_law_535
    rw [nI_1]
    all_goals rfl
-- the text is typed into the second room
theorem l_418 {V V' : Nat → Nat} {m q v len most k : Nat} {l W : Nat → Int32} {σ1 : Mem} (hq : q < 4) (h1 : Rm σ1 V m l) (hv : v < V q) (hV : V q ≤ 6) (hT : Tx σ1 (6 * q + v) len most W) (hl : len ≤ 40) (hr : ∀ j, j < len → ∃ a, 32 ≤ a ∧ a ≤ 126 ∧ W j = nI a) (N : Nat) : ∀ d j, j + d = len → ∀ (σ2 : Mem) (l2 : Nat → Int32), Rm σ2 V' j l2 → (∀ i, i < j → l2 i = W i) → ∃ (τ2 : Mem) (l' : Nat → Int32), Rm τ2 V' len l' ∧ (∀ i, i < len → l' i = W i) ∧ f_L_law_418 L xs k21 (N + d + 1) 1 (nI k) (nI q) (nI v) (nI j) (σ1, σ2) = f_L_law_470 L xs k21 1 (nI k) (nI q) (nI v) (nI len) (σ1, τ2) := by
  have hr1 : ∀ j, j < len → ∃ a, a < 127 ∧ W j = nI a := fun j hj => by
    obtain ⟨a, -, x, y⟩ := hr j hj
    exact ⟨a, by omega, y⟩
  intro d
  induction d with
  | zero =>
    intro j hj σ2 l2 h2 hi
    have e : j = len := by omega
    subst e
    refine ⟨σ2, l2, h2, hi, ?_⟩
    have hw := r_written h1 hq hv hV hT (by omega) hr1 (j := j) (by omega)
    rw [if_neg (Nat.lt_irrefl j)] at hw
    show (if (1 : Int32) = 0 then _ else _) = _
    rw [if_neg i10, onO_e (σ := (σ1, σ2)) hw, bd2_some, if_pos (show (0 : Int32) ≤ 0 by decide)]
    all_goals rfl
  | succ d ih =>
    intro j hj σ2 l2 h2 hi
    have hw := r_written h1 hq hv hV hT (by omega) hr1 (j := j) (by omega)
    obtain ⟨a, ha1, ha2, ea⟩ := hr j (by omega)
    rw [if_pos (show j < len by omega), ea] at hw
    obtain ⟨u, t1, t2⟩ := r_type h2 (show j < 40 by omega) ha1 ha2
    obtain ⟨τ2, l', g1, g2, g3⟩ := ih (j + 1) (by omega) u (app l2 j (nI a)) t2 (fun i h => by
      by_cases e : i = j
      · subst e; rw [app_s]; exact ea.symm
      · rw [app_n e]; exact hi i (by omega))
    refine ⟨τ2, l', g1, g2, ?_⟩
    rw [← g3]
    show (if (1 : Int32) = 0 then _ else _) = _
    rw [if_neg i10, onO_e (σ := (σ1, σ2)) hw, bd2_some, if_neg (show ¬ nI a ≤ (0 : Int32) from nle (b := 0) (by omega) (by decide) (by omega)), onO_e (σ := (σ1, σ2)) hw, bd2_some, onP_e (σ := (σ1, σ2)) t1, bd2_some, nI_1 j, if_pos rfl]
    unfold f_L_law_463
    rw [nI_1]
    all_goals rfl
/-- the fuel, in parts -/
theorem fuelN (d : Nat) (hd : d < 1000) : ∃ N, FUEL = N + d + 1 := ⟨99999 - d, by unfold FUEL; omega⟩
/-- behind a version that the first room took: the second takes its text, and all is told alike -/
theorem l_409 {V : Nat → Nat} {m q k tm most len : Nat} {l l0 W : Nat → Int32} {σ1 σ2 : Mem} (hq : q < 4) (hk : k < 20) (h1 : Rm σ1 (fun j => if j = q then V q + 1 else V j) m l) (h2 : Rm σ2 V 0 l0) (hV : V q < 6) (hT : Tx σ1 (6 * q + V q) len most W) (ht : Tl W tm len most) (hb : WFb W tm) (hl : len ≤ 40) (hr : ∀ j, j < len → ∃ a, 32 ≤ a ∧ a ≤ 126 ∧ W j = nI a) (hW : Wh W len len W) : ∃ τ : M2, (∃ l9, Rm τ.1 (fun j => if j = q then V q + 1 else V j) m l9) ∧ (∃ l9, Rm τ.2 (fun j => if j = q then V q + 1 else V j) 0 l9) ∧ f_L_law_409 L xs k21 (nI k) (nI q) (nI (V q)) 1 (σ1, σ2) = k21 1 (nI k + 1) τ := by
  have hvq : (fun j => if j = q then V q + 1 else V j) q = V q + 1 := if_pos rfl
  have f1 : V q < (fun j => if j = q then V q + 1 else V j) q := Nat.lt_of_lt_of_eq (Nat.lt_succ_self (V q)) hvq.symm
  have f2 : (fun j => if j = q then V q + 1 else V j) q ≤ 6 := Nat.le_trans (Nat.le_of_eq hvq) hV
  obtain ⟨N1, hN1⟩ := fuelN len (by omega)
  obtain ⟨τ2, l', g1, g2, g3⟩ := l_418 (L := L) (xs := xs) (k21 := k21) (k := k) (V' := V) hq h1 (v := V q) f1 f2 hT hl hr N1 len 0 (by omega) σ2 l0 h2 (fun i hi => absurd hi (Nat.not_lt_zero i))
  obtain ⟨s, s1, s2, s3, s4⟩ := hW
  rw [← pst_cong (l := l') (l' := W) len g2] at s1
  obtain ⟨u, tm', most', d1, d2, d3, d4, d5, d6⟩ := r_good g1 hl hq hV s1 s2
  rw [s3] at d3 d4 d6
  obtain ⟨rfl, rfl⟩ := Tl_uniq s4 ht d4 hb d5
  have hVn : Vn (σ1, u) (fun j => if j = q then V q + 1 else V j) (fun j => if j = q then V q + 1 else V j) q (V q) len tm most W (fin9 s).2 := ⟨f1, f2, f1, f2, hT, d3, ht, hb, d4, d5, Nat.le_trans hl (by omega), s4, hr⟩
  obtain ⟨N2, hN2⟩ := fuelN (len + 1) (by omega)
  obtain ⟨N3, hN3⟩ := fuelN 24 (by omega)
  have c1 := l_496 (L := L) (xs := xs) (k21 := k21) (k := k) (τ := (σ1, u)) hq h1 d2 hVn N2 (len + 1) 0 (by omega)
  obtain ⟨τ', e1, e2, e3⟩ := l_545 (L := L) (xs := xs) (k21 := k21) hq hk N3 24 0 (by omega) (σ1, u) h1 d2 hVn
  refine ⟨τ', ⟨_, e1⟩, ⟨_, e2⟩, ?_⟩
  unfold f_L_law_409
  rw [if_neg (show ¬ nI (V q) < 0 from nI_pos (by omega)), hN1, show f_L_law_418 L xs k21 (N1 + len + 1) 1 (nI k) (nI q) (nI (V q)) 0 (σ1, σ2) = f_L_law_418 L xs k21 (N1 + len + 1) 1 (nI k) (nI q) (nI (V q)) (nI 0) (σ1, σ2) from rfl, g3]
  unfold f_L_law_470
  rw [if_neg i10, onP_e (σ := (σ1, τ2)) d1, bd2_some, if_pos rfl]
  unfold f_L_law_492
  rw [hN2, show f_L_law_496 L xs k21 (N2 + (len + 1) + 1) 1 (nI k) (nI q) (nI (V q)) (nI len) 0 (σ1, u) = f_L_law_496 L xs k21 (N2 + (len + 1) + 1) 1 (nI k) (nI q) (nI (V q)) (nI len) (nI 0) (σ1, u) from rfl, c1]
  unfold f_L_law_542
  rw [hN3, show f_L_law_545 L xs k21 (N3 + 24 + 1) 1 (nI k) (nI q) (nI (V q)) 0 (σ1, u) = f_L_law_545 L xs k21 (N3 + 24 + 1) 1 (nI k) (nI q) (nI (V q)) (nI 0) (σ1, u) from rfl, e3]
  exact l_630 e1 e2 hq
/-- the state between two rounds -/
def Bt (τ : M2) (V : Nat → Nat) : Prop := (∃ l, Rm τ.1 V 0 l) ∧ ∃ l, Rm τ.2 V 0 l
/-- a line that is a scheme is read -/
theorem l_371 {V : Nat → Nat} {m q k len : Nat} {l l0 W : Nat → Int32} {τ : M2} {v9 : Int32} (hq : q < 4) (hk : k < 20) (h1 : Rm τ.1 V m l) (h2 : Rm τ.2 V 0 l0) (hV : V q < 6) (hm : m ≤ 40) (hl : len ≤ 40) (hW0 : Wh l m len W) (hr : ∀ j, j < len → ∃ a, 32 ≤ a ∧ a ≤ 126 ∧ W j = nI a) (hW : Wh W len len W) : ∃ τ' : M2, Bt τ' (fun j => if j = q then V q + 1 else V j) ∧ f_L_law_371 L xs k21 1 (nI k) (nI q) (nI (V q)) v9 0 τ = k21 1 (nI k + 1) τ' := by
  obtain ⟨s, s1, s2, s3, s4⟩ := hW0
  obtain ⟨u, tm, most, d1, d2, d3, d4, d5, d6⟩ := r_good h1 hm hq hV s1 s2
  rw [s3] at d3 d4 d6
  have hT : Tx u (6 * q + V q) len most W := ⟨fun j hj => by rw [← s4 j hj]; exact d3.1 j hj, d3.2.1, d3.2.2⟩
  have ht : Tl W tm len most := Tl_cong s4 d4
  have hb : WFb W tm := WFb_cong (fun j hj => s4 j (by have := d4.lt.1; omega)) d5
  obtain ⟨τ', ⟨l1, e1⟩, ⟨l2, e2⟩, e3⟩ := l_409 (L := L) (xs := xs) (k21 := k21) hq hk d2 h2 hV hT ht hb hl hr hW
  refine ⟨τ', ⟨⟨l1, e1⟩, ⟨l2, e2⟩⟩, ?_⟩
  unfold f_L_law_371
  rw [onO_e d1, bd2_some, if_neg i10, if_pos (show (0 : Int32) = 0 from rfl)]
  unfold f_L_law_401
  rw [if_pos rfl]
  exact e3
theorem neg40 : ∀ t, t < 40 → (-1 - nI t : Int32) < 0 := by decide
/-- a line at fault at its last sign -/
theorem l_371b {V : Nat → Nat} {t q k : Nat} {l l0 : Nat → Int32} {τ : M2} {s : PS} {v6 : Int32} (hq : q < 4) (h1 : Rm τ.1 V (t + 1) l) (h2 : Rm τ.2 V 0 l0) (hV : V q < 6) (hm : t + 1 ≤ 40) (p1 : pst l t = some s) (p2 : pst l (t + 1) = none) : ∃ τ' : M2, Bt τ' V ∧ f_L_law_371 L xs k21 1 (nI k) (nI q) v6 (nI t) 1 τ = k21 1 (nI k + 1) τ' := by
  obtain ⟨u, d1, d2⟩ := r_bad h1 hm hq hV (by omega) p1 p2
  refine ⟨(u, τ.2), ⟨⟨_, d2⟩, ⟨_, h2⟩⟩, ?_⟩
  have neg : (-1 - nI t : Int32) < 0 := neg40 t (by omega)
  unfold f_L_law_371
  rw [onO_e d1, bd2_some, if_neg i10, if_neg i10]
  unfold f_L_law_401
  rw [if_pos rfl]
  unfold f_L_law_409
  rw [if_pos neg]
  exact l_630 (τ := (u, τ.2)) d2 h2 hq
/-- behind the last sign of the SUM -/
theorem l_279 {V : Nat → Nat} {t n q k z : Nat} {l l0 w : Nat → Int32} {τ : M2} (hq : q < 4) (hk : k < 20) (h1 : Rm τ.1 V t l) (h2 : Rm τ.2 V 0 l0) (hV : V q < 6) (ht : t ≤ 14) (hz : z < 2 ^ 30) (hT : Ty l t 2 0 n w) (s0 : Int32) (hs : s0 = 0 ∨ s0 = 1) : ∃ (τ' : M2) (V' : Nat → Nat), Bt τ' V' ∧ (∀ j, V' j ≤ if j = q then V q + 1 else V j) ∧ f_L_law_279 L xs k21 1 (nI k) (nI q) (nI (V q)) (nI t) (nI z) s0 τ = k21 1 (nI k + 1) τ' := by
  obtain ⟨p1, p2, p3, p4⟩ := id hT
  rcases hs with rfl | rfl
  · have fin : ∀ (τ1 : M2) (m len : Nat) (l1 W : Nat → Int32), Rm τ1.1 V m l1 → τ1.2 = τ.2 → m ≤ 40 → len ≤ 40 → Wh l1 m len W → (∀ j, j < len → ∃ a, 32 ≤ a ∧ a ≤ 126 ∧ W j = nI a) → Wh W len len W → ∃ (τ' : M2) (V' : Nat → Nat), Bt τ' V' ∧ (∀ j, V' j ≤ if j = q then V q + 1 else V j) ∧ f_L_law_371 L xs k21 1 (nI k) (nI q) (nI (V q)) (nI t) 0 τ1 = k21 1 (nI k + 1) τ' := by
      intro τ1 m len l1 W a1 a2 a3 a4 a5 a6 a7
      obtain ⟨τ', b1, b2⟩ := l_371 (L := L) (xs := xs) (k21 := k21) (v9 := nI t) hq hk a1 (by rw [a2]; exact h2) hV a3 a4 a5 a6 a7
      exact ⟨τ', _, b1, fun j => Nat.le_refl _, b2⟩
    unfold f_L_law_279
    rw [if_pos (show (0 : Int32) = 0 from rfl), gd_d (show 0 ≤ nI k from nI_pos' (by omega))]
    by_cases c : dw L xs (nI k) - dw L xs (nI k) / 3 * 3 = 0
    · -- with a NUMBER
      obtain ⟨u1, t1, t2⟩ := r_type (c := 60) h1 (by omega) (by omega) (by omega)
      obtain ⟨x, hx, ex⟩ : ∃ x, x ≤ 9 ∧ 48 + (nI z - nI z / 10 * 10) = nI (48 + x) := by
        refine ⟨z % 10, by omega, ?_⟩
        rw [show (10 : Int32) = nI 10 from rfl, pk_div (by omega) (by decide) (by decide), pk_mul, pk_sub (by omega), show (48 : Int32) = nI 48 from rfl, nI_add]
        congr 1
        omega
      obtain ⟨u2, t3, t4⟩ := r_type (c := 48 + x) t2 (by omega) (by omega) (by omega)
      have T1 : Ty (app l t (nI 60)) (t + 1) 3 0 (n + 1) (app w n (nI 60)) := Ty_1 (c := 60) hT (fun w' a b => ps_n) (by omega) (by omega)
      have hT1 := T1
      obtain ⟨q1, q2, q3, q4⟩ := T1
      have P2 : pst (app (app l t (nI 60)) (t + 1) (nI (48 + x))) (t + 1 + 1) = some (4, 0, n + 1, app w n (nI 60), x, 0) := by
        rw [pst_ty q1]
        exact ps_9 hx
      obtain ⟨τ', V', b1, b2, b3⟩ := fin (u2, τ.2) (t + 1 + 1) (n + 1 + 1) _ (app (app w n (nI 60)) (n + 1) (nI (48 + x))) t4 rfl (by omega) (by omega) ⟨_, P2, Or.inr (by show 4 ≤ 4; omega), rfl, fun j hj => rfl⟩ (rng_app q4 (by omega) (by omega)) (can_num q2 hx)
      refine ⟨τ', V', b1, b2, ?_⟩
      rw [← b3, if_pos c, if_neg i10, show (60 : Int32) = nI 60 from rfl, onO_e t1, bd2_some, nI_1 t, if_pos rfl, ex, onO_e (σ := (u1, τ.2)) t3, bd2_some, show nI t + 2 = nI (t + 1 + 1) from nI_add t 2, if_pos rfl]
      all_goals rfl
    · obtain ⟨τ', V', b1, b2, b3⟩ := fin τ t n l w h1 rfl (by omega) (by omega) ⟨_, p1, Or.inl ⟨rfl, rfl⟩, by rw [fin9_3 (by omega)], fun j hj => by rw [fin9_3 (by omega)]⟩ p4 (can_fin p2)
      refine ⟨τ', V', b1, b2, ?_⟩
      rw [← b3, if_neg c]
  · obtain ⟨u1, t1, t2⟩ := r_type (c := 122) h1 (by omega) (by omega) (by omega)
    have P1 : pst (app l t (nI 122)) t = some (2, 0, n, w, 0, 0) := by
      rw [← pst_cong (l := l) (l' := app l t (nI 122)) t (fun j hj => (app_n (by omega)).symm)]
      exact p1
    have P2 : pst (app l t (nI 122)) (t + 1) = none := by
      rw [pst_ty p1]
      exact ps_z rfl
    obtain ⟨τ', b1, b2⟩ := l_371b (L := L) (xs := xs) (k21 := k21) (k := k) (v6 := nI (V q)) (τ := (u1, τ.2)) hq t2 h2 hV (by omega) P1 P2
    have hle : ∀ j, V j ≤ if j = q then V q + 1 else V j := by
      intro j
      by_cases e : j = q
      · rw [if_pos e, e]; exact Nat.le_succ _
      · rw [if_neg e]; exact Nat.le_refl _
    refine ⟨τ', V, b1, hle, ?_⟩
    unfold f_L_law_279
    rw [if_neg i10, if_neg i10, show (122 : Int32) = nI 122 from rfl, onO_e t1, bd2_some, nI_1 t, if_pos rfl]
    unfold f_L_law_310
    exact b2
end LAW
