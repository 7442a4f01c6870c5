/-! PURE: a scheme's full text, read again, is the same scheme. By hand. -/
theorem pst_app {w w' : Nat → Int32} {n h o a b : Nat} {c : Int32} (hp : pst w n = some (h, o, n, w', a, b)) : pst (app w n c) (n + 1) = pstep c (h, o, n, w', a, b) := by
  show (pst (app w n c) n).bind (pstep (app w n c n)) = _
  rw [← pst_cong (l := w) (l' := app w n c) n (fun j hj => (app_n (by omega)).symm), hp, app_s]
  rfl
theorem app_eq {w w' : Nat → Int32} {n : Nat} {c : Int32} (hw : ∀ j, j < n → w' j = w j) : ∀ j, j < n + 1 → app w' n c j = app w n c j := by
  intro j hj
  by_cases e : j = n
  · subst e; rw [app_s, app_s]
  · rw [app_n e, app_n e]; exact hw j (by omega)
/-- the text w of n signs is read to h, o and the same text -/
def Can (h o n : Nat) (w : Nat → Int32) : Prop := ∃ w' a b, pst w n = some (h, o, n, w', a, b) ∧ ∀ j, j < n → w' j = w j
theorem can_1 {h o n h' o' : Nat} {w : Nat → Int32} {c : Int32} (hC : Can h o n w) (hs : ∀ w' a b, pstep c (h, o, n, w', a, b) = some (h', o', n + 1, app w' n c, a, b)) : Can h' o' (n + 1) (app w n c) := by
  obtain ⟨w', a, b, p1, p2⟩ := hC
  exact ⟨app w' n c, a, b, by rw [pst_app p1]; exact hs w' a b, app_eq p2⟩
theorem ps_d {o n a b : Nat} {w : Nat → Int32} {c : Int32} (hc : 49 ≤ c ∧ c ≤ 57) : pstep c (0, o, n, w, a, b) = some (1, o, n + 1, app w n c, a, b) := by
  unfold pstep
  dsimp only
  rw [if_pos rfl, if_pos hc]
theorem ps_l1 {o n a b : Nat} {w : Nat → Int32} {c : Int32} (hc : 97 ≤ c ∧ c ≤ 104) : pstep c (1, o, n, w, a, b) = some (2, o, n + 1, app w n c, a, b) := by
  unfold pstep
  dsimp only
  rw [if_neg (show ¬ 1 = 0 by omega), if_pos rfl, if_pos hc]
theorem ps_o1 {o n a b : Nat} {w : Nat → Int32} (ho : o < 4) : pstep 40 (1, o, n, w, a, b) = some (0, o + 1, n + 1, app w n 40, a, b) := by
  unfold pstep
  dsimp only
  rw [if_neg (show ¬ 1 = 0 by omega), if_pos rfl, if_neg (show ¬ ((97 : Int32) ≤ 40 ∧ (40 : Int32) ≤ 104) by decide), if_pos ⟨rfl, ho⟩]
theorem ps_l0 {o n a b : Nat} {w : Nat → Int32} {c : Int32} (hc : 97 ≤ c ∧ c ≤ 104) : pstep c (0, o, n, w, a, b) = some (2, o, n + 2, app (app w n 49) (n + 1) c, a, b) := by
  have nd : ¬ (49 ≤ c ∧ c ≤ 57) := fun h => by
    have h1 := h.2
    have h2 := hc.1
    rw [le_int] at h1 h2
    have a1 : ((57 : Int32).toInt) = 57 := rfl
    have a2 : ((97 : Int32).toInt) = 97 := rfl
    omega
  unfold pstep
  dsimp only
  rw [if_pos rfl, if_neg nd, if_pos hc]
theorem ps_o0 {o n a b : Nat} {w : Nat → Int32} (ho : o < 4) : pstep 40 (0, o, n, w, a, b) = some (0, o + 1, n + 2, app (app w n 49) (n + 1) 40, a, b) := by
  unfold pstep
  dsimp only
  rw [if_pos rfl, if_neg (show ¬ ((49 : Int32) ≤ 40 ∧ (40 : Int32) ≤ 57) by decide), if_neg (show ¬ ((97 : Int32) ≤ 40 ∧ (40 : Int32) ≤ 104) by decide), if_pos ⟨rfl, ho⟩]
theorem ps_p {o n a b : Nat} {w : Nat → Int32} : pstep 43 (2, o, n, w, a, b) = some (0, o, n + 1, app w n 43, a, b) := by
  unfold pstep
  dsimp only
  rw [if_neg (show ¬ 2 = 0 by omega), if_neg (show ¬ 2 = 1 by omega), if_pos rfl, if_pos rfl]
theorem ps_b {o n a b : Nat} {w : Nat → Int32} (ho : 0 < o) : pstep 124 (2, o, n, w, a, b) = some (0, o, n + 1, app w n 124, a, b) := by
  unfold pstep
  dsimp only
  rw [if_neg (show ¬ 2 = 0 by omega), if_neg (show ¬ 2 = 1 by omega), if_pos rfl, if_neg (show ¬ (124 : Int32) = 43 by decide), if_pos ⟨rfl, ho⟩]
theorem ps_c {o n a b : Nat} {w : Nat → Int32} (ho : 0 < o) : pstep 41 (2, o, n, w, a, b) = some (2, o - 1, n + 1, app w n 41, a, b) := by
  unfold pstep
  dsimp only
  rw [if_neg (show ¬ 2 = 0 by omega), if_neg (show ¬ 2 = 1 by omega), if_pos rfl, if_neg (show ¬ (41 : Int32) = 43 by decide), if_neg (show ¬ ((41 : Int32) = 124 ∧ 0 < o) from fun h => absurd h.1 (by decide)), if_pos ⟨rfl, ho⟩]
theorem ps_n {n a b : Nat} {w : Nat → Int32} : pstep 60 (2, 0, n, w, a, b) = some (3, 0, n + 1, app w n 60, a, b) := by
  unfold pstep
  dsimp only
  rw [if_neg (show ¬ 2 = 0 by omega), if_neg (show ¬ 2 = 1 by omega), if_pos rfl, if_neg (show ¬ (60 : Int32) = 43 by decide), if_neg (show ¬ ((60 : Int32) = 124 ∧ 0 < 0) from fun h => absurd h.1 (by decide)), if_neg (show ¬ ((60 : Int32) = 41 ∧ 0 < 0) from fun h => absurd h.1 (by decide)), if_pos ⟨rfl, rfl⟩]
theorem ps_9 {o n a b x : Nat} {w : Nat → Int32} (hx : x ≤ 9) : pstep (nI (48 + x)) (3, o, n, w, a, b) = some (4, o, n, w, x, b) := by
  have hc : 48 ≤ nI (48 + x) ∧ nI (48 + x) ≤ 57 := ⟨(nI_leI (a := 48) (by decide) (by omega)).mpr (by omega), (nI_leI (b := 57) (by omega) (by decide)).mpr (by omega)⟩
  have e : (nI (48 + x) - 48).toNatClampNeg = x := by
    rw [show (48 : Int32) = nI 48 from rfl, pk_sub (by omega), na_nI (by omega)]
    omega
  unfold pstep
  dsimp only
  rw [if_neg (show ¬ 3 = 0 by omega), if_neg (show ¬ 3 = 1 by omega), if_neg (show ¬ 3 = 2 by omega), if_pos rfl, if_pos hc, e]
theorem ps_z {o n a b : Nat} {w : Nat → Int32} (ho : o = 0) : pstep 122 (2, o, n, w, a, b) = none := by
  unfold pstep
  dsimp only
  rw [if_neg (show ¬ 2 = 0 by omega), if_neg (show ¬ 2 = 1 by omega), if_pos rfl, if_neg (show ¬ (122 : Int32) = 43 by decide), if_neg (show ¬ ((122 : Int32) = 124 ∧ 0 < o) from fun h => absurd h.1 (by decide)), if_neg (show ¬ ((122 : Int32) = 41 ∧ 0 < o) from fun h => absurd h.1 (by decide)), if_neg (show ¬ ((122 : Int32) = 60 ∧ o = 0) from fun h => absurd h.1 (by decide))]
theorem c49 : 49 ≤ (49 : Int32) ∧ (49 : Int32) ≤ 57 := by decide
/-- what is typed so far: t signs are read to how, open and the text w of n signs, which is its own text; signs that may be typed -/
def Ty (l : Nat → Int32) (t h o n : Nat) (w : Nat → Int32) : Prop := pst l t = some (h, o, n, w, 0, 0) ∧ Can h o n w ∧ n ≤ 2 * t ∧ ∀ j, j < n → ∃ a, 32 ≤ a ∧ a ≤ 126 ∧ w j = nI a
theorem rng_app {w : Nat → Int32} {n a : Nat} (h : ∀ j, j < n → ∃ a, 32 ≤ a ∧ a ≤ 126 ∧ w j = nI a) (h1 : 32 ≤ a) (h2 : a ≤ 126) : ∀ j, j < n + 1 → ∃ x, 32 ≤ x ∧ x ≤ 126 ∧ app w n (nI a) j = nI x := by
  intro j hj
  by_cases e : j = n
  · subst e; exact ⟨a, h1, h2, app_s⟩
  · rw [app_n e]; exact h j (by omega)
theorem Ty_0 {l : Nat → Int32} : Ty l 0 0 0 0 (fun _ => 0) := ⟨rfl, ⟨fun _ => 0, 0, 0, rfl, fun j hj => absurd hj (Nat.not_lt_zero j)⟩, Nat.le_refl _, fun j hj => absurd hj (Nat.not_lt_zero j)⟩
/-- one sign that is written as it is -/
theorem Ty_1 {l : Nat → Int32} {t h o n h' o' c : Nat} {w : Nat → Int32} (hT : Ty l t h o n w) (hs : ∀ w' a b, pstep (nI c) (h, o, n, w', a, b) = some (h', o', n + 1, app w' n (nI c), a, b)) (h1 : 32 ≤ c) (h2 : c ≤ 126) : Ty (app l t (nI c)) (t + 1) h' o' (n + 1) (app w n (nI c)) := by
  obtain ⟨p1, p2, p3, p4⟩ := hT
  refine ⟨?_, can_1 p2 hs, by omega, rng_app p4 h1 h2⟩
  show (pst (app l t (nI c)) t).bind (pstep (app l t (nI c) t)) = _
  rw [← pst_cong (l := l) (l' := app l t (nI c)) t (fun j hj => (app_n (by omega)).symm), p1, app_s]
  exact hs w 0 0
/-- one sign with a 1 ahead -/
theorem Ty_2 {l : Nat → Int32} {t o n h' o' c : Nat} {w : Nat → Int32} (hT : Ty l t 0 o n w) (hs0 : ∀ w' a b, pstep (nI c) (0, o, n, w', a, b) = some (h', o', n + 2, app (app w' n 49) (n + 1) (nI c), a, b)) (hs : ∀ n' w' a b, pstep (nI c) (1, o, n', w', a, b) = some (h', o', n' + 1, app w' n' (nI c), a, b)) (h1 : 32 ≤ c) (h2 : c ≤ 126) : Ty (app l t (nI c)) (t + 1) h' o' (n + 2) (app (app w n 49) (n + 1) (nI c)) := by
  obtain ⟨p1, p2, p3, p4⟩ := hT
  refine ⟨?_, can_1 (h := 1) (o := o) (can_1 p2 (fun w' a b => ps_d c49)) (fun w' a b => hs (n + 1) w' a b), by omega, ?_⟩
  · show (pst (app l t (nI c)) t).bind (pstep (app l t (nI c) t)) = _
    rw [← pst_cong (l := l) (l' := app l t (nI c)) t (fun j hj => (app_n (by omega)).symm), p1, app_s]
    exact hs0 w 0 0
  · exact rng_app (rng_app (a := 49) p4 (by omega) (by omega)) h1 h2
/-- the sign c that may stand at (h, o), and what is then -/
def Sg (h o c h' o' : Nat) : Prop := (h = 0 ∧ 49 ≤ c ∧ c ≤ 57 ∧ h' = 1 ∧ o' = o) ∨ (h ≤ 1 ∧ 97 ≤ c ∧ c ≤ 104 ∧ h' = 2 ∧ o' = o) ∨ (h ≤ 1 ∧ c = 40 ∧ o < 3 ∧ h' = 0 ∧ o' = o + 1) ∨ (h = 2 ∧ c = 43 ∧ h' = 0 ∧ o' = o) ∨ (h = 2 ∧ c = 124 ∧ 0 < o ∧ h' = 0 ∧ o' = o) ∨ (h = 2 ∧ c = 41 ∧ 0 < o ∧ h' = 2 ∧ o' = o - 1)
theorem rngI {c lo hi : Nat} (hc : c < 2 ^ 31) (hlo : lo < 2 ^ 31) (hhi : hi < 2 ^ 31) (h1 : lo ≤ c) (h2 : c ≤ hi) : nI lo ≤ nI c ∧ nI c ≤ nI hi := ⟨(nI_leI hlo hc).mpr h1, (nI_leI hc hhi).mpr h2⟩
theorem Ty_s {l : Nat → Int32} {t h o n c h' o' : Nat} {w : Nat → Int32} (hT : Ty l t h o n w) (hS : Sg h o c h' o') (ho : o ≤ 3) : 32 ≤ c ∧ c ≤ 126 ∧ h' ≤ 2 ∧ o' ≤ 3 ∧ ∃ n' w', Ty (app l t (nI c)) (t + 1) h' o' n' w' := by
  rcases hS with ⟨rfl, c1, c2, rfl, rfl⟩ | ⟨h1, c1, c2, rfl, rfl⟩ | ⟨h1, rfl, ho3, rfl, rfl⟩ | ⟨rfl, rfl, rfl, rfl⟩ | ⟨rfl, rfl, ho0, rfl, rfl⟩ | ⟨rfl, rfl, ho0, rfl, rfl⟩
  · exact ⟨by omega, by omega, by omega, ho, _, _, Ty_1 hT (fun w' a b => ps_d (rngI (lo := 49) (hi := 57) (by omega) (by decide) (by decide) c1 c2)) (by omega) (by omega)⟩
  · have hr : 97 ≤ nI c ∧ nI c ≤ 104 := rngI (lo := 97) (hi := 104) (by omega) (by decide) (by decide) c1 c2
    refine ⟨by omega, by omega, by omega, ho, ?_⟩
    have hh : h = 0 ∨ h = 1 := by omega
    rcases hh with rfl | rfl
    · exact ⟨_, _, Ty_2 hT (fun w' a b => ps_l0 hr) (fun n' w' a b => ps_l1 hr) (by omega) (by omega)⟩
    · exact ⟨_, _, Ty_1 hT (fun w' a b => ps_l1 hr) (by omega) (by omega)⟩
  · refine ⟨by omega, by omega, by omega, by omega, ?_⟩
    have hh : h = 0 ∨ h = 1 := by omega
    rcases hh with rfl | rfl
    · exact ⟨_, _, Ty_2 (c := 40) hT (fun w' a b => ps_o0 (by omega)) (fun n' w' a b => ps_o1 (by omega)) (by omega) (by omega)⟩
    · exact ⟨_, _, Ty_1 (c := 40) hT (fun w' a b => ps_o1 (by omega)) (by omega) (by omega)⟩
  · exact ⟨by omega, by omega, by omega, ho, _, _, Ty_1 (c := 43) hT (fun w' a b => ps_p) (by omega) (by omega)⟩
  · exact ⟨by omega, by omega, by omega, ho, _, _, Ty_1 (c := 124) hT (fun w' a b => ps_b ho0) (by omega) (by omega)⟩
  · exact ⟨by omega, by omega, by omega, by omega, _, _, Ty_1 (c := 41) hT (fun w' a b => ps_c ho0) (by omega) (by omega)⟩
/-- a whole line, and its full text: read again, it is a whole line with the same full text -/
def Wh (l : Nat → Int32) (m : Nat) (len : Nat) (W : Nat → Int32) : Prop := ∃ s, pst l m = some s ∧ whl s ∧ (fin9 s).1 = len ∧ ∀ j, j < len → (fin9 s).2 j = W j
theorem can_fin {n : Nat} {w : Nat → Int32} (hC : Can 2 0 n w) : Wh w n n w := by
  obtain ⟨w', a, b, p1, p2⟩ := hC
  exact ⟨_, p1, Or.inl ⟨rfl, rfl⟩, by rw [fin9_3 (by omega)], fun j hj => by rw [fin9_3 (by omega)]; exact p2 j hj⟩
theorem can_num {n x : Nat} {w : Nat → Int32} (hC : Can 3 0 n w) (hx : x ≤ 9) : Wh (app w n (nI (48 + x))) (n + 1) (n + 1) (app w n (nI (48 + x))) := by
  obtain ⟨w', a, b, p1, p2⟩ := hC
  refine ⟨(4, 0, n, w', x, b), by rw [pst_app p1]; exact ps_9 hx, Or.inr (by show 4 ≤ 4; omega), rfl, ?_⟩
  exact app_eq p2
/-- where a text's body ends, and its NUMBER, are told by the text -/
theorem Tl_uniq {w w' : Nat → Int32} {tm tm' len most most' : Nat} (hw : ∀ j, j < len → w' j = w j) (h1 : Tl w tm len most) (h2 : Tl w' tm' len most') (b1 : WFb w tm) (b2 : WFb w' tm') : tm = tm' ∧ most = most' := by
  obtain ⟨l1, e1⟩ := h1.lt
  obtain ⟨l2, e2⟩ := h2.lt
  have e : tm = tm' := by
    by_cases c1 : tm < tm'
    · have := (b2 tm c1).1
      rw [hw tm (by omega)] at this
      exact absurd (e1 (by omega)) this
    · by_cases c2 : tm' < tm
      · have := (b1 tm' c2).1
        rw [← hw tm' (by omega)] at this
        exact absurd (e2 (by omega)) this
      · omega
  subst e
  refine ⟨rfl, ?_⟩
  rcases h1 with ⟨x1, x2⟩ | ⟨a, x1, x2, x3, x4, x5⟩ | ⟨a, b, x0, x1, x2, x3, x4, x5, x6⟩
  · rcases h2 with ⟨y1, y2⟩ | ⟨a', y1, y2, y3, y4, y5⟩ | ⟨a', b', y0, y1, y2, y3, y4, y5, y6⟩
    · omega
    · omega
    · omega
  · rcases h2 with ⟨y1, y2⟩ | ⟨a', y1, y2, y3, y4, y5⟩ | ⟨a', b', y0, y1, y2, y3, y4, y5, y6⟩
    · omega
    · rw [hw _ (by omega), x4] at y4
      have := (nI_eq (by omega) (by omega)).mp y4
      omega
    · omega
  · rcases h2 with ⟨y1, y2⟩ | ⟨a', y1, y2, y3, y4, y5⟩ | ⟨a', b', y0, y1, y2, y3, y4, y5, y6⟩
    · omega
    · omega
    · rw [hw _ (by omega), x4] at y4
      rw [hw _ (by omega), x5] at y5
      have z1 := (nI_eq (by omega) (by omega)).mp y4
      have z2 := (nI_eq (by omega) (by omega)).mp y5
      omega
