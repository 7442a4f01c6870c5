/-! PURE: a scheme that is read: its text. By hand. -/
def v9 (x : Int32) : Nat := x.toBitVec.toNat
theorem v9_e (x : Int32) : nI (v9 x) = x := by
  apply Int32.toBitVec_inj.mp
  show BitVec.ofNat 32 x.toBitVec.toNat = x.toBitVec
  rw [BitVec.ofNat_toNat, BitVec.setWidth_eq]
theorem ev_cong {p : Nat} {w w' : Nat → Int32} : ∀ k, (∀ j, j < k → w j = w' j) → ev p w k = ev p w' k := by
  intro k
  induction k with
  | zero => intro _; rfl
  | succ k ih =>
    intro h
    show evs p (w k) (ev p w k) = evs p (w' k) (ev p w' k)
    rw [h k (by omega), ih (fun j hj => h j (by omega))]
theorem mk9_cong {p m most : Nat} {w w' : Nat → Int32} (h : ∀ j, j < m → w j = w' j) : mk9 p w m most = mk9 p w' m most := by
  unfold mk9
  rw [ev_cong m h]
theorem Tl_cong {w w' : Nat → Int32} {m len most : Nat} (h : ∀ j, j < len → w j = w' j) (t : Tl w m len most) : Tl w' m len most := by
  rcases t with t | ⟨a, h1, h2, h3, h4, h5⟩ | ⟨a, b, h0, h1, h2, h3, h4, h5, h6⟩
  · exact Or.inl t
  · exact Or.inr (Or.inl ⟨a, h1, h2, by rw [← h m (by omega)]; exact h3, by rw [← h (m + 1) (by omega)]; exact h4, h5⟩)
  · exact Or.inr (Or.inr ⟨a, b, h0, h1, h2, by rw [← h m (by omega)]; exact h3, by rw [← h (m + 1) (by omega)]; exact h4, by rw [← h (m + 2) (by omega)]; exact h5, h6⟩)
theorem lets_no {w : Nat → Int32} {k : Nat} (h : ¬ (97 ≤ w k ∧ w k ≤ 104)) : lets w (k + 1) = lets w k := by
  show (if 97 ≤ w k ∧ w k ≤ 104 then _ else _) = _
  rw [if_neg h]
theorem nlet {a : Nat} (h : a ≤ 9) : ¬ (97 ≤ nI (48 + a) ∧ nI (48 + a) ≤ 104) := fun z => nle (a := 97) (b := 48 + a) (by decide) (by omega) (by omega) z.1
theorem nlet60 {c : Int32} (h : c = 60) : ¬ (97 ≤ c ∧ c ≤ 104) := by
  rw [h]
  decide
theorem Tl_lets {w : Nat → Int32} {m len most : Nat} (t : Tl w m len most) : lets w len = lets w m := by
  rcases t with ⟨h1, _⟩ | ⟨a, h1, h2, h3, h4, h5⟩ | ⟨a, b, h0, h1, h2, h3, h4, h5, h6⟩
  · rw [h1]
  · rw [h2, lets_no (by rw [h4]; exact nlet h1), lets_no (nlet60 h3)]
  · rw [h2, lets_no (by rw [h5]; exact nlet h1), lets_no (by rw [h4]; exact nlet h0), lets_no (nlet60 h3)]
theorem d48 {a : Nat} (h : a ≤ 9) : nI (48 + a) ≠ 0 := nne (b := 0) (by omega) (by decide) (by omega)
theorem fin_ok {s : PS} {m : Nat} (hP : PI s m) (hN : PN s m) (hm : m ≤ 40) (hw : whl s) : ∃ tm most, Tl (fin9 s).2 tm (fin9 s).1 most ∧ WFb (fin9 s).2 tm ∧ (fin9 s).1 ≤ 80 ∧ (∀ j, j < (fin9 s).1 → (fin9 s).2 j ≠ 0) ∧ lets s.2.2.2.1 s.2.2.1 = lets (fin9 s).2 tm ∧ (if num9 s.1 s.2.2.2.2.1 s.2.2.2.2.2 = -1 then 99 else num9 s.1 s.2.2.2.2.1 s.2.2.2.2.2) = nI most := by
  obtain ⟨h9, o, n, w, a, b⟩ := s
  obtain ⟨p1, p2, p3, p4, p5, p6, p7, p8⟩ := hP
  unfold PN at hN
  unfold whl at hw
  dsimp only at hN hw ⊢
  have hh : h9 = 2 ∨ h9 = 4 ∨ h9 = 5 := by omega
  rcases hh with rfl | rfl | rfl
  · rw [fin9_3 (by omega)]
    exact ⟨n, 99, Or.inl ⟨rfl, rfl⟩, (p7 (by omega)).1, by show n ≤ 80; omega, p6, rfl, rfl⟩
  · obtain ⟨n1, wf, w60, o0, d0⟩ := p8 (by omega)
    obtain ⟨t, rfl⟩ : ∃ t, n = t + 1 := ⟨n - 1, by omega⟩
    rw [Nat.add_sub_cancel] at wf w60 d0
    have e9 : fin9 (4, o, t + 1, w, a, b) = (t + 1 + 1, app w (t + 1) (nI (48 + a))) := rfl
    rw [e9]
    have hc : ∀ j, j < t → w j = app w (t + 1) (nI (48 + a)) j := fun j hj => (app_n (by omega)).symm
    have hN' := hN (by omega)
    refine ⟨t, a, Or.inr (Or.inl ⟨a, p4, rfl, ?_, app_s, rfl⟩), WFb_cong hc wf, by show t + 1 + 1 ≤ 80; omega, app_ne0 (d48 p4) p6, ?_, ?_⟩
    · show app w (t + 1) (nI (48 + a)) t = 60
      rw [app_n (by omega)]; exact w60
    · show lets w (t + 1) = lets (app w (t + 1) (nI (48 + a))) t
      rw [lets_no (nlet60 w60)]
      exact lets_cong t hc
    · show (if nI a = -1 then 99 else nI a) = nI a
      rw [if_neg (nm1 (by omega))]
  · obtain ⟨n1, wf, w60, o0, d0⟩ := p8 (by omega)
    obtain ⟨t, rfl⟩ : ∃ t, n = t + 1 := ⟨n - 1, by omega⟩
    rw [Nat.add_sub_cancel] at wf w60 d0
    have hN' := hN (by omega)
    by_cases a0 : a = 0
    · subst a0
      have e9 : fin9 (5, o, t + 1, w, 0, b) = (t + 1 + 1, app w (t + 1) (nI (48 + b))) := rfl
      rw [e9]
      have hc : ∀ j, j < t → w j = app w (t + 1) (nI (48 + b)) j := fun j hj => (app_n (by omega)).symm
      refine ⟨t, b, Or.inr (Or.inl ⟨b, p5, rfl, ?_, app_s, rfl⟩), WFb_cong hc wf, by show t + 1 + 1 ≤ 80; omega, app_ne0 (d48 p5) p6, ?_, ?_⟩
      · show app w (t + 1) (nI (48 + b)) t = 60
        rw [app_n (by omega)]; exact w60
      · show lets w (t + 1) = lets (app w (t + 1) (nI (48 + b))) t
        rw [lets_no (nlet60 w60)]
        exact lets_cong t hc
      · show (if nI (10 * 0 + b) = -1 then 99 else nI (10 * 0 + b)) = nI b
        rw [if_neg (nm1 (by omega)), show 10 * 0 + b = b by omega]
    · have e9 : fin9 (5, o, t + 1, w, a, b) = (t + 1 + 2, app (app w (t + 1) (nI (48 + a))) (t + 1 + 1) (nI (48 + b))) := by
        unfold fin9
        dsimp only
        rw [if_neg (by omega), if_pos rfl, if_neg a0]
      rw [e9]
      have hc : ∀ j, j < t + 1 → w j = app (app w (t + 1) (nI (48 + a))) (t + 1 + 1) (nI (48 + b)) j := fun j hj => by rw [app_n (by omega), app_n (by omega)]
      refine ⟨t, 10 * a + b, Or.inr (Or.inr ⟨a, b, p4, p5, rfl, ?_, ?_, ?_, rfl⟩), WFb_cong (fun j hj => hc j (by omega)) wf, by show t + 1 + 2 ≤ 80; omega, app_ne0 (d48 p5) (app_ne0 (d48 p4) p6), ?_, ?_⟩
      · show app (app w (t + 1) (nI (48 + a))) (t + 1 + 1) (nI (48 + b)) t = 60
        rw [← hc t (by omega)]; exact w60
      · show app (app w (t + 1) (nI (48 + a))) (t + 1 + 1) (nI (48 + b)) (t + 1) = nI (48 + a)
        rw [app_n (by omega), app_s]
      · show app (app w (t + 1) (nI (48 + a))) (t + 1 + 1) (nI (48 + b)) (t + 2) = nI (48 + b)
        exact app_s
      · show lets w (t + 1) = lets (app (app w (t + 1) (nI (48 + a))) (t + 1 + 1) (nI (48 + b))) t
        rw [lets_no (nlet60 w60)]
        exact lets_cong t (fun j hj => hc j (by omega))
      · show (if nI (10 * a + b) = -1 then 99 else nI (10 * a + b)) = nI (10 * a + b)
        rw [if_neg (nm1 (by omega))]
/-- the state behind a scheme -/
def A.sc (s : A) (q : Nat) (W : Nat → Int32) (len tm most : Nat) : A := (((((s.ud 13 (fun i => if i / 100 = 6 * q + s.V q then v9 (W (i % 100)) else s 13 i)).u1 10 (6 * q + s.V q) len).u1 11 (6 * q + s.V q) tm).u1 12 (6 * q + s.V q) most).u1 9 q (s.V q + 1)).u1 0 0 0
section SC
variable {s : A} {q len tm most : Nat} {W : Nat → Int32}
theorem sc_txt {j : Nat} (h : j < 100) : (s.sc q W len tm most).txt (6 * q + s.V q) j = W j := by
  show nI (if (100 * (6 * q + s.V q) + j) / 100 = 6 * q + s.V q then v9 (W ((100 * (6 * q + s.V q) + j) % 100)) else s 13 (100 * (6 * q + s.V q) + j)) = W j
  rw [if_pos (by omega), show (100 * (6 * q + s.V q) + j) % 100 = j by omega, v9_e]
theorem sc_txt2 {at9 j : Nat} (h : j < 100) (e : at9 ≠ 6 * q + s.V q) : (s.sc q W len tm most).txt at9 j = s.txt at9 j := by
  show nI (if (100 * at9 + j) / 100 = 6 * q + s.V q then v9 (W ((100 * at9 + j) % 100)) else s 13 (100 * at9 + j)) = nI (s 13 (100 * at9 + j))
  rw [if_neg (by omega)]
theorem sc_len {j : Nat} : (s.sc q W len tm most).len j = if j = 6 * q + s.V q then len else s.len j := rfl
theorem sc_tm {j : Nat} : (s.sc q W len tm most).tm j = if j = 6 * q + s.V q then tm else s.tm j := rfl
theorem sc_most {j : Nat} : (s.sc q W len tm most).most j = if j = 6 * q + s.V q then most else s.most j := rfl
theorem sc_V {j : Nat} : (s.sc q W len tm most).V j = if j = q then s.V q + 1 else s.V j := rfl
end SC
theorem at_ne {s : A} {q x v : Nat} (hV : s.V q < 6) (hx : x < 4) (hv : v < s.V x) (hv6 : s.V x ≤ 6) (hq : q < 4) : 6 * x + v ≠ 6 * q + s.V q := by
  intro e
  have : x = q := by omega
  subst this
  omega
theorem WF_sc {s : A} (hW : WF s) {q len tm most : Nat} {W : Nat → Int32} (hq : q < 4) (hV : s.V q < 6) (ht : Tl W tm len most) (hb : WFb W tm) (hl : len ≤ 80) (h0 : ∀ j, j < len → W j ≠ 0) : WF (s.sc q W len tm most) := by
  have tl := ht.lt.1
  have Vle : ∀ j, s.V j ≤ (s.sc q W len tm most).V j := by
    intro j
    rw [sc_V]
    split
    · rename_i h
      rw [h]
      omega
    · exact Nat.le_refl _
  refine ⟨Nat.zero_le _, hW.P, hW.lack, hW.urg, hW.gift, hW.app, hW.fresh, ?_, ?_, hW.R, hW.rq, hW.sen, hW.stp, hW.hap, hW.given, hW.since, hW.good, hW.freshR, ?_, hW.stop, hW.S, ?_, hW.tw, hW.tol, hW.isr, hW.b0, hW.b1, hW.b2, hW.n, ?_, hW.rby, hW.pts, hW.voi, hW.freshL, hW.apr, hW.clean, hW.al, hW.ah, hW.ar⟩
  · intro j hj
    rw [sc_V]
    split
    · omega
    · exact hW.V j hj
  · intro x v hx hv
    rw [sc_len, sc_tm, sc_most]
    by_cases e : 6 * x + v = 6 * q + s.V q
    · rw [if_pos e, if_pos e, if_pos e, e]
      have c : ∀ j, j < 100 → W j = (s.sc q W len tm most).txt (6 * q + s.V q) j := fun j hj => (sc_txt hj).symm
      exact ⟨Tl_cong (fun j hj => c j (by omega)) ht, WFb_cong (fun j hj => c j (by omega)) hb, hl, fun j hj => by rw [← c j (by omega)]; exact h0 j hj⟩
    · rw [if_neg e, if_neg e, if_neg e]
      have hv' : v < s.V x := by
        rw [sc_V] at hv
        by_cases z : x = q
        · rw [if_pos z] at hv
          subst z
          omega
        · rw [if_neg z] at hv; exact hv
      obtain ⟨t1, t2, t3, t4⟩ := hW.T x v hx hv'
      have t5 := t1.lt.1
      have c : ∀ j, j < 100 → s.txt (6 * x + v) j = (s.sc q W len tm most).txt (6 * x + v) j := fun j hj => (sc_txt2 hj e).symm
      exact ⟨Tl_cong (fun j hj => c j (by omega)) t1, WFb_cong (fun j hj => c j (by omega)) t2, t3, fun j hj => by rw [← c j (by omega)]; exact t4 j hj⟩
  · intro r hr
    rcases hW.hc r hr with h | h | h
    · exact Or.inl h
    · exact Or.inr (Or.inl ⟨h.1, Nat.lt_of_lt_of_le h.2 (Vle _)⟩)
    · exact Or.inr (Or.inr h)
  · intro k hk
    obtain ⟨h1, h2, h3⟩ := hW.sq k hk
    exact ⟨h1, h2, Nat.lt_of_lt_of_le h3 (Vle _)⟩
  · intro k hk
    exact ⟨(hW.ans k hk).1, Nat.lt_of_lt_of_le (hW.ans k hk).2 (Vle _)⟩
theorem let9_sc {s : A} {q len tm most : Nat} {W : Nat → Int32} (h : tm ≤ 100) : (s.sc q W len tm most).let9 (6 * q + s.V q) = lets W tm := by
  show lets ((s.sc q W len tm most).txt (6 * q + s.V q)) ((s.sc q W len tm most).tm (6 * q + s.V q)) = _
  rw [sc_tm, if_pos rfl]
  exact lets_cong tm (fun j hj => sc_txt (by omega))
theorem let9_sc2 {s : A} {q len tm most at9 : Nat} {W : Nat → Int32} (e : at9 ≠ 6 * q + s.V q) (h : s.tm at9 ≤ 100) : (s.sc q W len tm most).let9 at9 = s.let9 at9 := by
  show lets ((s.sc q W len tm most).txt at9) ((s.sc q W len tm most).tm at9) = lets (s.txt at9) (s.tm at9)
  rw [sc_tm, if_neg e]
  exact lets_cong _ (fun j hj => sc_txt2 (by omega) e)
/-- the readings of other questions are worth what they were -/
theorem worth_sc {s : A} (hW : WF s) {q len tm most k : Nat} {W : Nat → Int32} (hq : q < 4) (hV : s.V q < 6) (hk : k < s.n) (h : s.ans k % 4 ≠ q) : (s.sc q W len tm most).worth k = s.worth k := by
  obtain ⟨ha, hv⟩ := hW.ans k hk
  have hV6 := hW.V (s.ans k % 4) (by omega)
  have e1 : (s.sc q W len tm most).at9 (s.ans k % 4) = s.at9 (s.ans k % 4) := by
    show 6 * (s.ans k % 4) + (s.sc q W len tm most).V (s.ans k % 4) - 1 = 6 * (s.ans k % 4) + s.V (s.ans k % 4) - 1
    rw [sc_V, if_neg h]
  have ne : s.at9 (s.ans k % 4) ≠ 6 * q + s.V q := by
    rw [at9_e hv]
    exact at_ne hV (by omega) (by omega) hV6 hq
  have t := hW.T (s.ans k % 4) (s.V (s.ans k % 4) - 1) (by omega) (by omega)
  rw [← at9_e hv] at t
  have tle := t.1.lt.1
  have ht : s.tm (s.at9 (s.ans k % 4)) ≤ 100 := by
    have := t.2.2.1
    omega
  have e2 : (s.sc q W len tm most).cts k = s.cts k := by
    show decide (s.voi k = 0 ∧ nI ((s.sc q W len tm most).let9 ((s.sc q W len tm most).at9 (s.ans k % 4))) &&& (nI (s.lts k) ^^^ (-1)) = 0) = decide (s.voi k = 0 ∧ nI (s.let9 (s.at9 (s.ans k % 4))) &&& (nI (s.lts k) ^^^ (-1)) = 0)
    rw [e1, let9_sc2 ne ht]
  have e3 : (s.sc q W len tm most).mkr k = s.mkr k := by
    show mk9 (s.pts k) ((s.sc q W len tm most).txt ((s.sc q W len tm most).at9 (s.ans k % 4))) ((s.sc q W len tm most).tm ((s.sc q W len tm most).at9 (s.ans k % 4))) ((s.sc q W len tm most).most ((s.sc q W len tm most).at9 (s.ans k % 4))) = mk9 (s.pts k) (s.txt (s.at9 (s.ans k % 4))) (s.tm (s.at9 (s.ans k % 4))) (s.most (s.at9 (s.ans k % 4)))
    rw [e1, sc_tm, sc_most, if_neg ne, if_neg ne]
    exact mk9_cong (fun j hj => sc_txt2 (by omega) ne)
  unfold A.worth
  rw [e2, e3]
