/-! THE LAW'S ROWS: two rooms side by side; 'Bl' is Bk over both. Printed by wip/p30/gen/law2.py -/
abbrev M2 : Type := Mem × Mem
abbrev Ctl : Type := Ctx × Geo
def XO (X : Ctl) : Geo := X.1.2.2.2.2.2.2.2.2.2.2.2.1
def XP (X : Ctl) : Geo := X.2
def adO (X : Ctl) : Nat := (XO X).1 5
def adP (X : Ctl) : Nat := (XP X).1 5
def Bl (X : Ctl) (nL pc : Nat) (lv : List (Nat × Value)) (st : List Value) (σ : M2) : Prop := match X with
  | ((p, l, e, R, s, m, args, below, meth, c, Q, G, A), G2) => ∀ (H : Heap) (locs : List Loc) (ls : Array Slot), va_P G.2.2 vwCl (Wl G σ.1 0) H → va_P G2.2.2 vwCl (Wl G2 σ.2 0) H → va_S A s.heap H locs → lv_has ls nL lv → W p l e R s m args below meth c H locs 190 10086 Q (F0 m pc ls st)
def Cl (X : Ctl) (b L : Nat) (xs : Nat → Int32) (cc : ByteArray) (own : String) (Ts : List Cond) (nL fr lo : Nat) : Prop := match X with
  | ((p, _, _, R, s, m, args, _, _, c, _, G, A), G2) => (p.tables.exec = Jvm.exec ∧ c.code = cc ∧ c.maxLocals = nL ∧ s.vm.findClass own = some m.cls ∧ (∀ w ∈ Ts, w.before args s = true) ∧ wK G s ∧ gok G ∧ (∀ i, i < 95 → A (G.1 i)) ∧ (∀ q, s.heap.size ≤ q → A q) ∧ fr ≤ R.frames ∧ lo ≤ R.locals) ∧ wK G2 s ∧ gok G2 ∧ (∀ i, i < 95 → A (G2.1 i)) ∧ (∀ i j, i < 95 → j < 95 → G.1 i ≠ G2.1 j) ∧ va_X b L xs s s.heap ∧ b < s.heap.size ∧ ¬ A b ∧ 190 ≤ R.cells ∧ 10086 ≤ R.slots ∧ L ≤ 260
def onO (f : Mem → Option (Int32 × Mem)) (σ : M2) : Option (Int32 × M2) := match f σ.1 with
  | some q => some (q.1, (q.2, σ.2))
  | none => none
def onP (f : Mem → Option (Int32 × Mem)) (σ : M2) : Option (Int32 × M2) := match f σ.2 with
  | some q => some (q.1, (σ.1, q.2))
  | none => none
theorem onO_inv {f : Mem → Option (Int32 × Mem)} {σ : M2} {r : Int32} {u : M2} (h : onO f σ = some (r, u)) : ∃ v, f σ.1 = some (r, v) ∧ u = (v, σ.2) := by
  unfold onO at h
  cases e : f σ.1 with
  | none => rw [e] at h; cases h
  | some q => rw [e] at h; cases h; exact ⟨q.2, rfl, rfl⟩
theorem onP_inv {f : Mem → Option (Int32 × Mem)} {σ : M2} {r : Int32} {u : M2} (h : onP f σ = some (r, u)) : ∃ v, f σ.2 = some (r, v) ∧ u = (σ.1, v) := by
  unfold onP at h
  cases e : f σ.2 with
  | none => rw [e] at h; cases h
  | some q => rw [e] at h; cases h; exact ⟨q.2, rfl, rfl⟩
def bd2 {β : Type} (x : Option (Int32 × M2)) (k : Int32 → M2 → Option β) : Option β := match x with
  | some y => k y.1 y.2
  | none => none
theorem bd2_inv {β : Type} {x : Option (Int32 × M2)} {k : Int32 → M2 → Option β} {v : β} (h : some v = bd2 x k) : ∃ (r : Int32) (u : M2), x = some (r, u) ∧ some v = k r u := by
  cases x with
  | none => cases h
  | some y => exact ⟨y.1, y.2, rfl, h⟩
theorem Wl_key {G : Geo} {σ : Mem} {o : Int64} {k : Nat} {q : Nat × va_E} (h : (Wl G σ o)[k]? = some q) : k < 95 ∧ q.1 = G.1 k := by
  have hi : k < 95 := by have := (List.getElem?_eq_some_iff.mp h).1; rwa [Wl_len] at this
  rw [Wl_at hi] at h
  exact ⟨hi, by rw [← Option.some.inj h]⟩
/-- the other room is as it was -/
theorem other {G G2 : Geo} {σ : Mem} {H H1 : Heap} (hP : va_P G2.2.2 vwCl (Wl G2 σ 0) H) (hdis : ∀ i j, i < 95 → j < 95 → G.1 i ≠ G2.1 j) (hk : ∀ q : Nat, q < H.size → ¬ wA G H.size q → H1[q]? = H[q]?) : va_P G2.2.2 vwCl (Wl G2 σ 0) H1 :=
  hP.kept (fun k q hq => by
    obtain ⟨h1, h2⟩ := Wl_key hq
    have hl := (hP k q hq).lt
    refine hk q.1 hl (fun h => ?_)
    rcases h with ⟨i, hi, e⟩ | h
    · exact hdis i k hi h1 (e.symm.trans h2)
    · omega)
/-- what is drawn from the script -/
def dw (L : Nat) (xs : Nat → Int32) (k : Int32) : Int32 := (if nI L ≤ k then 14683 * k + 11173 else xs k.toNatClampNeg) &&& 1073741823
theorem kL_drawn_c7 : Cond.constant RL 7 (1073741823) ∈ wsL_drawn := by decide +kernel
set_option maxHeartbeats 4000000 in
set_option maxRecDepth 100000 in
theorem c_L_drawn (k : Int32) (h0 : 0 ≤ k) (b L : Nat) (hL : L < 2 ^ 31) (xs : Nat → Int32) (sz : Nat) (l : Launch) : Met l yL_drawn wsL_drawn { frames := 0, cells := 0, slots := 0, locals := 0 } (va_Pc [.ref b, .int k] (fun U => U.heap.size = sz ∧ va_X b L xs U U.heap ∧ b < sz)) (va_Qi (fun r (_ : Unit) => r = dw L xs k) (fun _ _ => True) (fun q => sz ≤ q)) 0 0 (fun q => sz ≤ q) := by
  refine Met.ofW (cc := cL_drawn) (maxL := 3) (ret := some .int) (by decide) rfl ?_
  intro p e s m args below meth c s₁ B hml hv
  obtain ⟨rfl, hsz, hX, hbl⟩ := hv
  have hx := B.exec
  have hb := B.bytes
  have hr := B.returns
  have hts := atoms_spec (ws := wsL_drawn) B.pre
  have hown : s.vm.findClass RL = some m.cls := findClass_of_methodNamed B.named
  have hlocks := B.notSynchronized
  subst hsz
  have hbA : ¬ s.heap.size ≤ b := by omega
  have hS : va_S (fun q : Nat => s.heap.size ≤ q) s.heap s.heap [] := va_S.rf
  have tail : ∀ (ls : Array Slot) (v : Int32), lv_has ls 3 [(0, .ref b), (1, .int k)] → v &&& 1073741823 = dw L xs k → W p l e (headSpec wsL_drawn { frames := 0, cells := 0, slots := 0, locals := 0 }).room s m ([Value.ref b, Value.int k] : List Value).toArray below meth c s.heap [] 0 0 (MQ below (va_Qi (fun r (_ : Unit) => r = dw L xs k) (fun _ _ => True) (fun q => s.heap.size ≤ q)) ([Value.ref b, Value.int k] : List Value).toArray s 0 0 (fun q => s.heap.size ≤ q)) (F0 m 21 ls [.int v]) := by
    intro ls v hl hv
    refine lv_istore_n hx hb dL_drawn_21 rfl hl (by decide) rfl (fun ls' hl' => ?_)
    refine lv_iload_n hx hb dL_drawn_22 rfl (lv_at hl' 0 rfl) ?_
    refine lv_ldc hx hb hown (hts _ kL_drawn_c7) dL_drawn_23 ?_
    refine lv_iand hx hb dL_drawn_25 ?_
    exact W.iret (v := v &&& 1073741823) hx hb hr (fun t ht hW => ⟨⟨_, (), rfl, hv, trivial⟩, hS.F ht⟩) hS.2.2 dL_drawn_26
  have main : ∀ ls : Array Slot, lv_has ls 3 [(0, .ref b), (1, .int k)] → W p l e (headSpec wsL_drawn { frames := 0, cells := 0, slots := 0, locals := 0 }).room s m ([Value.ref b, Value.int k] : List Value).toArray below meth c s.heap [] 0 0 (MQ below (va_Qi (fun r (_ : Unit) => r = dw L xs k) (fun _ _ => True) (fun q => s.heap.size ≤ q)) ([Value.ref b, Value.int k] : List Value).toArray s 0 0 (fun q => s.heap.size ≤ q)) (F0 m 0 ls []) := by
    intro ls hl
    refine lv_iload_n hx hb dL_drawn_0 rfl (lv_at hl 1 rfl) ?_
    refine lv_aload_n hx hb dL_drawn_1 rfl (lv_at hl 0 rfl) ?_
    refine va_slen hx hb hX hbl hbA hS dL_drawn_2 ?_
    refine lv_icmp_ge hx hb dL_drawn_3 (tgt := 12) (by decide) (fun h => ?_) (fun h => ?_)
    · refine lv_sipush hx hb dL_drawn_12 rfl ?_
      refine lv_iload_n hx hb dL_drawn_15 rfl (lv_at hl 1 rfl) ?_
      refine lv_imul hx hb dL_drawn_16 ?_
      refine lv_sipush hx hb dL_drawn_17 rfl ?_
      refine lv_iadd hx hb dL_drawn_20 ?_
      refine tail _ _ hl ?_
      unfold dw
      rw [if_pos (show nI L ≤ k from h)]
      rfl
    · refine lv_aload_n hx hb dL_drawn_6 rfl (lv_at hl 0 rfl) ?_
      refine lv_iload_n hx hb dL_drawn_7 rfl (lv_at hl 1 rfl) ?_
      have hin : vp_in k L := by
        rw [vp_in_iff]
        rw [Int32.le_iff_toInt_le] at h h0
        have e : (Int32.ofNat L).toInt = (L : Int) := nI_toInt hL
        rw [e] at h
        have z : (0 : Int32).toInt = 0 := rfl
        omega
      refine va_sld hx hb hX hbl hbA hS hin dL_drawn_8 ?_
      refine lv_goto hx hb dL_drawn_9 (tgt := 21) (by decide) ?_
      refine tail _ _ hl ?_
      unfold dw
      rw [if_neg (show ¬ nI L ≤ k from h)]
  have hl := lv_entry [Value.ref b, Value.int k] (n := 3) (Nat.le_of_ble_eq_true rfl)
  rw [lg_entry_eq]
  exact main _ hl
section LAW2
variable {X : Ctl} {b L : Nat} {xs : Nat → Int32} {cc : ByteArray} {own : String} {Ts : List Cond} {nL fr lo : Nat} {pc : Nat} {lv lv' : List (Nat × Value)} {st : List Value} {σ : M2}
def Rl (X : Ctl) (cc : ByteArray) (nL : Nat) (rv : Int32 × M2) : Prop := ∀ (pc : Nat) (lv : List (Nat × Value)) (v : Int32) (σ : M2), decode cc pc = .ok (.ireturn, 1) → some rv = gd (isZ v) (some (v, σ)) → Bl X nL pc lv [.int v] σ
theorem l_iconst (C : Cl X b L xs cc own Ts nL fr lo) {n : Int} {v : Int32} (d : decode cc pc = .ok (.iconst n, 1)) (hv : Int32.ofInt n = v) (kk : Bl X nL (pc + 1) lv (.int v :: st) σ) : Bl X nL pc lv (st) σ := by
  obtain ⟨⟨p, l, e, R, s, m, args, below, meth, c, Q, G, A⟩, G2⟩ := X
  obtain ⟨⟨hx, hb, hml, hown, hts, hK, hG, hAi, hA, hfr, hlo⟩, hC2⟩ := C
  intro H locs ls hP hP2 hS hl
  exact lv_iconst hx hb d hv (kk H locs ls hP hP2 hS hl)
theorem l_bipush (C : Cl X b L xs cc own Ts nL fr lo) {n : Int} {v : Int32} (d : decode cc pc = .ok (.bipush n, 2)) (hv : (Int8.ofInt n).toInt32 = v) (kk : Bl X nL (pc + 2) lv (.int v :: st) σ) : Bl X nL pc lv (st) σ := by
  obtain ⟨⟨p, l, e, R, s, m, args, below, meth, c, Q, G, A⟩, G2⟩ := X
  obtain ⟨⟨hx, hb, hml, hown, hts, hK, hG, hAi, hA, hfr, hlo⟩, hC2⟩ := C
  intro H locs ls hP hP2 hS hl
  exact lv_bipush hx hb d hv (kk H locs ls hP hP2 hS hl)
theorem l_sipush (C : Cl X b L xs cc own Ts nL fr lo) {n : Int} {v : Int32} (d : decode cc pc = .ok (.sipush n, 3)) (hv : (Int16.ofInt n).toInt32 = v) (kk : Bl X nL (pc + 3) lv (.int v :: st) σ) : Bl X nL pc lv (st) σ := by
  obtain ⟨⟨p, l, e, R, s, m, args, below, meth, c, Q, G, A⟩, G2⟩ := X
  obtain ⟨⟨hx, hb, hml, hown, hts, hK, hG, hAi, hA, hfr, hlo⟩, hC2⟩ := C
  intro H locs ls hP hP2 hS hl
  exact lv_sipush hx hb d hv (kk H locs ls hP hP2 hS hl)
theorem l_ldc (C : Cl X b L xs cc own Ts nL fr lo) {index : Nat} {v : Int32} (hc : (Cond.constant own index v) ∈ Ts) (d : decode cc pc = .ok (.ldc index, 2)) (kk : Bl X nL (pc + 2) lv (.int v :: st) σ) : Bl X nL pc lv st σ := by
  obtain ⟨⟨p, l, e, R, s, m, args, below, meth, c, Q, G, A⟩, G2⟩ := X
  obtain ⟨⟨hx, hb, hml, hown, hts, hK, hG, hAi, hA, hfr, hlo⟩, hC2⟩ := C
  intro H locs ls hP hP2 hS hl
  exact lv_ldc hx hb hown (hts _ hc) d (kk H locs ls hP hP2 hS hl)
theorem l_iload_n (C : Cl X b L xs cc own Ts nL fr lo) {k : Fin 4} {i : Nat} {x : Int32} (d : decode cc pc = .ok (.iload_n k, 1)) (hi : (k : Nat) = i) (j : Nat) (hj : lv[j]? = some (i, .int x)) (kk : Bl X nL (pc + 1) lv (.int x :: st) σ) : Bl X nL pc lv (st) σ := by
  obtain ⟨⟨p, l, e, R, s, m, args, below, meth, c, Q, G, A⟩, G2⟩ := X
  obtain ⟨⟨hx, hb, hml, hown, hts, hK, hG, hAi, hA, hfr, hlo⟩, hC2⟩ := C
  intro H locs ls hP hP2 hS hl
  exact lv_iload_n hx hb d hi (lv_at hl j hj) (kk H locs ls hP hP2 hS hl)
theorem l_iload (C : Cl X b L xs cc own Ts nL fr lo) {i : Nat} {x : Int32} (d : decode cc pc = .ok (.iload i, 2)) (j : Nat) (hj : lv[j]? = some (i, .int x)) (kk : Bl X nL (pc + 2) lv (.int x :: st) σ) : Bl X nL pc lv (st) σ := by
  obtain ⟨⟨p, l, e, R, s, m, args, below, meth, c, Q, G, A⟩, G2⟩ := X
  obtain ⟨⟨hx, hb, hml, hown, hts, hK, hG, hAi, hA, hfr, hlo⟩, hC2⟩ := C
  intro H locs ls hP hP2 hS hl
  exact lv_iload hx hb d (lv_at hl j hj) (kk H locs ls hP hP2 hS hl)
theorem l_istore_n (C : Cl X b L xs cc own Ts nL fr lo) {k : Fin 4} {i : Nat} {x : Int32} (d : decode cc pc = .ok (.istore_n k, 1)) (hi : (k : Nat) = i) (hn : i < nL) (hlv : (i, Value.int x) :: lv.filter (fun q => !(q.1 == i) && !(q.1 + 1 == i && q.2.category == 2)) = lv') (kk : Bl X nL (pc + 1) lv' (st) σ) : Bl X nL pc lv (.int x :: st) σ := by
  obtain ⟨⟨p, l, e, R, s, m, args, below, meth, c, Q, G, A⟩, G2⟩ := X
  obtain ⟨⟨hx, hb, hml, hown, hts, hK, hG, hAi, hA, hfr, hlo⟩, hC2⟩ := C
  intro H locs ls hP hP2 hS hl
  exact lv_istore_n hx hb d hi hl hn hlv (fun ls' hl' => kk H locs ls' hP hP2 hS hl')
theorem l_istore (C : Cl X b L xs cc own Ts nL fr lo) {i : Nat} {x : Int32} (d : decode cc pc = .ok (.istore i, 2)) (hn : i < nL) (hlv : (i, Value.int x) :: lv.filter (fun q => !(q.1 == i) && !(q.1 + 1 == i && q.2.category == 2)) = lv') (kk : Bl X nL (pc + 2) lv' (st) σ) : Bl X nL pc lv (.int x :: st) σ := by
  obtain ⟨⟨p, l, e, R, s, m, args, below, meth, c, Q, G, A⟩, G2⟩ := X
  obtain ⟨⟨hx, hb, hml, hown, hts, hK, hG, hAi, hA, hfr, hlo⟩, hC2⟩ := C
  intro H locs ls hP hP2 hS hl
  exact lv_istore hx hb d hl hn hlv (fun ls' hl' => kk H locs ls' hP hP2 hS hl')
theorem l_aload_n (C : Cl X b L xs cc own Ts nL fr lo) {k : Fin 4} {i : Nat} {x : Nat} (d : decode cc pc = .ok (.aload_n k, 1)) (hi : (k : Nat) = i) (j : Nat) (hj : lv[j]? = some (i, .ref x)) (kk : Bl X nL (pc + 1) lv (.ref x :: st) σ) : Bl X nL pc lv (st) σ := by
  obtain ⟨⟨p, l, e, R, s, m, args, below, meth, c, Q, G, A⟩, G2⟩ := X
  obtain ⟨⟨hx, hb, hml, hown, hts, hK, hG, hAi, hA, hfr, hlo⟩, hC2⟩ := C
  intro H locs ls hP hP2 hS hl
  exact lv_aload_n hx hb d hi (lv_at hl j hj) (kk H locs ls hP hP2 hS hl)
theorem l_aload (C : Cl X b L xs cc own Ts nL fr lo) {i : Nat} {x : Nat} (d : decode cc pc = .ok (.aload i, 2)) (j : Nat) (hj : lv[j]? = some (i, .ref x)) (kk : Bl X nL (pc + 2) lv (.ref x :: st) σ) : Bl X nL pc lv (st) σ := by
  obtain ⟨⟨p, l, e, R, s, m, args, below, meth, c, Q, G, A⟩, G2⟩ := X
  obtain ⟨⟨hx, hb, hml, hown, hts, hK, hG, hAi, hA, hfr, hlo⟩, hC2⟩ := C
  intro H locs ls hP hP2 hS hl
  exact lv_aload hx hb d (lv_at hl j hj) (kk H locs ls hP hP2 hS hl)
theorem l_iinc (C : Cl X b L xs cc own Ts nL fr lo) {i : Nat} {n : Int} {x v : Int32} (d : decode cc pc = .ok (.iinc i n, 3)) (j : Nat) (hj : lv[j]? = some (i, .int x)) (hv : x + Int32.ofInt n = v) (hn : i < nL) (hlv : (i, Value.int v) :: lv.filter (fun q => !(q.1 == i) && !(q.1 + 1 == i && q.2.category == 2)) = lv') (kk : Bl X nL (pc + 3) lv' (st) σ) : Bl X nL pc lv (st) σ := by
  obtain ⟨⟨p, l, e, R, s, m, args, below, meth, c, Q, G, A⟩, G2⟩ := X
  obtain ⟨⟨hx, hb, hml, hown, hts, hK, hG, hAi, hA, hfr, hlo⟩, hC2⟩ := C
  intro H locs ls hP hP2 hS hl
  exact lv_iinc hx hb d hl hj hv hn hlv (fun ls' hl' => kk H locs ls' hP hP2 hS hl')
theorem l_iadd (C : Cl X b L xs cc own Ts nL fr lo) {x y : Int32} (d : decode cc pc = .ok (.iadd, 1)) (kk : Bl X nL (pc + 1) lv (.int (x + y) :: st) σ) : Bl X nL pc lv (.int y :: .int x :: st) σ := by
  obtain ⟨⟨p, l, e, R, s, m, args, below, meth, c, Q, G, A⟩, G2⟩ := X
  obtain ⟨⟨hx, hb, hml, hown, hts, hK, hG, hAi, hA, hfr, hlo⟩, hC2⟩ := C
  intro H locs ls hP hP2 hS hl
  exact lv_iadd hx hb d (kk H locs ls hP hP2 hS hl)
theorem l_isub (C : Cl X b L xs cc own Ts nL fr lo) {x y : Int32} (d : decode cc pc = .ok (.isub, 1)) (kk : Bl X nL (pc + 1) lv (.int (x - y) :: st) σ) : Bl X nL pc lv (.int y :: .int x :: st) σ := by
  obtain ⟨⟨p, l, e, R, s, m, args, below, meth, c, Q, G, A⟩, G2⟩ := X
  obtain ⟨⟨hx, hb, hml, hown, hts, hK, hG, hAi, hA, hfr, hlo⟩, hC2⟩ := C
  intro H locs ls hP hP2 hS hl
  exact lv_isub hx hb d (kk H locs ls hP hP2 hS hl)
theorem l_imul (C : Cl X b L xs cc own Ts nL fr lo) {x y : Int32} (d : decode cc pc = .ok (.imul, 1)) (kk : Bl X nL (pc + 1) lv (.int (x * y) :: st) σ) : Bl X nL pc lv (.int y :: .int x :: st) σ := by
  obtain ⟨⟨p, l, e, R, s, m, args, below, meth, c, Q, G, A⟩, G2⟩ := X
  obtain ⟨⟨hx, hb, hml, hown, hts, hK, hG, hAi, hA, hfr, hlo⟩, hC2⟩ := C
  intro H locs ls hP hP2 hS hl
  exact lv_imul hx hb d (kk H locs ls hP hP2 hS hl)
theorem l_iand (C : Cl X b L xs cc own Ts nL fr lo) {x y : Int32} (d : decode cc pc = .ok (.iand, 1)) (kk : Bl X nL (pc + 1) lv (.int (x &&& y) :: st) σ) : Bl X nL pc lv (.int y :: .int x :: st) σ := by
  obtain ⟨⟨p, l, e, R, s, m, args, below, meth, c, Q, G, A⟩, G2⟩ := X
  obtain ⟨⟨hx, hb, hml, hown, hts, hK, hG, hAi, hA, hfr, hlo⟩, hC2⟩ := C
  intro H locs ls hP hP2 hS hl
  exact lv_iand hx hb d (kk H locs ls hP hP2 hS hl)
theorem l_idiv (C : Cl X b L xs cc own Ts nL fr lo) {x y : Int32} (d : decode cc pc = .ok (.idiv, 1)) (h0 : ¬ y = 0) (kk : Bl X nL (pc + 1) lv (.int (x / y) :: st) σ) : Bl X nL pc lv (.int y :: .int x :: st) σ := by
  obtain ⟨⟨p, l, e, R, s, m, args, below, meth, c, Q, G, A⟩, G2⟩ := X
  obtain ⟨⟨hx, hb, hml, hown, hts, hK, hG, hAi, hA, hfr, hlo⟩, hC2⟩ := C
  intro H locs ls hP hP2 hS hl
  exact lv_idiv hx hb d h0 (kk H locs ls hP hP2 hS hl)
theorem l_irem (C : Cl X b L xs cc own Ts nL fr lo) {x y : Int32} (d : decode cc pc = .ok (.irem, 1)) (h0 : ¬ y = 0) (kk : Bl X nL (pc + 1) lv (.int (x - x / y * y) :: st) σ) : Bl X nL pc lv (.int y :: .int x :: st) σ := by
  obtain ⟨⟨p, l, e, R, s, m, args, below, meth, c, Q, G, A⟩, G2⟩ := X
  obtain ⟨⟨hx, hb, hml, hown, hts, hK, hG, hAi, hA, hfr, hlo⟩, hC2⟩ := C
  intro H locs ls hP hP2 hS hl
  exact lv_irem hx hb d h0 (kk H locs ls hP hP2 hS hl)
theorem l_goto (C : Cl X b L xs cc own Ts nL fr lo) {off : Int} (tgt : Nat) (d : decode cc pc = .ok (.goto off, 3)) (ht : (pc : Int) + off = (tgt : Int)) (kk : Bl X nL tgt lv (st) σ) : Bl X nL pc lv (st) σ := by
  obtain ⟨⟨p, l, e, R, s, m, args, below, meth, c, Q, G, A⟩, G2⟩ := X
  obtain ⟨⟨hx, hb, hml, hown, hts, hK, hG, hAi, hA, hfr, hlo⟩, hC2⟩ := C
  intro H locs ls hP hP2 hS hl
  exact lv_goto hx hb d ht (kk H locs ls hP hP2 hS hl)
theorem l_if_eq {α : Type} {rv a9 b9 : α} (C : Cl X b L xs cc own Ts nL fr lo) {x : Int32} {off : Int} (tgt : Nat) (d : decode cc pc = .ok (.ifCond .eq off, 3)) (ht : (pc : Int) + off = (tgt : Int)) (hf : rv = if x = 0 then a9 else b9) (kt : rv = a9 → Bl X nL tgt lv st σ) (kf : rv = b9 → Bl X nL (pc + 3) lv st σ) : Bl X nL pc lv (.int x :: st) σ := by
  obtain ⟨⟨p, l, e, R, s, m, args, below, meth, c, Q, G, A⟩, G2⟩ := X
  obtain ⟨⟨hx, hb, hml, hown, hts, hK, hG, hAi, hA, hfr, hlo⟩, hC2⟩ := C
  intro H locs ls hP hP2 hS hl
  exact lv_if_eq hx hb d ht (fun h => kt (hf.trans (if_pos h)) H locs ls hP hP2 hS hl) (fun h => kf (hf.trans (if_neg h)) H locs ls hP hP2 hS hl)
theorem l_if_ne {α : Type} {rv a9 b9 : α} (C : Cl X b L xs cc own Ts nL fr lo) {x : Int32} {off : Int} (tgt : Nat) (d : decode cc pc = .ok (.ifCond .ne off, 3)) (ht : (pc : Int) + off = (tgt : Int)) (hf : rv = if x = 0 then a9 else b9) (kt : rv = b9 → Bl X nL tgt lv st σ) (kf : rv = a9 → Bl X nL (pc + 3) lv st σ) : Bl X nL pc lv (.int x :: st) σ := by
  obtain ⟨⟨p, l, e, R, s, m, args, below, meth, c, Q, G, A⟩, G2⟩ := X
  obtain ⟨⟨hx, hb, hml, hown, hts, hK, hG, hAi, hA, hfr, hlo⟩, hC2⟩ := C
  intro H locs ls hP hP2 hS hl
  exact lv_if_ne hx hb d ht (fun h => kt (hf.trans (if_neg h)) H locs ls hP hP2 hS hl) (fun h => kf (hf.trans (if_pos h)) H locs ls hP hP2 hS hl)
theorem l_if_lt {α : Type} {rv a9 b9 : α} (C : Cl X b L xs cc own Ts nL fr lo) {x : Int32} {off : Int} (tgt : Nat) (d : decode cc pc = .ok (.ifCond .lt off, 3)) (ht : (pc : Int) + off = (tgt : Int)) (hf : rv = if x < 0 then a9 else b9) (kt : rv = a9 → Bl X nL tgt lv st σ) (kf : rv = b9 → Bl X nL (pc + 3) lv st σ) : Bl X nL pc lv (.int x :: st) σ := by
  obtain ⟨⟨p, l, e, R, s, m, args, below, meth, c, Q, G, A⟩, G2⟩ := X
  obtain ⟨⟨hx, hb, hml, hown, hts, hK, hG, hAi, hA, hfr, hlo⟩, hC2⟩ := C
  intro H locs ls hP hP2 hS hl
  exact lv_if_lt hx hb d ht (fun h => kt (hf.trans (if_pos h)) H locs ls hP hP2 hS hl) (fun h => kf (hf.trans (if_neg h)) H locs ls hP hP2 hS hl)
theorem l_if_ge {α : Type} {rv a9 b9 : α} (C : Cl X b L xs cc own Ts nL fr lo) {x : Int32} {off : Int} (tgt : Nat) (d : decode cc pc = .ok (.ifCond .ge off, 3)) (ht : (pc : Int) + off = (tgt : Int)) (hf : rv = if 0 ≤ x then a9 else b9) (kt : rv = a9 → Bl X nL tgt lv st σ) (kf : rv = b9 → Bl X nL (pc + 3) lv st σ) : Bl X nL pc lv (.int x :: st) σ := by
  obtain ⟨⟨p, l, e, R, s, m, args, below, meth, c, Q, G, A⟩, G2⟩ := X
  obtain ⟨⟨hx, hb, hml, hown, hts, hK, hG, hAi, hA, hfr, hlo⟩, hC2⟩ := C
  intro H locs ls hP hP2 hS hl
  exact lv_if_ge hx hb d ht (fun h => kt (hf.trans (if_pos h)) H locs ls hP hP2 hS hl) (fun h => kf (hf.trans (if_neg h)) H locs ls hP hP2 hS hl)
theorem l_if_gt {α : Type} {rv a9 b9 : α} (C : Cl X b L xs cc own Ts nL fr lo) {x : Int32} {off : Int} (tgt : Nat) (d : decode cc pc = .ok (.ifCond .gt off, 3)) (ht : (pc : Int) + off = (tgt : Int)) (hf : rv = if 0 < x then a9 else b9) (kt : rv = a9 → Bl X nL tgt lv st σ) (kf : rv = b9 → Bl X nL (pc + 3) lv st σ) : Bl X nL pc lv (.int x :: st) σ := by
  obtain ⟨⟨p, l, e, R, s, m, args, below, meth, c, Q, G, A⟩, G2⟩ := X
  obtain ⟨⟨hx, hb, hml, hown, hts, hK, hG, hAi, hA, hfr, hlo⟩, hC2⟩ := C
  intro H locs ls hP hP2 hS hl
  exact lv_if_gt hx hb d ht (fun h => kt (hf.trans (if_pos h)) H locs ls hP hP2 hS hl) (fun h => kf (hf.trans (if_neg h)) H locs ls hP hP2 hS hl)
theorem l_if_le {α : Type} {rv a9 b9 : α} (C : Cl X b L xs cc own Ts nL fr lo) {x : Int32} {off : Int} (tgt : Nat) (d : decode cc pc = .ok (.ifCond .le off, 3)) (ht : (pc : Int) + off = (tgt : Int)) (hf : rv = if x ≤ 0 then a9 else b9) (kt : rv = a9 → Bl X nL tgt lv st σ) (kf : rv = b9 → Bl X nL (pc + 3) lv st σ) : Bl X nL pc lv (.int x :: st) σ := by
  obtain ⟨⟨p, l, e, R, s, m, args, below, meth, c, Q, G, A⟩, G2⟩ := X
  obtain ⟨⟨hx, hb, hml, hown, hts, hK, hG, hAi, hA, hfr, hlo⟩, hC2⟩ := C
  intro H locs ls hP hP2 hS hl
  exact lv_if_le hx hb d ht (fun h => kt (hf.trans (if_pos h)) H locs ls hP hP2 hS hl) (fun h => kf (hf.trans (if_neg h)) H locs ls hP hP2 hS hl)
theorem l_icmp_eq {α : Type} {rv a9 b9 : α} (C : Cl X b L xs cc own Ts nL fr lo) {x y : Int32} {off : Int} (tgt : Nat) (d : decode cc pc = .ok (.if_icmp .eq off, 3)) (ht : (pc : Int) + off = (tgt : Int)) (hf : rv = if x = y then a9 else b9) (kt : rv = a9 → Bl X nL tgt lv st σ) (kf : rv = b9 → Bl X nL (pc + 3) lv st σ) : Bl X nL pc lv (.int y :: .int x :: st) σ := by
  obtain ⟨⟨p, l, e, R, s, m, args, below, meth, c, Q, G, A⟩, G2⟩ := X
  obtain ⟨⟨hx, hb, hml, hown, hts, hK, hG, hAi, hA, hfr, hlo⟩, hC2⟩ := C
  intro H locs ls hP hP2 hS hl
  exact lv_icmp_eq hx hb d ht (fun h => kt (hf.trans (if_pos h)) H locs ls hP hP2 hS hl) (fun h => kf (hf.trans (if_neg h)) H locs ls hP hP2 hS hl)
theorem l_icmp_ne {α : Type} {rv a9 b9 : α} (C : Cl X b L xs cc own Ts nL fr lo) {x y : Int32} {off : Int} (tgt : Nat) (d : decode cc pc = .ok (.if_icmp .ne off, 3)) (ht : (pc : Int) + off = (tgt : Int)) (hf : rv = if x = y then a9 else b9) (kt : rv = b9 → Bl X nL tgt lv st σ) (kf : rv = a9 → Bl X nL (pc + 3) lv st σ) : Bl X nL pc lv (.int y :: .int x :: st) σ := by
  obtain ⟨⟨p, l, e, R, s, m, args, below, meth, c, Q, G, A⟩, G2⟩ := X
  obtain ⟨⟨hx, hb, hml, hown, hts, hK, hG, hAi, hA, hfr, hlo⟩, hC2⟩ := C
  intro H locs ls hP hP2 hS hl
  exact lv_icmp_ne hx hb d ht (fun h => kt (hf.trans (if_neg h)) H locs ls hP hP2 hS hl) (fun h => kf (hf.trans (if_pos h)) H locs ls hP hP2 hS hl)
theorem l_icmp_lt {α : Type} {rv a9 b9 : α} (C : Cl X b L xs cc own Ts nL fr lo) {x y : Int32} {off : Int} (tgt : Nat) (d : decode cc pc = .ok (.if_icmp .lt off, 3)) (ht : (pc : Int) + off = (tgt : Int)) (hf : rv = if x < y then a9 else b9) (kt : rv = a9 → Bl X nL tgt lv st σ) (kf : rv = b9 → Bl X nL (pc + 3) lv st σ) : Bl X nL pc lv (.int y :: .int x :: st) σ := by
  obtain ⟨⟨p, l, e, R, s, m, args, below, meth, c, Q, G, A⟩, G2⟩ := X
  obtain ⟨⟨hx, hb, hml, hown, hts, hK, hG, hAi, hA, hfr, hlo⟩, hC2⟩ := C
  intro H locs ls hP hP2 hS hl
  exact lv_icmp_lt hx hb d ht (fun h => kt (hf.trans (if_pos h)) H locs ls hP hP2 hS hl) (fun h => kf (hf.trans (if_neg h)) H locs ls hP hP2 hS hl)
theorem l_icmp_ge {α : Type} {rv a9 b9 : α} (C : Cl X b L xs cc own Ts nL fr lo) {x y : Int32} {off : Int} (tgt : Nat) (d : decode cc pc = .ok (.if_icmp .ge off, 3)) (ht : (pc : Int) + off = (tgt : Int)) (hf : rv = if y ≤ x then a9 else b9) (kt : rv = a9 → Bl X nL tgt lv st σ) (kf : rv = b9 → Bl X nL (pc + 3) lv st σ) : Bl X nL pc lv (.int y :: .int x :: st) σ := by
  obtain ⟨⟨p, l, e, R, s, m, args, below, meth, c, Q, G, A⟩, G2⟩ := X
  obtain ⟨⟨hx, hb, hml, hown, hts, hK, hG, hAi, hA, hfr, hlo⟩, hC2⟩ := C
  intro H locs ls hP hP2 hS hl
  exact lv_icmp_ge hx hb d ht (fun h => kt (hf.trans (if_pos h)) H locs ls hP hP2 hS hl) (fun h => kf (hf.trans (if_neg h)) H locs ls hP hP2 hS hl)
theorem l_icmp_gt {α : Type} {rv a9 b9 : α} (C : Cl X b L xs cc own Ts nL fr lo) {x y : Int32} {off : Int} (tgt : Nat) (d : decode cc pc = .ok (.if_icmp .gt off, 3)) (ht : (pc : Int) + off = (tgt : Int)) (hf : rv = if y < x then a9 else b9) (kt : rv = a9 → Bl X nL tgt lv st σ) (kf : rv = b9 → Bl X nL (pc + 3) lv st σ) : Bl X nL pc lv (.int y :: .int x :: st) σ := by
  obtain ⟨⟨p, l, e, R, s, m, args, below, meth, c, Q, G, A⟩, G2⟩ := X
  obtain ⟨⟨hx, hb, hml, hown, hts, hK, hG, hAi, hA, hfr, hlo⟩, hC2⟩ := C
  intro H locs ls hP hP2 hS hl
  exact lv_icmp_gt hx hb d ht (fun h => kt (hf.trans (if_pos h)) H locs ls hP hP2 hS hl) (fun h => kf (hf.trans (if_neg h)) H locs ls hP hP2 hS hl)
theorem l_icmp_le {α : Type} {rv a9 b9 : α} (C : Cl X b L xs cc own Ts nL fr lo) {x y : Int32} {off : Int} (tgt : Nat) (d : decode cc pc = .ok (.if_icmp .le off, 3)) (ht : (pc : Int) + off = (tgt : Int)) (hf : rv = if x ≤ y then a9 else b9) (kt : rv = a9 → Bl X nL tgt lv st σ) (kf : rv = b9 → Bl X nL (pc + 3) lv st σ) : Bl X nL pc lv (.int y :: .int x :: st) σ := by
  obtain ⟨⟨p, l, e, R, s, m, args, below, meth, c, Q, G, A⟩, G2⟩ := X
  obtain ⟨⟨hx, hb, hml, hown, hts, hK, hG, hAi, hA, hfr, hlo⟩, hC2⟩ := C
  intro H locs ls hP hP2 hS hl
  exact lv_icmp_le hx hb d ht (fun h => kt (hf.trans (if_pos h)) H locs ls hP hP2 hS hl) (fun h => kf (hf.trans (if_neg h)) H locs ls hP hP2 hS hl)
theorem l_nv {α : Type} {rv : α} {x : Int32} {k : Int32 → Option α} (hf : some rv = nv x k) (kk : ∀ y, some rv = k y → Bl X nL pc lv (.int y :: st) σ) : Bl X nL pc lv (.int x :: st) σ := kk x hf
theorem l_sub (js : List Nat) (h : lv_pick lv js = lv') (kk : Bl X nL pc lv' st σ) : Bl X nL pc lv st σ := by
  obtain ⟨⟨p, l, e, R, s, m, args, below, meth, c, Q, G, A⟩, G2⟩ := X
  exact fun H locs ls hP hP2 hS hl => kk H locs ls hP hP2 hS (lv_sub hl js h)
theorem l_callO (C : Cl X b L xs cc RL Ts nL fr lo) {index : Nat} {y : MethodName} {ws ws' : List Cond} {frc loc n maxL : Nat} {bytes : ByteArray} {ret : Option FieldType} {hh : List (Nat × Nat × Nat × Nat)} {f : Mem → Option (Int32 × Mem)} {r : Int32} {u : M2} (asv : Geo → List Value) (M : ∀ l, Cti l y ws frc loc asv f) (hf : onO f σ = some (r, u)) (g : GoodIn Ts (va_wsS RL index y ws)) (hw : ws = Cond.codeWith y bytes maxL ret hh :: ws') (hd : y.cls ≠ "java/lang/invoke/MethodHandle" ∧ y.cls ≠ "java/lang/invoke/VarHandle" ∧ (parseMethodDescriptor y.desc).map (fun d => d.parameters.length) = some n) (hn : (asv (XO X)).length = n) (hfr9 : frc + 1 ≤ fr) (hlo9 : 8 + (maxL + 11) + loc ≤ lo) (hcat : (st.map fun v => v.category).sum ≤ 8) (d : decode cc pc = .ok (.invokestatic index, 3)) (kk : Bl X nL (pc + 3) lv (.int r :: st) u) : Bl X nL pc lv ((asv (XO X)).reverse ++ st) σ := by
  obtain ⟨⟨p, l, e, R, s, m, args, below, meth, c, Q, G, A⟩, G2⟩ := X
  obtain ⟨⟨hx, hb, hml, hown, hts, hK, hG, hAi, hA, hfr, hlo⟩, hK2, hG2, hAi2, hdis, hX, hbl, hbA, hcl, hsl, hLm⟩ := C
  obtain ⟨u1, hu, rfl⟩ := onO_inv hf
  intro H locs ls hP hP2 hS hl
  refine va_calli (vx_runSW (As := asv G) (rest := st) ⟨hx, hb, hml, hown, hts⟩ (M l G H.size σ.1 0 r u1 hG hu) (vx_cwSW n hts g hw rfl rfl hd ⟨Nat.le_trans hfr9 hfr, Nat.le_trans hlo9 hlo⟩) ⟨wPc_blind, fun U hU hW => ⟨rfl, by rw [hU], by rw [hU]; exact hP, hK.warm hW⟩⟩ rfl hn hl.1 rfl (lv_room hcat) d ⟨hcl, hsl⟩) hS (fun q _ h => wA_in hAi hA hS q h) (wA_in hAi hA hS) (fun r9 u9 t H1 locs1 ht hvm hw9 hB hz hk hS1 => ?_)
  obtain ⟨rfl, rfl⟩ := hw9
  exact kk H1 locs1 ls (by rw [← ht]; exact hB) (other hP2 hdis hk) hS1 hl
theorem l_callP (C : Cl X b L xs cc RL Ts nL fr lo) {index : Nat} {y : MethodName} {ws ws' : List Cond} {frc loc n maxL : Nat} {bytes : ByteArray} {ret : Option FieldType} {hh : List (Nat × Nat × Nat × Nat)} {f : Mem → Option (Int32 × Mem)} {r : Int32} {u : M2} (asv : Geo → List Value) (M : ∀ l, Cti l y ws frc loc asv f) (hf : onP f σ = some (r, u)) (g : GoodIn Ts (va_wsS RL index y ws)) (hw : ws = Cond.codeWith y bytes maxL ret hh :: ws') (hd : y.cls ≠ "java/lang/invoke/MethodHandle" ∧ y.cls ≠ "java/lang/invoke/VarHandle" ∧ (parseMethodDescriptor y.desc).map (fun d => d.parameters.length) = some n) (hn : (asv (XP X)).length = n) (hfr9 : frc + 1 ≤ fr) (hlo9 : 8 + (maxL + 11) + loc ≤ lo) (hcat : (st.map fun v => v.category).sum ≤ 8) (d : decode cc pc = .ok (.invokestatic index, 3)) (kk : Bl X nL (pc + 3) lv (.int r :: st) u) : Bl X nL pc lv ((asv (XP X)).reverse ++ st) σ := by
  obtain ⟨⟨p, l, e, R, s, m, args, below, meth, c, Q, G, A⟩, G2⟩ := X
  obtain ⟨⟨hx, hb, hml, hown, hts, hK, hG, hAi, hA, hfr, hlo⟩, hK2, hG2, hAi2, hdis, hX, hbl, hbA, hcl, hsl, hLm⟩ := C
  obtain ⟨u1, hu, rfl⟩ := onP_inv hf
  intro H locs ls hP hP2 hS hl
  refine va_calli (vx_runSW (As := asv G2) (rest := st) ⟨hx, hb, hml, hown, hts⟩ (M l G2 H.size σ.2 0 r u1 hG2 hu) (vx_cwSW n hts g hw rfl rfl hd ⟨Nat.le_trans hfr9 hfr, Nat.le_trans hlo9 hlo⟩) ⟨wPc_blind, fun U hU hW => ⟨rfl, by rw [hU], by rw [hU]; exact hP2, hK2.warm hW⟩⟩ rfl hn hl.1 rfl (lv_room hcat) d ⟨hcl, hsl⟩) hS (fun q _ h => wA_in hAi2 hA hS q h) (wA_in hAi2 hA hS) (fun r9 u9 t H1 locs1 ht hvm hw9 hB hz hk hS1 => ?_)
  obtain ⟨rfl, rfl⟩ := hw9
  exact kk H1 locs1 ls (other hP (fun i j hi hj e => hdis j i hj hi e.symm) hk) (by rw [← ht]; exact hB) hS1 hl
theorem l_callS (C : Cl X b L xs cc RL Ts nL fr lo) {index : Nat} {y : MethodName} {ws ws' : List Cond} {frc loc n maxL : Nat} {bytes : ByteArray} {ret : Option FieldType} {f : Mem → Option (Int32 × Mem)} {r : Int32} {u : M2} (asv : Geo → List Value) (M : ∀ l, Cti l y ws frc loc asv f) (hf : onO f σ = some (r, u)) (g : GoodIn Ts (va_wsS RL index y ws)) (hw : ws = Cond.code y bytes maxL ret :: ws') (hd : y.cls ≠ "java/lang/invoke/MethodHandle" ∧ y.cls ≠ "java/lang/invoke/VarHandle" ∧ (parseMethodDescriptor y.desc).map (fun d => d.parameters.length) = some n) (hn : (asv (XO X)).length = n) (hfr9 : frc + 1 ≤ fr) (hlo9 : 8 + (maxL + 11) + loc ≤ lo) (hcat : (st.map fun v => v.category).sum ≤ 8) (d : decode cc pc = .ok (.invokestatic index, 3)) (kk : Bl X nL (pc + 3) lv (.int r :: st) u) : Bl X nL pc lv ((asv (XO X)).reverse ++ st) σ := by
  obtain ⟨⟨p, l, e, R, s, m, args, below, meth, c, Q, G, A⟩, G2⟩ := X
  obtain ⟨⟨hx, hb, hml, hown, hts, hK, hG, hAi, hA, hfr, hlo⟩, hK2, hG2, hAi2, hdis, hX, hbl, hbA, hcl, hsl, hLm⟩ := C
  obtain ⟨u1, hu, rfl⟩ := onO_inv hf
  intro H locs ls hP hP2 hS hl
  refine va_calli (va_runS (As := asv G) (rest := st) ⟨hx, hb, hml, hown, hts⟩ (M l G H.size σ.1 0 r u1 hG hu) (va_cwS n hts g hw rfl rfl hd ⟨Nat.le_trans hfr9 hfr, Nat.le_trans hlo9 hlo⟩) ⟨wPc_blind, fun U hU hW => ⟨rfl, by rw [hU], by rw [hU]; exact hP, hK.warm hW⟩⟩ rfl hn hl.1 rfl (lv_room hcat) d ⟨hcl, hsl⟩) hS (fun q _ h => wA_in hAi hA hS q h) (wA_in hAi hA hS) (fun r9 u9 t H1 locs1 ht hvm hw9 hB hz hk hS1 => ?_)
  obtain ⟨rfl, rfl⟩ := hw9
  exact kk H1 locs1 ls (by rw [← ht]; exact hB) (other hP2 hdis hk) hS1 hl
theorem l_drawn (C : Cl X b L xs cc RL Ts nL fr lo) {index : Nat} {k : Int32} (h0 : 0 ≤ k) (g : GoodIn Ts (va_wsS RL index yL_drawn wsL_drawn)) (hlo9 : 22 ≤ lo) (hfr9 : 1 ≤ fr) (hcat : (st.map fun v => v.category).sum ≤ 8) (d : decode cc pc = .ok (.invokestatic index, 3)) (kk : Bl X nL (pc + 3) lv (.int (dw L xs k) :: st) σ) : Bl X nL pc lv (.int k :: .ref b :: st) σ := by
  obtain ⟨⟨p, l, e, R, s, m, args, below, meth, c, Q, G, A⟩, G2⟩ := X
  obtain ⟨⟨hx, hb, hml, hown, hts, hK, hG, hAi, hA, hfr, hlo⟩, hK2, hG2, hAi2, hdis, hX, hbl, hbA, hcl, hsl, hLm⟩ := C
  intro H locs ls hP hP2 hS hl
  have hbH : b < H.size := Nat.lt_of_lt_of_le hbl hS.1
  refine va_calli (va_runS (As := [.ref b, .int k]) (rest := st) ⟨hx, hb, hml, hown, hts⟩ (c_L_drawn k h0 b L (by omega) xs H.size l) (va_cwS 2 hts g rfl rfl rfl (by decide +kernel) ⟨Nat.le_trans hfr9 hfr, Nat.le_trans hlo9 hlo⟩) ⟨fun a U g9 mk q => ?_, fun U hU hW => ⟨rfl, by rw [hU], ?_, hbH⟩⟩ rfl rfl hl.1 rfl (lv_room hcat) d ⟨hcl, hsl⟩) hS (fun q h1 h2 => absurd h1 (Nat.not_lt.mpr h2)) (fun q h => hA q (Nat.le_trans hS.1 h)) (fun r9 u9 t H1 locs1 ht hvm hw9 hB hz hk hS1 => ?_)
  · obtain ⟨q0, q1, q2, q3⟩ := q
    exact ⟨q0, q1, q2.moved (u := U) (U := U.calling g9 mk a) (Vm.Alike.refl U.vm), q3⟩
  · rw [hU]
    exact (hX.kept (hS.2.1 b hbl hbA)).moved hW.alike
  · obtain rfl := hw9
    exact kk H1 locs1 ls (hP.kept (fun k q hq => hk q.1 (hP k q hq).lt (Nat.not_le.mpr (hP k q hq).lt))) (hP2.kept (fun k q hq => hk q.1 (hP2 k q hq).lt (Nat.not_le.mpr (hP2 k q hq).lt))) hS1 hl
end LAW2
