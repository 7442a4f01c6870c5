/-! ROWS OF THROWING: a method of the face returns or throws one of three; a wrapper of the law catches it. By hand. -/
def exN (k : Nat) : String := match k with
  | 1 => "java/lang/IllegalArgumentException"
  | 2 => "java/lang/IllegalStateException"
  | _ => "java/lang/IndexOutOfBoundsException"
abbrev exS : List String := ["java/lang/RuntimeException", "java/lang/Exception"]
/-- what a throw needs of the tables and the statics, beside the method's own words -/
def wE (U : State) : Prop := va_Nw (.declares (Bundle.init0 "java/lang/RuntimeException")) U ∧ va_Nw (.declares (Bundle.init0 "java/lang/Exception")) U ∧ va_Nw (.declares (Bundle.init0 Bundle.tN)) U
def wT (A : Nat → Prop) (U : State) (H : Heap) : Prop := (wZ A U H ∧ wE U) ∧ va_Nw (.castable (exN 1) (exN 1)) U ∧ va_Nw (.castable (exN 2) (exN 2)) U ∧ va_Nw (.castable (exN 3) (exN 3)) U
/-- none of the three is another -/
def wNc (U : State) : Prop := va_Nc (exN 1) (exN 2) U ∧ va_Nc (exN 1) (exN 3) U ∧ va_Nc (exN 2) (exN 1) U ∧ va_Nc (exN 2) (exN 3) U ∧ va_Nc (exN 3) (exN 1) U ∧ va_Nc (exN 3) (exN 2) U
theorem wNc.moved {u U : State} (hvm : u.vm.Alike U.vm) (h : wNc u) : wNc U := ⟨h.1.moved hvm, h.2.1.moved hvm, h.2.2.1.moved hvm, h.2.2.2.1.moved hvm, h.2.2.2.2.1.moved hvm, h.2.2.2.2.2.moved hvm⟩
theorem wT.warm {A B : Nat → Prop} {s U : State} {H0 H : Heap} (hW : s.WarmedH U.vm) (h : wT A s H0) (hq : ∀ a : Nat, a < H0.size → ¬ A a → H[a]? = H0[a]?) (hAB : ∀ q, B q → A q) : wT B U H :=
  ⟨⟨⟨((h.1.1.1.kept hq).moved hW.alike).narrow hAB, ((h.1.1.2.kept hq).moved hW.alike).narrow hAB⟩, va_Nw.warmD hW h.1.2.1, va_Nw.warmD hW h.1.2.2.1, va_Nw.warmD hW h.1.2.2.2⟩, va_Nw.warmC hW h.2.1, va_Nw.warmC hW h.2.2.1, va_Nw.warmC hW h.2.2.2⟩
theorem wT.same {A : Nat → Prop} {s U : State} {H : Heap} (hvm : s.vm = U.vm) (h : wT A s H) : wT A U H :=
  ⟨⟨⟨h.1.1.1.moved (by rw [hvm]; exact Vm.Alike.refl _), h.1.1.2.moved (by rw [hvm]; exact Vm.Alike.refl _)⟩, va_Nw.same rfl hvm h.1.2.1, va_Nw.same rfl hvm h.1.2.2.1, va_Nw.same rfl hvm h.1.2.2.2⟩, va_Nw.same rfl hvm h.2.1, va_Nw.same rfl hvm h.2.2.1, va_Nw.same rfl hvm h.2.2.2⟩
def Cte (l : Launch) (y : MethodName) (ws : List Cond) (fr lo : Nat) (av : Geo → List Value) (f : Mem → Option ((Nat × Int32) × Mem)) : Prop :=
  ∀ (G : Geo) (sz : Nat) (σ : Mem) (o : Int64) (oc : Nat × Int32) (u : Mem), gok G → f σ = some (oc, u) → vx_Met l y ws { frames := fr, cells := 1, slots := 6, locals := lo } (va_Pc (av G) (fun U => wPc G sz σ o U ∧ wT (wA G sz) U U.heap)) (va_Qi (fun r' u' => oc = (0, r') ∧ u' = u) (wB G o) (wA G sz)) (vx_X (fun u' => u' = u) (fun E u' t => oc.1 ≠ 0 ∧ E = exN oc.1 ∧ wB G o u' t) (wA G sz)) 1 6 (wA G sz)
def Xt (X : Ctx) (nL : Nat) (o : Int64) (rv : (Nat × Int32) × Mem) (own : String) (k ik ic : Nat) (cc : ByteArray) (Ts : List Cond) : Prop :=
  ∀ (pc : Nat) (lv : List (Nat × Value)) (st : List Value) (σ : Mem), (Cond.classLink own ik (exN k)) ∈ Ts → (Cond.initialized (exN k)) ∈ Ts → (∀ w ∈ (vx_at0 own ic (exN k) exS).filter goodWord, w ∈ Ts) →
    decode cc pc = .ok (.new ik, 3) → decode cc (pc + 3) = .ok (.dup, 1) → decode cc (pc + 4) = .ok (.invokespecial ic, 3) → decode cc (pc + 7) = .ok (.athrow, 1) → (st.map fun v => v.category).sum ≤ 8 → some rv = some ((k, 0), σ) → Bk X nL o 0 0 pc lv st σ
def Rxi (X : Ctx) (cc : ByteArray) (nL : Nat) (o : Int64) (rv : (Nat × Int32) × Mem) : Prop := ∀ (pc : Nat) (lv : List (Nat × Value)) (v : Int32) (σ : Mem), decode cc pc = .ok (.ireturn, 1) → some rv = some ((0, v), σ) → Bk X nL o 0 0 pc lv [.int v] σ
def Rxz (X : Ctx) (cc : ByteArray) (nL : Nat) (o : Int64) (rv : (Nat × Int32) × Mem) : Prop := ∀ (pc : Nat) (lv : List (Nat × Value)) (v : Int32) (σ : Mem), decode cc pc = .ok (.ireturn, 1) → some rv = gd (isZ v) (some ((0, v), σ)) → Bk X nL o 0 0 pc lv [.int v] σ
def Rxc (X : Ctx) (cc : ByteArray) (nL : Nat) (o : Int64) (rv : (Nat × Int32) × Mem) : Prop := ∀ (pc : Nat) (lv : List (Nat × Value)) (v : Int32) (σ : Mem), decode cc pc = .ok (.ireturn, 1) → some rv = gd (isC v) (some ((0, v), σ)) → Bk X nL o 0 0 pc lv [.int v] σ
theorem xg_1 : ∀ w ∈ Cond.classLink RX9 81 (exN 1) :: Cond.initialized (exN 1) :: vx_at0 RX9 83 (exN 1) exS, vx_ot w = true := by decide +kernel
theorem xg_2 : ∀ w ∈ Cond.classLink RX9 87 (exN 2) :: Cond.initialized (exN 2) :: vx_at0 RX9 89 (exN 2) exS, vx_ot w = true := by decide +kernel
theorem xg_3 : ∀ w ∈ Cond.classLink RX9 98 (exN 3) :: Cond.initialized (exN 3) :: vx_at0 RX9 100 (exN 3) exS, vx_ot w = true := by decide +kernel
theorem xb_1 : ∀ w ∈ (vx_at0 RX9 83 (exN 1) exS).filter (fun w => !goodWord w), w ∈ [Cond.declares (Bundle.init0 "java/lang/RuntimeException"), Cond.declares (Bundle.init0 "java/lang/Exception"), Cond.declares (Bundle.init0 Bundle.tN), Cond.castable (exN 1) (exN 1)] := by decide +kernel
theorem xb_2 : ∀ w ∈ (vx_at0 RX9 89 (exN 2) exS).filter (fun w => !goodWord w), w ∈ [Cond.declares (Bundle.init0 "java/lang/RuntimeException"), Cond.declares (Bundle.init0 "java/lang/Exception"), Cond.declares (Bundle.init0 Bundle.tN), Cond.castable (exN 2) (exN 2)] := by decide +kernel
theorem xb_3 : ∀ w ∈ (vx_at0 RX9 100 (exN 3) exS).filter (fun w => !goodWord w), w ∈ [Cond.declares (Bundle.init0 "java/lang/RuntimeException"), Cond.declares (Bundle.init0 "java/lang/Exception"), Cond.declares (Bundle.init0 Bundle.tN), Cond.castable (exN 3) (exN 3)] := by decide +kernel
theorem xs_fit : ∀ n ∈ exS, Bundle.fit n = true := by decide +kernel
theorem th_core {p : Program} {l : Launch} {e : Env} {R : Room} {s : State} {m : MethodId} {below : List Frame} {meth : Method} {c : Code} {G : Geo} {av : List Value} {cc : ByteArray} {ws : List Cond} {nL : Nat} {o : Int64} {oc : Nat × Int32} {u : Mem} {Qc : Array Value → State → Outcome → State → Prop}
    (hx : p.tables.exec = Jvm.exec) (hb : c.code = cc) (hl : l.stackTraces = false) (hml : c.maxLocals = nL) (hown : s.vm.findClass RX9 = some m.cls) (hts : ∀ w ∈ ws, w.before av.toArray s = true) (htab : ∀ x ∈ c.exceptionTable.toList, False) (hlocks : meth.locks = false) (hZ : wZ (wA G s.heap.size) s s.heap ∧ wE s) (hRf : 6 ≤ R.frames) (hRl : 89 ≤ R.locals) (hRc : R.cells = 1) (hRs : R.slots = 6)
    (k ik ic : Nat) (hg : ∀ w ∈ Cond.classLink RX9 ik (exN k) :: Cond.initialized (exN k) :: vx_at0 RX9 ic (exN k) exS, vx_ot w = true) (hbad : ∀ w ∈ (vx_at0 RX9 ic (exN k) exS).filter (fun w => !goodWord w), w ∈ [Cond.declares (Bundle.init0 "java/lang/RuntimeException"), Cond.declares (Bundle.init0 "java/lang/Exception"), Cond.declares (Bundle.init0 Bundle.tN), Cond.castable (exN k) (exN k)]) (hcast : va_Nw (.castable (exN k) (exN k)) s) (hfit : Bundle.fit (exN k) = true) (hk0 : k ≠ 0) :
    Xt (p, l, e, R, s, m, av.toArray, below, meth, c, vx_MQ below Qc (vx_X (fun u' => u' = u) (fun E u' t => oc.1 ≠ 0 ∧ E = exN oc.1 ∧ wB G o u' t) (wA G s.heap.size)) av.toArray s 1 6 (wA G s.heap.size), G, wA G s.heap.size) nL o (oc, u) RX9 k ik ic cc ws := by
  intro pc lv st τ w1 w2 w3 d0 d3 d4 d7 hcat hv
  obtain ⟨rfl, rfl⟩ := Prod.mk.inj (Option.some.inj hv)
  intro H locs ls hP hS hl9
  refine vx_throw0 (own := RX9) (cls := exN k) (names := exS) (ik := ik) (ic := ic) (A := wA G s.heap.size) hx hb hl hown hfit xs_fit (hts _ w1) (hts _ w2) (vx_hat (fun w hw => hts w (w3 w hw)) hbad (fun w hw => by
      rcases List.mem_cons.mp hw with rfl | hw
      · exact va_Nw.use rfl hZ.2.1
      rcases List.mem_cons.mp hw with rfl | hw
      · exact va_Nw.use rfl hZ.2.2.1
      rcases List.mem_cons.mp hw with rfl | hw
      · exact va_Nw.use rfl hZ.2.2.2
      rw [List.mem_singleton.mp hw]; exact va_Nw.use rfl hcast)) hg hZ.1.1 hZ.1.2 hS (hl9.1.trans hml.symm) d0 d3 d4 d7 (fun x hx9 => (htab x hx9).elim) ?_ ?_ (by rw [hRc]; exact Nat.le_refl _) (by rw [hRs]; exact Nat.le_refl _) hlocks (fun t hvm hsz hq => ?_) hS.2.2 (Nat.le_refl _) (Nat.le_refl _)
  · exact Nat.lt_of_lt_of_le (by decide) hRf
  · exact Nat.le_trans (Nat.add_le_add_right hcat _) hRl
  · refine ⟨u, rfl, ⟨hk0, rfl, ?_⟩, Nat.le_trans hS.1 hsz, fun q h1 h2 => by rw [hq q (Nat.lt_of_lt_of_le h1 hS.1)]; exact hS.2.1 q h1 h2⟩
    exact va_P.kept hP (fun k9 q9 hk9 => hq q9.1 (hP k9 q9 hk9).lt)
theorem wPe_blind {G : Geo} {sz : Nat} {σ : Mem} {o : Int64} {av : List Value} : FrameBlind (va_Pc av (fun U => wPc G sz σ o U ∧ wT (wA G sz) U U.heap)) := fun a U g mk q => by
  obtain ⟨q0, q1, q2⟩ := q
  obtain ⟨z1, z2⟩ := wPc_blind (av := av) a U g mk ⟨q0, q1⟩
  exact ⟨z1, z2, wT.same (s := U) (U := U.calling g mk a) rfl q2⟩
theorem mk_ei {l : Launch} {y : MethodName} {ws ws' : List Cond} {fr lo : Nat} {av : Geo → List Value} {f : Mem → Option ((Nat × Int32) × Mem)} {cc : ByteArray} {nL : Nat} (hfl : l.stackTraces = false) (hy : plainName y.cls = true) (ho : y.cls = RX9) (hw : ws = Cond.code y cc nL (some .int) :: ws') (hlen : ∀ G, (lg_sl (av G)).length ≤ nL) (hfr : 6 ≤ fr) (hlo : 89 ≤ lo)
    (body : ∀ (X : Ctx) (o : Int64) (σ : Mem) (rv : (Nat × Int32) × Mem), Cx X cc RX9 ws nL fr lo → Rxi X cc nL o rv → Xt X nL o rv RX9 1 81 83 cc ws → Xt X nL o rv RX9 2 87 89 cc ws → Xt X nL o rv RX9 3 98 100 cc ws → some rv = f σ → Bk X nL o 0 0 0 (lv_args 0 (av (XG X))) [] σ) : Cte l y ws fr lo av f := by
  intro G sz σ o oc u hG hf
  refine vx_ofW (cc := cc) (maxL := nL) (ret := some .int) hy hw ?_
  intro p e s m args below meth c s₁ B hml htab hv
  obtain ⟨rfl, ⟨hsz, hP, hK⟩, hT⟩ := hv
  have hx := B.exec
  have hb := B.bytes
  have hr := B.returns
  have hts := atoms_spec (ws := ws) B.pre
  have hown : s.vm.findClass RX9 = some m.cls := by rw [← ho]; exact findClass_of_methodNamed B.named
  have hlocks := B.notSynchronized
  subst hsz
  have key := body (p, l, e, (headSpec ws { frames := fr, cells := 1, slots := 6, locals := lo }).room, s, m, (av G).toArray, below, meth, c, vx_MQ below (va_Qi (fun r' u' => oc = (0, r') ∧ u' = u) (wB G o) (wA G s.heap.size)) (vx_X (fun u' => u' = u) (fun E u' t => oc.1 ≠ 0 ∧ E = exN oc.1 ∧ wB G o u' t) (wA G s.heap.size)) (av G).toArray s 1 6 (wA G s.heap.size), G, wA G s.heap.size) o σ (oc, u) ⟨hx, hb, hml, hown, hts, hK, hG, fun i hi => Or.inl ⟨i, hi, rfl⟩, fun q hq => Or.inr hq, Nat.le_refl _, Nat.le_refl _⟩ ?_ (th_core hx hb hfl hml hown hts htab hlocks hT.1 hfr hlo rfl rfl 1 81 83 xg_1 xb_1 hT.2.1 (by decide +kernel) (by decide)) (th_core hx hb hfl hml hown hts htab hlocks hT.1 hfr hlo rfl rfl 2 87 89 xg_2 xb_2 hT.2.2.1 (by decide +kernel) (by decide)) (th_core hx hb hfl hml hown hts htab hlocks hT.1 hfr hlo rfl rfl 3 98 100 xg_3 xb_3 hT.2.2.2 (by decide +kernel) (by decide)) hf.symm
  · have hl := lv_entry (av G) (n := nL) (hlen G)
    rw [lg_entry_eq]
    exact key s.heap [] _ hP va_S.rf hl
  · intro pc lv v τ d hv
    obtain ⟨rfl, rfl⟩ := Prod.mk.inj (Option.some.inj hv)
    intro H locs ls hP hS hl
    refine W.widen (k := 1) (n := 6) (Nat.zero_le _) (Nat.zero_le _) ?_
    refine vx_ret ?_
    exact W.iret (v := v) hx hb hr (fun t ht hW => ⟨⟨v, u, rfl, ⟨rfl, rfl⟩, by unfold wB; rw [ht]; exact hP⟩, hS.F ht⟩) hS.2.2 d
theorem mk_ez {l : Launch} {y : MethodName} {ws ws' : List Cond} {fr lo : Nat} {av : Geo → List Value} {f : Mem → Option ((Nat × Int32) × Mem)} {cc : ByteArray} {nL : Nat} (hfl : l.stackTraces = false) (hy : plainName y.cls = true) (ho : y.cls = RX9) (hw : ws = Cond.code y cc nL (some .boolean) :: ws') (hlen : ∀ G, (lg_sl (av G)).length ≤ nL) (hfr : 6 ≤ fr) (hlo : 89 ≤ lo)
    (body : ∀ (X : Ctx) (o : Int64) (σ : Mem) (rv : (Nat × Int32) × Mem), Cx X cc RX9 ws nL fr lo → Rxz X cc nL o rv → Xt X nL o rv RX9 1 81 83 cc ws → Xt X nL o rv RX9 2 87 89 cc ws → Xt X nL o rv RX9 3 98 100 cc ws → some rv = f σ → Bk X nL o 0 0 0 (lv_args 0 (av (XG X))) [] σ) : Cte l y ws fr lo av f := by
  intro G sz σ o oc u hG hf
  refine vx_ofW (cc := cc) (maxL := nL) (ret := some .boolean) hy hw ?_
  intro p e s m args below meth c s₁ B hml htab hv
  obtain ⟨rfl, ⟨hsz, hP, hK⟩, hT⟩ := hv
  have hx := B.exec
  have hb := B.bytes
  have hr := B.returns
  have hts := atoms_spec (ws := ws) B.pre
  have hown : s.vm.findClass RX9 = some m.cls := by rw [← ho]; exact findClass_of_methodNamed B.named
  have hlocks := B.notSynchronized
  subst hsz
  have key := body (p, l, e, (headSpec ws { frames := fr, cells := 1, slots := 6, locals := lo }).room, s, m, (av G).toArray, below, meth, c, vx_MQ below (va_Qi (fun r' u' => oc = (0, r') ∧ u' = u) (wB G o) (wA G s.heap.size)) (vx_X (fun u' => u' = u) (fun E u' t => oc.1 ≠ 0 ∧ E = exN oc.1 ∧ wB G o u' t) (wA G s.heap.size)) (av G).toArray s 1 6 (wA G s.heap.size), G, wA G s.heap.size) o σ (oc, u) ⟨hx, hb, hml, hown, hts, hK, hG, fun i hi => Or.inl ⟨i, hi, rfl⟩, fun q hq => Or.inr hq, Nat.le_refl _, Nat.le_refl _⟩ ?_ (th_core hx hb hfl hml hown hts htab hlocks hT.1 hfr hlo rfl rfl 1 81 83 xg_1 xb_1 hT.2.1 (by decide +kernel) (by decide)) (th_core hx hb hfl hml hown hts htab hlocks hT.1 hfr hlo rfl rfl 2 87 89 xg_2 xb_2 hT.2.2.1 (by decide +kernel) (by decide)) (th_core hx hb hfl hml hown hts htab hlocks hT.1 hfr hlo rfl rfl 3 98 100 xg_3 xb_3 hT.2.2.2 (by decide +kernel) (by decide)) hf.symm
  · have hl := lv_entry (av G) (n := nL) (hlen G)
    rw [lg_entry_eq]
    exact key s.heap [] _ hP va_S.rf hl
  · intro pc lv v τ d hv
    obtain ⟨hz, hv⟩ := gd_inv hv
    obtain ⟨rfl, rfl⟩ := Prod.mk.inj (Option.some.inj hv)
    intro H locs ls hP hS hl
    refine W.widen (k := 1) (n := 6) (Nat.zero_le _) (Nat.zero_le _) ?_
    refine vx_ret ?_
    exact W.zret (v := v) hx hb hr (isZ_nar hz) (fun t ht hW => ⟨⟨v, u, rfl, ⟨rfl, rfl⟩, by unfold wB; rw [ht]; exact hP⟩, hS.F ht⟩) hS.2.2 d
theorem mk_ec {l : Launch} {y : MethodName} {ws ws' : List Cond} {fr lo : Nat} {av : Geo → List Value} {f : Mem → Option ((Nat × Int32) × Mem)} {cc : ByteArray} {nL : Nat} (hfl : l.stackTraces = false) (hy : plainName y.cls = true) (ho : y.cls = RX9) (hw : ws = Cond.code y cc nL (some .char) :: ws') (hlen : ∀ G, (lg_sl (av G)).length ≤ nL) (hfr : 6 ≤ fr) (hlo : 89 ≤ lo)
    (body : ∀ (X : Ctx) (o : Int64) (σ : Mem) (rv : (Nat × Int32) × Mem), Cx X cc RX9 ws nL fr lo → Rxc X cc nL o rv → Xt X nL o rv RX9 1 81 83 cc ws → Xt X nL o rv RX9 2 87 89 cc ws → Xt X nL o rv RX9 3 98 100 cc ws → some rv = f σ → Bk X nL o 0 0 0 (lv_args 0 (av (XG X))) [] σ) : Cte l y ws fr lo av f := by
  intro G sz σ o oc u hG hf
  refine vx_ofW (cc := cc) (maxL := nL) (ret := some .char) hy hw ?_
  intro p e s m args below meth c s₁ B hml htab hv
  obtain ⟨rfl, ⟨hsz, hP, hK⟩, hT⟩ := hv
  have hx := B.exec
  have hb := B.bytes
  have hr := B.returns
  have hts := atoms_spec (ws := ws) B.pre
  have hown : s.vm.findClass RX9 = some m.cls := by rw [← ho]; exact findClass_of_methodNamed B.named
  have hlocks := B.notSynchronized
  subst hsz
  have key := body (p, l, e, (headSpec ws { frames := fr, cells := 1, slots := 6, locals := lo }).room, s, m, (av G).toArray, below, meth, c, vx_MQ below (va_Qi (fun r' u' => oc = (0, r') ∧ u' = u) (wB G o) (wA G s.heap.size)) (vx_X (fun u' => u' = u) (fun E u' t => oc.1 ≠ 0 ∧ E = exN oc.1 ∧ wB G o u' t) (wA G s.heap.size)) (av G).toArray s 1 6 (wA G s.heap.size), G, wA G s.heap.size) o σ (oc, u) ⟨hx, hb, hml, hown, hts, hK, hG, fun i hi => Or.inl ⟨i, hi, rfl⟩, fun q hq => Or.inr hq, Nat.le_refl _, Nat.le_refl _⟩ ?_ (th_core hx hb hfl hml hown hts htab hlocks hT.1 hfr hlo rfl rfl 1 81 83 xg_1 xb_1 hT.2.1 (by decide +kernel) (by decide)) (th_core hx hb hfl hml hown hts htab hlocks hT.1 hfr hlo rfl rfl 2 87 89 xg_2 xb_2 hT.2.2.1 (by decide +kernel) (by decide)) (th_core hx hb hfl hml hown hts htab hlocks hT.1 hfr hlo rfl rfl 3 98 100 xg_3 xb_3 hT.2.2.2 (by decide +kernel) (by decide)) hf.symm
  · have hl := lv_entry (av G) (n := nL) (hlen G)
    rw [lg_entry_eq]
    exact key s.heap [] _ hP va_S.rf hl
  · intro pc lv v τ d hv
    obtain ⟨hz, hv⟩ := gd_inv hv
    obtain ⟨rfl, rfl⟩ := Prod.mk.inj (Option.some.inj hv)
    intro H locs ls hP hS hl
    refine W.widen (k := 1) (n := 6) (Nat.zero_le _) (Nat.zero_le _) ?_
    refine vx_ret ?_
    exact W.zret (v := v) hx hb hr (isC_nar hz) (fun t ht hW => ⟨⟨v, u, rfl, ⟨rfl, rfl⟩, by unfold wB; rw [ht]; exact hP⟩, hS.F ht⟩) hS.2.2 d
