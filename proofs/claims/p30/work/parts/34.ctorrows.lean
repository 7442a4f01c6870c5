/-! CONSTRUCTORS: a world that grows; 'Bc' is Bk over a list of cells. Printed by wip/p30/gen/ctor.py -/
def Bc (X : Ctx) (nL kc ks pc : Nat) (lv : List (Nat × Value)) (st : List Value) (ws : va_W) : Prop := match X with
  | (p, l, e, R, s, m, args, below, meth, c, Q, G, A) => ∀ (H : Heap) (locs : List Loc) (ls : Array Slot), va_P G.2.2 vwCl ws H → va_D A ws → va_S A s.heap H locs → lv_has ls nL lv → W p l e R s m args below meth c H locs kc ks Q (F0 m pc ls st)
def Kx (X : Ctx) (cc : ByteArray) (own : String) (Ts : List Cond) (nL fr lo mc ms : Nat) : Prop := match X with
  | (p, _, _, R, s, m, args, _, _, c, _, G, A) => p.tables.exec = Jvm.exec ∧ c.code = cc ∧ c.maxLocals = nL ∧ s.vm.findClass own = some m.cls ∧ (∀ w ∈ Ts, w.before args s = true) ∧ va_K G.2.2 vwCl (tysG G) s ∧ (∀ q, s.heap.size ≤ q → A q) ∧ fr ≤ R.frames ∧ lo ≤ R.locals ∧ mc ≤ R.cells ∧ ms ≤ R.slots
def Ki (X : Ctx) : Prop := match X with
  | (_, _, _, _, _, _, _, _, meth, _, _, _, _) => meth.name = "<init>"
def XS (X : Ctx) : State := X.2.2.2.2.1
section BC
variable {X : Ctx} {cc : ByteArray} {own : String} {Ts : List Cond} {nL fr lo mc ms : Nat} {kc ks pc : Nat} {lv lv' : List (Nat × Value)} {st : List Value} {ws : va_W}
theorem k_iconst (K : Kx X cc own Ts nL fr lo mc ms) {n : Int} {v : Int32} (d : decode cc pc = .ok (.iconst n, 1)) (hv : Int32.ofInt n = v) (kk : Bc X nL kc ks (pc + 1) lv (.int v :: st) ws) : Bc X nL kc ks pc lv (st) ws := by
  obtain ⟨p, l, e, R, s, m, args, below, meth, c, Q, G, A⟩ := X
  obtain ⟨hx, hb, hml, hown, hts, hK, hA, hfr, hlo, hmc, hms⟩ := K
  intro H locs ls hP hD hS hl
  exact lv_iconst hx hb d hv (kk H locs ls hP hD hS hl)
theorem k_bipush (K : Kx X cc own Ts nL fr lo mc ms) {n : Int} {v : Int32} (d : decode cc pc = .ok (.bipush n, 2)) (hv : (Int8.ofInt n).toInt32 = v) (kk : Bc X nL kc ks (pc + 2) lv (.int v :: st) ws) : Bc X nL kc ks pc lv (st) ws := by
  obtain ⟨p, l, e, R, s, m, args, below, meth, c, Q, G, A⟩ := X
  obtain ⟨hx, hb, hml, hown, hts, hK, hA, hfr, hlo, hmc, hms⟩ := K
  intro H locs ls hP hD hS hl
  exact lv_bipush hx hb d hv (kk H locs ls hP hD hS hl)
theorem k_sipush (K : Kx X cc own Ts nL fr lo mc ms) {n : Int} {v : Int32} (d : decode cc pc = .ok (.sipush n, 3)) (hv : (Int16.ofInt n).toInt32 = v) (kk : Bc X nL kc ks (pc + 3) lv (.int v :: st) ws) : Bc X nL kc ks pc lv (st) ws := by
  obtain ⟨p, l, e, R, s, m, args, below, meth, c, Q, G, A⟩ := X
  obtain ⟨hx, hb, hml, hown, hts, hK, hA, hfr, hlo, hmc, hms⟩ := K
  intro H locs ls hP hD hS hl
  exact lv_sipush hx hb d hv (kk H locs ls hP hD hS hl)
theorem k_iload_n (K : Kx X cc own Ts nL fr lo mc ms) {k : Fin 4} {i : Nat} {x : Int32} (d : decode cc pc = .ok (.iload_n k, 1)) (hi : (k : Nat) = i) (j : Nat) (hj : lv[j]? = some (i, .int x)) (kk : Bc X nL kc ks (pc + 1) lv (.int x :: st) ws) : Bc X nL kc ks pc lv (st) ws := by
  obtain ⟨p, l, e, R, s, m, args, below, meth, c, Q, G, A⟩ := X
  obtain ⟨hx, hb, hml, hown, hts, hK, hA, hfr, hlo, hmc, hms⟩ := K
  intro H locs ls hP hD hS hl
  exact lv_iload_n hx hb d hi (lv_at hl j hj) (kk H locs ls hP hD hS hl)
theorem k_istore_n (K : Kx X cc own Ts nL fr lo mc ms) {k : Fin 4} {i : Nat} {x : Int32} (d : decode cc pc = .ok (.istore_n k, 1)) (hi : (k : Nat) = i) (hn : i < nL) (hlv : (i, Value.int x) :: lv.filter (fun q => !(q.1 == i) && !(q.1 + 1 == i && q.2.category == 2)) = lv') (kk : Bc X nL kc ks (pc + 1) lv' (st) ws) : Bc X nL kc ks pc lv (.int x :: st) ws := by
  obtain ⟨p, l, e, R, s, m, args, below, meth, c, Q, G, A⟩ := X
  obtain ⟨hx, hb, hml, hown, hts, hK, hA, hfr, hlo, hmc, hms⟩ := K
  intro H locs ls hP hD hS hl
  exact lv_istore_n hx hb d hi hl hn hlv (fun ls' hl' => kk H locs ls' hP hD hS hl')
theorem k_aload_n (K : Kx X cc own Ts nL fr lo mc ms) {k : Fin 4} {i : Nat} {x : Nat} (d : decode cc pc = .ok (.aload_n k, 1)) (hi : (k : Nat) = i) (j : Nat) (hj : lv[j]? = some (i, .ref x)) (kk : Bc X nL kc ks (pc + 1) lv (.ref x :: st) ws) : Bc X nL kc ks pc lv (st) ws := by
  obtain ⟨p, l, e, R, s, m, args, below, meth, c, Q, G, A⟩ := X
  obtain ⟨hx, hb, hml, hown, hts, hK, hA, hfr, hlo, hmc, hms⟩ := K
  intro H locs ls hP hD hS hl
  exact lv_aload_n hx hb d hi (lv_at hl j hj) (kk H locs ls hP hD hS hl)
theorem k_astore_n (K : Kx X cc own Ts nL fr lo mc ms) {k : Fin 4} {i : Nat} {x : Nat} (d : decode cc pc = .ok (.astore_n k, 1)) (hi : (k : Nat) = i) (hn : i < nL) (hlv : (i, Value.ref x) :: lv.filter (fun q => !(q.1 == i) && !(q.1 + 1 == i && q.2.category == 2)) = lv') (kk : Bc X nL kc ks (pc + 1) lv' (st) ws) : Bc X nL kc ks pc lv (.ref x :: st) ws := by
  obtain ⟨p, l, e, R, s, m, args, below, meth, c, Q, G, A⟩ := X
  obtain ⟨hx, hb, hml, hown, hts, hK, hA, hfr, hlo, hmc, hms⟩ := K
  intro H locs ls hP hD hS hl
  exact lv_astore_n hx hb d hi hl hn hlv (fun ls' hl' => kk H locs ls' hP hD hS hl')
theorem k_iinc (K : Kx X cc own Ts nL fr lo mc ms) {i : Nat} {n : Int} {x v : Int32} (d : decode cc pc = .ok (.iinc i n, 3)) (j : Nat) (hj : lv[j]? = some (i, .int x)) (hv : x + Int32.ofInt n = v) (hn : i < nL) (hlv : (i, Value.int v) :: lv.filter (fun q => !(q.1 == i) && !(q.1 + 1 == i && q.2.category == 2)) = lv') (kk : Bc X nL kc ks (pc + 3) lv' (st) ws) : Bc X nL kc ks pc lv (st) ws := by
  obtain ⟨p, l, e, R, s, m, args, below, meth, c, Q, G, A⟩ := X
  obtain ⟨hx, hb, hml, hown, hts, hK, hA, hfr, hlo, hmc, hms⟩ := K
  intro H locs ls hP hD hS hl
  exact lv_iinc hx hb d hl hj hv hn hlv (fun ls' hl' => kk H locs ls' hP hD hS hl')
theorem k_dup (K : Kx X cc own Ts nL fr lo mc ms) {v : Value} (d : decode cc pc = .ok (.dup, 1)) (hv : v.category = 1) (kk : Bc X nL kc ks (pc + 1) lv (v :: v :: st) ws) : Bc X nL kc ks pc lv (v :: st) ws := by
  obtain ⟨p, l, e, R, s, m, args, below, meth, c, Q, G, A⟩ := X
  obtain ⟨hx, hb, hml, hown, hts, hK, hA, hfr, hlo, hmc, hms⟩ := K
  intro H locs ls hP hD hS hl
  exact lv_dup hx hb d hv (kk H locs ls hP hD hS hl)
theorem k_goto (K : Kx X cc own Ts nL fr lo mc ms) {off : Int} (tgt : Nat) (d : decode cc pc = .ok (.goto off, 3)) (ht : (pc : Int) + off = (tgt : Int)) (kk : Bc X nL kc ks tgt lv (st) ws) : Bc X nL kc ks pc lv (st) ws := by
  obtain ⟨p, l, e, R, s, m, args, below, meth, c, Q, G, A⟩ := X
  obtain ⟨hx, hb, hml, hown, hts, hK, hA, hfr, hlo, hmc, hms⟩ := K
  intro H locs ls hP hD hS hl
  exact lv_goto hx hb d ht (kk H locs ls hP hD hS hl)
theorem k_geT (K : Kx X cc own Ts nL fr lo mc ms) {x y : Int32} {off : Int} (tgt : Nat) (d : decode cc pc = .ok (.if_icmp .ge off, 3)) (ht : (pc : Int) + off = (tgt : Int)) (h : y ≤ x) (kk : Bc X nL kc ks tgt lv (st) ws) : Bc X nL kc ks pc lv (.int y :: .int x :: st) ws := by
  obtain ⟨p, l, e, R, s, m, args, below, meth, c, Q, G, A⟩ := X
  obtain ⟨hx, hb, hml, hown, hts, hK, hA, hfr, hlo, hmc, hms⟩ := K
  intro H locs ls hP hD hS hl
  exact lv_icmp_ge hx hb d ht (fun _ => kk H locs ls hP hD hS hl) (fun h9 => absurd h h9)
theorem k_geF (K : Kx X cc own Ts nL fr lo mc ms) {x y : Int32} {off : Int} (tgt : Nat) (d : decode cc pc = .ok (.if_icmp .ge off, 3)) (ht : (pc : Int) + off = (tgt : Int)) (h : ¬ y ≤ x) (kk : Bc X nL kc ks (pc + 3) lv (st) ws) : Bc X nL kc ks pc lv (.int y :: .int x :: st) ws := by
  obtain ⟨p, l, e, R, s, m, args, below, meth, c, Q, G, A⟩ := X
  obtain ⟨hx, hb, hml, hown, hts, hK, hA, hfr, hlo, hmc, hms⟩ := K
  intro H locs ls hP hD hS hl
  exact lv_icmp_ge hx hb d ht (fun h9 => absurd h9 h) (fun _ => kk H locs ls hP hD hS hl)
theorem k_ws {ws' : va_W} (h : ws = ws') (kk : Bc X nL kc ks pc lv st ws') : Bc X nL kc ks pc lv st ws := h ▸ kk
theorem k_objInit (K : Kx X cc own Ts nL fr lo mc ms) {a index : Nat} (w1 : (Cond.methodLink own index objectInit) ∈ Ts) (w2 : (Cond.instanceMethod objectInit) ∈ Ts) (w3 : (Cond.code objectInit ⟨#[0xb1]⟩ 1 none) ∈ Ts) (d : decode cc pc = .ok (.invokespecial index, 3)) (hfr9 : 1 ≤ fr) (hlo9 : 12 ≤ lo) (kk : Bc X nL kc ks (pc + 3) lv [] ws) : Bc X nL kc ks pc lv [.ref a] ws := by
  obtain ⟨p, l, e, R, s, m, args, below, meth, c, Q, G, A⟩ := X
  obtain ⟨hx, hb, hml, hown, hts, hK, hA, hfr, hlo, hmc, hms⟩ := K
  intro H locs ls hP hD hS hl
  refine W.objInit hx hb hown (hts _ w1) (hts _ w2) (hts _ w3) rfl (by rw [hml]; exact hl.1) rfl d (Nat.le_trans hfr9 hfr) (Nat.le_trans hlo9 hlo) ?_
  exact kk H locs ls hP hD hS hl
theorem k_new (K : Kx X cc own Ts nL fr lo mc ms) {C9 : String} {T : u_T} {N ci index : Nat} (hin : ∀ w ∈ u_ws C9 T N, w ∈ Ts) (ty : Nat → FieldType) (hty : ∀ k, k < N → parseFieldDescriptor (T k).2.2.1 = some (ty k)) (w1 : (Cond.classLink own index C9) ∈ Ts) (w2 : (Cond.instantiable C9 N) ∈ Ts) (w3 : (Cond.initialized C9) ∈ Ts) (hc : vwCl[ci]? = some (C9, T, N)) {fs : List Value} (hfs : ∀ j, j < N → defaultValue (ty j) = vp_V fs j) (h1 : kc + 1 ≤ mc) (h2 : ks + N ≤ ms) (d : decode cc pc = .ok (.new index, 3)) (kk : ∀ q : Nat, Bc X nL (kc + 1) (ks + N) (pc + 3) lv (.ref q :: st) (ws ++ [(q, .inr (ci, fs))])) : Bc X nL kc ks pc lv st ws := by
  obtain ⟨p, l, e, R, s, m, args, below, meth, c, Q, G, A⟩ := X
  obtain ⟨hx, hb, hml, hown, hts, hK, hA, hfr, hlo, hmc, hms⟩ := K
  intro H locs ls hP hD hS hl
  exact va_new hx hb hts hin ty hty hown (hts _ w1) (hts _ w2) (hts _ w3) hK hP hD hS hA hc hfs (Nat.le_trans h1 hmc) (Nat.le_trans h2 hms) d (fun q H1 hP1 hD1 hS1 => kk q H1 locs ls hP1 hD1 hS1 hl)
theorem k_newI (K : Kx X cc own Ts nL fr lo mc ms) (w1 : (Cond.arrayClass .int) ∈ Ts) {n : Int32} {N : Nat} (hn : ¬ n < 0) (hN : n.toNatClampNeg = N) (hbt : N * componentBytes .int ≤ 536870912) (h1 : kc + 1 ≤ mc) (h2 : ks + N ≤ ms) (d : decode cc pc = .ok (.newarray .int, 2)) (kk : ∀ q : Nat, Bc X nL (kc + 1) (ks + N) (pc + 2) lv (.ref q :: st) (ws ++ [(q, .inl ((XG X).2.1.1, N, .inl (fun _ => 0)))])) : Bc X nL kc ks pc lv (.int n :: st) ws := by
  obtain ⟨p, l, e, R, s, m, args, below, meth, c, Q, G, A⟩ := X
  obtain ⟨hx, hb, hml, hown, hts, hK, hA, hfr, hlo, hmc, hms⟩ := K
  intro H locs ls hP hD hS hl
  refine va_newa (atype := .int) (ty := .int) (a0 := (N, .inl (fun _ => 0))) hx hb (hts _ w1) rfl hK hP hD hS hA (fun _ => rfl) hn hN hbt (Nat.le_trans h1 hmc) (Nat.le_trans h2 hms) d (fun q cA H1 hK1 hP1 hD1 hS1 => ?_)
  have e : cA = G.2.1.1 := Option.some.inj ((hK1.2 1 (cA, .int) rfl).2.symm.trans (hK.2 0 (G.2.1.1, .int) rfl).2)
  subst e
  exact kk q H1 locs ls hP1 hD1 hS1 hl
theorem k_putF (K : Kx X cc own Ts nL fr lo mc ms) (hi9 : Ki X) {T : u_T} {N : Nat} {C9 : String} {index : Nat} {q h0 : Nat} {fs fs' : List Value} {rest : va_W} {ty : FieldType} (hin : ∀ w ∈ u_ws C9 T N, w ∈ Ts) (ty0 : Nat → FieldType) (hty : ∀ k, k < N → parseFieldDescriptor (T k).2.2.1 = some (ty0 k)) (hnm : ∀ a, a < N → ∀ b, b < N → a ≠ b → (T a).2.1 ≠ (T b).2.1) (ci k : Nat) (hc : vwCl[ci]? = some (C9, T, N)) (hk : k < N) (hlink : (Cond.fieldLink own index own (T k).2.1 (T k).2.2.1) ∈ Ts) (hdecl : (T k).1 = own) (hfin : (T k).2.2.2 = true) (hd : parseFieldDescriptor (T k).2.2.1 = some ty) (hn : narrow ty (.ref q) = .ref q) (hfit : fits ty (.ref q) = true) (hl9 : k < fs.length) (hfs : fs.set k (.ref q) = fs') (d : decode cc pc = .ok (.putfield index, 3)) (kk : Bc X nL kc ks (pc + 3) lv st ((h0, .inr (ci, fs')) :: rest)) : Bc X nL kc ks pc lv (.ref q :: .ref h0 :: st) ((h0, .inr (ci, fs)) :: rest) := by
  obtain ⟨p, l, e, R, s, m, args, below, meth, c, Q, G, A⟩ := X
  obtain ⟨hx, hb, hml, hown, hts, hK, hA, hfr, hlo, hmc, hms⟩ := K
  intro H locs ls hP hD hS hl
  subst hfs
  have hlink2 := hts _ hlink
  exact va_putF (v := .ref q) (ref := own) hx hb hts hin ty0 hty hnm hown hK hP hD hS 0 rfl hc k hk hlink2 (fun _ h9 => by rw [← hdecl]; exact h9) hfin hi9 hdecl hd hn hfit hl9 d (fun H1 locs1 hP1 hD1 hS1 => kk H1 locs1 ls hP1 hD1 hS1 hl)
theorem k_putI (K : Kx X cc own Ts nL fr lo mc ms) {T : u_T} {N : Nat} {C9 : String} {index : Nat} {v : Int32} {h0 : Nat} {fs fs' : List Value} {rest : va_W} (hin : ∀ w ∈ u_ws C9 T N, w ∈ Ts) (ty0 : Nat → FieldType) (hty : ∀ k, k < N → parseFieldDescriptor (T k).2.2.1 = some (ty0 k)) (hnm : ∀ a, a < N → ∀ b, b < N → a ≠ b → (T a).2.1 ≠ (T b).2.1) (ci k : Nat) (hc : vwCl[ci]? = some (C9, T, N)) (hk : k < N) (hlink : (Cond.fieldLink own index own (T k).2.1 (T k).2.2.1) ∈ Ts) (hdecl : (T k).1 = own) (hfin : (T k).2.2.2 = false) (hd : parseFieldDescriptor (T k).2.2.1 = some .int) (hl9 : k < fs.length) (hfs : fs.set k (.int v) = fs') (d : decode cc pc = .ok (.putfield index, 3)) (kk : Bc X nL kc ks (pc + 3) lv st ((h0, .inr (ci, fs')) :: rest)) : Bc X nL kc ks pc lv (.int v :: .ref h0 :: st) ((h0, .inr (ci, fs)) :: rest) := by
  obtain ⟨p, l, e, R, s, m, args, below, meth, c, Q, G, A⟩ := X
  obtain ⟨hx, hb, hml, hown, hts, hK, hA, hfr, hlo, hmc, hms⟩ := K
  intro H locs ls hP hD hS hl
  subst hfs
  have hlink2 := hts _ hlink
  exact va_put (v := .int v) (ref := own) hx hb hts hin ty0 hty hnm hown hK hP hD hS 0 rfl hc k hk hlink2 (fun _ h9 => by rw [← hdecl]; exact h9) hfin hd rfl rfl hl9 d (fun H1 locs1 hP1 hD1 hS1 => kk H1 locs1 ls hP1 hD1 hS1 hl)
theorem k_getR (K : Kx X cc own Ts nL fr lo mc ms) {T : u_T} {N : Nat} {C9 : String} {index : Nat} {q h0 : Nat} {fs : List Value} {rest : va_W} (hin : ∀ w ∈ u_ws C9 T N, w ∈ Ts) (ci k : Nat) (hc : vwCl[ci]? = some (C9, T, N)) (hk : k < N) (hlink : (Cond.fieldLink own index own (T k).2.1 (T k).2.2.1) ∈ Ts) (hdecl : (T k).1 = own) (hv : fs[k]? = some (.ref q)) (d : decode cc pc = .ok (.getfield index, 3)) (kk : Bc X nL kc ks (pc + 3) lv (.ref q :: st) ((h0, .inr (ci, fs)) :: rest)) : Bc X nL kc ks pc lv (.ref h0 :: st) ((h0, .inr (ci, fs)) :: rest) := by
  obtain ⟨p, l, e, R, s, m, args, below, meth, c, Q, G, A⟩ := X
  obtain ⟨hx, hb, hml, hown, hts, hK, hA, hfr, hlo, hmc, hms⟩ := K
  intro H locs ls hP hD hS hl
  exact va_get (ref := own) hx hb hts hin hown hK hP 0 rfl hc k hk (hts _ hlink) (fun _ h9 => by rw [← hdecl]; exact h9) hv d (kk H locs ls hP hD hS hl)
theorem k_iast (K : Kx X cc own Ts nL fr lo mc ms) (j : Nat) {q N : Nat} {f : Nat → Int32} {x v : Int32} {ws' : va_W} (hj : ws[j]? = some (q, .inl ((XG X).2.1.1, N, .inl f))) (hin : vp_in x N) (hws : ws.set j (q, .inl ((XG X).2.1.1, N, .inl (upd f x.toNatClampNeg v))) = ws') (d : decode cc pc = .ok (.iastore, 1)) (kk : Bc X nL kc ks (pc + 1) lv st ws') : Bc X nL kc ks pc lv (.int v :: .int x :: .ref q :: st) ws := by
  obtain ⟨p, l, e, R, s, m, args, below, meth, c, Q, G, A⟩ := X
  obtain ⟨hx, hb, hml, hown, hts, hK, hA, hfr, hlo, hmc, hms⟩ := K
  intro H locs ls hP hD hS hl
  subst hws
  exact va_iast hx hb hK hP hD hS j 0 hj rfl hin d (fun H1 locs1 hP1 hD1 hS1 => kk H1 locs1 ls hP1 hD1 hS1 hl)
theorem k_mmax (K : Kx X cc own Ts nL fr lo mc ms) {x y : Int32} {index : Nat} (hl9 : (Cond.methodLink own index Lib.Math.max.name) ∈ Ts) (hs9 : (Cond.static Lib.Math.max.name) ∈ Ts) (hi9 : (Cond.initialized "java/lang/Math") ∈ Ts) (hc9 : (Cond.code Lib.Math.max.name Lib.Math.max.code 2 (some .int)) ∈ Ts) (hfr9 : 1 ≤ fr) (hlo9 : (st.map fun v => v.category).sum + 13 ≤ lo) (h1 : kc ≤ mc) (h2 : ks ≤ ms) (d : decode cc pc = .ok (.invokestatic index, 3)) (kk : Bc X nL kc ks (pc + 3) lv (.int (if x < y then y else x) :: st) ws) : Bc X nL kc ks pc lv (.int y :: .int x :: st) ws := by
  obtain ⟨p, l, e, R, s, m, args, below, meth, c, Q, G, A⟩ := X
  obtain ⟨hx, hb, hml, hown, hts, hK, hA, hfr, hlo, hmc, hms⟩ := K
  intro H locs ls hP hD hS hl
  exact va_mmax hx hb (hml.trans hl.1.symm) hown (hts _ hl9) (hts _ hs9) (hts _ hi9) (hts _ hc9) (Nat.le_trans hfr9 hfr) (Nat.le_trans hlo9 hlo) (Nat.le_trans h1 hmc) (Nat.le_trans h2 hms) d (kk H locs ls hP hD hS hl)
/-- a constructor's contract: the new object, blank, in; it and what it made, out -/
def Cin (l : Launch) (y : MethodName) (wz : List Cond) (fr lo mc ms ci : Nat) (fs0 av : List Value) (wE : State → Prop) (outw : Geo → Nat → (Nat → Nat) → va_W) : Prop :=
  ∀ (G : Geo) (h0 sz : Nat), Met l y wz { frames := fr, cells := mc, slots := ms, locals := lo } (va_Pc (.ref h0 :: av) (fun U => U.heap.size = sz ∧ va_P G.2.2 vwCl [(h0, .inr (ci, fs0))] U.heap ∧ va_K G.2.2 vwCl (tysG G) U ∧ wE U)) (va_Qv (fun (_ : Nat → Nat) => True) (fun f t => va_P G.2.2 vwCl (outw G h0 f) t.heap ∧ va_D (va_A [(h0, .inr (ci, fs0))] sz) (outw G h0 f)) (va_A [(h0, .inr (ci, fs0))] sz)) mc ms (va_A [(h0, .inr (ci, fs0))] sz)
theorem join_new {D : va_G} {A : Nat → Prop} {pre w1 : va_W} {q : Nat} {e : va_E} {H H1 : Heap} {H0 : Heap} {locs : List Loc} (hA : ∀ q, H0.size ≤ q → A q) (hS : va_S A H0 H locs) (hP : va_P D vwCl (pre ++ [(q, e)]) H) (hD : va_D A (pre ++ [(q, e)])) (hk : ∀ z : Nat, z < H.size → ¬ va_A [(q, e)] H.size z → H1[z]? = H[z]?) (hP1 : va_P D vwCl w1 H1) (hD1 : va_D (va_A [(q, e)] H.size) w1) : va_P D vwCl (pre ++ w1) H1 ∧ va_D A (pre ++ w1) := by
  have hlast : (pre ++ [(q, e)])[pre.length]? = some (q, e) := by simp
  have hpre : ∀ (k : Nat) (z : Nat × va_E), pre[k]? = some z → (pre ++ [(q, e)])[k]? = some z := fun k z hz => by
    rw [List.getElem?_append_left (List.getElem?_eq_some_iff.mp hz).1]; exact hz
  have apart : ∀ (k : Nat) (z : Nat × va_E), pre[k]? = some z → z.1 < H.size ∧ ¬ va_A [(q, e)] H.size z.1 := by
    intro k z hz
    have hl := (hP k z (hpre k z hz)).lt
    refine ⟨hl, fun h => ?_⟩
    rcases h with ⟨k2, e2, h⟩ | h
    · have hk2 : k2 = 0 := by
        cases k2 with
        | zero => rfl
        | succ n => simp at h
      subst hk2
      have hq : z.1 = q := by
        have := Option.some.inj h
        exact (congrArg Prod.fst this).symm
      have := hD.1 k pre.length z (q, e) (hpre k z hz) hlast hq
      have hkl := (List.getElem?_eq_some_iff.mp hz).1
      omega
    · omega
  have hF : ∀ z, va_A [(q, e)] H.size z → A z := by
    intro z h
    rcases h with ⟨k2, e2, h⟩ | h
    · have hk2 : k2 = 0 := by
        cases k2 with
        | zero => rfl
        | succ n => simp at h
      subst hk2
      have hq : q = z := congrArg Prod.fst (Option.some.inj h)
      subst hq
      exact hD.2 pre.length (q, e) hlast
    · exact hA z (Nat.le_trans hS.1 h)
  refine ⟨va_P.app (fun k z hz => ?_) hP1, va_D.app ⟨fun i j x y hx hy => hD.1 i j x y (hpre i x hx) (hpre j y hy), fun k z hz => hD.2 k z (hpre k z hz)⟩ (hD1.weaken (fun k z _ h => hF z.1 h)) (fun i j x y hx hy hxy => ?_)⟩
  · obtain ⟨g1, g2⟩ := apart k z hz
    exact (hP k z (hpre k z hz)).kept (hk z.1 g1 g2)
  · exact (apart i x hx).2 (by rw [hxy]; exact hD1.2 j y hy)
theorem one_sub {D : va_G} {pre : va_W} {q : Nat} {e : va_E} {H : Heap} (hP : va_P D vwCl (pre ++ [(q, e)]) H) : va_P D vwCl [(q, e)] H := by
  intro k z hz
  cases k with
  | zero => exact hP pre.length z (by simpa using hz)
  | succ n => simp at hz
theorem free_new {A : Nat → Prop} {pre : va_W} {q : Nat} {e : va_E} {H H0 : Heap} {locs : List Loc} (hA : ∀ q, H0.size ≤ q → A q) (hS : va_S A H0 H locs) (hD : va_D A (pre ++ [(q, e)])) : ∀ z, va_A [(q, e)] H.size z → A z := by
  intro z h
  rcases h with ⟨k2, e2, h⟩ | h
  · have hk2 : k2 = 0 := by
      cases k2 with
      | zero => rfl
      | succ n => simp at h
    subst hk2
    have hq : q = z := congrArg Prod.fst (Option.some.inj h)
    subst hq
    exact hD.2 pre.length (q, e) (by simp)
  · exact hA z (Nat.le_trans hS.1 h)
theorem cin_blind {G : Geo} {h0 sz ci : Nat} {fs0 av : List Value} {wE : State → Prop} (hwb : ∀ (U : State) (g : JFrame) (mk : MethodId) (a : Array Value), wE U → wE (U.calling g mk a)) : FrameBlind (va_Pc (.ref h0 :: av) (fun U => U.heap.size = sz ∧ va_P G.2.2 vwCl [(h0, .inr (ci, fs0))] U.heap ∧ va_K G.2.2 vwCl (tysG G) U ∧ wE U)) := fun a U g mk q => by
  obtain ⟨q0, q1, qP, qK, qE⟩ := q
  exact ⟨q0, q1, qP, va_K.moved (u := U) (U := U.calling g mk a) (Vm.Alike.refl U.vm) qK, hwb U g mk a qE⟩
theorem k_callI (K : Kx X cc own Ts nL fr lo mc ms) {index : Nat} {y : MethodName} {wz ws' : List Cond} {frc loc mcc msc n maxL ci : Nat} {bytes : ByteArray} {fs0 : List Value} {wE : State → Prop} {outw : Geo → Nat → (Nat → Nat) → va_W} {q : Nat} (pre : va_W) (av : List Value) (M : ∀ l, Cin l y wz frc loc mcc msc ci fs0 av wE outw) (hwb : ∀ (U : State) (g : JFrame) (mk : MethodId) (a : Array Value), wE U → wE (U.calling g mk a)) (hwE : ∀ U : State, (XS X).WarmedH U.vm → wE U) (g : GoodIn Ts wz) (w1 : (Cond.initialized y.cls) ∈ Ts) (w2 : (Cond.methodLink own index y) ∈ Ts) (w3 : (Cond.instanceMethod y) ∈ Ts) (hw : wz = Cond.code y bytes maxL none :: ws') (hy1 : y.name = "<init>") (hd : y.cls ≠ "java/lang/invoke/MethodHandle" ∧ y.cls ≠ "java/lang/invoke/VarHandle" ∧ (parseMethodDescriptor y.desc).map (fun d => d.parameters.length) = some n) (hn : av.length = n) (hfr9 : frc + 1 ≤ fr) (hlo9 : 8 + (maxL + 11) + loc ≤ lo) (hcat : (st.map fun v => v.category).sum ≤ 8) (h1 : kc + mcc ≤ mc) (h2 : ks + msc ≤ ms) (d : decode cc pc = .ok (.invokespecial index, 3)) (kk : ∀ f : Nat → Nat, Bc X nL (kc + mcc) (ks + msc) (pc + 3) lv st (pre ++ outw (XG X) q f)) : Bc X nL kc ks pc lv (av.reverse ++ .ref q :: st) (pre ++ [(q, .inr (ci, fs0))]) := by
  obtain ⟨p, l, e, R, s, m, args, below, meth, c, Q, G, A⟩ := X
  obtain ⟨hx, hb, hml, hown, hts, hK, hA, hfr, hlo, hmc, hms⟩ := K
  intro H locs ls hP hD hS hl
  refine va_callv (va_runI (As := av) (rest := st) ⟨hx, hb, hml, hown, hts⟩ (M l G q H.size) (cwI n hts g hw rfl rfl (hts _ w1) (hts _ w2) (hts _ w3) hy1 hd ⟨Nat.le_trans hfr9 hfr, Nat.le_trans hlo9 hlo⟩) ⟨cin_blind hwb, fun U hU hW => ⟨rfl, by rw [hU], by rw [hU]; exact one_sub hP, va_K.moved hW.alike hK, hwE U hW⟩⟩ rfl hn hl.1 rfl (lv_room hcat) d ⟨Nat.le_trans h1 hmc, Nat.le_trans h2 hms⟩) hS (fun q _ h => free_new hA hS hD q h) (free_new hA hS hD) (fun f t H1 locs1 ht hvm _ hB _ hk1 hS1 => ?_)
  obtain ⟨hP1, hD1⟩ := hB
  rw [ht] at hP1
  obtain ⟨hP2, hD2⟩ := join_new hA hS hP hD hk1 hP1 hD1
  exact kk f H1 locs1 ls hP2 hD2 hS1 hl
theorem k_callN (K : Kx X cc own Ts nL fr lo mc ms) {host : String} {index : Nat} {y : MethodName} {wz ws' : List Cond} {frc loc mcc msc n maxL ci : Nat} {bytes : ByteArray} {fs0 : List Value} {wE : State → Prop} {outw : Geo → Nat → (Nat → Nat) → va_W} {q : Nat} (pre : va_W) (av : List Value) (M : ∀ l, Cin l y wz frc loc mcc msc ci fs0 av wE outw) (hwb : ∀ (U : State) (g : JFrame) (mk : MethodId) (a : Array Value), wE U → wE (U.calling g mk a)) (hwE : ∀ U : State, (XS X).WarmedH U.vm → wE U) (g : GoodIn Ts wz) (w1 : (Cond.initialized y.cls) ∈ Ts) (w2 : va_Nw (.methodLinkNest own index y host) (XS X)) (w3 : (Cond.instanceMethod y) ∈ Ts) (hw : wz = Cond.code y bytes maxL none :: ws') (hy1 : y.name = "<init>") (hd : y.cls ≠ "java/lang/invoke/MethodHandle" ∧ y.cls ≠ "java/lang/invoke/VarHandle" ∧ (parseMethodDescriptor y.desc).map (fun d => d.parameters.length) = some n) (hn : av.length = n) (hfr9 : frc + 1 ≤ fr) (hlo9 : 8 + (maxL + 11) + loc ≤ lo) (hcat : (st.map fun v => v.category).sum ≤ 8) (h1 : kc + mcc ≤ mc) (h2 : ks + msc ≤ ms) (d : decode cc pc = .ok (.invokespecial index, 3)) (kk : ∀ f : Nat → Nat, Bc X nL (kc + mcc) (ks + msc) (pc + 3) lv st (pre ++ outw (XG X) q f)) : Bc X nL kc ks pc lv (av.reverse ++ .ref q :: st) (pre ++ [(q, .inr (ci, fs0))]) := by
  obtain ⟨p, l, e, R, s, m, args, below, meth, c, Q, G, A⟩ := X
  obtain ⟨hx, hb, hml, hown, hts, hK, hA, hfr, hlo, hmc, hms⟩ := K
  intro H locs ls hP hD hS hl
  refine va_callv (va_runIN (As := av) (rest := st) ⟨hx, hb, hml, hown, hts⟩ (M l G q H.size) ⟨va_cnB n hts g hw rfl rfl w2 (hts _ w1) hd ⟨Nat.le_trans hfr9 hfr, Nat.le_trans hlo9 hlo⟩, hy1, hts _ w3⟩ ⟨cin_blind hwb, fun U hU hW => ⟨rfl, by rw [hU], by rw [hU]; exact one_sub hP, va_K.moved hW.alike hK, hwE U hW⟩⟩ rfl hn hl.1 rfl (lv_room hcat) d ⟨Nat.le_trans h1 hmc, Nat.le_trans h2 hms⟩) hS (fun q _ h => free_new hA hS hD q h) (free_new hA hS hD) (fun f t H1 locs1 ht hvm _ hB _ hk1 hS1 => ?_)
  obtain ⟨hP1, hD1⟩ := hB
  rw [ht] at hP1
  obtain ⟨hP2, hD2⟩ := join_new hA hS hP hD hk1 hP1 hD1
  exact kk f H1 locs1 ls hP2 hD2 hS1 hl
end BC
def Rn (X : Ctx) (cc : ByteArray) (nL mc ms : Nat) (outw : (Nat → Nat) → va_W) : Prop := ∀ (pc : Nat) (lv : List (Nat × Value)) (kc ks : Nat) (f : Nat → Nat), kc ≤ mc → ks ≤ ms → decode cc pc = .ok (.return_, 1) → Bc X nL kc ks pc lv [] (outw f)
theorem mk_in {l : Launch} {y : MethodName} {wz ws' : List Cond} {fr lo mc ms ci : Nat} {fs0 av : List Value} {wE : State → Prop} {outw : Geo → Nat → (Nat → Nat) → va_W} {cc : ByteArray} {nL : Nat} {own : String} (hy : plainName y.cls = true) (ho : y.cls = own) (hin : y.name = "<init>") (hw : wz = Cond.code y cc nL none :: ws') (hlen : ∀ h0 : Nat, (lg_sl (.ref h0 :: av)).length ≤ nL)
    (body : ∀ (X : Ctx) (h0 : Nat), Kx X cc own wz nL fr lo mc ms → Ki X → wE (XS X) → Rn X cc nL mc ms (outw (XG X) h0) → Bc X nL 0 0 0 (lv_args 0 (.ref h0 :: av)) [] [(h0, .inr (ci, fs0))]) : Cin l y wz fr lo mc ms ci fs0 av wE outw := by
  intro G h0 sz
  subst ho
  refine Met.ofW (cc := cc) (maxL := nL) (ret := none) hy hw ?_
  intro p e s m args below meth c s₁ B hml hv
  obtain ⟨rfl, hsz, hP, hK, hE⟩ := hv
  have hx := B.exec
  have hb := B.bytes
  have hr := B.returns
  have hts := atoms_spec (ws := wz) B.pre
  have hown : s.vm.findClass y.cls = some m.cls := findClass_of_methodNamed B.named
  have hlocks := B.notSynchronized
  have hi9 : meth.name = "<init>" := (name_of_methodNamed B.named B.method).1.trans hin
  subst hsz
  have hD : va_D (va_A [(h0, .inr (ci, fs0))] s.heap.size) [(h0, .inr (ci, fs0))] := by
    refine ⟨fun i j x z hx hz _ => ?_, fun k q hk => va_A.in hk⟩
    cases i with
    | zero => cases j with
      | zero => rfl
      | succ n => simp at hz
    | succ n => simp at hx
  have key := body (p, l, e, (headSpec wz { frames := fr, cells := mc, slots := ms, locals := lo }).room, s, m, (Value.ref h0 :: av).toArray, below, meth, c, MQ below (va_Qv (fun (_ : Nat → Nat) => True) (fun f t => va_P G.2.2 vwCl (outw G h0 f) t.heap ∧ va_D (va_A [(h0, .inr (ci, fs0))] s.heap.size) (outw G h0 f)) (va_A [(h0, .inr (ci, fs0))] s.heap.size)) (Value.ref h0 :: av).toArray s mc ms (va_A [(h0, .inr (ci, fs0))] s.heap.size), G, va_A [(h0, .inr (ci, fs0))] s.heap.size) h0 ⟨hx, hb, hml, hown, hts, hK, fun q hq => Or.inr hq, Nat.le_refl _, Nat.le_refl _, Nat.le_refl _, Nat.le_refl _⟩ hi9 hE ?_
  · have hl := lv_entry (.ref h0 :: av) (n := nL) (hlen h0)
    rw [lg_entry_eq]
    exact key s.heap [] _ hP hD va_S.rf hl
  · intro pc lv kc ks f h1 h2 d H locs ls hP hD hS hl
    refine W.widen (k := mc) (n := ms) h1 h2 ?_
    exact W.vret hx hb hr (fun t ht hW => ⟨⟨f, rfl, trivial, by rw [ht]; exact hP, hD⟩, hS.F ht⟩) hS.2.2 d
