/-! ROWS OVER THE WORLD: 'Bk' says that the walk goes on well from a pc with these locals, this stack and this memory; a row turns Bk behind an instruction into Bk at it. A method's pure picture is a function of the memory with an Option: 'none' stands for what the rows don't allow (an index outside, a loop without fuel). Turned by wip/p30/gen/rows.py out of the rows of whole -/
abbrev Ctx : Type := Program × Launch × Env × Room × State × MethodId × Array Value × List Frame × Method × Code × (State → Prop) × Geo × (Nat → Prop)
def XG (X : Ctx) : Geo := X.2.2.2.2.2.2.2.2.2.2.2.1
def ad (X : Ctx) (i : Nat) : Nat := (XG X).1 i
def Bk (X : Ctx) (nL : Nat) (o : Int64) (kc ks pc : Nat) (lv : List (Nat × Value)) (st : List Value) (σ : Mem) : Prop :=
  match X with
  | (p, l, e, R, s, m, args, below, meth, c, Q, G, A) => ∀ (H : Heap) (locs : List Loc) (ls : Array Slot), va_P G.2.2 vwCl (Wl G σ o) H → va_S A s.heap H locs → lv_has ls nL lv → W p l e R s m args below meth c H locs kc ks Q (F0 m pc ls st)
def Cx (X : Ctx) (cc : ByteArray) (own : String) (Ts : List Cond) (nL fr lo : Nat) : Prop :=
  match X with
  | (p, _, _, R, s, m, args, _, _, c, _, G, A) => p.tables.exec = Jvm.exec ∧ c.code = cc ∧ c.maxLocals = nL ∧ s.vm.findClass own = some m.cls ∧ (∀ w ∈ Ts, w.before args s = true) ∧ wK G s ∧ gok G ∧ (∀ i, i < 95 → A (G.1 i)) ∧ (∀ q, s.heap.size ≤ q → A q) ∧ fr ≤ R.frames ∧ lo ≤ R.locals
def gd {β : Type} (b : Bool) (x : Option β) : Option β := match b with
  | true => x
  | false => none
theorem gd_inv {β : Type} {b : Bool} {x : Option β} {v : β} (h : some v = gd b x) : b = true ∧ some v = x := by
  cases b with
  | true => exact ⟨rfl, h⟩
  | false => cases h
def bd {β : Type} (x : Option (Int32 × Mem)) (k : Int32 → Mem → Option β) : Option β := match x with
  | some y => k y.1 y.2
  | none => none
theorem bd_inv {β : Type} {x : Option (Int32 × Mem)} {k : Int32 → Mem → Option β} {v : β} (h : some v = bd x k) : ∃ (r : Int32) (u : Mem), x = some (r, u) ∧ some v = k r u := by
  cases x with
  | none => cases h
  | some y => exact ⟨y.1, y.2, rfl, h⟩
def inb (i : Int32) (n : Nat) : Bool := !(decide (i < 0) || decide (n ≤ i.toNatClampNeg))
theorem inb_in {i : Int32} {n : Nat} (h : inb i n = true) : vp_in i n := by
  intro hn
  rcases hn with hn | hn <;> simp [inb, hn] at h
def isZ (v : Int32) : Bool := decide (v = 0) || decide (v = 1)
theorem isZ_nar {v : Int32} (h : isZ v = true) : narrow .boolean (.int v) = .int v := by
  have : v = 0 ∨ v = 1 := by simpa [isZ] using h
  rcases this with rfl | rfl <;> rfl
def isC (v : Int32) : Bool := decide ((v.toUInt32 % 65536).toInt32 = v)
theorem isC_nar {v : Int32} (h : isC v = true) : narrow .char (.int v) = .int v := by
  have h2 : (v.toUInt32 % 65536).toInt32 = v := by simpa [isC] using h
  rw [← h2]
  exact pk_nc v
section BK
variable {X : Ctx} {cc : ByteArray} {own : String} {Ts : List Cond} {nL fr lo : Nat} {o : Int64} {kc ks pc : Nat} {lv lv' : List (Nat × Value)} {st : List Value} {σ : Mem}
theorem b_iconst (C : Cx X cc own Ts nL fr lo) {n : Int} {v : Int32} (d : decode cc pc = .ok (.iconst n, 1)) (hv : Int32.ofInt n = v) (kk : Bk X nL o kc ks (pc + 1) lv (.int v :: st) σ) : Bk X nL o kc ks pc lv (st) σ := by
  obtain ⟨p, l, e, R, s, m, args, below, meth, c, Q, G, A⟩ := X
  obtain ⟨hx, hb, hml, hown, hts, hK, hG, hAi, hA, hfr, hlo⟩ := C
  intro H locs ls hP hS hl
  exact lv_iconst hx hb d hv (kk H locs ls hP hS hl)
theorem b_bipush (C : Cx X cc own Ts nL fr lo) {n : Int} {v : Int32} (d : decode cc pc = .ok (.bipush n, 2)) (hv : (Int8.ofInt n).toInt32 = v) (kk : Bk X nL o kc ks (pc + 2) lv (.int v :: st) σ) : Bk X nL o kc ks pc lv (st) σ := by
  obtain ⟨p, l, e, R, s, m, args, below, meth, c, Q, G, A⟩ := X
  obtain ⟨hx, hb, hml, hown, hts, hK, hG, hAi, hA, hfr, hlo⟩ := C
  intro H locs ls hP hS hl
  exact lv_bipush hx hb d hv (kk H locs ls hP hS hl)
theorem b_sipush (C : Cx X cc own Ts nL fr lo) {n : Int} {v : Int32} (d : decode cc pc = .ok (.sipush n, 3)) (hv : (Int16.ofInt n).toInt32 = v) (kk : Bk X nL o kc ks (pc + 3) lv (.int v :: st) σ) : Bk X nL o kc ks pc lv (st) σ := by
  obtain ⟨p, l, e, R, s, m, args, below, meth, c, Q, G, A⟩ := X
  obtain ⟨hx, hb, hml, hown, hts, hK, hG, hAi, hA, hfr, hlo⟩ := C
  intro H locs ls hP hS hl
  exact lv_sipush hx hb d hv (kk H locs ls hP hS hl)
theorem b_iload_n (C : Cx X cc own Ts nL fr lo) {k : Fin 4} {i : Nat} {x : Int32} (d : decode cc pc = .ok (.iload_n k, 1)) (hi : (k : Nat) = i) (j : Nat) (hj : lv[j]? = some (i, .int x)) (kk : Bk X nL o kc ks (pc + 1) lv (.int x :: st) σ) : Bk X nL o kc ks pc lv (st) σ := by
  obtain ⟨p, l, e, R, s, m, args, below, meth, c, Q, G, A⟩ := X
  obtain ⟨hx, hb, hml, hown, hts, hK, hG, hAi, hA, hfr, hlo⟩ := C
  intro H locs ls hP hS hl
  exact lv_iload_n hx hb d hi (lv_at hl j hj) (kk H locs ls hP hS hl)
theorem b_iload (C : Cx X cc own Ts nL fr lo) {i : Nat} {x : Int32} (d : decode cc pc = .ok (.iload i, 2)) (j : Nat) (hj : lv[j]? = some (i, .int x)) (kk : Bk X nL o kc ks (pc + 2) lv (.int x :: st) σ) : Bk X nL o kc ks pc lv (st) σ := by
  obtain ⟨p, l, e, R, s, m, args, below, meth, c, Q, G, A⟩ := X
  obtain ⟨hx, hb, hml, hown, hts, hK, hG, hAi, hA, hfr, hlo⟩ := C
  intro H locs ls hP hS hl
  exact lv_iload hx hb d (lv_at hl j hj) (kk H locs ls hP hS hl)
theorem b_istore_n (C : Cx X cc own Ts nL fr lo) {k : Fin 4} {i : Nat} {x : Int32} (d : decode cc pc = .ok (.istore_n k, 1)) (hi : (k : Nat) = i) (hn : i < nL) (hlv : (i, Value.int x) :: lv.filter (fun q => !(q.1 == i) && !(q.1 + 1 == i && q.2.category == 2)) = lv') (kk : Bk X nL o kc ks (pc + 1) lv' (st) σ) : Bk X nL o kc ks pc lv (.int x :: st) σ := by
  obtain ⟨p, l, e, R, s, m, args, below, meth, c, Q, G, A⟩ := X
  obtain ⟨hx, hb, hml, hown, hts, hK, hG, hAi, hA, hfr, hlo⟩ := C
  intro H locs ls hP hS hl
  exact lv_istore_n hx hb d hi hl hn hlv (fun ls' hl' => kk H locs ls' hP hS hl')
theorem b_istore (C : Cx X cc own Ts nL fr lo) {i : Nat} {x : Int32} (d : decode cc pc = .ok (.istore i, 2)) (hn : i < nL) (hlv : (i, Value.int x) :: lv.filter (fun q => !(q.1 == i) && !(q.1 + 1 == i && q.2.category == 2)) = lv') (kk : Bk X nL o kc ks (pc + 2) lv' (st) σ) : Bk X nL o kc ks pc lv (.int x :: st) σ := by
  obtain ⟨p, l, e, R, s, m, args, below, meth, c, Q, G, A⟩ := X
  obtain ⟨hx, hb, hml, hown, hts, hK, hG, hAi, hA, hfr, hlo⟩ := C
  intro H locs ls hP hS hl
  exact lv_istore hx hb d hl hn hlv (fun ls' hl' => kk H locs ls' hP hS hl')
theorem b_aload_n (C : Cx X cc own Ts nL fr lo) {k : Fin 4} {i : Nat} {x : Nat} (d : decode cc pc = .ok (.aload_n k, 1)) (hi : (k : Nat) = i) (j : Nat) (hj : lv[j]? = some (i, .ref x)) (kk : Bk X nL o kc ks (pc + 1) lv (.ref x :: st) σ) : Bk X nL o kc ks pc lv (st) σ := by
  obtain ⟨p, l, e, R, s, m, args, below, meth, c, Q, G, A⟩ := X
  obtain ⟨hx, hb, hml, hown, hts, hK, hG, hAi, hA, hfr, hlo⟩ := C
  intro H locs ls hP hS hl
  exact lv_aload_n hx hb d hi (lv_at hl j hj) (kk H locs ls hP hS hl)
theorem b_aload (C : Cx X cc own Ts nL fr lo) {i : Nat} {x : Nat} (d : decode cc pc = .ok (.aload i, 2)) (j : Nat) (hj : lv[j]? = some (i, .ref x)) (kk : Bk X nL o kc ks (pc + 2) lv (.ref x :: st) σ) : Bk X nL o kc ks pc lv (st) σ := by
  obtain ⟨p, l, e, R, s, m, args, below, meth, c, Q, G, A⟩ := X
  obtain ⟨hx, hb, hml, hown, hts, hK, hG, hAi, hA, hfr, hlo⟩ := C
  intro H locs ls hP hS hl
  exact lv_aload hx hb d (lv_at hl j hj) (kk H locs ls hP hS hl)
theorem b_astore_n (C : Cx X cc own Ts nL fr lo) {k : Fin 4} {i : Nat} {x : Nat} (d : decode cc pc = .ok (.astore_n k, 1)) (hi : (k : Nat) = i) (hn : i < nL) (hlv : (i, Value.ref x) :: lv.filter (fun q => !(q.1 == i) && !(q.1 + 1 == i && q.2.category == 2)) = lv') (kk : Bk X nL o kc ks (pc + 1) lv' (st) σ) : Bk X nL o kc ks pc lv (.ref x :: st) σ := by
  obtain ⟨p, l, e, R, s, m, args, below, meth, c, Q, G, A⟩ := X
  obtain ⟨hx, hb, hml, hown, hts, hK, hG, hAi, hA, hfr, hlo⟩ := C
  intro H locs ls hP hS hl
  exact lv_astore_n hx hb d hi hl hn hlv (fun ls' hl' => kk H locs ls' hP hS hl')
theorem b_astore (C : Cx X cc own Ts nL fr lo) {i : Nat} {x : Nat} (d : decode cc pc = .ok (.astore i, 2)) (hn : i < nL) (hlv : (i, Value.ref x) :: lv.filter (fun q => !(q.1 == i) && !(q.1 + 1 == i && q.2.category == 2)) = lv') (kk : Bk X nL o kc ks (pc + 2) lv' (st) σ) : Bk X nL o kc ks pc lv (.ref x :: st) σ := by
  obtain ⟨p, l, e, R, s, m, args, below, meth, c, Q, G, A⟩ := X
  obtain ⟨hx, hb, hml, hown, hts, hK, hG, hAi, hA, hfr, hlo⟩ := C
  intro H locs ls hP hS hl
  exact lv_astore hx hb d hl hn hlv (fun ls' hl' => kk H locs ls' hP hS hl')
theorem b_iinc (C : Cx X cc own Ts nL fr lo) {i : Nat} {n : Int} {x v : Int32} (d : decode cc pc = .ok (.iinc i n, 3)) (j : Nat) (hj : lv[j]? = some (i, .int x)) (hv : x + Int32.ofInt n = v) (hn : i < nL) (hlv : (i, Value.int v) :: lv.filter (fun q => !(q.1 == i) && !(q.1 + 1 == i && q.2.category == 2)) = lv') (kk : Bk X nL o kc ks (pc + 3) lv' (st) σ) : Bk X nL o kc ks pc lv (st) σ := by
  obtain ⟨p, l, e, R, s, m, args, below, meth, c, Q, G, A⟩ := X
  obtain ⟨hx, hb, hml, hown, hts, hK, hG, hAi, hA, hfr, hlo⟩ := C
  intro H locs ls hP hS hl
  exact lv_iinc hx hb d hl hj hv hn hlv (fun ls' hl' => kk H locs ls' hP hS hl')
theorem b_iadd (C : Cx X cc own Ts nL fr lo) {x y : Int32} (d : decode cc pc = .ok (.iadd, 1)) (kk : Bk X nL o kc ks (pc + 1) lv (.int (x + y) :: st) σ) : Bk X nL o kc ks pc lv (.int y :: .int x :: st) σ := by
  obtain ⟨p, l, e, R, s, m, args, below, meth, c, Q, G, A⟩ := X
  obtain ⟨hx, hb, hml, hown, hts, hK, hG, hAi, hA, hfr, hlo⟩ := C
  intro H locs ls hP hS hl
  exact lv_iadd hx hb d (kk H locs ls hP hS hl)
theorem b_isub (C : Cx X cc own Ts nL fr lo) {x y : Int32} (d : decode cc pc = .ok (.isub, 1)) (kk : Bk X nL o kc ks (pc + 1) lv (.int (x - y) :: st) σ) : Bk X nL o kc ks pc lv (.int y :: .int x :: st) σ := by
  obtain ⟨p, l, e, R, s, m, args, below, meth, c, Q, G, A⟩ := X
  obtain ⟨hx, hb, hml, hown, hts, hK, hG, hAi, hA, hfr, hlo⟩ := C
  intro H locs ls hP hS hl
  exact lv_isub hx hb d (kk H locs ls hP hS hl)
theorem b_imul (C : Cx X cc own Ts nL fr lo) {x y : Int32} (d : decode cc pc = .ok (.imul, 1)) (kk : Bk X nL o kc ks (pc + 1) lv (.int (x * y) :: st) σ) : Bk X nL o kc ks pc lv (.int y :: .int x :: st) σ := by
  obtain ⟨p, l, e, R, s, m, args, below, meth, c, Q, G, A⟩ := X
  obtain ⟨hx, hb, hml, hown, hts, hK, hG, hAi, hA, hfr, hlo⟩ := C
  intro H locs ls hP hS hl
  exact lv_imul hx hb d (kk H locs ls hP hS hl)
theorem b_iand (C : Cx X cc own Ts nL fr lo) {x y : Int32} (d : decode cc pc = .ok (.iand, 1)) (kk : Bk X nL o kc ks (pc + 1) lv (.int (x &&& y) :: st) σ) : Bk X nL o kc ks pc lv (.int y :: .int x :: st) σ := by
  obtain ⟨p, l, e, R, s, m, args, below, meth, c, Q, G, A⟩ := X
  obtain ⟨hx, hb, hml, hown, hts, hK, hG, hAi, hA, hfr, hlo⟩ := C
  intro H locs ls hP hS hl
  exact lv_iand hx hb d (kk H locs ls hP hS hl)
theorem b_ior (C : Cx X cc own Ts nL fr lo) {x y : Int32} (d : decode cc pc = .ok (.ior, 1)) (kk : Bk X nL o kc ks (pc + 1) lv (.int (x ||| y) :: st) σ) : Bk X nL o kc ks pc lv (.int y :: .int x :: st) σ := by
  obtain ⟨p, l, e, R, s, m, args, below, meth, c, Q, G, A⟩ := X
  obtain ⟨hx, hb, hml, hown, hts, hK, hG, hAi, hA, hfr, hlo⟩ := C
  intro H locs ls hP hS hl
  exact lv_ior hx hb d (kk H locs ls hP hS hl)
theorem b_ixor (C : Cx X cc own Ts nL fr lo) {x y : Int32} (d : decode cc pc = .ok (.ixor, 1)) (kk : Bk X nL o kc ks (pc + 1) lv (.int (x ^^^ y) :: st) σ) : Bk X nL o kc ks pc lv (.int y :: .int x :: st) σ := by
  obtain ⟨p, l, e, R, s, m, args, below, meth, c, Q, G, A⟩ := X
  obtain ⟨hx, hb, hml, hown, hts, hK, hG, hAi, hA, hfr, hlo⟩ := C
  intro H locs ls hP hS hl
  exact lv_ixor hx hb d (kk H locs ls hP hS hl)
theorem b_ishr (C : Cx X cc own Ts nL fr lo) {x y : Int32} (d : decode cc pc = .ok (.ishr, 1)) (kk : Bk X nL o kc ks (pc + 1) lv (.int (x >>> (y &&& 31)) :: st) σ) : Bk X nL o kc ks pc lv (.int y :: .int x :: st) σ := by
  obtain ⟨p, l, e, R, s, m, args, below, meth, c, Q, G, A⟩ := X
  obtain ⟨hx, hb, hml, hown, hts, hK, hG, hAi, hA, hfr, hlo⟩ := C
  intro H locs ls hP hS hl
  exact lv_ishr hx hb d (kk H locs ls hP hS hl)
theorem b_ishl (C : Cx X cc own Ts nL fr lo) {x y : Int32} (d : decode cc pc = .ok (.ishl, 1)) (kk : Bk X nL o kc ks (pc + 1) lv (.int (x <<< (y &&& 31)) :: st) σ) : Bk X nL o kc ks pc lv (.int y :: .int x :: st) σ := by
  obtain ⟨p, l, e, R, s, m, args, below, meth, c, Q, G, A⟩ := X
  obtain ⟨hx, hb, hml, hown, hts, hK, hG, hAi, hA, hfr, hlo⟩ := C
  intro H locs ls hP hS hl
  exact lv_ishl hx hb d (kk H locs ls hP hS hl)
theorem b_iushr (C : Cx X cc own Ts nL fr lo) {x y : Int32} (d : decode cc pc = .ok (.iushr, 1)) (kk : Bk X nL o kc ks (pc + 1) lv (.int ((x.toUInt32 >>> (y.toUInt32 &&& Int32.toUInt32 31)).toInt32) :: st) σ) : Bk X nL o kc ks pc lv (.int y :: .int x :: st) σ := by
  obtain ⟨p, l, e, R, s, m, args, below, meth, c, Q, G, A⟩ := X
  obtain ⟨hx, hb, hml, hown, hts, hK, hG, hAi, hA, hfr, hlo⟩ := C
  intro H locs ls hP hS hl
  exact lv_iushr hx hb d rfl (kk H locs ls hP hS hl)
theorem b_idiv (C : Cx X cc own Ts nL fr lo) {x y : Int32} (d : decode cc pc = .ok (.idiv, 1)) (h0 : ¬ y = 0) (kk : Bk X nL o kc ks (pc + 1) lv (.int (x / y) :: st) σ) : Bk X nL o kc ks pc lv (.int y :: .int x :: st) σ := by
  obtain ⟨p, l, e, R, s, m, args, below, meth, c, Q, G, A⟩ := X
  obtain ⟨hx, hb, hml, hown, hts, hK, hG, hAi, hA, hfr, hlo⟩ := C
  intro H locs ls hP hS hl
  exact lv_idiv hx hb d h0 (kk H locs ls hP hS hl)
theorem b_irem (C : Cx X cc own Ts nL fr lo) {x y : Int32} (d : decode cc pc = .ok (.irem, 1)) (h0 : ¬ y = 0) (kk : Bk X nL o kc ks (pc + 1) lv (.int (x - x / y * y) :: st) σ) : Bk X nL o kc ks pc lv (.int y :: .int x :: st) σ := by
  obtain ⟨p, l, e, R, s, m, args, below, meth, c, Q, G, A⟩ := X
  obtain ⟨hx, hb, hml, hown, hts, hK, hG, hAi, hA, hfr, hlo⟩ := C
  intro H locs ls hP hS hl
  exact lv_irem hx hb d h0 (kk H locs ls hP hS hl)
theorem b_i2c (C : Cx X cc own Ts nL fr lo) {x : Int32} (d : decode cc pc = .ok (.i2c, 1)) (kk : Bk X nL o kc ks (pc + 1) lv (.int ((x.toUInt32 % 65536).toInt32) :: st) σ) : Bk X nL o kc ks pc lv (.int x :: st) σ := by
  obtain ⟨p, l, e, R, s, m, args, below, meth, c, Q, G, A⟩ := X
  obtain ⟨hx, hb, hml, hown, hts, hK, hG, hAi, hA, hfr, hlo⟩ := C
  intro H locs ls hP hS hl
  exact lv_i2c hx hb d rfl (kk H locs ls hP hS hl)
theorem b_dup (C : Cx X cc own Ts nL fr lo) {v : Value} (d : decode cc pc = .ok (.dup, 1)) (hv : v.category = 1) (kk : Bk X nL o kc ks (pc + 1) lv (v :: v :: st) σ) : Bk X nL o kc ks pc lv (v :: st) σ := by
  obtain ⟨p, l, e, R, s, m, args, below, meth, c, Q, G, A⟩ := X
  obtain ⟨hx, hb, hml, hown, hts, hK, hG, hAi, hA, hfr, hlo⟩ := C
  intro H locs ls hP hS hl
  exact lv_dup hx hb d hv (kk H locs ls hP hS hl)
theorem b_dup2 (C : Cx X cc own Ts nL fr lo) {v w : Value} (d : decode cc pc = .ok (.dup2, 1)) (hv : v.category = 1) (hw : w.category = 1) (kk : Bk X nL o kc ks (pc + 1) lv (v :: w :: v :: w :: st) σ) : Bk X nL o kc ks pc lv (v :: w :: st) σ := by
  obtain ⟨p, l, e, R, s, m, args, below, meth, c, Q, G, A⟩ := X
  obtain ⟨hx, hb, hml, hown, hts, hK, hG, hAi, hA, hfr, hlo⟩ := C
  intro H locs ls hP hS hl
  exact lv_dup2_11 hx hb d hv hw (kk H locs ls hP hS hl)
theorem b_pop (C : Cx X cc own Ts nL fr lo) {v : Value} (d : decode cc pc = .ok (.pop, 1)) (hv : v.category = 1) (kk : Bk X nL o kc ks (pc + 1) lv (st) σ) : Bk X nL o kc ks pc lv (v :: st) σ := by
  obtain ⟨p, l, e, R, s, m, args, below, meth, c, Q, G, A⟩ := X
  obtain ⟨hx, hb, hml, hown, hts, hK, hG, hAi, hA, hfr, hlo⟩ := C
  intro H locs ls hP hS hl
  exact lv_pop hx hb d hv (kk H locs ls hP hS hl)
theorem b_goto (C : Cx X cc own Ts nL fr lo) {off : Int} (tgt : Nat) (d : decode cc pc = .ok (.goto off, 3)) (ht : (pc : Int) + off = (tgt : Int)) (kk : Bk X nL o kc ks tgt lv (st) σ) : Bk X nL o kc ks pc lv (st) σ := by
  obtain ⟨p, l, e, R, s, m, args, below, meth, c, Q, G, A⟩ := X
  obtain ⟨hx, hb, hml, hown, hts, hK, hG, hAi, hA, hfr, hlo⟩ := C
  intro H locs ls hP hS hl
  exact lv_goto hx hb d ht (kk H locs ls hP hS hl)
theorem b_if_eq {α : Type} {rv a b : α} (C : Cx X cc own Ts nL fr lo) {x : Int32} {off : Int} (tgt : Nat) (d : decode cc pc = .ok (.ifCond .eq off, 3)) (ht : (pc : Int) + off = (tgt : Int)) (hf : rv = if x = 0 then a else b) (kt : rv = a → Bk X nL o kc ks tgt lv st σ) (kf : rv = b → Bk X nL o kc ks (pc + 3) lv st σ) : Bk X nL o kc ks pc lv (.int x :: st) σ := by
  obtain ⟨p, l, e, R, s, m, args, below, meth, c, Q, G, A⟩ := X
  obtain ⟨hx, hb, hml, hown, hts, hK, hG, hAi, hA, hfr, hlo⟩ := C
  intro H locs ls hP hS hl
  exact lv_if_eq hx hb d ht (fun h => kt (hf.trans (if_pos h)) H locs ls hP hS hl) (fun h => kf (hf.trans (if_neg h)) H locs ls hP hS hl)
theorem b_icmp_eq {α : Type} {rv a b : α} (C : Cx X cc own Ts nL fr lo) {x y : Int32} {off : Int} (tgt : Nat) (d : decode cc pc = .ok (.if_icmp .eq off, 3)) (ht : (pc : Int) + off = (tgt : Int)) (hf : rv = if x = y then a else b) (kt : rv = a → Bk X nL o kc ks tgt lv st σ) (kf : rv = b → Bk X nL o kc ks (pc + 3) lv st σ) : Bk X nL o kc ks pc lv (.int y :: .int x :: st) σ := by
  obtain ⟨p, l, e, R, s, m, args, below, meth, c, Q, G, A⟩ := X
  obtain ⟨hx, hb, hml, hown, hts, hK, hG, hAi, hA, hfr, hlo⟩ := C
  intro H locs ls hP hS hl
  exact lv_icmp_eq hx hb d ht (fun h => kt (hf.trans (if_pos h)) H locs ls hP hS hl) (fun h => kf (hf.trans (if_neg h)) H locs ls hP hS hl)
theorem b_if_ne {α : Type} {rv a b : α} (C : Cx X cc own Ts nL fr lo) {x : Int32} {off : Int} (tgt : Nat) (d : decode cc pc = .ok (.ifCond .ne off, 3)) (ht : (pc : Int) + off = (tgt : Int)) (hf : rv = if x = 0 then a else b) (kt : rv = b → Bk X nL o kc ks tgt lv st σ) (kf : rv = a → Bk X nL o kc ks (pc + 3) lv st σ) : Bk X nL o kc ks pc lv (.int x :: st) σ := by
  obtain ⟨p, l, e, R, s, m, args, below, meth, c, Q, G, A⟩ := X
  obtain ⟨hx, hb, hml, hown, hts, hK, hG, hAi, hA, hfr, hlo⟩ := C
  intro H locs ls hP hS hl
  exact lv_if_ne hx hb d ht (fun h => kt (hf.trans (if_neg h)) H locs ls hP hS hl) (fun h => kf (hf.trans (if_pos h)) H locs ls hP hS hl)
theorem b_icmp_ne {α : Type} {rv a b : α} (C : Cx X cc own Ts nL fr lo) {x y : Int32} {off : Int} (tgt : Nat) (d : decode cc pc = .ok (.if_icmp .ne off, 3)) (ht : (pc : Int) + off = (tgt : Int)) (hf : rv = if x = y then a else b) (kt : rv = b → Bk X nL o kc ks tgt lv st σ) (kf : rv = a → Bk X nL o kc ks (pc + 3) lv st σ) : Bk X nL o kc ks pc lv (.int y :: .int x :: st) σ := by
  obtain ⟨p, l, e, R, s, m, args, below, meth, c, Q, G, A⟩ := X
  obtain ⟨hx, hb, hml, hown, hts, hK, hG, hAi, hA, hfr, hlo⟩ := C
  intro H locs ls hP hS hl
  exact lv_icmp_ne hx hb d ht (fun h => kt (hf.trans (if_neg h)) H locs ls hP hS hl) (fun h => kf (hf.trans (if_pos h)) H locs ls hP hS hl)
theorem b_if_lt {α : Type} {rv a b : α} (C : Cx X cc own Ts nL fr lo) {x : Int32} {off : Int} (tgt : Nat) (d : decode cc pc = .ok (.ifCond .lt off, 3)) (ht : (pc : Int) + off = (tgt : Int)) (hf : rv = if x < 0 then a else b) (kt : rv = a → Bk X nL o kc ks tgt lv st σ) (kf : rv = b → Bk X nL o kc ks (pc + 3) lv st σ) : Bk X nL o kc ks pc lv (.int x :: st) σ := by
  obtain ⟨p, l, e, R, s, m, args, below, meth, c, Q, G, A⟩ := X
  obtain ⟨hx, hb, hml, hown, hts, hK, hG, hAi, hA, hfr, hlo⟩ := C
  intro H locs ls hP hS hl
  exact lv_if_lt hx hb d ht (fun h => kt (hf.trans (if_pos h)) H locs ls hP hS hl) (fun h => kf (hf.trans (if_neg h)) H locs ls hP hS hl)
theorem b_icmp_lt {α : Type} {rv a b : α} (C : Cx X cc own Ts nL fr lo) {x y : Int32} {off : Int} (tgt : Nat) (d : decode cc pc = .ok (.if_icmp .lt off, 3)) (ht : (pc : Int) + off = (tgt : Int)) (hf : rv = if x < y then a else b) (kt : rv = a → Bk X nL o kc ks tgt lv st σ) (kf : rv = b → Bk X nL o kc ks (pc + 3) lv st σ) : Bk X nL o kc ks pc lv (.int y :: .int x :: st) σ := by
  obtain ⟨p, l, e, R, s, m, args, below, meth, c, Q, G, A⟩ := X
  obtain ⟨hx, hb, hml, hown, hts, hK, hG, hAi, hA, hfr, hlo⟩ := C
  intro H locs ls hP hS hl
  exact lv_icmp_lt hx hb d ht (fun h => kt (hf.trans (if_pos h)) H locs ls hP hS hl) (fun h => kf (hf.trans (if_neg h)) H locs ls hP hS hl)
theorem b_if_ge {α : Type} {rv a b : α} (C : Cx X cc own Ts nL fr lo) {x : Int32} {off : Int} (tgt : Nat) (d : decode cc pc = .ok (.ifCond .ge off, 3)) (ht : (pc : Int) + off = (tgt : Int)) (hf : rv = if 0 ≤ x then a else b) (kt : rv = a → Bk X nL o kc ks tgt lv st σ) (kf : rv = b → Bk X nL o kc ks (pc + 3) lv st σ) : Bk X nL o kc ks pc lv (.int x :: st) σ := by
  obtain ⟨p, l, e, R, s, m, args, below, meth, c, Q, G, A⟩ := X
  obtain ⟨hx, hb, hml, hown, hts, hK, hG, hAi, hA, hfr, hlo⟩ := C
  intro H locs ls hP hS hl
  exact lv_if_ge hx hb d ht (fun h => kt (hf.trans (if_pos h)) H locs ls hP hS hl) (fun h => kf (hf.trans (if_neg h)) H locs ls hP hS hl)
theorem b_icmp_ge {α : Type} {rv a b : α} (C : Cx X cc own Ts nL fr lo) {x y : Int32} {off : Int} (tgt : Nat) (d : decode cc pc = .ok (.if_icmp .ge off, 3)) (ht : (pc : Int) + off = (tgt : Int)) (hf : rv = if y ≤ x then a else b) (kt : rv = a → Bk X nL o kc ks tgt lv st σ) (kf : rv = b → Bk X nL o kc ks (pc + 3) lv st σ) : Bk X nL o kc ks pc lv (.int y :: .int x :: st) σ := by
  obtain ⟨p, l, e, R, s, m, args, below, meth, c, Q, G, A⟩ := X
  obtain ⟨hx, hb, hml, hown, hts, hK, hG, hAi, hA, hfr, hlo⟩ := C
  intro H locs ls hP hS hl
  exact lv_icmp_ge hx hb d ht (fun h => kt (hf.trans (if_pos h)) H locs ls hP hS hl) (fun h => kf (hf.trans (if_neg h)) H locs ls hP hS hl)
theorem b_if_gt {α : Type} {rv a b : α} (C : Cx X cc own Ts nL fr lo) {x : Int32} {off : Int} (tgt : Nat) (d : decode cc pc = .ok (.ifCond .gt off, 3)) (ht : (pc : Int) + off = (tgt : Int)) (hf : rv = if 0 < x then a else b) (kt : rv = a → Bk X nL o kc ks tgt lv st σ) (kf : rv = b → Bk X nL o kc ks (pc + 3) lv st σ) : Bk X nL o kc ks pc lv (.int x :: st) σ := by
  obtain ⟨p, l, e, R, s, m, args, below, meth, c, Q, G, A⟩ := X
  obtain ⟨hx, hb, hml, hown, hts, hK, hG, hAi, hA, hfr, hlo⟩ := C
  intro H locs ls hP hS hl
  exact lv_if_gt hx hb d ht (fun h => kt (hf.trans (if_pos h)) H locs ls hP hS hl) (fun h => kf (hf.trans (if_neg h)) H locs ls hP hS hl)
theorem b_icmp_gt {α : Type} {rv a b : α} (C : Cx X cc own Ts nL fr lo) {x y : Int32} {off : Int} (tgt : Nat) (d : decode cc pc = .ok (.if_icmp .gt off, 3)) (ht : (pc : Int) + off = (tgt : Int)) (hf : rv = if y < x then a else b) (kt : rv = a → Bk X nL o kc ks tgt lv st σ) (kf : rv = b → Bk X nL o kc ks (pc + 3) lv st σ) : Bk X nL o kc ks pc lv (.int y :: .int x :: st) σ := by
  obtain ⟨p, l, e, R, s, m, args, below, meth, c, Q, G, A⟩ := X
  obtain ⟨hx, hb, hml, hown, hts, hK, hG, hAi, hA, hfr, hlo⟩ := C
  intro H locs ls hP hS hl
  exact lv_icmp_gt hx hb d ht (fun h => kt (hf.trans (if_pos h)) H locs ls hP hS hl) (fun h => kf (hf.trans (if_neg h)) H locs ls hP hS hl)
theorem b_if_le {α : Type} {rv a b : α} (C : Cx X cc own Ts nL fr lo) {x : Int32} {off : Int} (tgt : Nat) (d : decode cc pc = .ok (.ifCond .le off, 3)) (ht : (pc : Int) + off = (tgt : Int)) (hf : rv = if x ≤ 0 then a else b) (kt : rv = a → Bk X nL o kc ks tgt lv st σ) (kf : rv = b → Bk X nL o kc ks (pc + 3) lv st σ) : Bk X nL o kc ks pc lv (.int x :: st) σ := by
  obtain ⟨p, l, e, R, s, m, args, below, meth, c, Q, G, A⟩ := X
  obtain ⟨hx, hb, hml, hown, hts, hK, hG, hAi, hA, hfr, hlo⟩ := C
  intro H locs ls hP hS hl
  exact lv_if_le hx hb d ht (fun h => kt (hf.trans (if_pos h)) H locs ls hP hS hl) (fun h => kf (hf.trans (if_neg h)) H locs ls hP hS hl)
theorem b_icmp_le {α : Type} {rv a b : α} (C : Cx X cc own Ts nL fr lo) {x y : Int32} {off : Int} (tgt : Nat) (d : decode cc pc = .ok (.if_icmp .le off, 3)) (ht : (pc : Int) + off = (tgt : Int)) (hf : rv = if x ≤ y then a else b) (kt : rv = a → Bk X nL o kc ks tgt lv st σ) (kf : rv = b → Bk X nL o kc ks (pc + 3) lv st σ) : Bk X nL o kc ks pc lv (.int y :: .int x :: st) σ := by
  obtain ⟨p, l, e, R, s, m, args, below, meth, c, Q, G, A⟩ := X
  obtain ⟨hx, hb, hml, hown, hts, hK, hG, hAi, hA, hfr, hlo⟩ := C
  intro H locs ls hP hS hl
  exact lv_icmp_le hx hb d ht (fun h => kt (hf.trans (if_pos h)) H locs ls hP hS hl) (fun h => kf (hf.trans (if_neg h)) H locs ls hP hS hl)
theorem tb_out {x : Int32} (n : Nat) (hn : n < 1000) (h : ∀ k, k < n → x ≠ nI k) : x.toInt < 0 ∨ ((n : Int) - 1) < x.toInt := by
  by_cases h0 : x.toInt < 0
  · exact Or.inl h0
  · refine Or.inr ?_
    by_cases h1 : ((n : Int) - 1) < x.toInt
    · exact h1
    · exfalso
      have hk : x.toInt.toNat < n := by omega
      refine h x.toInt.toNat hk (Int32.toInt_inj.mp ?_)
      rw [nI_toInt (by omega)]
      omega
theorem tb_c0 {x : Int32} : ∀ k, k < 0 → x ≠ nI k := fun _ h => absurd h (Nat.not_lt_zero _)
theorem tb_cs {x : Int32} {n : Nat} (h : ∀ k, k < n → x ≠ nI k) (hn : ¬ x = nI n) : ∀ k, k < n + 1 → x ≠ nI k := fun k hk => by
  rcases Nat.lt_or_eq_of_le (Nat.le_of_lt_succ hk) with q | q
  · exact h k q
  · rw [q]; exact hn
theorem b_tableIn (C : Cx X cc own Ts nL fr lo) {dflt lo9 hi : Int} {offs : Array Int} {len : Nat} {x : Int32} {off : Int} (tgt : Nat) (d : decode cc pc = .ok (.tableswitch dflt lo9 hi offs, len)) (h1 : ¬ x.toInt < lo9) (h2 : ¬ hi < x.toInt) (ho : offs[(x.toInt - lo9).toNat]? = some off) (ht : (pc : Int) + off = (tgt : Int)) (kk : Bk X nL o kc ks tgt lv st σ) : Bk X nL o kc ks pc lv (.int x :: st) σ := by
  obtain ⟨p, l, e, R, s, m, args, below, meth, c, Q, G, A⟩ := X
  obtain ⟨hx, hb, hml, hown, hts, hK, hG, hAi, hA, hfr, hlo⟩ := C
  intro H locs ls hP hS hl
  exact lv_tableIn hx hb d h1 h2 ho ht (kk H locs ls hP hS hl)
theorem b_tableOut (C : Cx X cc own Ts nL fr lo) {dflt lo9 hi : Int} {offs : Array Int} {len : Nat} {x : Int32} (tgt : Nat) (d : decode cc pc = .ok (.tableswitch dflt lo9 hi offs, len)) (h : x.toInt < lo9 ∨ hi < x.toInt) (ht : (pc : Int) + dflt = (tgt : Int)) (kk : Bk X nL o kc ks tgt lv st σ) : Bk X nL o kc ks pc lv (.int x :: st) σ := by
  obtain ⟨p, l, e, R, s, m, args, below, meth, c, Q, G, A⟩ := X
  obtain ⟨hx, hb, hml, hown, hts, hK, hG, hAi, hA, hfr, hlo⟩ := C
  intro H locs ls hP hS hl
  exact lv_tableOut hx hb d h ht (kk H locs ls hP hS hl)
theorem b_getS (C : Cx X cc own Ts nL fr lo) {T : u_T} {N : Nat} {C9 ref : String} {index : Nat} (hin : ∀ w ∈ u_ws C9 T N, w ∈ Ts) (i k j : Nat) (hi : i < 9) (hc : vwCl[cl i]? = some (C9, T, N)) (hk : k < N) (hlink : (Cond.fieldLink own index ref (T k).2.1 (T k).2.2.1) ∈ Ts) (href : (T k).1 = ref) (hfk : (flds i)[k]? = some (.inr j)) (d : decode cc pc = .ok (.getfield index, 3)) (kk : Bk X nL o kc ks (pc + 3) lv (.int (σ 76 j) :: st) σ) : Bk X nL o kc ks pc lv (.ref (ad X i) :: st) σ := by
  obtain ⟨p, l, e, R, s, m, args, below, meth, c, Q, G, A⟩ := X
  obtain ⟨hx, hb, hml, hown, hts, hK, hG, hAi, hA, hfr, hlo⟩ := C
  intro H locs ls hP hS hl
  subst href
  exact va_get hx hb hts hin hown hK.1 hP i (at_obj hi) hc k hk (hts _ hlink) (fun _ h9 => h9) (v := .int (σ 76 j)) (by rw [List.getElem?_map, hfk]; rfl) d (kk H locs ls hP hS hl)
theorem b_getR (C : Cx X cc own Ts nL fr lo) {T : u_T} {N : Nat} {C9 ref : String} {index : Nat} (hin : ∀ w ∈ u_ws C9 T N, w ∈ Ts) (i k j : Nat) (hi : i < 9) (hc : vwCl[cl i]? = some (C9, T, N)) (hk : k < N) (hlink : (Cond.fieldLink own index ref (T k).2.1 (T k).2.2.1) ∈ Ts) (href : (T k).1 = ref) (hfk : (flds i)[k]? = some (.inl j)) (d : decode cc pc = .ok (.getfield index, 3)) (kk : Bk X nL o kc ks (pc + 3) lv (.ref (ad X j) :: st) σ) : Bk X nL o kc ks pc lv (.ref (ad X i) :: st) σ := by
  obtain ⟨p, l, e, R, s, m, args, below, meth, c, Q, G, A⟩ := X
  obtain ⟨hx, hb, hml, hown, hts, hK, hG, hAi, hA, hfr, hlo⟩ := C
  intro H locs ls hP hS hl
  subst href
  exact va_get hx hb hts hin hown hK.1 hP i (at_obj hi) hc k hk (hts _ hlink) (fun _ h9 => h9) (v := .ref (G.1 j)) (by rw [List.getElem?_map, hfk]; rfl) d (kk H locs ls hP hS hl)
theorem b_getC (C : Cx X cc own Ts nL fr lo) {index : Nat} (hin : ∀ w ∈ wsX50, w ∈ Ts) (r : Nat) (hr : r < 43) (hlink : (Cond.fieldLink own index "ScriptRoom$Row" "cells" "[I") ∈ Ts) (d : decode cc pc = .ok (.getfield index, 3)) (kk : Bk X nL o kc ks (pc + 3) lv (.ref (ad X (52 + r)) :: st) σ) : Bk X nL o kc ks pc lv (.ref (ad X (9 + r)) :: st) σ := by
  obtain ⟨p, l, e, R, s, m, args, below, meth, c, Q, G, A⟩ := X
  obtain ⟨hx, hb, hml, hown, hts, hK, hG, hAi, hA, hfr, hlo⟩ := C
  intro H locs ls hP hS hl
  exact va_get (T := TX5) (N := 1) hx hb hts hin hown hK.1 hP (9 + r) (at_row hr) (ci := 5) (C := RX5) rfl 0 (by decide) (hts _ hlink) (fun _ h9 => h9) (v := .ref (G.1 (52 + r))) rfl d (kk H locs ls hP hS hl)
theorem b_putS (C : Cx X cc own Ts nL fr lo) {T : u_T} {N : Nat} {C9 ref : String} {index : Nat} {v : Int32} {ty : FieldType} (hin : ∀ w ∈ u_ws C9 T N, w ∈ Ts) (ty0 : Nat → FieldType) (hty : ∀ k, k < N → parseFieldDescriptor (T k).2.2.1 = some (ty0 k)) (hnm : ∀ a, a < N → ∀ b, b < N → a ≠ b → (T a).2.1 ≠ (T b).2.1) (i k j : Nat) (hi : i < 9) (hc : vwCl[cl i]? = some (C9, T, N)) (hk : k < N) (hlink : (Cond.fieldLink own index ref (T k).2.1 (T k).2.2.1) ∈ Ts) (href : (T k).1 = ref) (hfin : (T k).2.2.2 = false) (hd : parseFieldDescriptor (T k).2.2.1 = some ty) (hn : narrow ty (.int v) = .int v) (hfit : fits ty (.int v) = true) (hfk : (flds i)[k]? = some (.inr j)) (d : decode cc pc = .ok (.putfield index, 3)) (kk : Bk X nL o kc ks (pc + 3) lv st (wr σ 76 j v)) : Bk X nL o kc ks pc lv (.int v :: .ref (ad X i) :: st) σ := by
  obtain ⟨p, l, e, R, s, m, args, below, meth, c, Q, G, A⟩ := X
  obtain ⟨hx, hb, hml, hown, hts, hK, hG, hAi, hA, hfr, hlo⟩ := C
  intro H locs ls hP hS hl
  subst href
  refine va_put hx hb hts hin ty0 hty hnm hown hK.1 hP (Wl_D hG hAi) hS i (at_obj hi) hc k hk (hts _ hlink) (fun _ h9 => h9) hfin hd hn hfit (by rw [List.length_map]; exact (List.getElem?_eq_some_iff.mp hfk).1) d (fun H1 locs1 hP1 _ hS1 => ?_)
  rw [Wl_set_fld hi hfk] at hP1
  exact kk H1 locs1 ls hP1 hS1 hl
theorem b_iald {α : Type} {rv : α} {k : Option α} (C : Cx X cc own Ts nL fr lo) {x : Int32} (r : Nat) (hr : r < 43) (d : decode cc pc = .ok (.iaload, 1)) (hf : some rv = gd (inb x (rlen r)) k) (kk : some rv = k → Bk X nL o kc ks (pc + 1) lv (.int (σ r x.toNatClampNeg) :: st) σ) : Bk X nL o kc ks pc lv (.int x :: .ref (ad X (52 + r)) :: st) σ := by
  obtain ⟨hi, hf⟩ := gd_inv hf
  have kk := kk hf
  obtain ⟨p, l, e, R, s, m, args, below, meth, c, Q, G, A⟩ := X
  obtain ⟨hx, hb, hml, hown, hts, hK, hG, hAi, hA, hfr, hlo⟩ := C
  intro H locs ls hP hS hl
  exact va_iald hx hb hK.1 hP (52 + r) 0 (at_arr hr) (by simp [tysG, rA]) (inb_in hi) d (kk H locs ls hP hS hl)
theorem b_iast {α : Type} {rv : α} {k : Option α} (C : Cx X cc own Ts nL fr lo) {x v : Int32} (r : Nat) (hr : r < 43) (d : decode cc pc = .ok (.iastore, 1)) (hf : some rv = gd (inb x (rlen r)) k) (kk : some rv = k → Bk X nL o kc ks (pc + 1) lv st (wr σ r x.toNatClampNeg v)) : Bk X nL o kc ks pc lv (.int v :: .int x :: .ref (ad X (52 + r)) :: st) σ := by
  obtain ⟨hi, hf⟩ := gd_inv hf
  have kk := kk hf
  obtain ⟨p, l, e, R, s, m, args, below, meth, c, Q, G, A⟩ := X
  obtain ⟨hx, hb, hml, hown, hts, hK, hG, hAi, hA, hfr, hlo⟩ := C
  intro H locs ls hP hS hl
  refine va_iast hx hb hK.1 hP (Wl_D hG hAi) hS (52 + r) 0 (at_arr hr) (by simp [tysG, rA]) (inb_in hi) d (fun H1 locs1 hP1 _ hS1 => ?_)
  rw [Wl_set_arr hr] at hP1
  exact kk H1 locs1 ls hP1 hS1 hl
theorem b_mmax (C : Cx X cc own Ts nL fr lo) {x y : Int32} {index : Nat} (hl9 : (Cond.methodLink own index Lib.Math.max.name) ∈ Ts) (hs9 : (Cond.static Lib.Math.max.name) ∈ Ts) (hi9 : (Cond.initialized "java/lang/Math") ∈ Ts) (hc9 : (Cond.code Lib.Math.max.name Lib.Math.max.code 2 (some .int)) ∈ Ts) (hfr9 : 1 ≤ fr) (hlo9 : (st.map fun v => v.category).sum + 13 ≤ lo) (d : decode cc pc = .ok (.invokestatic index, 3)) (kk : Bk X nL o 0 0 (pc + 3) lv (.int (if x < y then y else x) :: st) σ) : Bk X nL o 0 0 pc lv (.int y :: .int x :: st) σ := by
  obtain ⟨p, l, e, R, s, m, args, below, meth, c, Q, G, A⟩ := X
  obtain ⟨hx, hb, hml, hown, hts, hK, hG, hAi, hA, hfr, hlo⟩ := C
  intro H locs ls hP hS hl
  exact va_mmax hx hb (hml.trans hl.1.symm) hown (hts _ hl9) (hts _ hs9) (hts _ hi9) (hts _ hc9) (Nat.le_trans hfr9 hfr) (Nat.le_trans hlo9 hlo) (Nat.zero_le _) (Nat.zero_le _) d (kk H locs ls hP hS hl)
theorem b_mmin (C : Cx X cc own Ts nL fr lo) {x y : Int32} {index : Nat} (hl9 : (Cond.methodLink own index Lib.Math.min.name) ∈ Ts) (hs9 : (Cond.static Lib.Math.min.name) ∈ Ts) (hi9 : (Cond.initialized "java/lang/Math") ∈ Ts) (hc9 : (Cond.code Lib.Math.min.name Lib.Math.min.code 2 (some .int)) ∈ Ts) (hfr9 : 1 ≤ fr) (hlo9 : (st.map fun v => v.category).sum + 13 ≤ lo) (d : decode cc pc = .ok (.invokestatic index, 3)) (kk : Bk X nL o 0 0 (pc + 3) lv (.int (if y < x then y else x) :: st) σ) : Bk X nL o 0 0 pc lv (.int y :: .int x :: st) σ := by
  obtain ⟨p, l, e, R, s, m, args, below, meth, c, Q, G, A⟩ := X
  obtain ⟨hx, hb, hml, hown, hts, hK, hG, hAi, hA, hfr, hlo⟩ := C
  intro H locs ls hP hS hl
  exact va_mmin hx hb (hml.trans hl.1.symm) hown (hts _ hl9) (hts _ hs9) (hts _ hi9) (hts _ hc9) (Nat.le_trans hfr9 hfr) (Nat.le_trans hlo9 hlo) (Nat.zero_le _) (Nat.zero_le _) d (kk H locs ls hP hS hl)
def nv {β : Type} (x : Int32) (k : Int32 → β) : β := k x
def nw {β : Type} (x : Mem) (k : Mem → β) : β := k x
theorem b_nv {α : Type} {rv : α} {x : Int32} {k : Int32 → Option α} (hf : some rv = nv x k) (kk : ∀ y, some rv = k y → Bk X nL o kc ks pc lv (.int y :: st) σ) : Bk X nL o kc ks pc lv (.int x :: st) σ := kk x hf
theorem b_nw {α : Type} {rv : α} {k : Mem → Option α} (hf : some rv = nw σ k) (kk : ∀ τ, some rv = k τ → Bk X nL o kc ks pc lv st τ) : Bk X nL o kc ks pc lv st σ := kk σ hf
theorem b_sub (js : List Nat) (h : lv_pick lv js = lv') (kk : Bk X nL o kc ks pc lv' st σ) : Bk X nL o kc ks pc lv st σ := by
  obtain ⟨p, l, e, R, s, m, args, below, meth, c, Q, G, A⟩ := X
  exact fun H locs ls hP hS hl => kk H locs ls hP hS (lv_sub hl js h)
/-- a method that returns an int (or a boolean, a char): its picture f of the memory; whatever is at hand in 'av' are its arguments -/
def Cti (l : Launch) (y : MethodName) (ws : List Cond) (fr lo : Nat) (av : Geo → List Value) (f : Mem → Option (Int32 × Mem)) : Prop :=
  ∀ (G : Geo) (sz : Nat) (σ : Mem) (o : Int64) (r : Int32) (u : Mem), gok G → f σ = some (r, u) → Met l y ws { frames := fr, cells := 0, slots := 0, locals := lo } (va_Pc (av G) (wPc G sz σ o)) (va_Qi (fun r' u' => r' = r ∧ u' = u) (wB G o) (wA G sz)) 0 0 (wA G sz)
/-- .. that returns nothing -/
def Ctv (l : Launch) (y : MethodName) (ws : List Cond) (fr lo : Nat) (av : Geo → List Value) (f : Mem → Option (Int32 × Mem)) : Prop :=
  ∀ (G : Geo) (sz : Nat) (σ : Mem) (o : Int64) (r : Int32) (u : Mem), gok G → f σ = some (r, u) → Met l y ws { frames := fr, cells := 0, slots := 0, locals := lo } (va_Pc (av G) (wPc G sz σ o)) (va_Qv (fun u' => u' = u) (wB G o) (wA G sz)) 0 0 (wA G sz)
theorem wPc_blind {G : Geo} {sz : Nat} {σ : Mem} {o : Int64} {av : List Value} : FrameBlind (va_Pc av (wPc G sz σ o)) := fun a U g mk q => by
  obtain ⟨q0, q1, qP, qK, _⟩ := q
  exact ⟨q0, q1, qP, va_K.moved (u := U) (U := U.calling g mk a) (Vm.Alike.refl U.vm) qK, trivial⟩
theorem wK.warm {G : Geo} {s U : State} (hW : s.WarmedH U.vm) (h : wK G s) : wK G U := ⟨va_K.moved hW.alike h.1, trivial⟩
theorem wA_in {G : Geo} {A : Nat → Prop} {s : State} {H : Heap} {locs : List Loc} (hAi : ∀ i, i < 95 → A (G.1 i)) (hA : ∀ q, s.heap.size ≤ q → A q) (hS : va_S A s.heap H locs) : ∀ q, wA G H.size q → A q := fun q h => by
  rcases h with ⟨i, hi, rfl⟩ | h
  · exact hAi i hi
  · exact hA q (Nat.le_trans hS.1 h)
def isObj (i ci : Nat) : Prop := ∀ (G : Geo) (σ : Mem) (o : Int64), ∃ fs, (Wl G σ o)[i]? = some (G.1 i, .inr (ci, fs))
theorem isObj_s {i : Nat} (h : i < 9) : isObj i (cl i) := fun G σ o => ⟨_, at_obj h⟩
theorem isObj_r {r : Nat} (h : r < 43) : isObj (9 + r) 5 := fun G σ o => ⟨_, at_row h⟩
theorem b_callVi (C : Cx X cc own Ts nL fr lo) {index : Nat} {y : MethodName} {C9 : String} {ws ws' : List Cond} {frc loc n maxL : Nat} {bytes : ByteArray} {ret : Option FieldType} {f : Mem → Option (Int32 × Mem)} {r : Int32} {u : Mem} (i ci : Nat) (ho : isObj i ci) {T9 : u_T} {N9 : Nat} (hc : vwCl[ci]? = some (C9, T9, N9)) (asv : Geo → List Value) (M : ∀ l, Cti l y ws frc loc (fun G => .ref (G.1 i) :: asv G) f) (hfr2 : f σ = some (r, u)) (g : GoodIn Ts (wsV own index C9 y ws)) (hw : ws = Cond.code y bytes maxL ret :: ws') (hd : y.cls = C9 ∧ y.cls ≠ "java/lang/invoke/MethodHandle" ∧ y.cls ≠ "java/lang/invoke/VarHandle" ∧ (parseMethodDescriptor y.desc).map (fun d => d.parameters.length) = some n) (hn : (asv (XG X)).length = n) (hfr9 : frc + 1 ≤ fr) (hlo9 : 8 + (maxL + 11) + loc ≤ lo) (hcat : (st.map fun v => v.category).sum ≤ 8) (d : decode cc pc = .ok (.invokevirtual index, 3)) (kk : Bk X nL o 0 0 (pc + 3) lv (.int r :: st) u) : Bk X nL o 0 0 pc lv ((asv (XG X)).reverse ++ .ref (ad X i) :: st) σ := by
  obtain ⟨p, l, e, R, s, m, args, below, meth, c, Q, G, A⟩ := X
  obtain ⟨hx, hb, hml, hown, hts, hK, hG, hAi, hA, hfr, hlo⟩ := C
  intro H locs ls hP hS hl
  obtain ⟨fs, hob⟩ := ho G σ o
  refine va_calli (va_runV (As := asv G) (rest := st) ⟨hx, hb, hml, hown, hts⟩ (M l G H.size σ o r u hG hfr2) (cwV n hts g hw rfl rfl hd ⟨Nat.le_trans hfr9 hfr, Nat.le_trans hlo9 hlo⟩) ⟨wPc_blind, va_recv hK.1 hP (ci := ci) (q0 := i) hc hob, fun U hU hW => ⟨rfl, by rw [hU], by rw [hU]; exact hP, hK.warm hW⟩⟩ rfl hn hl.1 rfl (lv_room hcat) d ⟨Nat.zero_le _, Nat.zero_le _⟩) hS (fun q _ h => wA_in hAi hA hS q h) (wA_in hAi hA hS) (fun r9 u9 t H1 locs1 ht hvm hw9 hB _ _ hS1 => ?_)
  obtain ⟨rfl, rfl⟩ := hw9
  exact kk H1 locs1 ls (by rw [← ht]; exact hB) hS1 hl
theorem b_callSi (C : Cx X cc own Ts nL fr lo) {index : Nat} {y : MethodName} {ws ws' : List Cond} {frc loc n maxL : Nat} {bytes : ByteArray} {ret : Option FieldType} {f : Mem → Option (Int32 × Mem)} {r : Int32} {u : Mem} (asv : Geo → List Value) (M : ∀ l, Cti l y ws frc loc (asv) f) (hfr2 : f σ = some (r, u)) (g : GoodIn Ts (va_wsS own index y ws)) (hw : ws = Cond.code y bytes maxL ret :: ws') (hd : y.cls ≠ "java/lang/invoke/MethodHandle" ∧ y.cls ≠ "java/lang/invoke/VarHandle" ∧ (parseMethodDescriptor y.desc).map (fun d => d.parameters.length) = some n) (hn : (asv (XG X)).length = n) (hfr9 : frc + 1 ≤ fr) (hlo9 : 8 + (maxL + 11) + loc ≤ lo) (hcat : (st.map fun v => v.category).sum ≤ 8) (d : decode cc pc = .ok (.invokestatic index, 3)) (kk : Bk X nL o 0 0 (pc + 3) lv (.int r :: st) u) : Bk X nL o 0 0 pc lv ((asv (XG X)).reverse ++ st) σ := by
  obtain ⟨p, l, e, R, s, m, args, below, meth, c, Q, G, A⟩ := X
  obtain ⟨hx, hb, hml, hown, hts, hK, hG, hAi, hA, hfr, hlo⟩ := C
  intro H locs ls hP hS hl
  refine va_calli (va_runS (As := asv G) (rest := st) ⟨hx, hb, hml, hown, hts⟩ (M l G H.size σ o r u hG hfr2) (va_cwS n hts g hw rfl rfl hd ⟨Nat.le_trans hfr9 hfr, Nat.le_trans hlo9 hlo⟩) ⟨wPc_blind, fun U hU hW => ⟨rfl, by rw [hU], by rw [hU]; exact hP, hK.warm hW⟩⟩ rfl hn hl.1 rfl (lv_room hcat) d ⟨Nat.zero_le _, Nat.zero_le _⟩) hS (fun q _ h => wA_in hAi hA hS q h) (wA_in hAi hA hS) (fun r9 u9 t H1 locs1 ht hvm hw9 hB _ _ hS1 => ?_)
  obtain ⟨rfl, rfl⟩ := hw9
  exact kk H1 locs1 ls (by rw [← ht]; exact hB) hS1 hl
theorem b_callVv (C : Cx X cc own Ts nL fr lo) {index : Nat} {y : MethodName} {C9 : String} {ws ws' : List Cond} {frc loc n maxL : Nat} {bytes : ByteArray} {ret : Option FieldType} {f : Mem → Option (Int32 × Mem)} {r : Int32} {u : Mem} (i ci : Nat) (ho : isObj i ci) {T9 : u_T} {N9 : Nat} (hc : vwCl[ci]? = some (C9, T9, N9)) (asv : Geo → List Value) (M : ∀ l, Ctv l y ws frc loc (fun G => .ref (G.1 i) :: asv G) f) (hfr2 : f σ = some (r, u)) (g : GoodIn Ts (wsV own index C9 y ws)) (hw : ws = Cond.code y bytes maxL ret :: ws') (hd : y.cls = C9 ∧ y.cls ≠ "java/lang/invoke/MethodHandle" ∧ y.cls ≠ "java/lang/invoke/VarHandle" ∧ (parseMethodDescriptor y.desc).map (fun d => d.parameters.length) = some n) (hn : (asv (XG X)).length = n) (hfr9 : frc + 1 ≤ fr) (hlo9 : 8 + (maxL + 11) + loc ≤ lo) (hcat : (st.map fun v => v.category).sum ≤ 8) (d : decode cc pc = .ok (.invokevirtual index, 3)) (kk : Bk X nL o 0 0 (pc + 3) lv st u) : Bk X nL o 0 0 pc lv ((asv (XG X)).reverse ++ .ref (ad X i) :: st) σ := by
  obtain ⟨p, l, e, R, s, m, args, below, meth, c, Q, G, A⟩ := X
  obtain ⟨hx, hb, hml, hown, hts, hK, hG, hAi, hA, hfr, hlo⟩ := C
  intro H locs ls hP hS hl
  obtain ⟨fs, hob⟩ := ho G σ o
  refine va_callv (va_runV (As := asv G) (rest := st) ⟨hx, hb, hml, hown, hts⟩ (M l G H.size σ o r u hG hfr2) (cwV n hts g hw rfl rfl hd ⟨Nat.le_trans hfr9 hfr, Nat.le_trans hlo9 hlo⟩) ⟨wPc_blind, va_recv hK.1 hP (ci := ci) (q0 := i) hc hob, fun U hU hW => ⟨rfl, by rw [hU], by rw [hU]; exact hP, hK.warm hW⟩⟩ rfl hn hl.1 rfl (lv_room hcat) d ⟨Nat.zero_le _, Nat.zero_le _⟩) hS (fun q _ h => wA_in hAi hA hS q h) (wA_in hAi hA hS) (fun u9 t H1 locs1 ht hvm hw9 hB _ _ hS1 => ?_)
  obtain rfl := hw9
  exact kk H1 locs1 ls (by rw [← ht]; exact hB) hS1 hl
theorem b_callSv (C : Cx X cc own Ts nL fr lo) {index : Nat} {y : MethodName} {ws ws' : List Cond} {frc loc n maxL : Nat} {bytes : ByteArray} {ret : Option FieldType} {f : Mem → Option (Int32 × Mem)} {r : Int32} {u : Mem} (asv : Geo → List Value) (M : ∀ l, Ctv l y ws frc loc (asv) f) (hfr2 : f σ = some (r, u)) (g : GoodIn Ts (va_wsS own index y ws)) (hw : ws = Cond.code y bytes maxL ret :: ws') (hd : y.cls ≠ "java/lang/invoke/MethodHandle" ∧ y.cls ≠ "java/lang/invoke/VarHandle" ∧ (parseMethodDescriptor y.desc).map (fun d => d.parameters.length) = some n) (hn : (asv (XG X)).length = n) (hfr9 : frc + 1 ≤ fr) (hlo9 : 8 + (maxL + 11) + loc ≤ lo) (hcat : (st.map fun v => v.category).sum ≤ 8) (d : decode cc pc = .ok (.invokestatic index, 3)) (kk : Bk X nL o 0 0 (pc + 3) lv st u) : Bk X nL o 0 0 pc lv ((asv (XG X)).reverse ++ st) σ := by
  obtain ⟨p, l, e, R, s, m, args, below, meth, c, Q, G, A⟩ := X
  obtain ⟨hx, hb, hml, hown, hts, hK, hG, hAi, hA, hfr, hlo⟩ := C
  intro H locs ls hP hS hl
  refine va_callv (va_runS (As := asv G) (rest := st) ⟨hx, hb, hml, hown, hts⟩ (M l G H.size σ o r u hG hfr2) (va_cwS n hts g hw rfl rfl hd ⟨Nat.le_trans hfr9 hfr, Nat.le_trans hlo9 hlo⟩) ⟨wPc_blind, fun U hU hW => ⟨rfl, by rw [hU], by rw [hU]; exact hP, hK.warm hW⟩⟩ rfl hn hl.1 rfl (lv_room hcat) d ⟨Nat.zero_le _, Nat.zero_le _⟩) hS (fun q _ h => wA_in hAi hA hS q h) (wA_in hAi hA hS) (fun u9 t H1 locs1 ht hvm hw9 hB _ _ hS1 => ?_)
  obtain rfl := hw9
  exact kk H1 locs1 ls (by rw [← ht]; exact hB) hS1 hl
def Rt (X : Ctx) (cc : ByteArray) (nL : Nat) (o : Int64) (rv : Int32 × Mem) : Prop := ∀ (pc : Nat) (lv : List (Nat × Value)) (v : Int32) (σ : Mem), decode cc pc = .ok (.ireturn, 1) → some rv = some (v, σ) → Bk X nL o 0 0 pc lv [.int v] σ
def Rz (X : Ctx) (cc : ByteArray) (nL : Nat) (o : Int64) (rv : Int32 × Mem) : Prop := ∀ (pc : Nat) (lv : List (Nat × Value)) (v : Int32) (σ : Mem), decode cc pc = .ok (.ireturn, 1) → some rv = gd (isZ v) (some (v, σ)) → Bk X nL o 0 0 pc lv [.int v] σ
def Rc (X : Ctx) (cc : ByteArray) (nL : Nat) (o : Int64) (rv : Int32 × Mem) : Prop := ∀ (pc : Nat) (lv : List (Nat × Value)) (v : Int32) (σ : Mem), decode cc pc = .ok (.ireturn, 1) → some rv = gd (isC v) (some (v, σ)) → Bk X nL o 0 0 pc lv [.int v] σ
def Rv (X : Ctx) (cc : ByteArray) (nL : Nat) (o : Int64) (rv : Int32 × Mem) : Prop := ∀ (pc : Nat) (lv : List (Nat × Value)) (v : Int32) (σ : Mem), decode cc pc = .ok (.return_, 1) → some rv = some (v, σ) → Bk X nL o 0 0 pc lv [] σ
theorem mk_i {l : Launch} {y : MethodName} {ws ws' : List Cond} {fr lo : Nat} {av : Geo → List Value} {f : Mem → Option (Int32 × Mem)} {cc : ByteArray} {nL : Nat} {own : String} (hy : plainName y.cls = true) (ho : y.cls = own) (hw : ws = Cond.code y cc nL (some .int) :: ws') (hlen : ∀ G, (lg_sl (av G)).length ≤ nL)
    (body : ∀ (X : Ctx) (o : Int64) (σ : Mem) (rv : Int32 × Mem), Cx X cc own ws nL fr lo → Rt X cc nL o rv → some rv = f σ → Bk X nL o 0 0 0 (lv_args 0 (av (XG X))) [] σ) : Cti l y ws fr lo av f := by
  intro G sz σ o r u hG hf
  subst ho
  refine Met.ofW (cc := cc) (maxL := nL) (ret := some .int) hy hw ?_
  intro p e s m args below meth c s₁ B hml hv
  obtain ⟨rfl, hsz, hP, hK⟩ := hv
  have hx := B.exec
  have hb := B.bytes
  have hr := B.returns
  have hts := atoms_spec (ws := ws) B.pre
  have hown : s.vm.findClass y.cls = some m.cls := findClass_of_methodNamed B.named
  have hlocks := B.notSynchronized
  subst hsz
  have key := body (p, l, e, (headSpec ws { frames := fr, cells := 0, slots := 0, locals := lo }).room, s, m, (av G).toArray, below, meth, c, MQ below (va_Qi (fun r' u' => r' = r ∧ u' = u) (wB G o) (wA G s.heap.size)) (av G).toArray s 0 0 (wA G s.heap.size), G, wA G s.heap.size) o σ (r, u) ⟨hx, hb, hml, hown, hts, hK, hG, fun i hi => Or.inl ⟨i, hi, rfl⟩, fun q hq => Or.inr hq, Nat.le_refl _, Nat.le_refl _⟩ ?_ hf.symm
  · have hl := lv_entry (av G) (n := nL) (hlen G)
    rw [lg_entry_eq]
    exact key s.heap [] _ hP va_S.rf hl
  · skip
    · intro pc lv v τ d hv
      obtain ⟨rfl, rfl⟩ := Prod.mk.inj (Option.some.inj hv)
      intro H locs ls hP hS hl
      exact W.iret (v := r) hx hb hr (fun t ht hW => ⟨⟨r, u, rfl, ⟨rfl, rfl⟩, by unfold wB; rw [ht]; exact hP⟩, hS.F ht⟩) hS.2.2 d
theorem mk_z {l : Launch} {y : MethodName} {ws ws' : List Cond} {fr lo : Nat} {av : Geo → List Value} {f : Mem → Option (Int32 × Mem)} {cc : ByteArray} {nL : Nat} {own : String} (hy : plainName y.cls = true) (ho : y.cls = own) (hw : ws = Cond.code y cc nL (some .boolean) :: ws') (hlen : ∀ G, (lg_sl (av G)).length ≤ nL)
    (body : ∀ (X : Ctx) (o : Int64) (σ : Mem) (rv : Int32 × Mem), Cx X cc own ws nL fr lo → Rz X cc nL o rv → some rv = f σ → Bk X nL o 0 0 0 (lv_args 0 (av (XG X))) [] σ) : Cti l y ws fr lo av f := by
  intro G sz σ o r u hG hf
  subst ho
  refine Met.ofW (cc := cc) (maxL := nL) (ret := some .boolean) hy hw ?_
  intro p e s m args below meth c s₁ B hml hv
  obtain ⟨rfl, hsz, hP, hK⟩ := hv
  have hx := B.exec
  have hb := B.bytes
  have hr := B.returns
  have hts := atoms_spec (ws := ws) B.pre
  have hown : s.vm.findClass y.cls = some m.cls := findClass_of_methodNamed B.named
  have hlocks := B.notSynchronized
  subst hsz
  have key := body (p, l, e, (headSpec ws { frames := fr, cells := 0, slots := 0, locals := lo }).room, s, m, (av G).toArray, below, meth, c, MQ below (va_Qi (fun r' u' => r' = r ∧ u' = u) (wB G o) (wA G s.heap.size)) (av G).toArray s 0 0 (wA G s.heap.size), G, wA G s.heap.size) o σ (r, u) ⟨hx, hb, hml, hown, hts, hK, hG, fun i hi => Or.inl ⟨i, hi, rfl⟩, fun q hq => Or.inr hq, Nat.le_refl _, Nat.le_refl _⟩ ?_ hf.symm
  · have hl := lv_entry (av G) (n := nL) (hlen G)
    rw [lg_entry_eq]
    exact key s.heap [] _ hP va_S.rf hl
  · skip
    · intro pc lv v τ d hv
      obtain ⟨hz, hv⟩ := gd_inv hv
      obtain ⟨rfl, rfl⟩ := Prod.mk.inj (Option.some.inj hv)
      intro H locs ls hP hS hl
      exact W.zret (v := r) hx hb hr (isZ_nar hz) (fun t ht hW => ⟨⟨r, u, rfl, ⟨rfl, rfl⟩, by unfold wB; rw [ht]; exact hP⟩, hS.F ht⟩) hS.2.2 d
theorem mk_c {l : Launch} {y : MethodName} {ws ws' : List Cond} {fr lo : Nat} {av : Geo → List Value} {f : Mem → Option (Int32 × Mem)} {cc : ByteArray} {nL : Nat} {own : String} (hy : plainName y.cls = true) (ho : y.cls = own) (hw : ws = Cond.code y cc nL (some .char) :: ws') (hlen : ∀ G, (lg_sl (av G)).length ≤ nL)
    (body : ∀ (X : Ctx) (o : Int64) (σ : Mem) (rv : Int32 × Mem), Cx X cc own ws nL fr lo → Rc X cc nL o rv → some rv = f σ → Bk X nL o 0 0 0 (lv_args 0 (av (XG X))) [] σ) : Cti l y ws fr lo av f := by
  intro G sz σ o r u hG hf
  subst ho
  refine Met.ofW (cc := cc) (maxL := nL) (ret := some .char) hy hw ?_
  intro p e s m args below meth c s₁ B hml hv
  obtain ⟨rfl, hsz, hP, hK⟩ := hv
  have hx := B.exec
  have hb := B.bytes
  have hr := B.returns
  have hts := atoms_spec (ws := ws) B.pre
  have hown : s.vm.findClass y.cls = some m.cls := findClass_of_methodNamed B.named
  have hlocks := B.notSynchronized
  subst hsz
  have key := body (p, l, e, (headSpec ws { frames := fr, cells := 0, slots := 0, locals := lo }).room, s, m, (av G).toArray, below, meth, c, MQ below (va_Qi (fun r' u' => r' = r ∧ u' = u) (wB G o) (wA G s.heap.size)) (av G).toArray s 0 0 (wA G s.heap.size), G, wA G s.heap.size) o σ (r, u) ⟨hx, hb, hml, hown, hts, hK, hG, fun i hi => Or.inl ⟨i, hi, rfl⟩, fun q hq => Or.inr hq, Nat.le_refl _, Nat.le_refl _⟩ ?_ hf.symm
  · have hl := lv_entry (av G) (n := nL) (hlen G)
    rw [lg_entry_eq]
    exact key s.heap [] _ hP va_S.rf hl
  · skip
    · intro pc lv v τ d hv
      obtain ⟨hz, hv⟩ := gd_inv hv
      obtain ⟨rfl, rfl⟩ := Prod.mk.inj (Option.some.inj hv)
      intro H locs ls hP hS hl
      exact W.zret (v := r) hx hb hr (isC_nar hz) (fun t ht hW => ⟨⟨r, u, rfl, ⟨rfl, rfl⟩, by unfold wB; rw [ht]; exact hP⟩, hS.F ht⟩) hS.2.2 d
theorem mk_v {l : Launch} {y : MethodName} {ws ws' : List Cond} {fr lo : Nat} {av : Geo → List Value} {f : Mem → Option (Int32 × Mem)} {cc : ByteArray} {nL : Nat} {own : String} (hy : plainName y.cls = true) (ho : y.cls = own) (hw : ws = Cond.code y cc nL (none) :: ws') (hlen : ∀ G, (lg_sl (av G)).length ≤ nL)
    (body : ∀ (X : Ctx) (o : Int64) (σ : Mem) (rv : Int32 × Mem), Cx X cc own ws nL fr lo → Rv X cc nL o rv → some rv = f σ → Bk X nL o 0 0 0 (lv_args 0 (av (XG X))) [] σ) : Ctv l y ws fr lo av f := by
  intro G sz σ o r u hG hf
  subst ho
  refine Met.ofW (cc := cc) (maxL := nL) (ret := none) hy hw ?_
  intro p e s m args below meth c s₁ B hml hv
  obtain ⟨rfl, hsz, hP, hK⟩ := hv
  have hx := B.exec
  have hb := B.bytes
  have hr := B.returns
  have hts := atoms_spec (ws := ws) B.pre
  have hown : s.vm.findClass y.cls = some m.cls := findClass_of_methodNamed B.named
  have hlocks := B.notSynchronized
  subst hsz
  have key := body (p, l, e, (headSpec ws { frames := fr, cells := 0, slots := 0, locals := lo }).room, s, m, (av G).toArray, below, meth, c, MQ below (va_Qv (fun u' => u' = u) (wB G o) (wA G s.heap.size)) (av G).toArray s 0 0 (wA G s.heap.size), G, wA G s.heap.size) o σ (r, u) ⟨hx, hb, hml, hown, hts, hK, hG, fun i hi => Or.inl ⟨i, hi, rfl⟩, fun q hq => Or.inr hq, Nat.le_refl _, Nat.le_refl _⟩ ?_ hf.symm
  · have hl := lv_entry (av G) (n := nL) (hlen G)
    rw [lg_entry_eq]
    exact key s.heap [] _ hP va_S.rf hl
  · skip
    · intro pc lv v τ d hv
      obtain ⟨rfl, rfl⟩ := Prod.mk.inj (Option.some.inj hv)
      intro H locs ls hP hS hl
      exact W.vret hx hb hr (fun t ht hW => ⟨⟨u, rfl, rfl, by unfold wB; rw [ht]; exact hP⟩, hS.F ht⟩) hS.2.2 d
theorem b_alen (C : Cx X cc own Ts nL fr lo) (r : Nat) (hr : r < 43) {v : Int32} (hv : Int32.ofNat (rlen r) = v) (d : decode cc pc = .ok (.arraylength, 1)) (kk : Bk X nL o kc ks (pc + 1) lv (.int v :: st) σ) : Bk X nL o kc ks pc lv (.ref (ad X (52 + r)) :: st) σ := by
  obtain ⟨p, l, e, R, s, m, args, below, meth, c, Q, G, A⟩ := X
  obtain ⟨hx, hb, hml, hown, hts, hK, hG, hAi, hA, hfr, hlo⟩ := C
  intro H locs ls hP hS hl
  exact va_alen hx hb hK.1 hP (52 + r) 0 (at_arr hr) (ty := .int) (by simp [tysG, rA]) hv d (kk H locs ls hP hS hl)
theorem b_ldc (C : Cx X cc own Ts nL fr lo) {index : Nat} {v : Int32} (hc : (Cond.constant own index v) ∈ Ts) (d : decode cc pc = .ok (.ldc index, 2)) (kk : Bk X nL o kc ks (pc + 2) lv (.int v :: st) σ) : Bk X nL o kc ks pc lv st σ := by
  obtain ⟨p, l, e, R, s, m, args, below, meth, c, Q, G, A⟩ := X
  obtain ⟨hx, hb, hml, hown, hts, hK, hG, hAi, hA, hfr, hlo⟩ := C
  intro H locs ls hP hS hl
  exact lv_ldc hx hb hown (hts _ hc) d (kk H locs ls hP hS hl)
theorem mk_iw {l : Launch} {y : MethodName} {ws ws' : List Cond} {fr lo : Nat} {av : Geo → List Value} {f : Mem → Option (Int32 × Mem)} {cc : ByteArray} {nL : Nat} {own : String} {hh : List (Nat × Nat × Nat × Nat)} (hy : plainName y.cls = true) (ho : y.cls = own) (hw : ws = Cond.codeWith y cc nL (some .int) hh :: ws') (hlen : ∀ G, (lg_sl (av G)).length ≤ nL)
    (body : ∀ (X : Ctx) (o : Int64) (σ : Mem) (rv : Int32 × Mem), Cx X cc own ws nL fr lo → Rt X cc nL o rv → some rv = f σ → Bk X nL o 0 0 0 (lv_args 0 (av (XG X))) [] σ) : Cti l y ws fr lo av f := by
  intro G sz σ o r u hG hf
  subst ho
  refine va_MetW (cc := cc) (maxL := nL) (ret := some .int) (hh := hh) hy hw ?_
  intro p e s m args below meth c s₁ B hml hv
  obtain ⟨rfl, hsz, hP, hK⟩ := hv
  have hx := B.exec
  have hb := B.bytes
  have hr := B.returns
  have hts := atoms_spec (ws := ws) B.pre
  have hown : s.vm.findClass y.cls = some m.cls := findClass_of_methodNamed B.named
  have hlocks := B.notSynchronized
  subst hsz
  have key := body (p, l, e, (headSpec ws { frames := fr, cells := 0, slots := 0, locals := lo }).room, s, m, (av G).toArray, below, meth, c, MQ below (va_Qi (fun r' u' => r' = r ∧ u' = u) (wB G o) (wA G s.heap.size)) (av G).toArray s 0 0 (wA G s.heap.size), G, wA G s.heap.size) o σ (r, u) ⟨hx, hb, hml, hown, hts, hK, hG, fun i hi => Or.inl ⟨i, hi, rfl⟩, fun q hq => Or.inr hq, Nat.le_refl _, Nat.le_refl _⟩ ?_ hf.symm
  · have hl := lv_entry (av G) (n := nL) (hlen G)
    rw [lg_entry_eq]
    exact key s.heap [] _ hP va_S.rf hl
  · intro pc lv v τ d hv
    obtain ⟨rfl, rfl⟩ := Prod.mk.inj (Option.some.inj hv)
    intro H locs ls hP hS hl
    exact W.iret (v := r) hx hb hr (fun t ht hW => ⟨⟨r, u, rfl, ⟨rfl, rfl⟩, by unfold wB; rw [ht]; exact hP⟩, hS.F ht⟩) hS.2.2 d
end BK
