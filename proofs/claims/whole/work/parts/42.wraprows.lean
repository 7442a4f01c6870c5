/-! ROWS OF THE LAW'S WRAPPERS: a static method that calls one of the face, puts its answer into the long array, and answers 0, or the number of what it caught. By hand. -/
def XL (X : Ctx) : Launch := X.2.1
def Wx (X : Ctx) (hh : List (Nat × Nat × Nat × Nat)) : Prop := match X with
  | (_, l, _, R, s, _, _, _, _, c, _, _, A) => l.stackTraces = false ∧ wT A s s.heap ∧ wNc s ∧ 1 ≤ R.cells ∧ 6 ≤ R.slots ∧ c.exceptionTable.toList = tableOf hh
def Hx (X : Ctx) (nL : Nat) (o : Int64) (kc ks pc : Nat) (lv : List (Nat × Value)) (σ : Mem) (E : String) : Prop := match X with
  | (p, l, e, R, s, m, args, below, meth, c, Q, G, A) => ∀ (H : Heap) (locs : List Loc) (ls : Array Slot), va_P G.2.2 vwCl (Wl G σ o) H → va_S A s.heap H locs → lv_has ls nL lv → ∀ (q9 : Addr) (ce : Cell) (st : List Value), H[q9]? = some ce → ce.vm = .none → s.vm.findClass E = some ce.cls → vx_W p l e R s m args below meth c H locs kc ks Q (F0 m pc ls st) q9
def Rw (X : Ctx) (cc : ByteArray) (nL : Nat) (r0 : Int32) (q0 : Mem × Int64) : Prop := ∀ (pc : Nat) (lv : List (Nat × Value)) (u : Mem) (o' : Int64), decode cc pc = .ok (.ireturn, 1) → (u, o') = q0 → Bk X nL o' 1 6 pc lv [.int r0] u
theorem out_same {G : Geo} {H : Heap} {σ : Mem} {o v : Int64} (h : va_P G.2.2 vwCl ((Wl G σ o).set 5 (G.1 5, .inl (G.2.1.2.2, 1, .inr (.inl (vp_updL (fun _ => o) (0 : Int32).toNatClampNeg v))))) H) : va_P G.2.2 vwCl (Wl G σ v) H := by
  have e : vp_cell G.2.1.2.2 (1, .inr (.inl (vp_updL (fun _ => o) (0 : Int32).toNatClampNeg v))) = vp_cell G.2.1.2.2 (1, .inr (.inl (fun _ => v))) := by
    show arrV G.2.1.2.2 1 (fun j => .long (vp_updL (fun _ => o) (0 : Int32).toNatClampNeg v j)) = arrV G.2.1.2.2 1 (fun _ => .long v)
    unfold arrV
    congr 1
  rw [← Wl_set_out (o := o)]
  intro k q hk
  by_cases hk5 : k = 5
  · subst hk5
    have hl : 5 < (Wl G σ o).length := by rw [Wl_len]; omega
    rw [List.getElem?_set_self hl] at hk
    cases hk
    have := h 5 (G.1 5, .inl (G.2.1.2.2, 1, .inr (.inl (vp_updL (fun _ => o) (0 : Int32).toNatClampNeg v)))) (by rw [List.getElem?_set_self hl])
    exact this.trans (congrArg some e)
  · rw [List.getElem?_set_ne (Ne.symm hk5)] at hk
    exact h k q (by rw [List.getElem?_set_ne (Ne.symm hk5)]; exact hk)
section WR
variable {X : Ctx} {cc : ByteArray} {own : String} {Ts : List Cond} {nL fr lo : Nat} {o : Int64} {kc ks pc : Nat} {lv lv' : List (Nat × Value)} {st : List Value} {σ : Mem}
theorem b_last (C : Cx X cc own Ts nL fr lo) {v : Int64} (d : decode cc pc = .ok (.lastore, 1)) (kk : Bk X nL v kc ks (pc + 1) lv st σ) : Bk X nL o kc ks pc lv (.long v :: .int 0 :: .ref (ad X 5) :: st) σ := by
  obtain ⟨p, l, e, R, s, m, args, below, meth, c, Q, G, A⟩ := X
  obtain ⟨hx, hb, hml, hown, hts, hK, hG, hAi, hA, hfr, hlo⟩ := C
  intro H locs ls hP hS hl
  exact va_last hx hb hK.1 hP (Wl_D hG hAi) hS 5 2 at_out rfl (inb_in (by decide)) d (fun H1 locs1 hP1 _ hS1 => kk H1 locs1 ls (out_same hP1) hS1 hl)
theorem b_lald (C : Cx X cc own Ts nL fr lo) (d : decode cc pc = .ok (.laload, 1)) (kk : Bk X nL o kc ks (pc + 1) lv (.long o :: st) σ) : Bk X nL o kc ks pc lv (.int 0 :: .ref (ad X 5) :: st) σ := by
  obtain ⟨p, l, e, R, s, m, args, below, meth, c, Q, G, A⟩ := X
  obtain ⟨hx, hb, hml, hown, hts, hK, hG, hAi, hA, hfr, hlo⟩ := C
  intro H locs ls hP hS hl
  exact va_lald hx hb hK.1 hP 5 2 at_out rfl (inb_in (by decide)) d (kk H locs ls hP hS hl)
theorem b_callE (C : Cx X cc RL Ts nL fr lo) {hh : List (Nat × Nat × Nat × Nat)} (E : Wx X hh) {index : Nat} {y : MethodName} {ws ws' : List Cond} {frc loc n maxL : Nat} {bytes : ByteArray} {ret : Option FieldType} {f : Mem → Option ((Nat × Int32) × Mem)} {oc : Nat × Int32} {u : Mem} (asv : Geo → List Value) (M : ∀ l, l.stackTraces = false → Cte l y ws frc loc (fun G => .ref (G.1 9) :: asv G) f) (hf : f σ = some (oc, u)) (g : GoodIn Ts (wsV RL index RX9 y ws)) (hw : ws = Cond.code y bytes maxL ret :: ws') (hd : y.cls = RX9 ∧ y.cls ≠ "java/lang/invoke/MethodHandle" ∧ y.cls ≠ "java/lang/invoke/VarHandle" ∧ (parseMethodDescriptor y.desc).map (fun d => d.parameters.length) = some n) (hn : (asv (XG X)).length = n) (hfr9 : frc + 1 ≤ fr) (hlo9 : 8 + (maxL + 11) + loc ≤ lo) (hcat : (st.map fun v => v.category).sum ≤ 8) (d : decode cc pc = .ok (.invokevirtual index, 3))
    (kr : ∀ r, oc = (0, r) → Bk X nL o 1 6 (pc + 3) lv (.int r :: st) u) (kx : oc.1 ≠ 0 → Hx X nL o 1 6 pc lv u (exN oc.1)) : Bk X nL o 0 0 pc lv ((asv (XG X)).reverse ++ .ref (ad X 9) :: st) σ := by
  obtain ⟨p, l, e, R, s, m, args, below, meth, c, Q, G, A⟩ := X
  obtain ⟨hx, hb, hml, hown, hts, hK, hG, hAi, hA, hfr, hlo⟩ := C
  obtain ⟨hfl, hT, hNc, hRc, hRs, htab⟩ := E
  intro H locs ls hP hS hl
  obtain ⟨fs, hob⟩ := isObj_s (i := 9) (by decide) (by decide) G σ o
  refine vx_calli (vx_runV (As := asv G) (rest := st) ⟨hx, hb, hml, hown, hts⟩ (M l hfl G H.size σ o oc u hG hf) (cwV n hts g hw rfl rfl hd ⟨Nat.le_trans hfr9 hfr, Nat.le_trans hlo9 hlo⟩) ⟨wPe_blind, va_recv hK.1 hP (ci := 9) (q0 := 9) rfl hob, fun U hU hW => ⟨rfl, ⟨by rw [hU], by rw [hU]; exact hP, hK.warm hW⟩, hT.warm hW (fun a h1 h2 => by rw [hU]; exact hS.2.1 a h1 h2) (wA_in hAi hA hS)⟩⟩ rfl hn hl.1 rfl (lv_room hcat) d ⟨by omega, by omega⟩) hS (fun q _ h => wA_in hAi hA hS q h) (wA_in hAi hA hS) (fun q _ h => wA_in hAi hA hS q h) (fun E ce q9 u9 t H1 locs1 ht hvm hpx hBX _ _ hS1 hce hcv hcl => ?_) (fun r9 u9 t H1 locs1 ht hvm hw9 hB _ _ hS1 => ?_)
  · obtain ⟨h0, rfl, hB⟩ := hBX
    obtain rfl := hpx
    exact kx h0 H1 locs1 ls (by rw [← ht]; exact hB) hS1 hl q9 ce st hce hcv hcl
  · obtain ⟨h0, rfl⟩ := hw9
    exact kr r9 h0 H1 locs1 ls (by rw [← ht]; exact hB) hS1 hl
theorem b_catch (C : Cx X cc RL Ts nL fr lo) {hh : List (Nat × Nat × Nat × Nat)} (E9 : Wx X hh) (k : Nat) (hk : k = 1 ∨ k = 2 ∨ k = 3) (pre : List ExceptionTableEntry) (x : ExceptionTableEntry) (suf : List ExceptionTableEntry) (hsplit : tableOf hh = pre ++ x :: suf)
    (hpass : ∀ z ∈ pre, z.catchType ≠ 0 ∧ ∃ j : Nat, (j = 1 ∨ j = 2 ∨ j = 3) ∧ j ≠ k ∧ (Cond.classLink RL z.catchType (exN j)) ∈ Ts) (hxc : covers x pc = true) (h0 : x.catchType ≠ 0) (hlink : (Cond.classLink RL x.catchType (exN k)) ∈ Ts) (kk : ∀ q9 : Nat, Bk X nL o kc ks x.handlerPc lv [.ref q9] σ) : Hx X nL o kc ks pc lv σ (exN k) := by
  obtain ⟨p, l, e, R, s, m, args, below, meth, c, Q, G, A⟩ := X
  obtain ⟨hx, hb, hml, hown, hts, hK, hG, hAi, hA, hfr, hlo⟩ := C
  obtain ⟨hfl, hT, hNc, hRc, hRs, htab⟩ := E9
  intro H locs ls hP hS hl q9 ce st hce hcv hcl
  have hcast : va_Nw (.castable (exN k) (exN k)) s := by
    rcases hk with rfl | rfl | rfl
    · exact hT.2.1
    · exact hT.2.2.1
    · exact hT.2.2.2
  refine vx_catch (E := exN k) (ce := ce) hown pre x suf (htab.trans hsplit) (fun z hz => Or.inr ?_) hxc h0 (hts _ hlink) (va_Nw.use rfl hcast) hce hcv hcl (kk q9 H locs ls hP hS hl)
  obtain ⟨hz0, j, hj, hjk, hjl⟩ := hpass z hz
  refine ⟨hz0, exN j, hts _ hjl, ?_⟩
  obtain ⟨n12, n13, n21, n23, n31, n32⟩ := hNc
  rcases hk with rfl | rfl | rfl <;> rcases hj with rfl | rfl | rfl <;> first | exact absurd rfl hjk | assumption
end WR
/-- a wrapper's contract -/
def wcode (cs : List Nat) (k : Nat) : Int32 := if k = 0 then 0 else nI (cs.idxOf k + 1)
def wout (b : Bool) (oc : Nat × Int32) (o : Int64) : Int64 := if oc.1 = 0 then (match b with
  | true => if oc.2 = 0 then 0 else 1
  | false => oc.2.toInt64) else o
def Ctw (l : Launch) (y : MethodName) (ws : List Cond) (fr lo : Nat) (av : Geo → List Value) (f : Mem → Option ((Nat × Int32) × Mem)) (cs : List Nat) (b : Bool) : Prop :=
  ∀ (G : Geo) (sz : Nat) (σ : Mem) (o : Int64) (oc : Nat × Int32) (u : Mem), gok G → f σ = some (oc, u) → (oc.1 = 0 ∨ oc.1 ∈ cs) → Met l y ws { frames := fr, cells := 1, slots := 6, locals := lo } (va_Pc (av G) (fun U => (wPc G sz σ o U ∧ wT (wA G sz) U U.heap) ∧ wNc U)) (va_Qi (fun r' q => r' = wcode cs oc.1 ∧ q = (u, wout b oc o)) (fun (q : Mem × Int64) t => wB G q.2 q.1 t) (wA G sz)) 1 6 (wA G sz)
theorem mk_w {l : Launch} {y : MethodName} {ws ws' : List Cond} {fr lo : Nat} {av : Geo → List Value} {f : Mem → Option ((Nat × Int32) × Mem)} {cs : List Nat} {b : Bool} {cc : ByteArray} {nL : Nat} {hh : List (Nat × Nat × Nat × Nat)} (hfl : l.stackTraces = false) (hy : plainName y.cls = true) (ho : y.cls = RL) (hw : ws = Cond.codeWith y cc nL (some .int) hh :: ws') (hlen : ∀ G, (lg_sl (av G)).length ≤ nL)
    (body : ∀ (X : Ctx) (o : Int64) (σ : Mem) (oc : Nat × Int32) (u : Mem), Cx X cc RL ws nL fr lo → Wx X hh → Rw X cc nL (wcode cs oc.1) (u, wout b oc o) → f σ = some (oc, u) → (oc.1 = 0 ∨ oc.1 ∈ cs) → Bk X nL o 0 0 0 (lv_args 0 (av (XG X))) [] σ) : Ctw l y ws fr lo av f cs b := by
  intro G sz σ o oc u hG hf hoc
  refine va_MetW (cc := cc) (maxL := nL) (ret := some .int) (hh := hh) hy hw ?_
  intro p e s m args below meth c s₁ B hml hv
  obtain ⟨rfl, ⟨⟨hsz, hP, hK⟩, hT⟩, hNc⟩ := hv
  have hx := B.exec
  have hb := B.bytes
  have hr := B.returns
  have hts := atoms_spec (ws := ws) B.pre
  have hown : s.vm.findClass RL = some m.cls := by rw [← ho]; exact findClass_of_methodNamed B.named
  have hlocks := B.notSynchronized
  have htab : c.exceptionTable.toList = tableOf hh := vx_table (x := y) B (hts _ (by rw [hw]; exact List.mem_cons_self))
  subst hsz
  have key := body (p, l, e, (headSpec ws { frames := fr, cells := 1, slots := 6, locals := lo }).room, s, m, (av G).toArray, below, meth, c, MQ below (va_Qi (fun r' q => r' = wcode cs oc.1 ∧ q = (u, wout b oc o)) (fun (q : Mem × Int64) t => wB G q.2 q.1 t) (wA G s.heap.size)) (av G).toArray s 1 6 (wA G s.heap.size), G, wA G s.heap.size) o σ oc u ⟨hx, hb, hml, hown, hts, hK, hG, fun i hi => Or.inl ⟨i, hi, rfl⟩, fun q hq => Or.inr hq, Nat.le_refl _, Nat.le_refl _⟩ ⟨hfl, hT, hNc, Nat.le_refl _, Nat.le_refl _, htab⟩ ?_ hf hoc
  · have hl := lv_entry (av G) (n := nL) (hlen G)
    rw [lg_entry_eq]
    exact key s.heap [] _ hP va_S.rf hl
  · intro pc lv u9 o9 d hv
    intro H locs ls hP hS hl
    exact W.iret (v := wcode cs oc.1) hx hb hr (fun t ht hW => ⟨⟨wcode cs oc.1, (u9, o9), rfl, ⟨rfl, hv⟩, by show va_P G.2.2 vwCl (Wl G u9 o9) t.heap; rw [ht]; exact hP⟩, hS.F ht⟩) hS.2.2 d
