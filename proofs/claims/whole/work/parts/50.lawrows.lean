/-! ROWS OF THE LAW'S BODY. By hand. -/
def Lx (X : Ctx) (b L : Nat) (xs : Nat → Int32) : Prop := match X with
  | (_, l, _, R, s, _, _, _, _, _, _, _, A) => l.stackTraces = false ∧ wT A s s.heap ∧ wNc s ∧ 601024 ≤ R.cells ∧ 7293034 ≤ R.slots ∧ va_X b L xs s s.heap ∧ b < s.heap.size ∧ ¬ A b
theorem wPw_blind {G : Geo} {sz : Nat} {σ : Mem} {o : Int64} {av : List Value} : FrameBlind (va_Pc av (fun U => (wPc G sz σ o U ∧ wT (wA G sz) U U.heap) ∧ wNc U)) := fun a U g mk q => by
  obtain ⟨q0, q1, q2⟩ := q
  obtain ⟨z1, z2⟩ := wPe_blind (av := av) a U g mk ⟨q0, q1⟩
  exact ⟨z1, z2, q2.moved (u := U) (U := U.calling g mk a) (Vm.Alike.refl U.vm)⟩
section LR
variable {X : Ctx} {cc : ByteArray} {own : String} {Ts : List Cond} {nL fr lo : Nat} {o : Int64} {kc ks pc : Nat} {lv lv' : List (Nat × Value)} {st : List Value} {σ : Mem} {b L : Nat} {xs : Nat → Int32}
theorem b_sld (C : Cx X cc own Ts nL fr lo) (E : Lx X b L xs) {x : Int32} (h : vp_in x L) (d : decode cc pc = .ok (.iaload, 1)) (kk : Bk X nL o kc ks (pc + 1) lv (.int (xs x.toNatClampNeg) :: st) σ) : Bk X nL o kc ks pc lv (.int x :: .ref b :: st) σ := by
  obtain ⟨p, l, e, R, s, m, args, below, meth, c, Q, G, A⟩ := X
  obtain ⟨hx, hb, hml, hown, hts, hK, hG, hAi, hA, hfr, hlo⟩ := C
  obtain ⟨hfl, hT, hNc, hRc, hRs, hX, hbl, hbA⟩ := E
  intro H locs ls hP hS hl
  exact va_sld hx hb hX hbl hbA hS h d (kk H locs ls hP hS hl)
theorem b_slen (C : Cx X cc own Ts nL fr lo) (E : Lx X b L xs) (d : decode cc pc = .ok (.arraylength, 1)) (kk : Bk X nL o kc ks (pc + 1) lv (.int (nI L) :: st) σ) : Bk X nL o kc ks pc lv (.ref b :: st) σ := by
  obtain ⟨p, l, e, R, s, m, args, below, meth, c, Q, G, A⟩ := X
  obtain ⟨hx, hb, hml, hown, hts, hK, hG, hAi, hA, hfr, hlo⟩ := C
  obtain ⟨hfl, hT, hNc, hRc, hRs, hX, hbl, hbA⟩ := E
  intro H locs ls hP hS hl
  exact va_slen hx hb hX hbl hbA hS d (kk H locs ls hP hS hl)
theorem b_widen {kc' ks' : Nat} (h1 : kc ≤ kc') (h2 : ks ≤ ks') (kk : Bk X nL o kc' ks' pc lv st σ) : Bk X nL o kc ks pc lv st σ := by
  obtain ⟨p, l, e, R, s, m, args, below, meth, c, Q, G, A⟩ := X
  intro H locs ls hP hS hl
  exact W.widen (k := kc') (n := ks') h1 h2 (kk H locs ls hP hS hl)
theorem b_lcallV (C : Cx X cc own Ts nL fr lo) (E : Lx X b L xs) {index : Nat} {y : MethodName} {C9 : String} {wz ws' : List Cond} {frc loc n maxL : Nat} {bytes : ByteArray} {ret : Option FieldType} {f : Mem → Option (Int32 × Mem)} {r : Int32} {u : Mem} (i ci : Nat) (ho : isObj i ci) {T9 : u_T} {N9 : Nat} (hc : vwCl[ci]? = some (C9, T9, N9)) (asv : Geo → List Value) (M : ∀ l, Cti l y wz frc loc (fun G => .ref (G.1 i) :: asv G) f) (hfr2 : f σ = some (r, u)) (g : GoodIn Ts (wsV own index C9 y wz)) (hw : wz = Cond.code y bytes maxL ret :: ws') (hd : y.cls = C9 ∧ y.cls ≠ "java/lang/invoke/MethodHandle" ∧ y.cls ≠ "java/lang/invoke/VarHandle" ∧ (parseMethodDescriptor y.desc).map (fun d => d.parameters.length) = some n) (hn : (asv (XG X)).length = n) (hfr9 : frc + 1 ≤ fr) (hlo9 : 8 + (maxL + 11) + loc ≤ lo) (hcat : (st.map fun v => v.category).sum ≤ 8) (h1 : kc ≤ 601024) (h2 : ks ≤ 7293034) (d : decode cc pc = .ok (.invokevirtual index, 3)) (kk : Bk X nL o kc ks (pc + 3) lv (.int r :: st) u) : Bk X nL o kc ks pc lv ((asv (XG X)).reverse ++ .ref (ad X i) :: st) σ := by
  obtain ⟨p, l, e, R, s, m, args, below, meth, c, Q, G, A⟩ := X
  obtain ⟨hx, hb, hml, hown, hts, hK, hG, hAi, hA, hfr, hlo⟩ := C
  obtain ⟨hfl, hT, hNc, hRc, hRs, hX, hbl, hbA⟩ := E
  intro H locs ls hP hS hl
  obtain ⟨fs, hob⟩ := ho G σ o
  refine va_calli (va_runV (As := asv G) (rest := st) ⟨hx, hb, hml, hown, hts⟩ (M l G H.size σ o r u hG hfr2) (cwV n hts g hw rfl rfl hd ⟨Nat.le_trans hfr9 hfr, Nat.le_trans hlo9 hlo⟩) ⟨wPc_blind, va_recv hK.1 hP (ci := ci) (q0 := i) hc hob, fun U hU hW => ⟨rfl, by rw [hU], by rw [hU]; exact hP, hK.warm hW⟩⟩ rfl hn hl.1 rfl (lv_room hcat) d ⟨by omega, by omega⟩) hS (fun q _ h => wA_in hAi hA hS q h) (wA_in hAi hA hS) (fun r9 u9 t H1 locs1 ht hvm hw9 hB _ _ hS1 => ?_)
  obtain ⟨rfl, rfl⟩ := hw9
  exact kk H1 locs1 ls (by rw [← ht]; exact hB) hS1 hl
theorem b_lcallW (C : Cx X cc RL Ts nL fr lo) (E : Lx X b L xs) {index : Nat} {y : MethodName} {wz ws' : List Cond} {frc loc n maxL : Nat} {bytes : ByteArray} {ret : Option FieldType} {hh : List (Nat × Nat × Nat × Nat)} {f : Mem → Option ((Nat × Int32) × Mem)} {oc : Nat × Int32} {u : Mem} {cs : List Nat} {bz : Bool} (asv : Geo → List Value) (M : ∀ l, l.stackTraces = false → Ctw l y wz frc loc asv f cs bz) (hf : f σ = some (oc, u)) (hoc : oc.1 = 0 ∨ oc.1 ∈ cs) (g : GoodIn Ts (va_wsS RL index y wz)) (hw : wz = Cond.codeWith y bytes maxL ret hh :: ws') (hd : y.cls ≠ "java/lang/invoke/MethodHandle" ∧ y.cls ≠ "java/lang/invoke/VarHandle" ∧ (parseMethodDescriptor y.desc).map (fun d => d.parameters.length) = some n) (hn : (asv (XG X)).length = n) (hfr9 : frc + 1 ≤ fr) (hlo9 : 8 + (maxL + 11) + loc ≤ lo) (hcat : (st.map fun v => v.category).sum ≤ 8) (h1 : kc + 1 ≤ 601024) (h2 : ks + 6 ≤ 7293034) (d : decode cc pc = .ok (.invokestatic index, 3)) (kk : Bk X nL (wout bz oc o) (kc + 1) (ks + 6) (pc + 3) lv (.int (wcode cs oc.1) :: st) u) : Bk X nL o kc ks pc lv ((asv (XG X)).reverse ++ st) σ := by
  obtain ⟨p, l, e, R, s, m, args, below, meth, c, Q, G, A⟩ := X
  obtain ⟨hx, hb, hml, hown, hts, hK, hG, hAi, hA, hfr, hlo⟩ := C
  obtain ⟨hfl, hT, hNc, hRc, hRs, hX, hbl, hbA⟩ := E
  intro H locs ls hP hS hl
  refine va_calli (vx_runSW (As := asv G) (rest := st) ⟨hx, hb, hml, hown, hts⟩ (M l hfl G H.size σ o oc u hG hf hoc) (vx_cwSW n hts g hw rfl rfl hd ⟨Nat.le_trans hfr9 hfr, Nat.le_trans hlo9 hlo⟩) ⟨wPw_blind, fun U hU hW => ⟨rfl, ⟨⟨by rw [hU], by rw [hU]; exact hP, hK.warm hW⟩, hT.warm hW (fun a h1 h2 => by rw [hU]; exact hS.2.1 a h1 h2) (wA_in hAi hA hS)⟩, hNc.moved hW.alike⟩⟩ rfl hn hl.1 rfl (lv_room hcat) d ⟨by omega, by omega⟩) hS (fun q _ h => wA_in hAi hA hS q h) (wA_in hAi hA hS) (fun r9 u9 t H1 locs1 ht hvm hw9 hB _ _ hS1 => ?_)
  obtain ⟨rfl, rfl⟩ := hw9
  exact kk H1 locs1 ls (by rw [← ht]; exact hB) hS1 hl
end LR
theorem lcmp_same (x : Int64) : lg_cmp x x = 0 := by unfold lg_cmp; simp
theorem and31 (x : Int32) : ∃ j : Nat, j < 32 ∧ x &&& 31 = nI j := pk_andE x 5 (by decide)
def bz (x : Int32) : Int32 := if x = 0 then 0 else 1
/-- what one call of the script owes: class and reference both come to an end, agree, and the invariant goes on -/
def StpG (Inv : Mem → Prop) (fA : Mem → Option ((Nat × Int32) × Mem)) (fM : Mem → Option (Int32 × Mem)) (cs : List Nat) (σ : Mem) : Prop :=
  ∃ (oc : Nat × Int32) (u : Mem) (r : Int32) (u2 : Mem), fA σ = some (oc, u) ∧ (oc.1 = 0 ∨ oc.1 ∈ cs) ∧ fM u = some (r, u2) ∧ u2 76 22 = wcode cs oc.1 ∧ (oc.1 = 0 → oc.2 = r) ∧ Inv u2
def StpQ (Inv : Mem → Prop) (fA fM : Mem → Option (Int32 × Mem)) (σ : Mem) : Prop := ∃ (r : Int32) (u u2 : Mem), fA σ = some (r, u) ∧ fM u = some (r, u2) ∧ Inv u2
