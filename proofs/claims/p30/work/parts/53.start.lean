/-! printed by wip/p30/gen/start.py -/
section BC2
variable {X : Ctx} {cc : ByteArray} {own : String} {Ts : List Cond} {nL fr lo mc ms : Nat} {kc ks pc : Nat} {lv lv' : List (Nat × Value)} {st : List Value} {ws : va_W}
theorem k_istore (K : Kx X cc own Ts nL fr lo mc ms) {i : Nat} {x : Int32} (d : decode cc pc = .ok (.istore i, 2)) (hn : i < nL) (hlv : (i, Value.int x) :: lv.filter (fun q => !(q.1 == i) && !(q.1 + 1 == i && q.2.category == 2)) = lv') (kk : Bc X nL kc ks (pc + 2) lv' st ws) : Bc X nL kc ks pc lv (.int x :: st) ws := by
  obtain ⟨p, l, e, R, s, m, args, below, meth, c, Q, G, A⟩ := X
  obtain ⟨hx, hb, hml, hown, hts, hK, hA, hfr, hlo, hmc, hms⟩ := K
  intro H locs ls hP hD hS hl
  exact lv_istore hx hb d hl hn hlv (fun ls' hl' => kk H locs ls' hP hD hS hl')
end BC2
theorem arr_known {args : Array Value} {s : State} (ty : FieldType) (hne : ∀ C, ty ≠ .object C) (h : (Cond.arrayClass ty).before args s = true) : ∃ cA : ClassId, ArrOfT s cA ty ∧ va_RA s cA ty := by
  obtain ⟨cA, kA, comp, hfind, hk, hkind⟩ := Cond.arrayClass_spec h
  refine ⟨cA, fun n z => ⟨fun k h => (by cases h), kA, hk, comp, hkind⟩, ?_⟩
  cases ty with
  | object C => exact absurd rfl (hne C)
  | _ => exact hfind
set_option maxHeartbeats 4000000 in
set_option maxRecDepth 100000 in
theorem classes_known {args : Array Value} {s : State} (hts : ∀ w ∈ lw_tbl, w.before args s = true) : ∃ D : va_G, ∀ (k : Nat) (q : vw_C), vwCl[k]? = some q → u_Kn s q.1 q.2.1 q.2.2 (D.1 k) (D.2 k) := by
  obtain ⟨c0, i0, h0⟩ := u_known (C := RX0) (T := TX0) (N := 6) (n := 6) hts (fun w h => (gF_wsX00 w h).1) (hts (.instantiable RX0 6) (List.mem_of_getElem? (i := 89) (by decide +kernel)))
  obtain ⟨c1, i1, h1⟩ := u_known (C := RX1) (T := TX1) (N := 2) (n := 2) hts (fun w h => (gF_wsX10 w h).1) (hts (.instantiable RX1 2) (List.mem_of_getElem? (i := 59) (by decide +kernel)))
  obtain ⟨c2, i2, h2⟩ := u_known (C := RX2) (T := TX2) (N := 12) (n := 12) hts (fun w h => (gF_wsX20 w h).1) (hts (.instantiable RX2 12) (List.mem_of_getElem? (i := 268) (by decide +kernel)))
  obtain ⟨c3, i3, h3⟩ := u_known (C := RX3) (T := TX3) (N := 7) (n := 7) hts (fun w h => (gF_wsX30 w h).1) (hts (.instantiable RX3 7) (List.mem_of_getElem? (i := 154) (by decide +kernel)))
  obtain ⟨c4, i4, h4⟩ := u_known (C := RX4) (T := TX4) (N := 13) (n := 13) hts (fun w h => (gF_wsX40 w h).1) (hts (.instantiable RX4 13) (List.mem_of_getElem? (i := 188) (by decide +kernel)))
  obtain ⟨c5, i5, h5⟩ := u_known (C := RX5) (T := TX5) (N := 1) (n := 1) hts (fun w h => (gF_wsX50 w h).1) (hts (.instantiable RX5 1) (List.mem_of_getElem? (i := 65) (by decide +kernel)))
  obtain ⟨c6, i6, h6⟩ := u_known (C := RX6) (T := TX6) (N := 8) (n := 8) hts (fun w h => (gF_wsX60 w h).1) (hts (.instantiable RX6 8) (List.mem_of_getElem? (i := 120) (by decide +kernel)))
  obtain ⟨c7, i7, h7⟩ := u_known (C := RX7) (T := TX7) (N := 3) (n := 3) hts (fun w h => (gF_wsX70 w h).1) (hts (.instantiable RX7 3) (List.mem_of_getElem? (i := 247) (by decide +kernel)))
  obtain ⟨c8, i8, h8⟩ := u_known (C := RX8) (T := TX8) (N := 7) (n := 7) hts (fun w h => (gF_wsX80 w h).1) (hts (.instantiable RX8 7) (List.mem_of_getElem? (i := 324) (by decide +kernel)))
  obtain ⟨c9, i9, h9⟩ := u_known (C := RX9) (T := TX9) (N := 15) (n := 15) hts (fun w h => (gF_wsX90 w h).1) (hts (.instantiable RX9 15) (List.mem_of_getElem? (i := 51) (by decide +kernel)))
  refine ⟨(fun k => match k with | 0 => c0 | 1 => c1 | 2 => c2 | 3 => c3 | 4 => c4 | 5 => c5 | 6 => c6 | 7 => c7 | 8 => c8 | _ => c9, fun k => match k with | 0 => i0 | 1 => i1 | 2 => i2 | 3 => i3 | 4 => i4 | 5 => i5 | 6 => i6 | 7 => i7 | 8 => i8 | _ => i9), fun k q hq => ?_⟩
  match k, hq with
  | 0, hq => cases hq; exact h0
  | 1, hq => cases hq; exact h1
  | 2, hq => cases hq; exact h2
  | 3, hq => cases hq; exact h3
  | 4, hq => cases hq; exact h4
  | 5, hq => cases hq; exact h5
  | 6, hq => cases hq; exact h6
  | 7, hq => cases hq; exact h7
  | 8, hq => cases hq; exact h8
  | 9, hq => cases hq; exact h9
  | k + 10, hq => simp [vwCl] at hq
theorem wN9_of {args : Array Value} {s : State} (hts : ∀ w ∈ lw_tbl, w.before args s = true) : wN9 s := ⟨va_Nw.of rfl (hts _ (List.mem_of_getElem? (i := 60) (by decide +kernel))), va_Nw.of rfl (hts _ (List.mem_of_getElem? (i := 90) (by decide +kernel))), va_Nw.of rfl (hts _ (List.mem_of_getElem? (i := 121) (by decide +kernel))), va_Nw.of rfl (hts _ (List.mem_of_getElem? (i := 155) (by decide +kernel))), va_Nw.of rfl (hts _ (List.mem_of_getElem? (i := 189) (by decide +kernel))), va_Nw.of rfl (hts _ (List.mem_of_getElem? (i := 248) (by decide +kernel))), va_Nw.of rfl (hts _ (List.mem_of_getElem? (i := 269) (by decide +kernel))), va_Nw.of rfl (hts _ (List.mem_of_getElem? (i := 325) (by decide +kernel)))⟩
/-- the law, from its entry, when its picture over two blank rooms answers 1 -/
def goal1 : Prop := ∀ (L : Nat) (xs : Nat → Int32), L ≤ 260 → ∃ u : M2, f_L_law L xs (sg0, sg0) = some (1, u)
set_option maxHeartbeats 4000000 in
set_option maxRecDepth 100000 in
theorem whole_of (hgoal : goal1) {p : Program} {e : Env} {s : State} {m : MethodId} {below : List Frame} {meth : Method} {c : Code} (l : Launch) (hflags : l.flags = flags0) {b L : Nat} {xs : Nat → Int32} (hL : L ≤ 260) (C0 : lw_At p s m meth c b L xs) : W p l e room_1 s m #[Value.ref b] below meth c s.heap [] 0 0 (lw_Z below #[Value.ref b] s) (entryFrame m ([Value.ref b] : List Value).toArray 16) := by
  obtain ⟨hx, hb, hr, hml, hown, hts, hX, hbl, hlocks, hgv⟩ := C0
  obtain ⟨D, hD⟩ := classes_known hts
  obtain ⟨cI, hI1, hI2⟩ := arr_known .int (fun _ h => by cases h) (hts (.arrayClass .int) (List.mem_of_getElem? (i := 77) (by decide +kernel)))
  obtain ⟨g2, hg2⟩ : ∃ g2 : (ClassId × ClassId × ClassId) × va_G, g2 = ((cI, cI, cI), D) := ⟨_, rfl⟩
  have hK0 : ∀ a : Nat → Nat, va_K g2.2 vwCl (tysG (a, g2)) s := by
    intro a
    subst hg2
    refine ⟨hD, fun k q hk => ?_⟩
    match k, hk with
    | 0, hk => cases hk; exact ⟨hI1, hI2⟩
    | k + 1, hk => simp [tysG] at hk
  have hA0 : ∀ q : Nat, s.heap.size ≤ q → (fun q : Nat => s.heap.size ≤ q) q := fun _ h => h
  -- the makings
  have K : Kx (p, l, e, room_1, s, m, #[Value.ref b], below, meth, c, lw_Z below #[Value.ref b] s, (fun _ => 0, g2), fun q : Nat => s.heap.size ≤ q) cL_law RL lw_tbl 16 10 380 600130 7301079 := ⟨hx, hb, hml, hown, hts, hK0 _, hA0, Nat.le_refl _, Nat.le_refl _, Nat.le_refl _, Nat.le_refl _⟩
  have main : Bc (p, l, e, room_1, s, m, #[Value.ref b], below, meth, c, lw_Z below #[Value.ref b] s, (fun _ => 0, g2), fun q : Nat => s.heap.size ≤ q) 16 0 0 0 [(0, .ref b)] [] [] := by
    refine k_new K (fs := [.null, .null, .null, .null, .null, .null, .null, .null, .null, .null, .int 0, .int 0, .int 0, .int 0, .int 0]) (ci := 9) (fun w h => (gF_wsX90 w h).1) tyX9 tyX9_ok (List.mem_of_getElem? (i := 50) (by decide +kernel)) (List.mem_of_getElem? (i := 51) (by decide +kernel)) (List.mem_of_getElem? (i := 32) (by decide +kernel)) rfl (fun j hj => by rcases (show j = 0 ∨ j = 1 ∨ j = 2 ∨ j = 3 ∨ j = 4 ∨ j = 5 ∨ j = 6 ∨ j = 7 ∨ j = 8 ∨ j = 9 ∨ j = 10 ∨ j = 11 ∨ j = 12 ∨ j = 13 ∨ j = 14 by omega) with rfl | rfl | rfl | rfl | rfl | rfl | rfl | rfl | rfl | rfl | rfl | rfl | rfl | rfl | rfl <;> rfl) (Nat.le_of_ble_eq_true rfl) (Nat.le_of_ble_eq_true rfl) dL_law_0 (fun q1 => ?_)
    refine k_dup K dL_law_3 rfl ?_
    refine k_callI (n := 0) K _ [] c_X9_init wN9.blind (fun U hW => wN9.warm hW (wN9_of hts)) gF_wsX9_init (List.mem_of_getElem? (i := 32) (by decide +kernel)) (List.mem_of_getElem? (i := 52) (by decide +kernel)) (List.mem_of_getElem? (i := 53) (by decide +kernel)) rfl rfl (by decide +kernel) rfl (by decide) (by decide) (Nat.le_of_ble_eq_true rfl) (Nat.le_of_ble_eq_true rfl) (Nat.le_of_ble_eq_true rfl) dL_law_4 (fun f1 => ?_)
    refine k_astore_n (lv' := [(1, .ref q1), (0, .ref b)]) K dL_law_7 rfl (by decide) rfl ?_
    refine k_new K (fs := [.null, .null, .null, .null, .null, .null, .null, .null, .null, .null, .int 0, .int 0, .int 0, .int 0, .int 0]) (ci := 9) (fun w h => (gF_wsX90 w h).1) tyX9 tyX9_ok (List.mem_of_getElem? (i := 50) (by decide +kernel)) (List.mem_of_getElem? (i := 51) (by decide +kernel)) (List.mem_of_getElem? (i := 32) (by decide +kernel)) rfl (fun j hj => by rcases (show j = 0 ∨ j = 1 ∨ j = 2 ∨ j = 3 ∨ j = 4 ∨ j = 5 ∨ j = 6 ∨ j = 7 ∨ j = 8 ∨ j = 9 ∨ j = 10 ∨ j = 11 ∨ j = 12 ∨ j = 13 ∨ j = 14 by omega) with rfl | rfl | rfl | rfl | rfl | rfl | rfl | rfl | rfl | rfl | rfl | rfl | rfl | rfl | rfl <;> rfl) (Nat.le_of_ble_eq_true rfl) (Nat.le_of_ble_eq_true rfl) dL_law_8 (fun q2 => ?_)
    refine k_dup K dL_law_11 rfl ?_
    refine k_callI (n := 0) K _ [] c_X9_init wN9.blind (fun U hW => wN9.warm hW (wN9_of hts)) gF_wsX9_init (List.mem_of_getElem? (i := 32) (by decide +kernel)) (List.mem_of_getElem? (i := 52) (by decide +kernel)) (List.mem_of_getElem? (i := 53) (by decide +kernel)) rfl rfl (by decide +kernel) rfl (by decide) (by decide) (Nat.le_of_ble_eq_true rfl) (Nat.le_of_ble_eq_true rfl) (Nat.le_of_ble_eq_true rfl) dL_law_12 (fun f2 => ?_)
    refine k_astore_n (lv' := [(2, .ref q2), (1, .ref q1), (0, .ref b)]) K dL_law_15 rfl (by decide) rfl ?_
    intro H locs ls hP hDD hS hl
    obtain ⟨p1, p2, k1, k2, a1, a2, dis⟩ := geo_2 (g2 := g2) (q1 := q1) (q2 := q2) (f1 := f1) (f2 := f2) hP hDD
    obtain ⟨u, hu⟩ := hgoal L xs hL
    refine w_L_law (X := ((p, l, e, room_1, s, m, #[Value.ref b], below, meth, c, lw_Z below #[Value.ref b] s, G00 g2 q1 f1, fun q : Nat => s.heap.size ≤ q), G00 g2 q2 f2)) (b := b) (rv := (1, u)) L xs ⟨⟨hx, hb, hml, hown, hts, ⟨hK0 _, trivial⟩, k1, a1, hA0, Nat.le_refl _, Nat.le_refl _⟩, ⟨hK0 _, trivial⟩, k2, a2, dis, hX, hbl, Nat.not_le.mpr hbl, Nat.le_of_ble_eq_true rfl, Nat.le_of_ble_eq_true rfl, hL⟩ ?_ (sg0, sg0) hu.symm H locs ls p1 p2 hS hl
    intro pc lv v σ dd hv H9 locs9 ls9 hP9 hP29 hS9 hl9
    obtain ⟨-, hv⟩ := gd_inv hv
    obtain ⟨rfl, rfl⟩ := Prod.mk.inj (Option.some.inj hv)
    refine va_forget (fun q hq => hS9.2.2 q hq) ?_
    refine W.widen (k := 600130) (n := 7301079) (Nat.le_of_ble_eq_true rfl) (Nat.le_of_ble_eq_true rfl) ?_
    exact lw_ret hx hb hr hlocks dd
  have hl := lv_entry ([.ref b]) (n := 16) (Nat.le_of_ble_eq_true rfl)
  rw [lg_entry_eq]
  exact main s.heap [] _ (fun k q h => by simp at h) ⟨fun i j p q h => by simp at h, fun k q h => by simp at h⟩ va_S.rf hl
