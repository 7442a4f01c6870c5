/-! printed by wip/whole/gen/start.py -/
section BC2
variable {X : Ctx} {cc : ByteArray} {own : String} {Ts : List Cond} {nL fr lo mc ms : Nat} {kc ks pc : Nat} {lv lv' : List (Nat × Value)} {st : List Value} {ws : va_W}
theorem k_istore (K : Kx X cc own Ts nL fr lo mc ms) {i : Nat} {x : Int32} (d : decode cc pc = .ok (.istore i, 2)) (hn : i < nL) (hlv : (i, Value.int x) :: lv.filter (fun q => !(q.1 == i) && !(q.1 + 1 == i && q.2.category == 2)) = lv') (kk : Bc X nL kc ks (pc + 2) lv' st ws) : Bc X nL kc ks pc lv (.int x :: st) ws := by
  obtain ⟨p, l, e, R, s, m, args, below, meth, c, Q, G, A⟩ := X
  obtain ⟨hx, hb, hml, hown, hts, hK, hA, hfr, hlo, hmc, hms⟩ := K
  intro H locs ls hP hD hS hl
  exact lv_istore hx hb d hl hn hlv (fun ls' hl' => kk H locs ls' hP hD hS hl')
theorem k_newJ (K : Kx X cc own Ts nL fr lo mc ms) (w1 : (Cond.arrayClass .long) ∈ Ts) {n : Int32} {N : Nat} (hn : ¬ n < 0) (hN : n.toNatClampNeg = N) (hbt : N * componentBytes .long ≤ 536870912) (h1 : kc + 1 ≤ mc) (h2 : ks + N ≤ ms) (d : decode cc pc = .ok (.newarray .long, 2)) (kk : ∀ q : Nat, Bc X nL (kc + 1) (ks + N) (pc + 2) lv (.ref q :: st) (ws ++ [(q, .inl ((XG X).2.1.2.2, N, .inr (.inl (fun _ => 0))))])) : Bc X nL kc ks pc lv (.int n :: st) ws := by
  obtain ⟨p, l, e, R, s, m, args, below, meth, c, Q, G, A⟩ := X
  obtain ⟨hx, hb, hml, hown, hts, hK, hA, hfr, hlo, hmc, hms⟩ := K
  intro H locs ls hP hD hS hl
  refine va_newa (atype := .long) (ty := .long) (a0 := (N, .inr (.inl (fun _ => 0)))) hx hb (hts _ w1) rfl hK hP hD hS hA (fun _ => rfl) hn hN hbt (Nat.le_trans h1 hmc) (Nat.le_trans h2 hms) d (fun q cA H1 hK1 hP1 hD1 hS1 => ?_)
  have e : cA = G.2.1.2.2 := Option.some.inj ((hK1.2 3 (cA, .long) rfl).2.symm.trans (hK.2 2 (G.2.1.2.2, .long) rfl).2)
  subst e
  exact kk q H1 locs ls hP1 hD1 hS1 hl
end BC2
theorem arr_known {args : Array Value} {s : State} (ty : FieldType) (hne : ∀ C, ty ≠ .object C) (h : (Cond.arrayClass ty).before args s = true) : ∃ cA : ClassId, ArrOfT s cA ty ∧ va_RA s cA ty := by
  obtain ⟨cA, kA, comp, hfind, hk, hkind⟩ := Cond.arrayClass_spec h
  refine ⟨cA, fun n z => ⟨fun k h => (by cases h), kA, hk, comp, hkind⟩, ?_⟩
  cases ty with
  | object C => exact absurd rfl (hne C)
  | _ => exact hfind
set_option maxHeartbeats 4000000 in
set_option maxRecDepth 100000 in
theorem classes_known {args : Array Value} {s : State} (hts : ∀ w ∈ lw_tbl, w.before args s = true) : ∃ D : va_G, ∀ (k : Nat) (q : vw_C), vwCl[k]? = some q → u_Kn s q.1 q.2.1 q.2.2 (D.1 k) (D.2 k) := by
  obtain ⟨c0, i0, h0⟩ := u_known (C := RX0) (T := TX0) (N := 6) (n := 6) hts (fun w h => (gF_wsX00 w h).1) (hts (.instantiable RX0 6) (List.mem_of_getElem? (i := 117) (by decide +kernel)))
  obtain ⟨c1, i1, h1⟩ := u_known (C := RX1) (T := TX1) (N := 2) (n := 2) hts (fun w h => (gF_wsX10 w h).1) (hts (.instantiable RX1 2) (List.mem_of_getElem? (i := 87) (by decide +kernel)))
  obtain ⟨c2, i2, h2⟩ := u_known (C := RX2) (T := TX2) (N := 12) (n := 12) hts (fun w h => (gF_wsX20 w h).1) (hts (.instantiable RX2 12) (List.mem_of_getElem? (i := 298) (by decide +kernel)))
  obtain ⟨c3, i3, h3⟩ := u_known (C := RX3) (T := TX3) (N := 7) (n := 7) hts (fun w h => (gF_wsX30 w h).1) (hts (.instantiable RX3 7) (List.mem_of_getElem? (i := 182) (by decide +kernel)))
  obtain ⟨c4, i4, h4⟩ := u_known (C := RX4) (T := TX4) (N := 13) (n := 13) hts (fun w h => (gF_wsX40 w h).1) (hts (.instantiable RX4 13) (List.mem_of_getElem? (i := 217) (by decide +kernel)))
  obtain ⟨c5, i5, h5⟩ := u_known (C := RX5) (T := TX5) (N := 1) (n := 1) hts (fun w h => (gF_wsX50 w h).1) (hts (.instantiable RX5 1) (List.mem_of_getElem? (i := 93) (by decide +kernel)))
  obtain ⟨c6, i6, h6⟩ := u_known (C := RX6) (T := TX6) (N := 8) (n := 8) hts (fun w h => (gF_wsX60 w h).1) (hts (.instantiable RX6 8) (List.mem_of_getElem? (i := 148) (by decide +kernel)))
  obtain ⟨c7, i7, h7⟩ := u_known (C := RX7) (T := TX7) (N := 3) (n := 3) hts (fun w h => (gF_wsX70 w h).1) (hts (.instantiable RX7 3) (List.mem_of_getElem? (i := 277) (by decide +kernel)))
  obtain ⟨c8, i8, h8⟩ := u_known (C := RX8) (T := TX8) (N := 7) (n := 7) hts (fun w h => (gF_wsX80 w h).1) (hts (.instantiable RX8 7) (List.mem_of_getElem? (i := 354) (by decide +kernel)))
  obtain ⟨c9, i9, h9⟩ := u_known (C := RX9) (T := TX9) (N := 15) (n := 15) hts (fun w h => (gF_wsX90 w h).1) (hts (.instantiable RX9 15) (List.mem_of_getElem? (i := 79) (by decide +kernel)))
  obtain ⟨c10, i10, h10⟩ := u_known (C := RX10) (T := TX10) (N := 41) (n := 41) hts (fun w h => (gF_wsX100 w h).1) (hts (.instantiable RX10 41) (List.mem_of_getElem? (i := 1022) (by decide +kernel)))
  refine ⟨(fun k => match k with | 0 => c0 | 1 => c1 | 2 => c2 | 3 => c3 | 4 => c4 | 5 => c5 | 6 => c6 | 7 => c7 | 8 => c8 | 9 => c9 | _ => c10, fun k => match k with | 0 => i0 | 1 => i1 | 2 => i2 | 3 => i3 | 4 => i4 | 5 => i5 | 6 => i6 | 7 => i7 | 8 => i8 | 9 => i9 | _ => i10), fun k q hq => ?_⟩
  match k, hq with
  | 0, hq => cases hq; exact h0
  | 1, hq => cases hq; exact h1
  | 2, hq => cases hq; exact h2
  | 3, hq => cases hq; exact h3
  | 4, hq => cases hq; exact h4
  | 5, hq => cases hq; exact h5
  | 6, hq => cases hq; exact h6
  | 7, hq => cases hq; exact h7
  | 8, hq => cases hq; exact h8
  | 9, hq => cases hq; exact h9
  | 10, hq => cases hq; exact h10
  | k + 11, hq => simp [vwCl] at hq
theorem wN9_of {args : Array Value} {s : State} (hts : ∀ w ∈ lw_tbl, w.before args s = true) : wN9 s := ⟨va_Nw.of rfl (hts _ (List.mem_of_getElem? (i := 88) (by decide +kernel))), va_Nw.of rfl (hts _ (List.mem_of_getElem? (i := 118) (by decide +kernel))), va_Nw.of rfl (hts _ (List.mem_of_getElem? (i := 149) (by decide +kernel))), va_Nw.of rfl (hts _ (List.mem_of_getElem? (i := 183) (by decide +kernel))), va_Nw.of rfl (hts _ (List.mem_of_getElem? (i := 218) (by decide +kernel))), va_Nw.of rfl (hts _ (List.mem_of_getElem? (i := 278) (by decide +kernel))), va_Nw.of rfl (hts _ (List.mem_of_getElem? (i := 299) (by decide +kernel))), va_Nw.of rfl (hts _ (List.mem_of_getElem? (i := 355) (by decide +kernel)))⟩
theorem wN_of {args : Array Value} {s : State} (hts : ∀ w ∈ lw_tbl, w.before args s = true) : wN s := va_Nw.of rfl (hts _ (List.mem_of_getElem? (i := 488) (by decide +kernel)))
theorem wT_of {args : Array Value} {s : State} {A : Nat → Prop} (hts : ∀ w ∈ lw_tbl, w.before args s = true) (h1 : (Cond.isRef (.static Bundle.tN "UNASSIGNED_STACK" Bundle.steD)).before args s = true) (h2 : (Cond.isRef (.static Bundle.tN "SUPPRESSED_SENTINEL" Bundle.listD)).before args s = true) (hA : ∀ a : Nat, a < s.heap.size → ¬ A a) : wT A s s.heap :=
  ⟨⟨⟨vx_Zqof (hts _ (List.mem_of_getElem? (i := 541) (by decide +kernel))) (hts _ (List.mem_of_getElem? (i := 71) (by decide +kernel))) h1 hA, vx_Zqof (hts _ (List.mem_of_getElem? (i := 543) (by decide +kernel))) (hts _ (List.mem_of_getElem? (i := 71) (by decide +kernel))) h2 hA⟩, va_Nw.of rfl (hts _ (List.mem_of_getElem? (i := 517) (by decide +kernel))), va_Nw.of rfl (hts _ (List.mem_of_getElem? (i := 519) (by decide +kernel))), va_Nw.of rfl (hts _ (List.mem_of_getElem? (i := 521) (by decide +kernel)))⟩, va_Nw.of rfl (hts _ (List.mem_of_getElem? (i := 516) (by decide +kernel))), va_Nw.of rfl (hts _ (List.mem_of_getElem? (i := 579) (by decide +kernel))), va_Nw.of rfl (hts _ (List.mem_of_getElem? (i := 618) (by decide +kernel)))⟩
theorem wNc_of {args : Array Value} {s : State} (h : (Jvm.Cond.and given_1 narrow_1).before args s = true) : wNc s :=
  ⟨va_Nc.of (flat_of_before _ h (.not (.castable (exN 1) (exN 2))) (by decide +kernel)), va_Nc.of (flat_of_before _ h (.not (.castable (exN 1) (exN 3))) (by decide +kernel)), va_Nc.of (flat_of_before _ h (.not (.castable (exN 2) (exN 1))) (by decide +kernel)), va_Nc.of (flat_of_before _ h (.not (.castable (exN 2) (exN 3))) (by decide +kernel)), va_Nc.of (flat_of_before _ h (.not (.castable (exN 3) (exN 1))) (by decide +kernel)), va_Nc.of (flat_of_before _ h (.not (.castable (exN 3) (exN 2))) (by decide +kernel))⟩
set_option maxHeartbeats 4000000 in
set_option maxRecDepth 100000 in
/-- the law, from its entry, over any invariant that holds of the first memory and that every call keeps -/
theorem whole_of {Inv : Mem → Prop} (hI0 : Inv sg0) (hst : ∀ σ, Inv σ → ∀ x1 x2 x3 k, k < 27 → Step Inv σ x1 x2 x3 k) {p : Program} {e : Env} {s : State} {m : MethodId} {below : List Frame} {meth : Method} {c : Code} (l : Launch) (hflags : l.flags = flags0) {b L : Nat} {xs : Nat → Int32} (hL : L ≤ 2048) (C0 : lw_At p s m meth c b L xs) : W p l e room_1 s m #[Value.ref b] below meth c s.heap [] 0 0 (lw_Z below #[Value.ref b] s) (entryFrame m ([Value.ref b] : List Value).toArray 7) := by
  obtain ⟨hx, hb, hr, hml, hown, hts, hX, hbl, hlocks, hgv⟩ := C0
  have hfl : l.stackTraces = false := by unfold Launch.stackTraces; rw [hflags]; decide +kernel
  obtain ⟨D, hD⟩ := classes_known hts
  obtain ⟨cI, hI1, hI2⟩ := arr_known .int (fun _ h => by cases h) (hts (.arrayClass .int) (List.mem_of_getElem? (i := 105) (by decide +kernel)))
  obtain ⟨cZ, hZ1, hZ2⟩ := arr_known .boolean (fun _ h => by cases h) (hts (.arrayClass .boolean) (List.mem_of_getElem? (i := 1151) (by decide +kernel)))
  obtain ⟨cJ, hJ1, hJ2⟩ := arr_known .long (fun _ h => by cases h) (hts (.arrayClass .long) (List.mem_of_getElem? (i := 1377) (by decide +kernel)))
  obtain ⟨g2, hg2⟩ : ∃ g2 : (ClassId × ClassId × ClassId) × va_G, g2 = ((cI, cZ, cJ), D) := ⟨_, rfl⟩
  have hK0 : ∀ a : Nat → Nat, va_K g2.2 vwCl (tysG (a, g2)) s := by
    intro a
    subst hg2
    refine ⟨hD, fun k q hk => ?_⟩
    match k, hk with
    | 0, hk => cases hk; exact ⟨hI1, hI2⟩
    | 1, hk => cases hk; exact ⟨hZ1, hZ2⟩
    | 2, hk => cases hk; exact ⟨hJ1, hJ2⟩
    | k + 3, hk => simp [tysG] at hk
  have hA0 : ∀ q : Nat, s.heap.size ≤ q → (fun q : Nat => s.heap.size ≤ q) q := fun _ h => h
  have hNA : ∀ a : Nat, a < s.heap.size → ¬ (fun q : Nat => s.heap.size ≤ q) a := fun a h1 h2 => Nat.not_le.mpr h1 h2
  have hT : wT (fun q : Nat => s.heap.size ≤ q) s s.heap := wT_of hts (flat_of_before _ hgv _ (by decide +kernel)) (flat_of_before _ hgv _ (by decide +kernel)) hNA
  -- the loop, from any geometry
  have loop : ∀ G : Geo, G.2 = g2 → gok G → (∀ i, i < 130 → s.heap.size ≤ G.1 i) → Bk (p, l, e, room_1, s, m, #[Value.ref b], below, meth, c, lw_Z below #[Value.ref b] s, G, fun q : Nat => s.heap.size ≤ q) 7 0 130 9439 23 [(0, .ref b), (1, .ref (G.1 9)), (2, .ref (G.1 10)), (3, .ref (G.1 5)), (4, .int (nI 0))] [] sg0 := by
    intro G hG2 hG hAi
    refine lw_loop (X := (p, l, e, room_1, s, m, #[Value.ref b], below, meth, c, lw_Z below #[Value.ref b] s, G, fun q : Nat => s.heap.size ≤ q)) (Inv := Inv) (L := L) (xs := xs) ⟨hx, hb, hml, hown, hts, ⟨?_, wN_of hts⟩, hG, hAi, hA0, Nat.le_of_ble_eq_true rfl, Nat.le_of_ble_eq_true rfl⟩ ⟨hfl, hT, wNc_of hgv, Nat.le_refl _, Nat.le_refl _, hX, hbl, Nat.not_le.mpr hbl⟩ hL hst ?_ (L + 2) 0 0 130 9439 sg0 (Nat.zero_le _) (by omega) (by omega) (by omega) hI0
    · have := hK0 G.1
      rw [← hG2] at this
      exact this
    · intro o kc ks lv σ h1 h2 H locs ls hP hS hl
      refine va_forget (fun q hq => hS.2.2 q hq) ?_
      refine W.widen (k := 601024) (n := 7293034) h1 h2 ?_
      exact lw_ret hx hb hr hlocks dL_law_1904
  -- the makings
  have K : Kx (p, l, e, room_1, s, m, #[Value.ref b], below, meth, c, lw_Z below #[Value.ref b] s, (fun _ => 0, g2), fun q : Nat => s.heap.size ≤ q) cL_law RL lw_tbl 7 12 472 601024 7293034 := ⟨hx, hb, hml, hown, hts, hK0 _, hA0, Nat.le_refl _, Nat.le_refl _, Nat.le_refl _, Nat.le_refl _⟩
  have main : Bc (p, l, e, room_1, s, m, #[Value.ref b], below, meth, c, lw_Z below #[Value.ref b] s, (fun _ => 0, g2), fun q : Nat => s.heap.size ≤ q) 7 0 0 0 [(0, .ref b)] [] [] := by
    refine k_new K (fs := [.null, .null, .null, .null, .null, .null, .null, .null, .null, .null, .int 0, .int 0, .int 0, .int 0, .int 0]) (ci := 9) (fun w h => (gF_wsX90 w h).1) tyX9 tyX9_ok (List.mem_of_getElem? (i := 78) (by decide +kernel)) (List.mem_of_getElem? (i := 79) (by decide +kernel)) (List.mem_of_getElem? (i := 59) (by decide +kernel)) rfl (fun j hj => by rcases (show j = 0 ∨ j = 1 ∨ j = 2 ∨ j = 3 ∨ j = 4 ∨ j = 5 ∨ j = 6 ∨ j = 7 ∨ j = 8 ∨ j = 9 ∨ j = 10 ∨ j = 11 ∨ j = 12 ∨ j = 13 ∨ j = 14 by omega) with rfl | rfl | rfl | rfl | rfl | rfl | rfl | rfl | rfl | rfl | rfl | rfl | rfl | rfl | rfl <;> rfl) (Nat.le_of_ble_eq_true rfl) (Nat.le_of_ble_eq_true rfl) dL_law_0 (fun q9 => ?_)
    refine k_dup K dL_law_3 rfl ?_
    refine k_callI (n := 0) K _ [] c_X9_init wN9.blind (fun U hW => wN9.warm hW (wN9_of hts)) gF_wsX9_init (List.mem_of_getElem? (i := 59) (by decide +kernel)) (List.mem_of_getElem? (i := 80) (by decide +kernel)) (List.mem_of_getElem? (i := 81) (by decide +kernel)) rfl rfl (by decide +kernel) rfl (by decide) (by decide) (Nat.le_of_ble_eq_true rfl) (Nat.le_of_ble_eq_true rfl) (Nat.le_of_ble_eq_true rfl) dL_law_4 (fun f9 => ?_)
    refine k_astore_n (lv' := [(1, .ref q9), (0, .ref b)]) K dL_law_7 rfl (by decide) rfl ?_
    refine k_new K (fs := [.int 0, .int 0, .null, .int 0, .int 0, .null, .null, .null, .null, .null, .null, .int 0, .null, .null, .null, .null, .null, .int 0, .null, .null, .null, .null, .null, .null, .null, .null, .null, .int 0, .null, .null, .int 0, .null, .null, .null, .null, .null, .null, .null, .null, .null, .null]) (ci := 10) (fun w h => (gF_wsX100 w h).1) tyX10 tyX10_ok (List.mem_of_getElem? (i := 1021) (by decide +kernel)) (List.mem_of_getElem? (i := 1022) (by decide +kernel)) (List.mem_of_getElem? (i := 70) (by decide +kernel)) rfl (fun j hj => by rcases (show j = 0 ∨ j = 1 ∨ j = 2 ∨ j = 3 ∨ j = 4 ∨ j = 5 ∨ j = 6 ∨ j = 7 ∨ j = 8 ∨ j = 9 ∨ j = 10 ∨ j = 11 ∨ j = 12 ∨ j = 13 ∨ j = 14 ∨ j = 15 ∨ j = 16 ∨ j = 17 ∨ j = 18 ∨ j = 19 ∨ j = 20 ∨ j = 21 ∨ j = 22 ∨ j = 23 ∨ j = 24 ∨ j = 25 ∨ j = 26 ∨ j = 27 ∨ j = 28 ∨ j = 29 ∨ j = 30 ∨ j = 31 ∨ j = 32 ∨ j = 33 ∨ j = 34 ∨ j = 35 ∨ j = 36 ∨ j = 37 ∨ j = 38 ∨ j = 39 ∨ j = 40 by omega) with rfl | rfl | rfl | rfl | rfl | rfl | rfl | rfl | rfl | rfl | rfl | rfl | rfl | rfl | rfl | rfl | rfl | rfl | rfl | rfl | rfl | rfl | rfl | rfl | rfl | rfl | rfl | rfl | rfl | rfl | rfl | rfl | rfl | rfl | rfl | rfl | rfl | rfl | rfl | rfl | rfl <;> rfl) (Nat.le_of_ble_eq_true rfl) (Nat.le_of_ble_eq_true rfl) dL_law_8 (fun q10 => ?_)
    refine k_dup K dL_law_11 rfl ?_
    refine k_callI (n := 0) K _ [] c_X10_init (fun _ _ _ _ _ => trivial) (fun _ _ => trivial) gF_wsX10_init (List.mem_of_getElem? (i := 70) (by decide +kernel)) (List.mem_of_getElem? (i := 1023) (by decide +kernel)) (List.mem_of_getElem? (i := 1024) (by decide +kernel)) rfl rfl (by decide +kernel) rfl (by decide) (by decide) (Nat.le_of_ble_eq_true rfl) (Nat.le_of_ble_eq_true rfl) (Nat.le_of_ble_eq_true rfl) dL_law_12 (fun f10 => ?_)
    refine k_astore_n (lv' := [(2, .ref q10), (1, .ref q9), (0, .ref b)]) K dL_law_15 rfl (by decide) rfl ?_
    refine k_iconst K (v := 1) dL_law_16 (by decide) ?_
    refine k_newJ K (List.mem_of_getElem? (i := 1377) (by decide +kernel)) (N := 1) (by decide) (by decide) (by decide) (Nat.le_of_ble_eq_true rfl) (Nat.le_of_ble_eq_true rfl) dL_law_17 (fun qo => ?_)
    refine k_astore_n (lv' := [(3, .ref qo), (2, .ref q10), (1, .ref q9), (0, .ref b)]) K dL_law_19 rfl (by decide) rfl ?_
    refine k_iconst K (v := 0) dL_law_20 (by decide) ?_
    refine k_istore (lv' := [(4, .int 0), (3, .ref qo), (2, .ref q10), (1, .ref q9), (0, .ref b)]) K dL_law_21 (by decide) rfl ?_
    intro H locs ls hP hDD hS hl
    have hP2 := geo_P g2 q9 q10 qo f9 f10 (H := H) hP
    obtain ⟨hG, hAi⟩ := geo_D g2 q9 q10 qo f9 f10 hDD
    exact loop (G00 g2 q9 q10 qo f9 f10) rfl hG hAi H locs ls hP2 hS (lv_sub hl [4, 3, 2, 1, 0] rfl)
  have hl := lv_entry ([.ref b]) (n := 7) (Nat.le_of_ble_eq_true rfl)
  rw [lg_entry_eq]
  exact main s.heap [] _ (fun k q h => by simp at h) ⟨fun i j p q h => by simp at h, fun k q h => by simp at h⟩ va_S.rf hl
