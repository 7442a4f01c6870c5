/-! printed by wip/p30/gen/ctor.py -/
def outX5 (n : Nat) (G : Geo) (h0 : Nat) (f : Nat → Nat) : va_W := [(h0, .inr (5, [.ref (f 0)])), (f 0, .inl (G.2.1.1, n, .inl (fun _ => 0)))]
theorem hiX5_init_5 : ∀ w ∈ wsX50, w ∈ wsX5_init := by decide +kernel
set_option maxHeartbeats 4000000 in
set_option maxRecDepth 100000 in
theorem c_X5_init (x : Int32) (N : Nat) (hx0 : (if x < 0 then (0 : Int32) else x) = x) (h0x : ¬ x < 0) (hN : x.toNatClampNeg = N) (hb9 : N ≤ 10000) (l : Launch) : Cin l yX5_init wsX5_init 1 14 1 N 5 [.null] [.int x] (fun _ => True) (outX5 N) := by
  refine mk_in (cc := cX5_init) (nL := 2) (own := RX5) (by decide) rfl rfl rfl (fun _ => Nat.le_of_ble_eq_true rfl) (fun X h0 K hi9 _ hR => ?_)
  show Bc X 2 0 0 0 [(0, .ref h0), (1, .int x)] [] [(h0, .inr (5, [.null]))]
  refine k_aload_n K dX5_init_0 rfl 0 rfl ?_
  refine k_objInit K (by decide +kernel) (by decide +kernel) (by decide +kernel) dX5_init_1 (by decide) (by decide) ?_
  refine k_aload_n K dX5_init_4 rfl 0 rfl ?_
  refine k_iload_n K dX5_init_5 rfl 1 rfl ?_
  refine k_iconst K (v := 0) dX5_init_6 (by decide) ?_
  refine k_mmax K (by decide +kernel) (by decide +kernel) (by decide +kernel) (by decide +kernel) (by decide) (Nat.le_of_ble_eq_true rfl) (Nat.zero_le _) (Nat.zero_le _) dX5_init_7 ?_
  rw [hx0]
  refine k_newI K (by decide +kernel) h0x hN (by show N * 4 ≤ 536870912; omega) (Nat.le_refl _) (Nat.le_of_eq (Nat.zero_add N)) dX5_init_10 (fun q => ?_)
  refine k_putF K hi9 (ty := .array .int) (fs' := [.ref q]) hiX5_init_5 tyX5 tyX5_ok nmX5 5 0 rfl (by decide) (by decide +kernel) rfl rfl (by decide +kernel) rfl rfl (by decide) rfl dX5_init_12 ?_
  exact hR _ _ _ _ (fun _ => q) (Nat.le_refl _) (Nat.le_of_eq (Nat.zero_add N)) dX5_init_15
def outX1 (G : Geo) (h0 : Nat) (f : Nat → Nat) : va_W := [(h0, .inr (1, [.ref (f 0), .int 0])), (f 0, .inr (5, [.ref (f 1)])), (f 1, .inl (G.2.1.1, 40, .inl (fun _ => 0)))]
theorem hiX1_init_1 : ∀ w ∈ wsX10, w ∈ wsX1_init := by decide +kernel
theorem hiX1_init_5 : ∀ w ∈ wsX50, w ∈ wsX1_init := by decide +kernel
theorem mX1_init_o1 : Cond.methodLink RX1 1 objectInit ∈ wsX1_init := by decide +kernel
theorem mX1_init_o2 : Cond.instanceMethod objectInit ∈ wsX1_init := by decide +kernel
theorem mX1_init_o3 : Cond.code objectInit ⟨#[0xb1]⟩ 1 none ∈ wsX1_init := by decide +kernel
theorem mX1_init_n1 : Cond.classLink RX1 7 RX5 ∈ wsX1_init := by decide +kernel
theorem mX1_init_n2 : Cond.instantiable RX5 1 ∈ wsX1_init := by decide +kernel
theorem mX1_init_n3 : Cond.initialized RX5 ∈ wsX1_init := by decide +kernel
theorem mX1_init_n4 : Cond.initialized yX5_init.cls ∈ wsX1_init := by decide +kernel
theorem mX1_init_n5 : Cond.methodLink RX1 11 yX5_init ∈ wsX1_init := by decide +kernel
theorem mX1_init_n6 : Cond.instanceMethod yX5_init ∈ wsX1_init := by decide +kernel
theorem mX1_init_p0 : Cond.fieldLink RX1 14 RX1 (TX1 0).2.1 (TX1 0).2.2.1 ∈ wsX1_init := by decide +kernel
set_option maxHeartbeats 4000000 in
set_option maxRecDepth 100000 in
theorem c_X1_init (l : Launch) : Cin l yX1_init wsX1_init 2 35 2 41 1 [.null, .int 0] [] (fun _ => True) outX1 := by
  refine mk_in (cc := cX1_init) (nL := 1) (own := RX1) (by decide) rfl rfl rfl (fun _ => Nat.le_of_ble_eq_true rfl) (fun X h0 K hi9 _ hR => ?_)
  show Bc X 1 0 0 0 [(0, .ref h0)] [] [(h0, .inr (1, [.null, .int 0]))]
  refine k_aload_n K dX1_init_0 rfl 0 rfl ?_
  refine k_objInit K mX1_init_o1 mX1_init_o2 mX1_init_o3 dX1_init_1 (by decide) (by decide) ?_
  refine k_aload_n K dX1_init_4 rfl 0 rfl ?_
  refine k_new K (fs := [.null]) (ci := 5) hiX1_init_5 tyX5 tyX5_ok mX1_init_n1 mX1_init_n2 mX1_init_n3 rfl (fun j hj => by rcases (show j = 0 by omega) with rfl; rfl) (by decide) (by decide) dX1_init_5 (fun q0 => ?_)
  refine k_dup K dX1_init_8 rfl ?_
  refine k_bipush K (v := 40) dX1_init_9 (by decide) ?_
  refine k_callI (n := 1) K _ [.int 40] (c_X5_init 40 40 (by decide) (by decide) (by decide) (by decide)) (fun _ _ _ _ _ => trivial) (fun _ _ => trivial) gX1_init_X5_init mX1_init_n4 mX1_init_n5 mX1_init_n6 rfl rfl (by decide +kernel) rfl (by decide) (by decide) (Nat.le_of_ble_eq_true rfl) (by decide) (by decide) dX1_init_11 (fun f0 => ?_)
  refine k_ws (ws' := [(h0, .inr (1, [.null, .int 0])), (q0, .inr (5, [.ref (f0 0)])), (f0 0, .inl ((XG X).2.1.1, 40, .inl (fun _ => 0)))]) rfl ?_
  refine k_putF K hi9 (ty := .object "ScriptRoom$Row") (fs' := [.ref q0, .int 0]) hiX1_init_1 tyX1 tyX1_ok nmX1 1 0 rfl (by decide) mX1_init_p0 rfl rfl (by decide +kernel) rfl rfl (Nat.le_of_ble_eq_true rfl) rfl dX1_init_14 ?_
  exact hR _ _ _ _ (fun k => [q0, f0 0].getD k 0) (by decide) (by decide) dX1_init_17
def outX0 (G : Geo) (h0 : Nat) (f : Nat → Nat) : va_W := [(h0, .inr (0, [.ref (f 0), .int 0, .int 0, .int 0, .int 0, .int 0])), (f 0, .inr (5, [.ref (f 1)])), (f 1, .inl (G.2.1.1, 80, .inl (fun _ => 0)))]
theorem hiX0_init_0 : ∀ w ∈ wsX00, w ∈ wsX0_init := by decide +kernel
theorem hiX0_init_5 : ∀ w ∈ wsX50, w ∈ wsX0_init := by decide +kernel
theorem mX0_init_o1 : Cond.methodLink RX0 5 objectInit ∈ wsX0_init := by decide +kernel
theorem mX0_init_o2 : Cond.instanceMethod objectInit ∈ wsX0_init := by decide +kernel
theorem mX0_init_o3 : Cond.code objectInit ⟨#[0xb1]⟩ 1 none ∈ wsX0_init := by decide +kernel
theorem mX0_init_n1 : Cond.classLink RX0 11 RX5 ∈ wsX0_init := by decide +kernel
theorem mX0_init_n2 : Cond.instantiable RX5 1 ∈ wsX0_init := by decide +kernel
theorem mX0_init_n3 : Cond.initialized RX5 ∈ wsX0_init := by decide +kernel
theorem mX0_init_n4 : Cond.initialized yX5_init.cls ∈ wsX0_init := by decide +kernel
theorem mX0_init_n5 : Cond.methodLink RX0 15 yX5_init ∈ wsX0_init := by decide +kernel
theorem mX0_init_n6 : Cond.instanceMethod yX5_init ∈ wsX0_init := by decide +kernel
theorem mX0_init_p0 : Cond.fieldLink RX0 18 RX0 (TX0 0).2.1 (TX0 0).2.2.1 ∈ wsX0_init := by decide +kernel
set_option maxHeartbeats 4000000 in
set_option maxRecDepth 100000 in
theorem c_X0_init (l : Launch) : Cin l yX0_init wsX0_init 2 35 2 81 0 [.null, .int 0, .int 0, .int 0, .int 0, .int 0] [] (fun _ => True) outX0 := by
  refine mk_in (cc := cX0_init) (nL := 1) (own := RX0) (by decide) rfl rfl rfl (fun _ => Nat.le_of_ble_eq_true rfl) (fun X h0 K hi9 _ hR => ?_)
  show Bc X 1 0 0 0 [(0, .ref h0)] [] [(h0, .inr (0, [.null, .int 0, .int 0, .int 0, .int 0, .int 0]))]
  refine k_aload_n K dX0_init_0 rfl 0 rfl ?_
  refine k_objInit K mX0_init_o1 mX0_init_o2 mX0_init_o3 dX0_init_1 (by decide) (by decide) ?_
  refine k_aload_n K dX0_init_4 rfl 0 rfl ?_
  refine k_new K (fs := [.null]) (ci := 5) hiX0_init_5 tyX5 tyX5_ok mX0_init_n1 mX0_init_n2 mX0_init_n3 rfl (fun j hj => by rcases (show j = 0 by omega) with rfl; rfl) (by decide) (by decide) dX0_init_5 (fun q0 => ?_)
  refine k_dup K dX0_init_8 rfl ?_
  refine k_bipush K (v := 80) dX0_init_9 (by decide) ?_
  refine k_callI (n := 1) K _ [.int 80] (c_X5_init 80 80 (by decide) (by decide) (by decide) (by decide)) (fun _ _ _ _ _ => trivial) (fun _ _ => trivial) gX0_init_X5_init mX0_init_n4 mX0_init_n5 mX0_init_n6 rfl rfl (by decide +kernel) rfl (by decide) (by decide) (Nat.le_of_ble_eq_true rfl) (by decide) (by decide) dX0_init_11 (fun f0 => ?_)
  refine k_ws (ws' := [(h0, .inr (0, [.null, .int 0, .int 0, .int 0, .int 0, .int 0])), (q0, .inr (5, [.ref (f0 0)])), (f0 0, .inl ((XG X).2.1.1, 80, .inl (fun _ => 0)))]) rfl ?_
  refine k_putF K hi9 (ty := .object "ScriptRoom$Row") (fs' := [.ref q0, .int 0, .int 0, .int 0, .int 0, .int 0]) hiX0_init_0 tyX0 tyX0_ok nmX0 0 0 rfl (by decide) mX0_init_p0 rfl rfl (by decide +kernel) rfl rfl (Nat.le_of_ble_eq_true rfl) rfl dX0_init_14 ?_
  exact hR _ _ _ _ (fun k => [q0, f0 0].getD k 0) (by decide) (by decide) dX0_init_17
def outX6 (G : Geo) (h0 : Nat) (f : Nat → Nat) : va_W := [(h0, .inr (6, [.ref (f 0), .ref (f 2), .ref (f 4), .ref (f 6), .ref (f 8), .ref (f 10), .ref (f 12), .ref (f 14)])), (f 0, .inr (5, [.ref (f 1)])), (f 1, .inl (G.2.1.1, 4, .inl (fun _ => 0))), (f 2, .inr (5, [.ref (f 3)])), (f 3, .inl (G.2.1.1, 1920, .inl (fun _ => 0))), (f 4, .inr (5, [.ref (f 5)])), (f 5, .inl (G.2.1.1, 24, .inl (fun _ => 0))), (f 6, .inr (5, [.ref (f 7)])), (f 7, .inl (G.2.1.1, 24, .inl (fun _ => 0))), (f 8, .inr (5, [.ref (f 9)])), (f 9, .inl (G.2.1.1, 24, .inl (fun _ => 0))), (f 10, .inr (5, [.ref (f 11)])), (f 11, .inl (G.2.1.1, 5, .inl (fun _ => 0))), (f 12, .inr (5, [.ref (f 13)])), (f 13, .inl (G.2.1.1, 5, .inl (fun _ => 0))), (f 14, .inr (5, [.ref (f 15)])), (f 15, .inl (G.2.1.1, 5, .inl (fun _ => 0)))]
theorem hiX6_init_6 : ∀ w ∈ wsX60, w ∈ wsX6_init := by decide +kernel
theorem hiX6_init_5 : ∀ w ∈ wsX50, w ∈ wsX6_init := by decide +kernel
theorem mX6_init_o1 : Cond.methodLink RX6 7 objectInit ∈ wsX6_init := by decide +kernel
theorem mX6_init_o2 : Cond.instanceMethod objectInit ∈ wsX6_init := by decide +kernel
theorem mX6_init_o3 : Cond.code objectInit ⟨#[0xb1]⟩ 1 none ∈ wsX6_init := by decide +kernel
theorem mX6_init_n1 : Cond.classLink RX6 13 RX5 ∈ wsX6_init := by decide +kernel
theorem mX6_init_n2 : Cond.instantiable RX5 1 ∈ wsX6_init := by decide +kernel
theorem mX6_init_n3 : Cond.initialized RX5 ∈ wsX6_init := by decide +kernel
theorem mX6_init_n4 : Cond.initialized yX5_init.cls ∈ wsX6_init := by decide +kernel
theorem mX6_init_n5 : Cond.methodLink RX6 15 yX5_init ∈ wsX6_init := by decide +kernel
theorem mX6_init_n6 : Cond.instanceMethod yX5_init ∈ wsX6_init := by decide +kernel
theorem mX6_init_p0 : Cond.fieldLink RX6 18 RX6 (TX6 0).2.1 (TX6 0).2.2.1 ∈ wsX6_init := by decide +kernel
theorem mX6_init_p1 : Cond.fieldLink RX6 22 RX6 (TX6 1).2.1 (TX6 1).2.2.1 ∈ wsX6_init := by decide +kernel
theorem mX6_init_p2 : Cond.fieldLink RX6 25 RX6 (TX6 2).2.1 (TX6 2).2.2.1 ∈ wsX6_init := by decide +kernel
theorem mX6_init_p3 : Cond.fieldLink RX6 28 RX6 (TX6 3).2.1 (TX6 3).2.2.1 ∈ wsX6_init := by decide +kernel
theorem mX6_init_p4 : Cond.fieldLink RX6 31 RX6 (TX6 4).2.1 (TX6 4).2.2.1 ∈ wsX6_init := by decide +kernel
theorem mX6_init_p5 : Cond.fieldLink RX6 34 RX6 (TX6 5).2.1 (TX6 5).2.2.1 ∈ wsX6_init := by decide +kernel
theorem mX6_init_p6 : Cond.fieldLink RX6 37 RX6 (TX6 6).2.1 (TX6 6).2.2.1 ∈ wsX6_init := by decide +kernel
theorem mX6_init_p7 : Cond.fieldLink RX6 40 RX6 (TX6 7).2.1 (TX6 7).2.2.1 ∈ wsX6_init := by decide +kernel
set_option maxHeartbeats 4000000 in
set_option maxRecDepth 100000 in
theorem c_X6_init (l : Launch) : Cin l yX6_init wsX6_init 2 35 16 2019 6 [.null, .null, .null, .null, .null, .null, .null, .null] [] (fun _ => True) outX6 := by
  refine mk_in (cc := cX6_init) (nL := 1) (own := RX6) (by decide) rfl rfl rfl (fun _ => Nat.le_of_ble_eq_true rfl) (fun X h0 K hi9 _ hR => ?_)
  show Bc X 1 0 0 0 [(0, .ref h0)] [] [(h0, .inr (6, [.null, .null, .null, .null, .null, .null, .null, .null]))]
  refine k_aload_n K dX6_init_0 rfl 0 rfl ?_
  refine k_objInit K mX6_init_o1 mX6_init_o2 mX6_init_o3 dX6_init_1 (by decide) (by decide) ?_
  refine k_aload_n K dX6_init_4 rfl 0 rfl ?_
  refine k_new K (fs := [.null]) (ci := 5) hiX6_init_5 tyX5 tyX5_ok mX6_init_n1 mX6_init_n2 mX6_init_n3 rfl (fun j hj => by rcases (show j = 0 by omega) with rfl; rfl) (by decide) (by decide) dX6_init_5 (fun q0 => ?_)
  refine k_dup K dX6_init_8 rfl ?_
  refine k_iconst K (v := 4) dX6_init_9 (by decide) ?_
  refine k_callI (n := 1) K _ [.int 4] (c_X5_init 4 4 (by decide) (by decide) (by decide) (by decide)) (fun _ _ _ _ _ => trivial) (fun _ _ => trivial) gX6_init_X5_init mX6_init_n4 mX6_init_n5 mX6_init_n6 rfl rfl (by decide +kernel) rfl (by decide) (by decide) (Nat.le_of_ble_eq_true rfl) (by decide) (by decide) dX6_init_10 (fun f0 => ?_)
  refine k_ws (ws' := [(h0, .inr (6, [.null, .null, .null, .null, .null, .null, .null, .null])), (q0, .inr (5, [.ref (f0 0)])), (f0 0, .inl ((XG X).2.1.1, 4, .inl (fun _ => 0)))]) rfl ?_
  refine k_putF K hi9 (ty := .object "ScriptRoom$Row") (fs' := [.ref q0, .null, .null, .null, .null, .null, .null, .null]) hiX6_init_6 tyX6 tyX6_ok nmX6 6 0 rfl (by decide) mX6_init_p0 rfl rfl (by decide +kernel) rfl rfl (Nat.le_of_ble_eq_true rfl) rfl dX6_init_13 ?_
  refine k_aload_n K dX6_init_16 rfl 0 rfl ?_
  refine k_new K (fs := [.null]) (ci := 5) hiX6_init_5 tyX5 tyX5_ok mX6_init_n1 mX6_init_n2 mX6_init_n3 rfl (fun j hj => by rcases (show j = 0 by omega) with rfl; rfl) (by decide) (by decide) dX6_init_17 (fun q1 => ?_)
  refine k_dup K dX6_init_20 rfl ?_
  refine k_sipush K (v := 1920) dX6_init_21 (by decide) ?_
  refine k_callI (n := 1) K _ [.int 1920] (c_X5_init 1920 1920 (by decide) (by decide) (by decide) (by decide)) (fun _ _ _ _ _ => trivial) (fun _ _ => trivial) gX6_init_X5_init mX6_init_n4 mX6_init_n5 mX6_init_n6 rfl rfl (by decide +kernel) rfl (by decide) (by decide) (Nat.le_of_ble_eq_true rfl) (by decide) (by decide) dX6_init_24 (fun f1 => ?_)
  refine k_ws (ws' := [(h0, .inr (6, [.ref q0, .null, .null, .null, .null, .null, .null, .null])), (q0, .inr (5, [.ref (f0 0)])), (f0 0, .inl ((XG X).2.1.1, 4, .inl (fun _ => 0))), (q1, .inr (5, [.ref (f1 0)])), (f1 0, .inl ((XG X).2.1.1, 1920, .inl (fun _ => 0)))]) rfl ?_
  refine k_putF K hi9 (ty := .object "ScriptRoom$Row") (fs' := [.ref q0, .ref q1, .null, .null, .null, .null, .null, .null]) hiX6_init_6 tyX6 tyX6_ok nmX6 6 1 rfl (by decide) mX6_init_p1 rfl rfl (by decide +kernel) rfl rfl (Nat.le_of_ble_eq_true rfl) rfl dX6_init_27 ?_
  refine k_aload_n K dX6_init_30 rfl 0 rfl ?_
  refine k_new K (fs := [.null]) (ci := 5) hiX6_init_5 tyX5 tyX5_ok mX6_init_n1 mX6_init_n2 mX6_init_n3 rfl (fun j hj => by rcases (show j = 0 by omega) with rfl; rfl) (by decide) (by decide) dX6_init_31 (fun q2 => ?_)
  refine k_dup K dX6_init_34 rfl ?_
  refine k_bipush K (v := 24) dX6_init_35 (by decide) ?_
  refine k_callI (n := 1) K _ [.int 24] (c_X5_init 24 24 (by decide) (by decide) (by decide) (by decide)) (fun _ _ _ _ _ => trivial) (fun _ _ => trivial) gX6_init_X5_init mX6_init_n4 mX6_init_n5 mX6_init_n6 rfl rfl (by decide +kernel) rfl (by decide) (by decide) (Nat.le_of_ble_eq_true rfl) (by decide) (by decide) dX6_init_37 (fun f2 => ?_)
  refine k_ws (ws' := [(h0, .inr (6, [.ref q0, .ref q1, .null, .null, .null, .null, .null, .null])), (q0, .inr (5, [.ref (f0 0)])), (f0 0, .inl ((XG X).2.1.1, 4, .inl (fun _ => 0))), (q1, .inr (5, [.ref (f1 0)])), (f1 0, .inl ((XG X).2.1.1, 1920, .inl (fun _ => 0))), (q2, .inr (5, [.ref (f2 0)])), (f2 0, .inl ((XG X).2.1.1, 24, .inl (fun _ => 0)))]) rfl ?_
  refine k_putF K hi9 (ty := .object "ScriptRoom$Row") (fs' := [.ref q0, .ref q1, .ref q2, .null, .null, .null, .null, .null]) hiX6_init_6 tyX6 tyX6_ok nmX6 6 2 rfl (by decide) mX6_init_p2 rfl rfl (by decide +kernel) rfl rfl (Nat.le_of_ble_eq_true rfl) rfl dX6_init_40 ?_
  refine k_aload_n K dX6_init_43 rfl 0 rfl ?_
  refine k_new K (fs := [.null]) (ci := 5) hiX6_init_5 tyX5 tyX5_ok mX6_init_n1 mX6_init_n2 mX6_init_n3 rfl (fun j hj => by rcases (show j = 0 by omega) with rfl; rfl) (by decide) (by decide) dX6_init_44 (fun q3 => ?_)
  refine k_dup K dX6_init_47 rfl ?_
  refine k_bipush K (v := 24) dX6_init_48 (by decide) ?_
  refine k_callI (n := 1) K _ [.int 24] (c_X5_init 24 24 (by decide) (by decide) (by decide) (by decide)) (fun _ _ _ _ _ => trivial) (fun _ _ => trivial) gX6_init_X5_init mX6_init_n4 mX6_init_n5 mX6_init_n6 rfl rfl (by decide +kernel) rfl (by decide) (by decide) (Nat.le_of_ble_eq_true rfl) (by decide) (by decide) dX6_init_50 (fun f3 => ?_)
  refine k_ws (ws' := [(h0, .inr (6, [.ref q0, .ref q1, .ref q2, .null, .null, .null, .null, .null])), (q0, .inr (5, [.ref (f0 0)])), (f0 0, .inl ((XG X).2.1.1, 4, .inl (fun _ => 0))), (q1, .inr (5, [.ref (f1 0)])), (f1 0, .inl ((XG X).2.1.1, 1920, .inl (fun _ => 0))), (q2, .inr (5, [.ref (f2 0)])), (f2 0, .inl ((XG X).2.1.1, 24, .inl (fun _ => 0))), (q3, .inr (5, [.ref (f3 0)])), (f3 0, .inl ((XG X).2.1.1, 24, .inl (fun _ => 0)))]) rfl ?_
  refine k_putF K hi9 (ty := .object "ScriptRoom$Row") (fs' := [.ref q0, .ref q1, .ref q2, .ref q3, .null, .null, .null, .null]) hiX6_init_6 tyX6 tyX6_ok nmX6 6 3 rfl (by decide) mX6_init_p3 rfl rfl (by decide +kernel) rfl rfl (Nat.le_of_ble_eq_true rfl) rfl dX6_init_53 ?_
  refine k_aload_n K dX6_init_56 rfl 0 rfl ?_
  refine k_new K (fs := [.null]) (ci := 5) hiX6_init_5 tyX5 tyX5_ok mX6_init_n1 mX6_init_n2 mX6_init_n3 rfl (fun j hj => by rcases (show j = 0 by omega) with rfl; rfl) (by decide) (by decide) dX6_init_57 (fun q4 => ?_)
  refine k_dup K dX6_init_60 rfl ?_
  refine k_bipush K (v := 24) dX6_init_61 (by decide) ?_
  refine k_callI (n := 1) K _ [.int 24] (c_X5_init 24 24 (by decide) (by decide) (by decide) (by decide)) (fun _ _ _ _ _ => trivial) (fun _ _ => trivial) gX6_init_X5_init mX6_init_n4 mX6_init_n5 mX6_init_n6 rfl rfl (by decide +kernel) rfl (by decide) (by decide) (Nat.le_of_ble_eq_true rfl) (by decide) (by decide) dX6_init_63 (fun f4 => ?_)
  refine k_ws (ws' := [(h0, .inr (6, [.ref q0, .ref q1, .ref q2, .ref q3, .null, .null, .null, .null])), (q0, .inr (5, [.ref (f0 0)])), (f0 0, .inl ((XG X).2.1.1, 4, .inl (fun _ => 0))), (q1, .inr (5, [.ref (f1 0)])), (f1 0, .inl ((XG X).2.1.1, 1920, .inl (fun _ => 0))), (q2, .inr (5, [.ref (f2 0)])), (f2 0, .inl ((XG X).2.1.1, 24, .inl (fun _ => 0))), (q3, .inr (5, [.ref (f3 0)])), (f3 0, .inl ((XG X).2.1.1, 24, .inl (fun _ => 0))), (q4, .inr (5, [.ref (f4 0)])), (f4 0, .inl ((XG X).2.1.1, 24, .inl (fun _ => 0)))]) rfl ?_
  refine k_putF K hi9 (ty := .object "ScriptRoom$Row") (fs' := [.ref q0, .ref q1, .ref q2, .ref q3, .ref q4, .null, .null, .null]) hiX6_init_6 tyX6 tyX6_ok nmX6 6 4 rfl (by decide) mX6_init_p4 rfl rfl (by decide +kernel) rfl rfl (Nat.le_of_ble_eq_true rfl) rfl dX6_init_66 ?_
  refine k_aload_n K dX6_init_69 rfl 0 rfl ?_
  refine k_new K (fs := [.null]) (ci := 5) hiX6_init_5 tyX5 tyX5_ok mX6_init_n1 mX6_init_n2 mX6_init_n3 rfl (fun j hj => by rcases (show j = 0 by omega) with rfl; rfl) (by decide) (by decide) dX6_init_70 (fun q5 => ?_)
  refine k_dup K dX6_init_73 rfl ?_
  refine k_iconst K (v := 5) dX6_init_74 (by decide) ?_
  refine k_callI (n := 1) K _ [.int 5] (c_X5_init 5 5 (by decide) (by decide) (by decide) (by decide)) (fun _ _ _ _ _ => trivial) (fun _ _ => trivial) gX6_init_X5_init mX6_init_n4 mX6_init_n5 mX6_init_n6 rfl rfl (by decide +kernel) rfl (by decide) (by decide) (Nat.le_of_ble_eq_true rfl) (by decide) (by decide) dX6_init_75 (fun f5 => ?_)
  refine k_ws (ws' := [(h0, .inr (6, [.ref q0, .ref q1, .ref q2, .ref q3, .ref q4, .null, .null, .null])), (q0, .inr (5, [.ref (f0 0)])), (f0 0, .inl ((XG X).2.1.1, 4, .inl (fun _ => 0))), (q1, .inr (5, [.ref (f1 0)])), (f1 0, .inl ((XG X).2.1.1, 1920, .inl (fun _ => 0))), (q2, .inr (5, [.ref (f2 0)])), (f2 0, .inl ((XG X).2.1.1, 24, .inl (fun _ => 0))), (q3, .inr (5, [.ref (f3 0)])), (f3 0, .inl ((XG X).2.1.1, 24, .inl (fun _ => 0))), (q4, .inr (5, [.ref (f4 0)])), (f4 0, .inl ((XG X).2.1.1, 24, .inl (fun _ => 0))), (q5, .inr (5, [.ref (f5 0)])), (f5 0, .inl ((XG X).2.1.1, 5, .inl (fun _ => 0)))]) rfl ?_
  refine k_putF K hi9 (ty := .object "ScriptRoom$Row") (fs' := [.ref q0, .ref q1, .ref q2, .ref q3, .ref q4, .ref q5, .null, .null]) hiX6_init_6 tyX6 tyX6_ok nmX6 6 5 rfl (by decide) mX6_init_p5 rfl rfl (by decide +kernel) rfl rfl (Nat.le_of_ble_eq_true rfl) rfl dX6_init_78 ?_
  refine k_aload_n K dX6_init_81 rfl 0 rfl ?_
  refine k_new K (fs := [.null]) (ci := 5) hiX6_init_5 tyX5 tyX5_ok mX6_init_n1 mX6_init_n2 mX6_init_n3 rfl (fun j hj => by rcases (show j = 0 by omega) with rfl; rfl) (by decide) (by decide) dX6_init_82 (fun q6 => ?_)
  refine k_dup K dX6_init_85 rfl ?_
  refine k_iconst K (v := 5) dX6_init_86 (by decide) ?_
  refine k_callI (n := 1) K _ [.int 5] (c_X5_init 5 5 (by decide) (by decide) (by decide) (by decide)) (fun _ _ _ _ _ => trivial) (fun _ _ => trivial) gX6_init_X5_init mX6_init_n4 mX6_init_n5 mX6_init_n6 rfl rfl (by decide +kernel) rfl (by decide) (by decide) (Nat.le_of_ble_eq_true rfl) (by decide) (by decide) dX6_init_87 (fun f6 => ?_)
  refine k_ws (ws' := [(h0, .inr (6, [.ref q0, .ref q1, .ref q2, .ref q3, .ref q4, .ref q5, .null, .null])), (q0, .inr (5, [.ref (f0 0)])), (f0 0, .inl ((XG X).2.1.1, 4, .inl (fun _ => 0))), (q1, .inr (5, [.ref (f1 0)])), (f1 0, .inl ((XG X).2.1.1, 1920, .inl (fun _ => 0))), (q2, .inr (5, [.ref (f2 0)])), (f2 0, .inl ((XG X).2.1.1, 24, .inl (fun _ => 0))), (q3, .inr (5, [.ref (f3 0)])), (f3 0, .inl ((XG X).2.1.1, 24, .inl (fun _ => 0))), (q4, .inr (5, [.ref (f4 0)])), (f4 0, .inl ((XG X).2.1.1, 24, .inl (fun _ => 0))), (q5, .inr (5, [.ref (f5 0)])), (f5 0, .inl ((XG X).2.1.1, 5, .inl (fun _ => 0))), (q6, .inr (5, [.ref (f6 0)])), (f6 0, .inl ((XG X).2.1.1, 5, .inl (fun _ => 0)))]) rfl ?_
  refine k_putF K hi9 (ty := .object "ScriptRoom$Row") (fs' := [.ref q0, .ref q1, .ref q2, .ref q3, .ref q4, .ref q5, .ref q6, .null]) hiX6_init_6 tyX6 tyX6_ok nmX6 6 6 rfl (by decide) mX6_init_p6 rfl rfl (by decide +kernel) rfl rfl (Nat.le_of_ble_eq_true rfl) rfl dX6_init_90 ?_
  refine k_aload_n K dX6_init_93 rfl 0 rfl ?_
  refine k_new K (fs := [.null]) (ci := 5) hiX6_init_5 tyX5 tyX5_ok mX6_init_n1 mX6_init_n2 mX6_init_n3 rfl (fun j hj => by rcases (show j = 0 by omega) with rfl; rfl) (by decide) (by decide) dX6_init_94 (fun q7 => ?_)
  refine k_dup K dX6_init_97 rfl ?_
  refine k_iconst K (v := 5) dX6_init_98 (by decide) ?_
  refine k_callI (n := 1) K _ [.int 5] (c_X5_init 5 5 (by decide) (by decide) (by decide) (by decide)) (fun _ _ _ _ _ => trivial) (fun _ _ => trivial) gX6_init_X5_init mX6_init_n4 mX6_init_n5 mX6_init_n6 rfl rfl (by decide +kernel) rfl (by decide) (by decide) (Nat.le_of_ble_eq_true rfl) (by decide) (by decide) dX6_init_99 (fun f7 => ?_)
  refine k_ws (ws' := [(h0, .inr (6, [.ref q0, .ref q1, .ref q2, .ref q3, .ref q4, .ref q5, .ref q6, .null])), (q0, .inr (5, [.ref (f0 0)])), (f0 0, .inl ((XG X).2.1.1, 4, .inl (fun _ => 0))), (q1, .inr (5, [.ref (f1 0)])), (f1 0, .inl ((XG X).2.1.1, 1920, .inl (fun _ => 0))), (q2, .inr (5, [.ref (f2 0)])), (f2 0, .inl ((XG X).2.1.1, 24, .inl (fun _ => 0))), (q3, .inr (5, [.ref (f3 0)])), (f3 0, .inl ((XG X).2.1.1, 24, .inl (fun _ => 0))), (q4, .inr (5, [.ref (f4 0)])), (f4 0, .inl ((XG X).2.1.1, 24, .inl (fun _ => 0))), (q5, .inr (5, [.ref (f5 0)])), (f5 0, .inl ((XG X).2.1.1, 5, .inl (fun _ => 0))), (q6, .inr (5, [.ref (f6 0)])), (f6 0, .inl ((XG X).2.1.1, 5, .inl (fun _ => 0))), (q7, .inr (5, [.ref (f7 0)])), (f7 0, .inl ((XG X).2.1.1, 5, .inl (fun _ => 0)))]) rfl ?_
  refine k_putF K hi9 (ty := .object "ScriptRoom$Row") (fs' := [.ref q0, .ref q1, .ref q2, .ref q3, .ref q4, .ref q5, .ref q6, .ref q7]) hiX6_init_6 tyX6 tyX6_ok nmX6 6 7 rfl (by decide) mX6_init_p7 rfl rfl (by decide +kernel) rfl rfl (Nat.le_of_ble_eq_true rfl) rfl dX6_init_102 ?_
  exact hR _ _ _ _ (fun k => [q0, f0 0, q1, f1 0, q2, f2 0, q3, f3 0, q4, f4 0, q5, f5 0, q6, f6 0, q7, f7 0].getD k 0) (by decide) (by decide) dX6_init_105
def outX3 (G : Geo) (h0 : Nat) (f : Nat → Nat) : va_W := [(h0, .inr (3, [.int 0, .ref (f 0), .ref (f 2), .ref (f 4), .ref (f 6), .ref (f 8), .ref (f 10)])), (f 0, .inr (5, [.ref (f 1)])), (f 1, .inl (G.2.1.1, 16, .inl (fun _ => 0))), (f 2, .inr (5, [.ref (f 3)])), (f 3, .inl (G.2.1.1, 16, .inl (fun _ => 0))), (f 4, .inr (5, [.ref (f 5)])), (f 5, .inl (G.2.1.1, 16, .inl (fun _ => 0))), (f 6, .inr (5, [.ref (f 7)])), (f 7, .inl (G.2.1.1, 16, .inl (fun _ => 0))), (f 8, .inr (5, [.ref (f 9)])), (f 9, .inl (G.2.1.1, 16, .inl (fun _ => 0))), (f 10, .inr (5, [.ref (f 11)])), (f 11, .inl (G.2.1.1, 16, .inl (fun _ => 0)))]
theorem hiX3_init_3 : ∀ w ∈ wsX30, w ∈ wsX3_init := by decide +kernel
theorem hiX3_init_5 : ∀ w ∈ wsX50, w ∈ wsX3_init := by decide +kernel
theorem mX3_init_o1 : Cond.methodLink RX3 3 objectInit ∈ wsX3_init := by decide +kernel
theorem mX3_init_o2 : Cond.instanceMethod objectInit ∈ wsX3_init := by decide +kernel
theorem mX3_init_o3 : Cond.code objectInit ⟨#[0xb1]⟩ 1 none ∈ wsX3_init := by decide +kernel
theorem mX3_init_n1 : Cond.classLink RX3 9 RX5 ∈ wsX3_init := by decide +kernel
theorem mX3_init_n2 : Cond.instantiable RX5 1 ∈ wsX3_init := by decide +kernel
theorem mX3_init_n3 : Cond.initialized RX5 ∈ wsX3_init := by decide +kernel
theorem mX3_init_n4 : Cond.initialized yX5_init.cls ∈ wsX3_init := by decide +kernel
theorem mX3_init_n5 : Cond.methodLink RX3 13 yX5_init ∈ wsX3_init := by decide +kernel
theorem mX3_init_n6 : Cond.instanceMethod yX5_init ∈ wsX3_init := by decide +kernel
theorem mX3_init_p1 : Cond.fieldLink RX3 16 RX3 (TX3 1).2.1 (TX3 1).2.2.1 ∈ wsX3_init := by decide +kernel
theorem mX3_init_p2 : Cond.fieldLink RX3 20 RX3 (TX3 2).2.1 (TX3 2).2.2.1 ∈ wsX3_init := by decide +kernel
theorem mX3_init_p3 : Cond.fieldLink RX3 23 RX3 (TX3 3).2.1 (TX3 3).2.2.1 ∈ wsX3_init := by decide +kernel
theorem mX3_init_p4 : Cond.fieldLink RX3 26 RX3 (TX3 4).2.1 (TX3 4).2.2.1 ∈ wsX3_init := by decide +kernel
theorem mX3_init_p5 : Cond.fieldLink RX3 29 RX3 (TX3 5).2.1 (TX3 5).2.2.1 ∈ wsX3_init := by decide +kernel
theorem mX3_init_p6 : Cond.fieldLink RX3 32 RX3 (TX3 6).2.1 (TX3 6).2.2.1 ∈ wsX3_init := by decide +kernel
set_option maxHeartbeats 4000000 in
set_option maxRecDepth 100000 in
theorem c_X3_init (l : Launch) : Cin l yX3_init wsX3_init 2 35 12 102 3 [.int 0, .null, .null, .null, .null, .null, .null] [] (fun _ => True) outX3 := by
  refine mk_in (cc := cX3_init) (nL := 1) (own := RX3) (by decide) rfl rfl rfl (fun _ => Nat.le_of_ble_eq_true rfl) (fun X h0 K hi9 _ hR => ?_)
  show Bc X 1 0 0 0 [(0, .ref h0)] [] [(h0, .inr (3, [.int 0, .null, .null, .null, .null, .null, .null]))]
  refine k_aload_n K dX3_init_0 rfl 0 rfl ?_
  refine k_objInit K mX3_init_o1 mX3_init_o2 mX3_init_o3 dX3_init_1 (by decide) (by decide) ?_
  refine k_aload_n K dX3_init_4 rfl 0 rfl ?_
  refine k_new K (fs := [.null]) (ci := 5) hiX3_init_5 tyX5 tyX5_ok mX3_init_n1 mX3_init_n2 mX3_init_n3 rfl (fun j hj => by rcases (show j = 0 by omega) with rfl; rfl) (by decide) (by decide) dX3_init_5 (fun q0 => ?_)
  refine k_dup K dX3_init_8 rfl ?_
  refine k_bipush K (v := 16) dX3_init_9 (by decide) ?_
  refine k_callI (n := 1) K _ [.int 16] (c_X5_init 16 16 (by decide) (by decide) (by decide) (by decide)) (fun _ _ _ _ _ => trivial) (fun _ _ => trivial) gX3_init_X5_init mX3_init_n4 mX3_init_n5 mX3_init_n6 rfl rfl (by decide +kernel) rfl (by decide) (by decide) (Nat.le_of_ble_eq_true rfl) (by decide) (by decide) dX3_init_11 (fun f0 => ?_)
  refine k_ws (ws' := [(h0, .inr (3, [.int 0, .null, .null, .null, .null, .null, .null])), (q0, .inr (5, [.ref (f0 0)])), (f0 0, .inl ((XG X).2.1.1, 16, .inl (fun _ => 0)))]) rfl ?_
  refine k_putF K hi9 (ty := .object "ScriptRoom$Row") (fs' := [.int 0, .ref q0, .null, .null, .null, .null, .null]) hiX3_init_3 tyX3 tyX3_ok nmX3 3 1 rfl (by decide) mX3_init_p1 rfl rfl (by decide +kernel) rfl rfl (Nat.le_of_ble_eq_true rfl) rfl dX3_init_14 ?_
  refine k_aload_n K dX3_init_17 rfl 0 rfl ?_
  refine k_new K (fs := [.null]) (ci := 5) hiX3_init_5 tyX5 tyX5_ok mX3_init_n1 mX3_init_n2 mX3_init_n3 rfl (fun j hj => by rcases (show j = 0 by omega) with rfl; rfl) (by decide) (by decide) dX3_init_18 (fun q1 => ?_)
  refine k_dup K dX3_init_21 rfl ?_
  refine k_bipush K (v := 16) dX3_init_22 (by decide) ?_
  refine k_callI (n := 1) K _ [.int 16] (c_X5_init 16 16 (by decide) (by decide) (by decide) (by decide)) (fun _ _ _ _ _ => trivial) (fun _ _ => trivial) gX3_init_X5_init mX3_init_n4 mX3_init_n5 mX3_init_n6 rfl rfl (by decide +kernel) rfl (by decide) (by decide) (Nat.le_of_ble_eq_true rfl) (by decide) (by decide) dX3_init_24 (fun f1 => ?_)
  refine k_ws (ws' := [(h0, .inr (3, [.int 0, .ref q0, .null, .null, .null, .null, .null])), (q0, .inr (5, [.ref (f0 0)])), (f0 0, .inl ((XG X).2.1.1, 16, .inl (fun _ => 0))), (q1, .inr (5, [.ref (f1 0)])), (f1 0, .inl ((XG X).2.1.1, 16, .inl (fun _ => 0)))]) rfl ?_
  refine k_putF K hi9 (ty := .object "ScriptRoom$Row") (fs' := [.int 0, .ref q0, .ref q1, .null, .null, .null, .null]) hiX3_init_3 tyX3 tyX3_ok nmX3 3 2 rfl (by decide) mX3_init_p2 rfl rfl (by decide +kernel) rfl rfl (Nat.le_of_ble_eq_true rfl) rfl dX3_init_27 ?_
  refine k_aload_n K dX3_init_30 rfl 0 rfl ?_
  refine k_new K (fs := [.null]) (ci := 5) hiX3_init_5 tyX5 tyX5_ok mX3_init_n1 mX3_init_n2 mX3_init_n3 rfl (fun j hj => by rcases (show j = 0 by omega) with rfl; rfl) (by decide) (by decide) dX3_init_31 (fun q2 => ?_)
  refine k_dup K dX3_init_34 rfl ?_
  refine k_bipush K (v := 16) dX3_init_35 (by decide) ?_
  refine k_callI (n := 1) K _ [.int 16] (c_X5_init 16 16 (by decide) (by decide) (by decide) (by decide)) (fun _ _ _ _ _ => trivial) (fun _ _ => trivial) gX3_init_X5_init mX3_init_n4 mX3_init_n5 mX3_init_n6 rfl rfl (by decide +kernel) rfl (by decide) (by decide) (Nat.le_of_ble_eq_true rfl) (by decide) (by decide) dX3_init_37 (fun f2 => ?_)
  refine k_ws (ws' := [(h0, .inr (3, [.int 0, .ref q0, .ref q1, .null, .null, .null, .null])), (q0, .inr (5, [.ref (f0 0)])), (f0 0, .inl ((XG X).2.1.1, 16, .inl (fun _ => 0))), (q1, .inr (5, [.ref (f1 0)])), (f1 0, .inl ((XG X).2.1.1, 16, .inl (fun _ => 0))), (q2, .inr (5, [.ref (f2 0)])), (f2 0, .inl ((XG X).2.1.1, 16, .inl (fun _ => 0)))]) rfl ?_
  refine k_putF K hi9 (ty := .object "ScriptRoom$Row") (fs' := [.int 0, .ref q0, .ref q1, .ref q2, .null, .null, .null]) hiX3_init_3 tyX3 tyX3_ok nmX3 3 3 rfl (by decide) mX3_init_p3 rfl rfl (by decide +kernel) rfl rfl (Nat.le_of_ble_eq_true rfl) rfl dX3_init_40 ?_
  refine k_aload_n K dX3_init_43 rfl 0 rfl ?_
  refine k_new K (fs := [.null]) (ci := 5) hiX3_init_5 tyX5 tyX5_ok mX3_init_n1 mX3_init_n2 mX3_init_n3 rfl (fun j hj => by rcases (show j = 0 by omega) with rfl; rfl) (by decide) (by decide) dX3_init_44 (fun q3 => ?_)
  refine k_dup K dX3_init_47 rfl ?_
  refine k_bipush K (v := 16) dX3_init_48 (by decide) ?_
  refine k_callI (n := 1) K _ [.int 16] (c_X5_init 16 16 (by decide) (by decide) (by decide) (by decide)) (fun _ _ _ _ _ => trivial) (fun _ _ => trivial) gX3_init_X5_init mX3_init_n4 mX3_init_n5 mX3_init_n6 rfl rfl (by decide +kernel) rfl (by decide) (by decide) (Nat.le_of_ble_eq_true rfl) (by decide) (by decide) dX3_init_50 (fun f3 => ?_)
  refine k_ws (ws' := [(h0, .inr (3, [.int 0, .ref q0, .ref q1, .ref q2, .null, .null, .null])), (q0, .inr (5, [.ref (f0 0)])), (f0 0, .inl ((XG X).2.1.1, 16, .inl (fun _ => 0))), (q1, .inr (5, [.ref (f1 0)])), (f1 0, .inl ((XG X).2.1.1, 16, .inl (fun _ => 0))), (q2, .inr (5, [.ref (f2 0)])), (f2 0, .inl ((XG X).2.1.1, 16, .inl (fun _ => 0))), (q3, .inr (5, [.ref (f3 0)])), (f3 0, .inl ((XG X).2.1.1, 16, .inl (fun _ => 0)))]) rfl ?_
  refine k_putF K hi9 (ty := .object "ScriptRoom$Row") (fs' := [.int 0, .ref q0, .ref q1, .ref q2, .ref q3, .null, .null]) hiX3_init_3 tyX3 tyX3_ok nmX3 3 4 rfl (by decide) mX3_init_p4 rfl rfl (by decide +kernel) rfl rfl (Nat.le_of_ble_eq_true rfl) rfl dX3_init_53 ?_
  refine k_aload_n K dX3_init_56 rfl 0 rfl ?_
  refine k_new K (fs := [.null]) (ci := 5) hiX3_init_5 tyX5 tyX5_ok mX3_init_n1 mX3_init_n2 mX3_init_n3 rfl (fun j hj => by rcases (show j = 0 by omega) with rfl; rfl) (by decide) (by decide) dX3_init_57 (fun q4 => ?_)
  refine k_dup K dX3_init_60 rfl ?_
  refine k_bipush K (v := 16) dX3_init_61 (by decide) ?_
  refine k_callI (n := 1) K _ [.int 16] (c_X5_init 16 16 (by decide) (by decide) (by decide) (by decide)) (fun _ _ _ _ _ => trivial) (fun _ _ => trivial) gX3_init_X5_init mX3_init_n4 mX3_init_n5 mX3_init_n6 rfl rfl (by decide +kernel) rfl (by decide) (by decide) (Nat.le_of_ble_eq_true rfl) (by decide) (by decide) dX3_init_63 (fun f4 => ?_)
  refine k_ws (ws' := [(h0, .inr (3, [.int 0, .ref q0, .ref q1, .ref q2, .ref q3, .null, .null])), (q0, .inr (5, [.ref (f0 0)])), (f0 0, .inl ((XG X).2.1.1, 16, .inl (fun _ => 0))), (q1, .inr (5, [.ref (f1 0)])), (f1 0, .inl ((XG X).2.1.1, 16, .inl (fun _ => 0))), (q2, .inr (5, [.ref (f2 0)])), (f2 0, .inl ((XG X).2.1.1, 16, .inl (fun _ => 0))), (q3, .inr (5, [.ref (f3 0)])), (f3 0, .inl ((XG X).2.1.1, 16, .inl (fun _ => 0))), (q4, .inr (5, [.ref (f4 0)])), (f4 0, .inl ((XG X).2.1.1, 16, .inl (fun _ => 0)))]) rfl ?_
  refine k_putF K hi9 (ty := .object "ScriptRoom$Row") (fs' := [.int 0, .ref q0, .ref q1, .ref q2, .ref q3, .ref q4, .null]) hiX3_init_3 tyX3 tyX3_ok nmX3 3 5 rfl (by decide) mX3_init_p5 rfl rfl (by decide +kernel) rfl rfl (Nat.le_of_ble_eq_true rfl) rfl dX3_init_66 ?_
  refine k_aload_n K dX3_init_69 rfl 0 rfl ?_
  refine k_new K (fs := [.null]) (ci := 5) hiX3_init_5 tyX5 tyX5_ok mX3_init_n1 mX3_init_n2 mX3_init_n3 rfl (fun j hj => by rcases (show j = 0 by omega) with rfl; rfl) (by decide) (by decide) dX3_init_70 (fun q5 => ?_)
  refine k_dup K dX3_init_73 rfl ?_
  refine k_bipush K (v := 16) dX3_init_74 (by decide) ?_
  refine k_callI (n := 1) K _ [.int 16] (c_X5_init 16 16 (by decide) (by decide) (by decide) (by decide)) (fun _ _ _ _ _ => trivial) (fun _ _ => trivial) gX3_init_X5_init mX3_init_n4 mX3_init_n5 mX3_init_n6 rfl rfl (by decide +kernel) rfl (by decide) (by decide) (Nat.le_of_ble_eq_true rfl) (by decide) (by decide) dX3_init_76 (fun f5 => ?_)
  refine k_ws (ws' := [(h0, .inr (3, [.int 0, .ref q0, .ref q1, .ref q2, .ref q3, .ref q4, .null])), (q0, .inr (5, [.ref (f0 0)])), (f0 0, .inl ((XG X).2.1.1, 16, .inl (fun _ => 0))), (q1, .inr (5, [.ref (f1 0)])), (f1 0, .inl ((XG X).2.1.1, 16, .inl (fun _ => 0))), (q2, .inr (5, [.ref (f2 0)])), (f2 0, .inl ((XG X).2.1.1, 16, .inl (fun _ => 0))), (q3, .inr (5, [.ref (f3 0)])), (f3 0, .inl ((XG X).2.1.1, 16, .inl (fun _ => 0))), (q4, .inr (5, [.ref (f4 0)])), (f4 0, .inl ((XG X).2.1.1, 16, .inl (fun _ => 0))), (q5, .inr (5, [.ref (f5 0)])), (f5 0, .inl ((XG X).2.1.1, 16, .inl (fun _ => 0)))]) rfl ?_
  refine k_putF K hi9 (ty := .object "ScriptRoom$Row") (fs' := [.int 0, .ref q0, .ref q1, .ref q2, .ref q3, .ref q4, .ref q5]) hiX3_init_3 tyX3 tyX3_ok nmX3 3 6 rfl (by decide) mX3_init_p6 rfl rfl (by decide +kernel) rfl rfl (Nat.le_of_ble_eq_true rfl) rfl dX3_init_79 ?_
  exact hR _ _ _ _ (fun k => [q0, f0 0, q1, f1 0, q2, f2 0, q3, f3 0, q4, f4 0, q5, f5 0].getD k 0) (by decide) (by decide) dX3_init_82
def outX4 (G : Geo) (h0 : Nat) (f : Nat → Nat) : va_W := [(h0, .inr (4, [.int 0, .ref (f 0), .ref (f 2), .ref (f 4), .ref (f 6), .ref (f 8), .ref (f 10), .ref (f 12), .ref (f 14), .ref (f 16), .ref (f 18), .ref (f 20), .ref (f 22)])), (f 0, .inr (5, [.ref (f 1)])), (f 1, .inl (G.2.1.1, 6, .inl (fun _ => 0))), (f 2, .inr (5, [.ref (f 3)])), (f 3, .inl (G.2.1.1, 6, .inl (fun _ => 0))), (f 4, .inr (5, [.ref (f 5)])), (f 5, .inl (G.2.1.1, 6, .inl (fun _ => 0))), (f 6, .inr (5, [.ref (f 7)])), (f 7, .inl (G.2.1.1, 6, .inl (fun _ => 0))), (f 8, .inr (5, [.ref (f 9)])), (f 9, .inl (G.2.1.1, 6, .inl (fun _ => 0))), (f 10, .inr (5, [.ref (f 11)])), (f 11, .inl (G.2.1.1, 6, .inl (fun _ => 0))), (f 12, .inr (5, [.ref (f 13)])), (f 13, .inl (G.2.1.1, 6, .inl (fun _ => 0))), (f 14, .inr (5, [.ref (f 15)])), (f 15, .inl (G.2.1.1, 6, .inl (fun _ => 0))), (f 16, .inr (5, [.ref (f 17)])), (f 17, .inl (G.2.1.1, 6, .inl (fun _ => 0))), (f 18, .inr (5, [.ref (f 19)])), (f 19, .inl (G.2.1.1, 6, .inl (fun _ => 0))), (f 20, .inr (5, [.ref (f 21)])), (f 21, .inl (G.2.1.1, 6, .inl (fun _ => 0))), (f 22, .inr (5, [.ref (f 23)])), (f 23, .inl (G.2.1.1, 6, .inl (fun _ => 0)))]
theorem hiX4_init_4 : ∀ w ∈ wsX40, w ∈ wsX4_init := by decide +kernel
theorem hiX4_init_5 : ∀ w ∈ wsX50, w ∈ wsX4_init := by decide +kernel
theorem mX4_init_o1 : Cond.methodLink RX4 3 objectInit ∈ wsX4_init := by decide +kernel
theorem mX4_init_o2 : Cond.instanceMethod objectInit ∈ wsX4_init := by decide +kernel
theorem mX4_init_o3 : Cond.code objectInit ⟨#[0xb1]⟩ 1 none ∈ wsX4_init := by decide +kernel
theorem mX4_init_n1 : Cond.classLink RX4 9 RX5 ∈ wsX4_init := by decide +kernel
theorem mX4_init_n2 : Cond.instantiable RX5 1 ∈ wsX4_init := by decide +kernel
theorem mX4_init_n3 : Cond.initialized RX5 ∈ wsX4_init := by decide +kernel
theorem mX4_init_n4 : Cond.initialized yX5_init.cls ∈ wsX4_init := by decide +kernel
theorem mX4_init_n5 : Cond.methodLink RX4 13 yX5_init ∈ wsX4_init := by decide +kernel
theorem mX4_init_n6 : Cond.instanceMethod yX5_init ∈ wsX4_init := by decide +kernel
theorem mX4_init_p1 : Cond.fieldLink RX4 16 RX4 (TX4 1).2.1 (TX4 1).2.2.1 ∈ wsX4_init := by decide +kernel
theorem mX4_init_p2 : Cond.fieldLink RX4 20 RX4 (TX4 2).2.1 (TX4 2).2.2.1 ∈ wsX4_init := by decide +kernel
theorem mX4_init_p3 : Cond.fieldLink RX4 23 RX4 (TX4 3).2.1 (TX4 3).2.2.1 ∈ wsX4_init := by decide +kernel
theorem mX4_init_p4 : Cond.fieldLink RX4 26 RX4 (TX4 4).2.1 (TX4 4).2.2.1 ∈ wsX4_init := by decide +kernel
theorem mX4_init_p5 : Cond.fieldLink RX4 29 RX4 (TX4 5).2.1 (TX4 5).2.2.1 ∈ wsX4_init := by decide +kernel
theorem mX4_init_p6 : Cond.fieldLink RX4 32 RX4 (TX4 6).2.1 (TX4 6).2.2.1 ∈ wsX4_init := by decide +kernel
theorem mX4_init_p7 : Cond.fieldLink RX4 35 RX4 (TX4 7).2.1 (TX4 7).2.2.1 ∈ wsX4_init := by decide +kernel
theorem mX4_init_p8 : Cond.fieldLink RX4 38 RX4 (TX4 8).2.1 (TX4 8).2.2.1 ∈ wsX4_init := by decide +kernel
theorem mX4_init_p9 : Cond.fieldLink RX4 41 RX4 (TX4 9).2.1 (TX4 9).2.2.1 ∈ wsX4_init := by decide +kernel
theorem mX4_init_p10 : Cond.fieldLink RX4 44 RX4 (TX4 10).2.1 (TX4 10).2.2.1 ∈ wsX4_init := by decide +kernel
theorem mX4_init_p11 : Cond.fieldLink RX4 47 RX4 (TX4 11).2.1 (TX4 11).2.2.1 ∈ wsX4_init := by decide +kernel
theorem mX4_init_p12 : Cond.fieldLink RX4 50 RX4 (TX4 12).2.1 (TX4 12).2.2.1 ∈ wsX4_init := by decide +kernel
set_option maxHeartbeats 4000000 in
set_option maxRecDepth 100000 in
theorem c_X4_init (l : Launch) : Cin l yX4_init wsX4_init 2 35 24 84 4 [.int 0, .null, .null, .null, .null, .null, .null, .null, .null, .null, .null, .null, .null] [] (fun _ => True) outX4 := by
  refine mk_in (cc := cX4_init) (nL := 1) (own := RX4) (by decide) rfl rfl rfl (fun _ => Nat.le_of_ble_eq_true rfl) (fun X h0 K hi9 _ hR => ?_)
  show Bc X 1 0 0 0 [(0, .ref h0)] [] [(h0, .inr (4, [.int 0, .null, .null, .null, .null, .null, .null, .null, .null, .null, .null, .null, .null]))]
  refine k_aload_n K dX4_init_0 rfl 0 rfl ?_
  refine k_objInit K mX4_init_o1 mX4_init_o2 mX4_init_o3 dX4_init_1 (by decide) (by decide) ?_
  refine k_aload_n K dX4_init_4 rfl 0 rfl ?_
  refine k_new K (fs := [.null]) (ci := 5) hiX4_init_5 tyX5 tyX5_ok mX4_init_n1 mX4_init_n2 mX4_init_n3 rfl (fun j hj => by rcases (show j = 0 by omega) with rfl; rfl) (by decide) (by decide) dX4_init_5 (fun q0 => ?_)
  refine k_dup K dX4_init_8 rfl ?_
  refine k_bipush K (v := 6) dX4_init_9 (by decide) ?_
  refine k_callI (n := 1) K _ [.int 6] (c_X5_init 6 6 (by decide) (by decide) (by decide) (by decide)) (fun _ _ _ _ _ => trivial) (fun _ _ => trivial) gX4_init_X5_init mX4_init_n4 mX4_init_n5 mX4_init_n6 rfl rfl (by decide +kernel) rfl (by decide) (by decide) (Nat.le_of_ble_eq_true rfl) (by decide) (by decide) dX4_init_11 (fun f0 => ?_)
  refine k_ws (ws' := [(h0, .inr (4, [.int 0, .null, .null, .null, .null, .null, .null, .null, .null, .null, .null, .null, .null])), (q0, .inr (5, [.ref (f0 0)])), (f0 0, .inl ((XG X).2.1.1, 6, .inl (fun _ => 0)))]) rfl ?_
  refine k_putF K hi9 (ty := .object "ScriptRoom$Row") (fs' := [.int 0, .ref q0, .null, .null, .null, .null, .null, .null, .null, .null, .null, .null, .null]) hiX4_init_4 tyX4 tyX4_ok nmX4 4 1 rfl (by decide) mX4_init_p1 rfl rfl (by decide +kernel) rfl rfl (Nat.le_of_ble_eq_true rfl) rfl dX4_init_14 ?_
  refine k_aload_n K dX4_init_17 rfl 0 rfl ?_
  refine k_new K (fs := [.null]) (ci := 5) hiX4_init_5 tyX5 tyX5_ok mX4_init_n1 mX4_init_n2 mX4_init_n3 rfl (fun j hj => by rcases (show j = 0 by omega) with rfl; rfl) (by decide) (by decide) dX4_init_18 (fun q1 => ?_)
  refine k_dup K dX4_init_21 rfl ?_
  refine k_bipush K (v := 6) dX4_init_22 (by decide) ?_
  refine k_callI (n := 1) K _ [.int 6] (c_X5_init 6 6 (by decide) (by decide) (by decide) (by decide)) (fun _ _ _ _ _ => trivial) (fun _ _ => trivial) gX4_init_X5_init mX4_init_n4 mX4_init_n5 mX4_init_n6 rfl rfl (by decide +kernel) rfl (by decide) (by decide) (Nat.le_of_ble_eq_true rfl) (by decide) (by decide) dX4_init_24 (fun f1 => ?_)
  refine k_ws (ws' := [(h0, .inr (4, [.int 0, .ref q0, .null, .null, .null, .null, .null, .null, .null, .null, .null, .null, .null])), (q0, .inr (5, [.ref (f0 0)])), (f0 0, .inl ((XG X).2.1.1, 6, .inl (fun _ => 0))), (q1, .inr (5, [.ref (f1 0)])), (f1 0, .inl ((XG X).2.1.1, 6, .inl (fun _ => 0)))]) rfl ?_
  refine k_putF K hi9 (ty := .object "ScriptRoom$Row") (fs' := [.int 0, .ref q0, .ref q1, .null, .null, .null, .null, .null, .null, .null, .null, .null, .null]) hiX4_init_4 tyX4 tyX4_ok nmX4 4 2 rfl (by decide) mX4_init_p2 rfl rfl (by decide +kernel) rfl rfl (Nat.le_of_ble_eq_true rfl) rfl dX4_init_27 ?_
  refine k_aload_n K dX4_init_30 rfl 0 rfl ?_
  refine k_new K (fs := [.null]) (ci := 5) hiX4_init_5 tyX5 tyX5_ok mX4_init_n1 mX4_init_n2 mX4_init_n3 rfl (fun j hj => by rcases (show j = 0 by omega) with rfl; rfl) (by decide) (by decide) dX4_init_31 (fun q2 => ?_)
  refine k_dup K dX4_init_34 rfl ?_
  refine k_bipush K (v := 6) dX4_init_35 (by decide) ?_
  refine k_callI (n := 1) K _ [.int 6] (c_X5_init 6 6 (by decide) (by decide) (by decide) (by decide)) (fun _ _ _ _ _ => trivial) (fun _ _ => trivial) gX4_init_X5_init mX4_init_n4 mX4_init_n5 mX4_init_n6 rfl rfl (by decide +kernel) rfl (by decide) (by decide) (Nat.le_of_ble_eq_true rfl) (by decide) (by decide) dX4_init_37 (fun f2 => ?_)
  refine k_ws (ws' := [(h0, .inr (4, [.int 0, .ref q0, .ref q1, .null, .null, .null, .null, .null, .null, .null, .null, .null, .null])), (q0, .inr (5, [.ref (f0 0)])), (f0 0, .inl ((XG X).2.1.1, 6, .inl (fun _ => 0))), (q1, .inr (5, [.ref (f1 0)])), (f1 0, .inl ((XG X).2.1.1, 6, .inl (fun _ => 0))), (q2, .inr (5, [.ref (f2 0)])), (f2 0, .inl ((XG X).2.1.1, 6, .inl (fun _ => 0)))]) rfl ?_
  refine k_putF K hi9 (ty := .object "ScriptRoom$Row") (fs' := [.int 0, .ref q0, .ref q1, .ref q2, .null, .null, .null, .null, .null, .null, .null, .null, .null]) hiX4_init_4 tyX4 tyX4_ok nmX4 4 3 rfl (by decide) mX4_init_p3 rfl rfl (by decide +kernel) rfl rfl (Nat.le_of_ble_eq_true rfl) rfl dX4_init_40 ?_
  refine k_aload_n K dX4_init_43 rfl 0 rfl ?_
  refine k_new K (fs := [.null]) (ci := 5) hiX4_init_5 tyX5 tyX5_ok mX4_init_n1 mX4_init_n2 mX4_init_n3 rfl (fun j hj => by rcases (show j = 0 by omega) with rfl; rfl) (by decide) (by decide) dX4_init_44 (fun q3 => ?_)
  refine k_dup K dX4_init_47 rfl ?_
  refine k_bipush K (v := 6) dX4_init_48 (by decide) ?_
  refine k_callI (n := 1) K _ [.int 6] (c_X5_init 6 6 (by decide) (by decide) (by decide) (by decide)) (fun _ _ _ _ _ => trivial) (fun _ _ => trivial) gX4_init_X5_init mX4_init_n4 mX4_init_n5 mX4_init_n6 rfl rfl (by decide +kernel) rfl (by decide) (by decide) (Nat.le_of_ble_eq_true rfl) (by decide) (by decide) dX4_init_50 (fun f3 => ?_)
  refine k_ws (ws' := [(h0, .inr (4, [.int 0, .ref q0, .ref q1, .ref q2, .null, .null, .null, .null, .null, .null, .null, .null, .null])), (q0, .inr (5, [.ref (f0 0)])), (f0 0, .inl ((XG X).2.1.1, 6, .inl (fun _ => 0))), (q1, .inr (5, [.ref (f1 0)])), (f1 0, .inl ((XG X).2.1.1, 6, .inl (fun _ => 0))), (q2, .inr (5, [.ref (f2 0)])), (f2 0, .inl ((XG X).2.1.1, 6, .inl (fun _ => 0))), (q3, .inr (5, [.ref (f3 0)])), (f3 0, .inl ((XG X).2.1.1, 6, .inl (fun _ => 0)))]) rfl ?_
  refine k_putF K hi9 (ty := .object "ScriptRoom$Row") (fs' := [.int 0, .ref q0, .ref q1, .ref q2, .ref q3, .null, .null, .null, .null, .null, .null, .null, .null]) hiX4_init_4 tyX4 tyX4_ok nmX4 4 4 rfl (by decide) mX4_init_p4 rfl rfl (by decide +kernel) rfl rfl (Nat.le_of_ble_eq_true rfl) rfl dX4_init_53 ?_
  refine k_aload_n K dX4_init_56 rfl 0 rfl ?_
  refine k_new K (fs := [.null]) (ci := 5) hiX4_init_5 tyX5 tyX5_ok mX4_init_n1 mX4_init_n2 mX4_init_n3 rfl (fun j hj => by rcases (show j = 0 by omega) with rfl; rfl) (by decide) (by decide) dX4_init_57 (fun q4 => ?_)
  refine k_dup K dX4_init_60 rfl ?_
  refine k_bipush K (v := 6) dX4_init_61 (by decide) ?_
  refine k_callI (n := 1) K _ [.int 6] (c_X5_init 6 6 (by decide) (by decide) (by decide) (by decide)) (fun _ _ _ _ _ => trivial) (fun _ _ => trivial) gX4_init_X5_init mX4_init_n4 mX4_init_n5 mX4_init_n6 rfl rfl (by decide +kernel) rfl (by decide) (by decide) (Nat.le_of_ble_eq_true rfl) (by decide) (by decide) dX4_init_63 (fun f4 => ?_)
  refine k_ws (ws' := [(h0, .inr (4, [.int 0, .ref q0, .ref q1, .ref q2, .ref q3, .null, .null, .null, .null, .null, .null, .null, .null])), (q0, .inr (5, [.ref (f0 0)])), (f0 0, .inl ((XG X).2.1.1, 6, .inl (fun _ => 0))), (q1, .inr (5, [.ref (f1 0)])), (f1 0, .inl ((XG X).2.1.1, 6, .inl (fun _ => 0))), (q2, .inr (5, [.ref (f2 0)])), (f2 0, .inl ((XG X).2.1.1, 6, .inl (fun _ => 0))), (q3, .inr (5, [.ref (f3 0)])), (f3 0, .inl ((XG X).2.1.1, 6, .inl (fun _ => 0))), (q4, .inr (5, [.ref (f4 0)])), (f4 0, .inl ((XG X).2.1.1, 6, .inl (fun _ => 0)))]) rfl ?_
  refine k_putF K hi9 (ty := .object "ScriptRoom$Row") (fs' := [.int 0, .ref q0, .ref q1, .ref q2, .ref q3, .ref q4, .null, .null, .null, .null, .null, .null, .null]) hiX4_init_4 tyX4 tyX4_ok nmX4 4 5 rfl (by decide) mX4_init_p5 rfl rfl (by decide +kernel) rfl rfl (Nat.le_of_ble_eq_true rfl) rfl dX4_init_66 ?_
  refine k_aload_n K dX4_init_69 rfl 0 rfl ?_
  refine k_new K (fs := [.null]) (ci := 5) hiX4_init_5 tyX5 tyX5_ok mX4_init_n1 mX4_init_n2 mX4_init_n3 rfl (fun j hj => by rcases (show j = 0 by omega) with rfl; rfl) (by decide) (by decide) dX4_init_70 (fun q5 => ?_)
  refine k_dup K dX4_init_73 rfl ?_
  refine k_bipush K (v := 6) dX4_init_74 (by decide) ?_
  refine k_callI (n := 1) K _ [.int 6] (c_X5_init 6 6 (by decide) (by decide) (by decide) (by decide)) (fun _ _ _ _ _ => trivial) (fun _ _ => trivial) gX4_init_X5_init mX4_init_n4 mX4_init_n5 mX4_init_n6 rfl rfl (by decide +kernel) rfl (by decide) (by decide) (Nat.le_of_ble_eq_true rfl) (by decide) (by decide) dX4_init_76 (fun f5 => ?_)
  refine k_ws (ws' := [(h0, .inr (4, [.int 0, .ref q0, .ref q1, .ref q2, .ref q3, .ref q4, .null, .null, .null, .null, .null, .null, .null])), (q0, .inr (5, [.ref (f0 0)])), (f0 0, .inl ((XG X).2.1.1, 6, .inl (fun _ => 0))), (q1, .inr (5, [.ref (f1 0)])), (f1 0, .inl ((XG X).2.1.1, 6, .inl (fun _ => 0))), (q2, .inr (5, [.ref (f2 0)])), (f2 0, .inl ((XG X).2.1.1, 6, .inl (fun _ => 0))), (q3, .inr (5, [.ref (f3 0)])), (f3 0, .inl ((XG X).2.1.1, 6, .inl (fun _ => 0))), (q4, .inr (5, [.ref (f4 0)])), (f4 0, .inl ((XG X).2.1.1, 6, .inl (fun _ => 0))), (q5, .inr (5, [.ref (f5 0)])), (f5 0, .inl ((XG X).2.1.1, 6, .inl (fun _ => 0)))]) rfl ?_
  refine k_putF K hi9 (ty := .object "ScriptRoom$Row") (fs' := [.int 0, .ref q0, .ref q1, .ref q2, .ref q3, .ref q4, .ref q5, .null, .null, .null, .null, .null, .null]) hiX4_init_4 tyX4 tyX4_ok nmX4 4 6 rfl (by decide) mX4_init_p6 rfl rfl (by decide +kernel) rfl rfl (Nat.le_of_ble_eq_true rfl) rfl dX4_init_79 ?_
  refine k_aload_n K dX4_init_82 rfl 0 rfl ?_
  refine k_new K (fs := [.null]) (ci := 5) hiX4_init_5 tyX5 tyX5_ok mX4_init_n1 mX4_init_n2 mX4_init_n3 rfl (fun j hj => by rcases (show j = 0 by omega) with rfl; rfl) (by decide) (by decide) dX4_init_83 (fun q6 => ?_)
  refine k_dup K dX4_init_86 rfl ?_
  refine k_bipush K (v := 6) dX4_init_87 (by decide) ?_
  refine k_callI (n := 1) K _ [.int 6] (c_X5_init 6 6 (by decide) (by decide) (by decide) (by decide)) (fun _ _ _ _ _ => trivial) (fun _ _ => trivial) gX4_init_X5_init mX4_init_n4 mX4_init_n5 mX4_init_n6 rfl rfl (by decide +kernel) rfl (by decide) (by decide) (Nat.le_of_ble_eq_true rfl) (by decide) (by decide) dX4_init_89 (fun f6 => ?_)
  refine k_ws (ws' := [(h0, .inr (4, [.int 0, .ref q0, .ref q1, .ref q2, .ref q3, .ref q4, .ref q5, .null, .null, .null, .null, .null, .null])), (q0, .inr (5, [.ref (f0 0)])), (f0 0, .inl ((XG X).2.1.1, 6, .inl (fun _ => 0))), (q1, .inr (5, [.ref (f1 0)])), (f1 0, .inl ((XG X).2.1.1, 6, .inl (fun _ => 0))), (q2, .inr (5, [.ref (f2 0)])), (f2 0, .inl ((XG X).2.1.1, 6, .inl (fun _ => 0))), (q3, .inr (5, [.ref (f3 0)])), (f3 0, .inl ((XG X).2.1.1, 6, .inl (fun _ => 0))), (q4, .inr (5, [.ref (f4 0)])), (f4 0, .inl ((XG X).2.1.1, 6, .inl (fun _ => 0))), (q5, .inr (5, [.ref (f5 0)])), (f5 0, .inl ((XG X).2.1.1, 6, .inl (fun _ => 0))), (q6, .inr (5, [.ref (f6 0)])), (f6 0, .inl ((XG X).2.1.1, 6, .inl (fun _ => 0)))]) rfl ?_
  refine k_putF K hi9 (ty := .object "ScriptRoom$Row") (fs' := [.int 0, .ref q0, .ref q1, .ref q2, .ref q3, .ref q4, .ref q5, .ref q6, .null, .null, .null, .null, .null]) hiX4_init_4 tyX4 tyX4_ok nmX4 4 7 rfl (by decide) mX4_init_p7 rfl rfl (by decide +kernel) rfl rfl (Nat.le_of_ble_eq_true rfl) rfl dX4_init_92 ?_
  refine k_aload_n K dX4_init_95 rfl 0 rfl ?_
  refine k_new K (fs := [.null]) (ci := 5) hiX4_init_5 tyX5 tyX5_ok mX4_init_n1 mX4_init_n2 mX4_init_n3 rfl (fun j hj => by rcases (show j = 0 by omega) with rfl; rfl) (by decide) (by decide) dX4_init_96 (fun q7 => ?_)
  refine k_dup K dX4_init_99 rfl ?_
  refine k_bipush K (v := 6) dX4_init_100 (by decide) ?_
  refine k_callI (n := 1) K _ [.int 6] (c_X5_init 6 6 (by decide) (by decide) (by decide) (by decide)) (fun _ _ _ _ _ => trivial) (fun _ _ => trivial) gX4_init_X5_init mX4_init_n4 mX4_init_n5 mX4_init_n6 rfl rfl (by decide +kernel) rfl (by decide) (by decide) (Nat.le_of_ble_eq_true rfl) (by decide) (by decide) dX4_init_102 (fun f7 => ?_)
  refine k_ws (ws' := [(h0, .inr (4, [.int 0, .ref q0, .ref q1, .ref q2, .ref q3, .ref q4, .ref q5, .ref q6, .null, .null, .null, .null, .null])), (q0, .inr (5, [.ref (f0 0)])), (f0 0, .inl ((XG X).2.1.1, 6, .inl (fun _ => 0))), (q1, .inr (5, [.ref (f1 0)])), (f1 0, .inl ((XG X).2.1.1, 6, .inl (fun _ => 0))), (q2, .inr (5, [.ref (f2 0)])), (f2 0, .inl ((XG X).2.1.1, 6, .inl (fun _ => 0))), (q3, .inr (5, [.ref (f3 0)])), (f3 0, .inl ((XG X).2.1.1, 6, .inl (fun _ => 0))), (q4, .inr (5, [.ref (f4 0)])), (f4 0, .inl ((XG X).2.1.1, 6, .inl (fun _ => 0))), (q5, .inr (5, [.ref (f5 0)])), (f5 0, .inl ((XG X).2.1.1, 6, .inl (fun _ => 0))), (q6, .inr (5, [.ref (f6 0)])), (f6 0, .inl ((XG X).2.1.1, 6, .inl (fun _ => 0))), (q7, .inr (5, [.ref (f7 0)])), (f7 0, .inl ((XG X).2.1.1, 6, .inl (fun _ => 0)))]) rfl ?_
  refine k_putF K hi9 (ty := .object "ScriptRoom$Row") (fs' := [.int 0, .ref q0, .ref q1, .ref q2, .ref q3, .ref q4, .ref q5, .ref q6, .ref q7, .null, .null, .null, .null]) hiX4_init_4 tyX4 tyX4_ok nmX4 4 8 rfl (by decide) mX4_init_p8 rfl rfl (by decide +kernel) rfl rfl (Nat.le_of_ble_eq_true rfl) rfl dX4_init_105 ?_
  refine k_aload_n K dX4_init_108 rfl 0 rfl ?_
  refine k_new K (fs := [.null]) (ci := 5) hiX4_init_5 tyX5 tyX5_ok mX4_init_n1 mX4_init_n2 mX4_init_n3 rfl (fun j hj => by rcases (show j = 0 by omega) with rfl; rfl) (by decide) (by decide) dX4_init_109 (fun q8 => ?_)
  refine k_dup K dX4_init_112 rfl ?_
  refine k_bipush K (v := 6) dX4_init_113 (by decide) ?_
  refine k_callI (n := 1) K _ [.int 6] (c_X5_init 6 6 (by decide) (by decide) (by decide) (by decide)) (fun _ _ _ _ _ => trivial) (fun _ _ => trivial) gX4_init_X5_init mX4_init_n4 mX4_init_n5 mX4_init_n6 rfl rfl (by decide +kernel) rfl (by decide) (by decide) (Nat.le_of_ble_eq_true rfl) (by decide) (by decide) dX4_init_115 (fun f8 => ?_)
  refine k_ws (ws' := [(h0, .inr (4, [.int 0, .ref q0, .ref q1, .ref q2, .ref q3, .ref q4, .ref q5, .ref q6, .ref q7, .null, .null, .null, .null])), (q0, .inr (5, [.ref (f0 0)])), (f0 0, .inl ((XG X).2.1.1, 6, .inl (fun _ => 0))), (q1, .inr (5, [.ref (f1 0)])), (f1 0, .inl ((XG X).2.1.1, 6, .inl (fun _ => 0))), (q2, .inr (5, [.ref (f2 0)])), (f2 0, .inl ((XG X).2.1.1, 6, .inl (fun _ => 0))), (q3, .inr (5, [.ref (f3 0)])), (f3 0, .inl ((XG X).2.1.1, 6, .inl (fun _ => 0))), (q4, .inr (5, [.ref (f4 0)])), (f4 0, .inl ((XG X).2.1.1, 6, .inl (fun _ => 0))), (q5, .inr (5, [.ref (f5 0)])), (f5 0, .inl ((XG X).2.1.1, 6, .inl (fun _ => 0))), (q6, .inr (5, [.ref (f6 0)])), (f6 0, .inl ((XG X).2.1.1, 6, .inl (fun _ => 0))), (q7, .inr (5, [.ref (f7 0)])), (f7 0, .inl ((XG X).2.1.1, 6, .inl (fun _ => 0))), (q8, .inr (5, [.ref (f8 0)])), (f8 0, .inl ((XG X).2.1.1, 6, .inl (fun _ => 0)))]) rfl ?_
  refine k_putF K hi9 (ty := .object "ScriptRoom$Row") (fs' := [.int 0, .ref q0, .ref q1, .ref q2, .ref q3, .ref q4, .ref q5, .ref q6, .ref q7, .ref q8, .null, .null, .null]) hiX4_init_4 tyX4 tyX4_ok nmX4 4 9 rfl (by decide) mX4_init_p9 rfl rfl (by decide +kernel) rfl rfl (Nat.le_of_ble_eq_true rfl) rfl dX4_init_118 ?_
  refine k_aload_n K dX4_init_121 rfl 0 rfl ?_
  refine k_new K (fs := [.null]) (ci := 5) hiX4_init_5 tyX5 tyX5_ok mX4_init_n1 mX4_init_n2 mX4_init_n3 rfl (fun j hj => by rcases (show j = 0 by omega) with rfl; rfl) (by decide) (by decide) dX4_init_122 (fun q9 => ?_)
  refine k_dup K dX4_init_125 rfl ?_
  refine k_bipush K (v := 6) dX4_init_126 (by decide) ?_
  refine k_callI (n := 1) K _ [.int 6] (c_X5_init 6 6 (by decide) (by decide) (by decide) (by decide)) (fun _ _ _ _ _ => trivial) (fun _ _ => trivial) gX4_init_X5_init mX4_init_n4 mX4_init_n5 mX4_init_n6 rfl rfl (by decide +kernel) rfl (by decide) (by decide) (Nat.le_of_ble_eq_true rfl) (by decide) (by decide) dX4_init_128 (fun f9 => ?_)
  refine k_ws (ws' := [(h0, .inr (4, [.int 0, .ref q0, .ref q1, .ref q2, .ref q3, .ref q4, .ref q5, .ref q6, .ref q7, .ref q8, .null, .null, .null])), (q0, .inr (5, [.ref (f0 0)])), (f0 0, .inl ((XG X).2.1.1, 6, .inl (fun _ => 0))), (q1, .inr (5, [.ref (f1 0)])), (f1 0, .inl ((XG X).2.1.1, 6, .inl (fun _ => 0))), (q2, .inr (5, [.ref (f2 0)])), (f2 0, .inl ((XG X).2.1.1, 6, .inl (fun _ => 0))), (q3, .inr (5, [.ref (f3 0)])), (f3 0, .inl ((XG X).2.1.1, 6, .inl (fun _ => 0))), (q4, .inr (5, [.ref (f4 0)])), (f4 0, .inl ((XG X).2.1.1, 6, .inl (fun _ => 0))), (q5, .inr (5, [.ref (f5 0)])), (f5 0, .inl ((XG X).2.1.1, 6, .inl (fun _ => 0))), (q6, .inr (5, [.ref (f6 0)])), (f6 0, .inl ((XG X).2.1.1, 6, .inl (fun _ => 0))), (q7, .inr (5, [.ref (f7 0)])), (f7 0, .inl ((XG X).2.1.1, 6, .inl (fun _ => 0))), (q8, .inr (5, [.ref (f8 0)])), (f8 0, .inl ((XG X).2.1.1, 6, .inl (fun _ => 0))), (q9, .inr (5, [.ref (f9 0)])), (f9 0, .inl ((XG X).2.1.1, 6, .inl (fun _ => 0)))]) rfl ?_
  refine k_putF K hi9 (ty := .object "ScriptRoom$Row") (fs' := [.int 0, .ref q0, .ref q1, .ref q2, .ref q3, .ref q4, .ref q5, .ref q6, .ref q7, .ref q8, .ref q9, .null, .null]) hiX4_init_4 tyX4 tyX4_ok nmX4 4 10 rfl (by decide) mX4_init_p10 rfl rfl (by decide +kernel) rfl rfl (Nat.le_of_ble_eq_true rfl) rfl dX4_init_131 ?_
  refine k_aload_n K dX4_init_134 rfl 0 rfl ?_
  refine k_new K (fs := [.null]) (ci := 5) hiX4_init_5 tyX5 tyX5_ok mX4_init_n1 mX4_init_n2 mX4_init_n3 rfl (fun j hj => by rcases (show j = 0 by omega) with rfl; rfl) (by decide) (by decide) dX4_init_135 (fun q10 => ?_)
  refine k_dup K dX4_init_138 rfl ?_
  refine k_bipush K (v := 6) dX4_init_139 (by decide) ?_
  refine k_callI (n := 1) K _ [.int 6] (c_X5_init 6 6 (by decide) (by decide) (by decide) (by decide)) (fun _ _ _ _ _ => trivial) (fun _ _ => trivial) gX4_init_X5_init mX4_init_n4 mX4_init_n5 mX4_init_n6 rfl rfl (by decide +kernel) rfl (by decide) (by decide) (Nat.le_of_ble_eq_true rfl) (by decide) (by decide) dX4_init_141 (fun f10 => ?_)
  refine k_ws (ws' := [(h0, .inr (4, [.int 0, .ref q0, .ref q1, .ref q2, .ref q3, .ref q4, .ref q5, .ref q6, .ref q7, .ref q8, .ref q9, .null, .null])), (q0, .inr (5, [.ref (f0 0)])), (f0 0, .inl ((XG X).2.1.1, 6, .inl (fun _ => 0))), (q1, .inr (5, [.ref (f1 0)])), (f1 0, .inl ((XG X).2.1.1, 6, .inl (fun _ => 0))), (q2, .inr (5, [.ref (f2 0)])), (f2 0, .inl ((XG X).2.1.1, 6, .inl (fun _ => 0))), (q3, .inr (5, [.ref (f3 0)])), (f3 0, .inl ((XG X).2.1.1, 6, .inl (fun _ => 0))), (q4, .inr (5, [.ref (f4 0)])), (f4 0, .inl ((XG X).2.1.1, 6, .inl (fun _ => 0))), (q5, .inr (5, [.ref (f5 0)])), (f5 0, .inl ((XG X).2.1.1, 6, .inl (fun _ => 0))), (q6, .inr (5, [.ref (f6 0)])), (f6 0, .inl ((XG X).2.1.1, 6, .inl (fun _ => 0))), (q7, .inr (5, [.ref (f7 0)])), (f7 0, .inl ((XG X).2.1.1, 6, .inl (fun _ => 0))), (q8, .inr (5, [.ref (f8 0)])), (f8 0, .inl ((XG X).2.1.1, 6, .inl (fun _ => 0))), (q9, .inr (5, [.ref (f9 0)])), (f9 0, .inl ((XG X).2.1.1, 6, .inl (fun _ => 0))), (q10, .inr (5, [.ref (f10 0)])), (f10 0, .inl ((XG X).2.1.1, 6, .inl (fun _ => 0)))]) rfl ?_
  refine k_putF K hi9 (ty := .object "ScriptRoom$Row") (fs' := [.int 0, .ref q0, .ref q1, .ref q2, .ref q3, .ref q4, .ref q5, .ref q6, .ref q7, .ref q8, .ref q9, .ref q10, .null]) hiX4_init_4 tyX4 tyX4_ok nmX4 4 11 rfl (by decide) mX4_init_p11 rfl rfl (by decide +kernel) rfl rfl (Nat.le_of_ble_eq_true rfl) rfl dX4_init_144 ?_
  refine k_aload_n K dX4_init_147 rfl 0 rfl ?_
  refine k_new K (fs := [.null]) (ci := 5) hiX4_init_5 tyX5 tyX5_ok mX4_init_n1 mX4_init_n2 mX4_init_n3 rfl (fun j hj => by rcases (show j = 0 by omega) with rfl; rfl) (by decide) (by decide) dX4_init_148 (fun q11 => ?_)
  refine k_dup K dX4_init_151 rfl ?_
  refine k_bipush K (v := 6) dX4_init_152 (by decide) ?_
  refine k_callI (n := 1) K _ [.int 6] (c_X5_init 6 6 (by decide) (by decide) (by decide) (by decide)) (fun _ _ _ _ _ => trivial) (fun _ _ => trivial) gX4_init_X5_init mX4_init_n4 mX4_init_n5 mX4_init_n6 rfl rfl (by decide +kernel) rfl (by decide) (by decide) (Nat.le_of_ble_eq_true rfl) (by decide) (by decide) dX4_init_154 (fun f11 => ?_)
  refine k_ws (ws' := [(h0, .inr (4, [.int 0, .ref q0, .ref q1, .ref q2, .ref q3, .ref q4, .ref q5, .ref q6, .ref q7, .ref q8, .ref q9, .ref q10, .null])), (q0, .inr (5, [.ref (f0 0)])), (f0 0, .inl ((XG X).2.1.1, 6, .inl (fun _ => 0))), (q1, .inr (5, [.ref (f1 0)])), (f1 0, .inl ((XG X).2.1.1, 6, .inl (fun _ => 0))), (q2, .inr (5, [.ref (f2 0)])), (f2 0, .inl ((XG X).2.1.1, 6, .inl (fun _ => 0))), (q3, .inr (5, [.ref (f3 0)])), (f3 0, .inl ((XG X).2.1.1, 6, .inl (fun _ => 0))), (q4, .inr (5, [.ref (f4 0)])), (f4 0, .inl ((XG X).2.1.1, 6, .inl (fun _ => 0))), (q5, .inr (5, [.ref (f5 0)])), (f5 0, .inl ((XG X).2.1.1, 6, .inl (fun _ => 0))), (q6, .inr (5, [.ref (f6 0)])), (f6 0, .inl ((XG X).2.1.1, 6, .inl (fun _ => 0))), (q7, .inr (5, [.ref (f7 0)])), (f7 0, .inl ((XG X).2.1.1, 6, .inl (fun _ => 0))), (q8, .inr (5, [.ref (f8 0)])), (f8 0, .inl ((XG X).2.1.1, 6, .inl (fun _ => 0))), (q9, .inr (5, [.ref (f9 0)])), (f9 0, .inl ((XG X).2.1.1, 6, .inl (fun _ => 0))), (q10, .inr (5, [.ref (f10 0)])), (f10 0, .inl ((XG X).2.1.1, 6, .inl (fun _ => 0))), (q11, .inr (5, [.ref (f11 0)])), (f11 0, .inl ((XG X).2.1.1, 6, .inl (fun _ => 0)))]) rfl ?_
  refine k_putF K hi9 (ty := .object "ScriptRoom$Row") (fs' := [.int 0, .ref q0, .ref q1, .ref q2, .ref q3, .ref q4, .ref q5, .ref q6, .ref q7, .ref q8, .ref q9, .ref q10, .ref q11]) hiX4_init_4 tyX4 tyX4_ok nmX4 4 12 rfl (by decide) mX4_init_p12 rfl rfl (by decide +kernel) rfl rfl (Nat.le_of_ble_eq_true rfl) rfl dX4_init_157 ?_
  exact hR _ _ _ _ (fun k => [q0, f0 0, q1, f1 0, q2, f2 0, q3, f3 0, q4, f4 0, q5, f5 0, q6, f6 0, q7, f7 0, q8, f8 0, q9, f9 0, q10, f10 0, q11, f11 0].getD k 0) (by decide) (by decide) dX4_init_160
def outX7 (G : Geo) (h0 : Nat) (f : Nat → Nat) : va_W := [(h0, .inr (7, [.int 0, .ref (f 0), .ref (f 2)])), (f 0, .inr (5, [.ref (f 1)])), (f 1, .inl (G.2.1.1, 8, .inl (fun _ => 0))), (f 2, .inr (5, [.ref (f 3)])), (f 3, .inl (G.2.1.1, 8, .inl (fun _ => 0)))]
theorem hiX7_init_7 : ∀ w ∈ wsX70, w ∈ wsX7_init := by decide +kernel
theorem hiX7_init_5 : ∀ w ∈ wsX50, w ∈ wsX7_init := by decide +kernel
theorem mX7_init_o1 : Cond.methodLink RX7 1 objectInit ∈ wsX7_init := by decide +kernel
theorem mX7_init_o2 : Cond.instanceMethod objectInit ∈ wsX7_init := by decide +kernel
theorem mX7_init_o3 : Cond.code objectInit ⟨#[0xb1]⟩ 1 none ∈ wsX7_init := by decide +kernel
theorem mX7_init_n1 : Cond.classLink RX7 7 RX5 ∈ wsX7_init := by decide +kernel
theorem mX7_init_n2 : Cond.instantiable RX5 1 ∈ wsX7_init := by decide +kernel
theorem mX7_init_n3 : Cond.initialized RX5 ∈ wsX7_init := by decide +kernel
theorem mX7_init_n4 : Cond.initialized yX5_init.cls ∈ wsX7_init := by decide +kernel
theorem mX7_init_n5 : Cond.methodLink RX7 11 yX5_init ∈ wsX7_init := by decide +kernel
theorem mX7_init_n6 : Cond.instanceMethod yX5_init ∈ wsX7_init := by decide +kernel
theorem mX7_init_p1 : Cond.fieldLink RX7 14 RX7 (TX7 1).2.1 (TX7 1).2.2.1 ∈ wsX7_init := by decide +kernel
theorem mX7_init_p2 : Cond.fieldLink RX7 18 RX7 (TX7 2).2.1 (TX7 2).2.2.1 ∈ wsX7_init := by decide +kernel
set_option maxHeartbeats 4000000 in
set_option maxRecDepth 100000 in
theorem c_X7_init (l : Launch) : Cin l yX7_init wsX7_init 2 35 4 18 7 [.int 0, .null, .null] [] (fun _ => True) outX7 := by
  refine mk_in (cc := cX7_init) (nL := 1) (own := RX7) (by decide) rfl rfl rfl (fun _ => Nat.le_of_ble_eq_true rfl) (fun X h0 K hi9 _ hR => ?_)
  show Bc X 1 0 0 0 [(0, .ref h0)] [] [(h0, .inr (7, [.int 0, .null, .null]))]
  refine k_aload_n K dX7_init_0 rfl 0 rfl ?_
  refine k_objInit K mX7_init_o1 mX7_init_o2 mX7_init_o3 dX7_init_1 (by decide) (by decide) ?_
  refine k_aload_n K dX7_init_4 rfl 0 rfl ?_
  refine k_new K (fs := [.null]) (ci := 5) hiX7_init_5 tyX5 tyX5_ok mX7_init_n1 mX7_init_n2 mX7_init_n3 rfl (fun j hj => by rcases (show j = 0 by omega) with rfl; rfl) (by decide) (by decide) dX7_init_5 (fun q0 => ?_)
  refine k_dup K dX7_init_8 rfl ?_
  refine k_bipush K (v := 8) dX7_init_9 (by decide) ?_
  refine k_callI (n := 1) K _ [.int 8] (c_X5_init 8 8 (by decide) (by decide) (by decide) (by decide)) (fun _ _ _ _ _ => trivial) (fun _ _ => trivial) gX7_init_X5_init mX7_init_n4 mX7_init_n5 mX7_init_n6 rfl rfl (by decide +kernel) rfl (by decide) (by decide) (Nat.le_of_ble_eq_true rfl) (by decide) (by decide) dX7_init_11 (fun f0 => ?_)
  refine k_ws (ws' := [(h0, .inr (7, [.int 0, .null, .null])), (q0, .inr (5, [.ref (f0 0)])), (f0 0, .inl ((XG X).2.1.1, 8, .inl (fun _ => 0)))]) rfl ?_
  refine k_putF K hi9 (ty := .object "ScriptRoom$Row") (fs' := [.int 0, .ref q0, .null]) hiX7_init_7 tyX7 tyX7_ok nmX7 7 1 rfl (by decide) mX7_init_p1 rfl rfl (by decide +kernel) rfl rfl (Nat.le_of_ble_eq_true rfl) rfl dX7_init_14 ?_
  refine k_aload_n K dX7_init_17 rfl 0 rfl ?_
  refine k_new K (fs := [.null]) (ci := 5) hiX7_init_5 tyX5 tyX5_ok mX7_init_n1 mX7_init_n2 mX7_init_n3 rfl (fun j hj => by rcases (show j = 0 by omega) with rfl; rfl) (by decide) (by decide) dX7_init_18 (fun q1 => ?_)
  refine k_dup K dX7_init_21 rfl ?_
  refine k_bipush K (v := 8) dX7_init_22 (by decide) ?_
  refine k_callI (n := 1) K _ [.int 8] (c_X5_init 8 8 (by decide) (by decide) (by decide) (by decide)) (fun _ _ _ _ _ => trivial) (fun _ _ => trivial) gX7_init_X5_init mX7_init_n4 mX7_init_n5 mX7_init_n6 rfl rfl (by decide +kernel) rfl (by decide) (by decide) (Nat.le_of_ble_eq_true rfl) (by decide) (by decide) dX7_init_24 (fun f1 => ?_)
  refine k_ws (ws' := [(h0, .inr (7, [.int 0, .ref q0, .null])), (q0, .inr (5, [.ref (f0 0)])), (f0 0, .inl ((XG X).2.1.1, 8, .inl (fun _ => 0))), (q1, .inr (5, [.ref (f1 0)])), (f1 0, .inl ((XG X).2.1.1, 8, .inl (fun _ => 0)))]) rfl ?_
  refine k_putF K hi9 (ty := .object "ScriptRoom$Row") (fs' := [.int 0, .ref q0, .ref q1]) hiX7_init_7 tyX7 tyX7_ok nmX7 7 2 rfl (by decide) mX7_init_p2 rfl rfl (by decide +kernel) rfl rfl (Nat.le_of_ble_eq_true rfl) rfl dX7_init_27 ?_
  exact hR _ _ _ _ (fun k => [q0, f0 0, q1, f1 0].getD k 0) (by decide) (by decide) dX7_init_30
def outX2 (G : Geo) (h0 : Nat) (f : Nat → Nat) : va_W := [(h0, .inr (2, [.int 0, .ref (f 0), .ref (f 2), .ref (f 4), .ref (f 6), .ref (f 8), .ref (f 10), .ref (f 12), .ref (f 14), .ref (f 16), .ref (f 18), .ref (f 20)])), (f 0, .inr (5, [.ref (f 1)])), (f 1, .inl (G.2.1.1, 300, .inl (fun _ => 0))), (f 2, .inr (5, [.ref (f 3)])), (f 3, .inl (G.2.1.1, 300, .inl (fun _ => 0))), (f 4, .inr (5, [.ref (f 5)])), (f 5, .inl (G.2.1.1, 300, .inl (fun _ => 0))), (f 6, .inr (5, [.ref (f 7)])), (f 7, .inl (G.2.1.1, 300, .inl (fun _ => 0))), (f 8, .inr (5, [.ref (f 9)])), (f 9, .inl (G.2.1.1, 300, .inl (fun _ => 0))), (f 10, .inr (5, [.ref (f 11)])), (f 11, .inl (G.2.1.1, 300, .inl (fun _ => 0))), (f 12, .inr (5, [.ref (f 13)])), (f 13, .inl (G.2.1.1, 300, .inl (fun _ => 0))), (f 14, .inr (5, [.ref (f 15)])), (f 15, .inl (G.2.1.1, 300, .inl (fun _ => 0))), (f 16, .inr (5, [.ref (f 17)])), (f 17, .inl (G.2.1.1, 64, .inl (fun _ => 0))), (f 18, .inr (5, [.ref (f 19)])), (f 19, .inl (G.2.1.1, 64, .inl (fun _ => 0))), (f 20, .inr (5, [.ref (f 21)])), (f 21, .inl (G.2.1.1, 64, .inl (fun _ => 0)))]
theorem hiX2_init_2 : ∀ w ∈ wsX20, w ∈ wsX2_init := by decide +kernel
theorem hiX2_init_5 : ∀ w ∈ wsX50, w ∈ wsX2_init := by decide +kernel
theorem mX2_init_o1 : Cond.methodLink RX2 5 objectInit ∈ wsX2_init := by decide +kernel
theorem mX2_init_o2 : Cond.instanceMethod objectInit ∈ wsX2_init := by decide +kernel
theorem mX2_init_o3 : Cond.code objectInit ⟨#[0xb1]⟩ 1 none ∈ wsX2_init := by decide +kernel
theorem mX2_init_n1 : Cond.classLink RX2 11 RX5 ∈ wsX2_init := by decide +kernel
theorem mX2_init_n2 : Cond.instantiable RX5 1 ∈ wsX2_init := by decide +kernel
theorem mX2_init_n3 : Cond.initialized RX5 ∈ wsX2_init := by decide +kernel
theorem mX2_init_n4 : Cond.initialized yX5_init.cls ∈ wsX2_init := by decide +kernel
theorem mX2_init_n5 : Cond.methodLink RX2 15 yX5_init ∈ wsX2_init := by decide +kernel
theorem mX2_init_n6 : Cond.instanceMethod yX5_init ∈ wsX2_init := by decide +kernel
theorem mX2_init_p1 : Cond.fieldLink RX2 18 RX2 (TX2 1).2.1 (TX2 1).2.2.1 ∈ wsX2_init := by decide +kernel
theorem mX2_init_p2 : Cond.fieldLink RX2 22 RX2 (TX2 2).2.1 (TX2 2).2.2.1 ∈ wsX2_init := by decide +kernel
theorem mX2_init_p3 : Cond.fieldLink RX2 25 RX2 (TX2 3).2.1 (TX2 3).2.2.1 ∈ wsX2_init := by decide +kernel
theorem mX2_init_p4 : Cond.fieldLink RX2 28 RX2 (TX2 4).2.1 (TX2 4).2.2.1 ∈ wsX2_init := by decide +kernel
theorem mX2_init_p5 : Cond.fieldLink RX2 31 RX2 (TX2 5).2.1 (TX2 5).2.2.1 ∈ wsX2_init := by decide +kernel
theorem mX2_init_p6 : Cond.fieldLink RX2 34 RX2 (TX2 6).2.1 (TX2 6).2.2.1 ∈ wsX2_init := by decide +kernel
theorem mX2_init_p7 : Cond.fieldLink RX2 37 RX2 (TX2 7).2.1 (TX2 7).2.2.1 ∈ wsX2_init := by decide +kernel
theorem mX2_init_p8 : Cond.fieldLink RX2 40 RX2 (TX2 8).2.1 (TX2 8).2.2.1 ∈ wsX2_init := by decide +kernel
theorem mX2_init_p9 : Cond.fieldLink RX2 43 RX2 (TX2 9).2.1 (TX2 9).2.2.1 ∈ wsX2_init := by decide +kernel
theorem mX2_init_p10 : Cond.fieldLink RX2 46 RX2 (TX2 10).2.1 (TX2 10).2.2.1 ∈ wsX2_init := by decide +kernel
theorem mX2_init_p11 : Cond.fieldLink RX2 49 RX2 (TX2 11).2.1 (TX2 11).2.2.1 ∈ wsX2_init := by decide +kernel
set_option maxHeartbeats 4000000 in
set_option maxRecDepth 100000 in
theorem c_X2_init (l : Launch) : Cin l yX2_init wsX2_init 2 35 22 2603 2 [.int 0, .null, .null, .null, .null, .null, .null, .null, .null, .null, .null, .null] [] (fun _ => True) outX2 := by
  refine mk_in (cc := cX2_init) (nL := 1) (own := RX2) (by decide) rfl rfl rfl (fun _ => Nat.le_of_ble_eq_true rfl) (fun X h0 K hi9 _ hR => ?_)
  show Bc X 1 0 0 0 [(0, .ref h0)] [] [(h0, .inr (2, [.int 0, .null, .null, .null, .null, .null, .null, .null, .null, .null, .null, .null]))]
  refine k_aload_n K dX2_init_0 rfl 0 rfl ?_
  refine k_objInit K mX2_init_o1 mX2_init_o2 mX2_init_o3 dX2_init_1 (by decide) (by decide) ?_
  refine k_aload_n K dX2_init_4 rfl 0 rfl ?_
  refine k_new K (fs := [.null]) (ci := 5) hiX2_init_5 tyX5 tyX5_ok mX2_init_n1 mX2_init_n2 mX2_init_n3 rfl (fun j hj => by rcases (show j = 0 by omega) with rfl; rfl) (by decide) (by decide) dX2_init_5 (fun q0 => ?_)
  refine k_dup K dX2_init_8 rfl ?_
  refine k_sipush K (v := 300) dX2_init_9 (by decide) ?_
  refine k_callI (n := 1) K _ [.int 300] (c_X5_init 300 300 (by decide) (by decide) (by decide) (by decide)) (fun _ _ _ _ _ => trivial) (fun _ _ => trivial) gX2_init_X5_init mX2_init_n4 mX2_init_n5 mX2_init_n6 rfl rfl (by decide +kernel) rfl (by decide) (by decide) (Nat.le_of_ble_eq_true rfl) (by decide) (by decide) dX2_init_12 (fun f0 => ?_)
  refine k_ws (ws' := [(h0, .inr (2, [.int 0, .null, .null, .null, .null, .null, .null, .null, .null, .null, .null, .null])), (q0, .inr (5, [.ref (f0 0)])), (f0 0, .inl ((XG X).2.1.1, 300, .inl (fun _ => 0)))]) rfl ?_
  refine k_putF K hi9 (ty := .object "ScriptRoom$Row") (fs' := [.int 0, .ref q0, .null, .null, .null, .null, .null, .null, .null, .null, .null, .null]) hiX2_init_2 tyX2 tyX2_ok nmX2 2 1 rfl (by decide) mX2_init_p1 rfl rfl (by decide +kernel) rfl rfl (Nat.le_of_ble_eq_true rfl) rfl dX2_init_15 ?_
  refine k_aload_n K dX2_init_18 rfl 0 rfl ?_
  refine k_new K (fs := [.null]) (ci := 5) hiX2_init_5 tyX5 tyX5_ok mX2_init_n1 mX2_init_n2 mX2_init_n3 rfl (fun j hj => by rcases (show j = 0 by omega) with rfl; rfl) (by decide) (by decide) dX2_init_19 (fun q1 => ?_)
  refine k_dup K dX2_init_22 rfl ?_
  refine k_sipush K (v := 300) dX2_init_23 (by decide) ?_
  refine k_callI (n := 1) K _ [.int 300] (c_X5_init 300 300 (by decide) (by decide) (by decide) (by decide)) (fun _ _ _ _ _ => trivial) (fun _ _ => trivial) gX2_init_X5_init mX2_init_n4 mX2_init_n5 mX2_init_n6 rfl rfl (by decide +kernel) rfl (by decide) (by decide) (Nat.le_of_ble_eq_true rfl) (by decide) (by decide) dX2_init_26 (fun f1 => ?_)
  refine k_ws (ws' := [(h0, .inr (2, [.int 0, .ref q0, .null, .null, .null, .null, .null, .null, .null, .null, .null, .null])), (q0, .inr (5, [.ref (f0 0)])), (f0 0, .inl ((XG X).2.1.1, 300, .inl (fun _ => 0))), (q1, .inr (5, [.ref (f1 0)])), (f1 0, .inl ((XG X).2.1.1, 300, .inl (fun _ => 0)))]) rfl ?_
  refine k_putF K hi9 (ty := .object "ScriptRoom$Row") (fs' := [.int 0, .ref q0, .ref q1, .null, .null, .null, .null, .null, .null, .null, .null, .null]) hiX2_init_2 tyX2 tyX2_ok nmX2 2 2 rfl (by decide) mX2_init_p2 rfl rfl (by decide +kernel) rfl rfl (Nat.le_of_ble_eq_true rfl) rfl dX2_init_29 ?_
  refine k_aload_n K dX2_init_32 rfl 0 rfl ?_
  refine k_new K (fs := [.null]) (ci := 5) hiX2_init_5 tyX5 tyX5_ok mX2_init_n1 mX2_init_n2 mX2_init_n3 rfl (fun j hj => by rcases (show j = 0 by omega) with rfl; rfl) (by decide) (by decide) dX2_init_33 (fun q2 => ?_)
  refine k_dup K dX2_init_36 rfl ?_
  refine k_sipush K (v := 300) dX2_init_37 (by decide) ?_
  refine k_callI (n := 1) K _ [.int 300] (c_X5_init 300 300 (by decide) (by decide) (by decide) (by decide)) (fun _ _ _ _ _ => trivial) (fun _ _ => trivial) gX2_init_X5_init mX2_init_n4 mX2_init_n5 mX2_init_n6 rfl rfl (by decide +kernel) rfl (by decide) (by decide) (Nat.le_of_ble_eq_true rfl) (by decide) (by decide) dX2_init_40 (fun f2 => ?_)
  refine k_ws (ws' := [(h0, .inr (2, [.int 0, .ref q0, .ref q1, .null, .null, .null, .null, .null, .null, .null, .null, .null])), (q0, .inr (5, [.ref (f0 0)])), (f0 0, .inl ((XG X).2.1.1, 300, .inl (fun _ => 0))), (q1, .inr (5, [.ref (f1 0)])), (f1 0, .inl ((XG X).2.1.1, 300, .inl (fun _ => 0))), (q2, .inr (5, [.ref (f2 0)])), (f2 0, .inl ((XG X).2.1.1, 300, .inl (fun _ => 0)))]) rfl ?_
  refine k_putF K hi9 (ty := .object "ScriptRoom$Row") (fs' := [.int 0, .ref q0, .ref q1, .ref q2, .null, .null, .null, .null, .null, .null, .null, .null]) hiX2_init_2 tyX2 tyX2_ok nmX2 2 3 rfl (by decide) mX2_init_p3 rfl rfl (by decide +kernel) rfl rfl (Nat.le_of_ble_eq_true rfl) rfl dX2_init_43 ?_
  refine k_aload_n K dX2_init_46 rfl 0 rfl ?_
  refine k_new K (fs := [.null]) (ci := 5) hiX2_init_5 tyX5 tyX5_ok mX2_init_n1 mX2_init_n2 mX2_init_n3 rfl (fun j hj => by rcases (show j = 0 by omega) with rfl; rfl) (by decide) (by decide) dX2_init_47 (fun q3 => ?_)
  refine k_dup K dX2_init_50 rfl ?_
  refine k_sipush K (v := 300) dX2_init_51 (by decide) ?_
  refine k_callI (n := 1) K _ [.int 300] (c_X5_init 300 300 (by decide) (by decide) (by decide) (by decide)) (fun _ _ _ _ _ => trivial) (fun _ _ => trivial) gX2_init_X5_init mX2_init_n4 mX2_init_n5 mX2_init_n6 rfl rfl (by decide +kernel) rfl (by decide) (by decide) (Nat.le_of_ble_eq_true rfl) (by decide) (by decide) dX2_init_54 (fun f3 => ?_)
  refine k_ws (ws' := [(h0, .inr (2, [.int 0, .ref q0, .ref q1, .ref q2, .null, .null, .null, .null, .null, .null, .null, .null])), (q0, .inr (5, [.ref (f0 0)])), (f0 0, .inl ((XG X).2.1.1, 300, .inl (fun _ => 0))), (q1, .inr (5, [.ref (f1 0)])), (f1 0, .inl ((XG X).2.1.1, 300, .inl (fun _ => 0))), (q2, .inr (5, [.ref (f2 0)])), (f2 0, .inl ((XG X).2.1.1, 300, .inl (fun _ => 0))), (q3, .inr (5, [.ref (f3 0)])), (f3 0, .inl ((XG X).2.1.1, 300, .inl (fun _ => 0)))]) rfl ?_
  refine k_putF K hi9 (ty := .object "ScriptRoom$Row") (fs' := [.int 0, .ref q0, .ref q1, .ref q2, .ref q3, .null, .null, .null, .null, .null, .null, .null]) hiX2_init_2 tyX2 tyX2_ok nmX2 2 4 rfl (by decide) mX2_init_p4 rfl rfl (by decide +kernel) rfl rfl (Nat.le_of_ble_eq_true rfl) rfl dX2_init_57 ?_
  refine k_aload_n K dX2_init_60 rfl 0 rfl ?_
  refine k_new K (fs := [.null]) (ci := 5) hiX2_init_5 tyX5 tyX5_ok mX2_init_n1 mX2_init_n2 mX2_init_n3 rfl (fun j hj => by rcases (show j = 0 by omega) with rfl; rfl) (by decide) (by decide) dX2_init_61 (fun q4 => ?_)
  refine k_dup K dX2_init_64 rfl ?_
  refine k_sipush K (v := 300) dX2_init_65 (by decide) ?_
  refine k_callI (n := 1) K _ [.int 300] (c_X5_init 300 300 (by decide) (by decide) (by decide) (by decide)) (fun _ _ _ _ _ => trivial) (fun _ _ => trivial) gX2_init_X5_init mX2_init_n4 mX2_init_n5 mX2_init_n6 rfl rfl (by decide +kernel) rfl (by decide) (by decide) (Nat.le_of_ble_eq_true rfl) (by decide) (by decide) dX2_init_68 (fun f4 => ?_)
  refine k_ws (ws' := [(h0, .inr (2, [.int 0, .ref q0, .ref q1, .ref q2, .ref q3, .null, .null, .null, .null, .null, .null, .null])), (q0, .inr (5, [.ref (f0 0)])), (f0 0, .inl ((XG X).2.1.1, 300, .inl (fun _ => 0))), (q1, .inr (5, [.ref (f1 0)])), (f1 0, .inl ((XG X).2.1.1, 300, .inl (fun _ => 0))), (q2, .inr (5, [.ref (f2 0)])), (f2 0, .inl ((XG X).2.1.1, 300, .inl (fun _ => 0))), (q3, .inr (5, [.ref (f3 0)])), (f3 0, .inl ((XG X).2.1.1, 300, .inl (fun _ => 0))), (q4, .inr (5, [.ref (f4 0)])), (f4 0, .inl ((XG X).2.1.1, 300, .inl (fun _ => 0)))]) rfl ?_
  refine k_putF K hi9 (ty := .object "ScriptRoom$Row") (fs' := [.int 0, .ref q0, .ref q1, .ref q2, .ref q3, .ref q4, .null, .null, .null, .null, .null, .null]) hiX2_init_2 tyX2 tyX2_ok nmX2 2 5 rfl (by decide) mX2_init_p5 rfl rfl (by decide +kernel) rfl rfl (Nat.le_of_ble_eq_true rfl) rfl dX2_init_71 ?_
  refine k_aload_n K dX2_init_74 rfl 0 rfl ?_
  refine k_new K (fs := [.null]) (ci := 5) hiX2_init_5 tyX5 tyX5_ok mX2_init_n1 mX2_init_n2 mX2_init_n3 rfl (fun j hj => by rcases (show j = 0 by omega) with rfl; rfl) (by decide) (by decide) dX2_init_75 (fun q5 => ?_)
  refine k_dup K dX2_init_78 rfl ?_
  refine k_sipush K (v := 300) dX2_init_79 (by decide) ?_
  refine k_callI (n := 1) K _ [.int 300] (c_X5_init 300 300 (by decide) (by decide) (by decide) (by decide)) (fun _ _ _ _ _ => trivial) (fun _ _ => trivial) gX2_init_X5_init mX2_init_n4 mX2_init_n5 mX2_init_n6 rfl rfl (by decide +kernel) rfl (by decide) (by decide) (Nat.le_of_ble_eq_true rfl) (by decide) (by decide) dX2_init_82 (fun f5 => ?_)
  refine k_ws (ws' := [(h0, .inr (2, [.int 0, .ref q0, .ref q1, .ref q2, .ref q3, .ref q4, .null, .null, .null, .null, .null, .null])), (q0, .inr (5, [.ref (f0 0)])), (f0 0, .inl ((XG X).2.1.1, 300, .inl (fun _ => 0))), (q1, .inr (5, [.ref (f1 0)])), (f1 0, .inl ((XG X).2.1.1, 300, .inl (fun _ => 0))), (q2, .inr (5, [.ref (f2 0)])), (f2 0, .inl ((XG X).2.1.1, 300, .inl (fun _ => 0))), (q3, .inr (5, [.ref (f3 0)])), (f3 0, .inl ((XG X).2.1.1, 300, .inl (fun _ => 0))), (q4, .inr (5, [.ref (f4 0)])), (f4 0, .inl ((XG X).2.1.1, 300, .inl (fun _ => 0))), (q5, .inr (5, [.ref (f5 0)])), (f5 0, .inl ((XG X).2.1.1, 300, .inl (fun _ => 0)))]) rfl ?_
  refine k_putF K hi9 (ty := .object "ScriptRoom$Row") (fs' := [.int 0, .ref q0, .ref q1, .ref q2, .ref q3, .ref q4, .ref q5, .null, .null, .null, .null, .null]) hiX2_init_2 tyX2 tyX2_ok nmX2 2 6 rfl (by decide) mX2_init_p6 rfl rfl (by decide +kernel) rfl rfl (Nat.le_of_ble_eq_true rfl) rfl dX2_init_85 ?_
  refine k_aload_n K dX2_init_88 rfl 0 rfl ?_
  refine k_new K (fs := [.null]) (ci := 5) hiX2_init_5 tyX5 tyX5_ok mX2_init_n1 mX2_init_n2 mX2_init_n3 rfl (fun j hj => by rcases (show j = 0 by omega) with rfl; rfl) (by decide) (by decide) dX2_init_89 (fun q6 => ?_)
  refine k_dup K dX2_init_92 rfl ?_
  refine k_sipush K (v := 300) dX2_init_93 (by decide) ?_
  refine k_callI (n := 1) K _ [.int 300] (c_X5_init 300 300 (by decide) (by decide) (by decide) (by decide)) (fun _ _ _ _ _ => trivial) (fun _ _ => trivial) gX2_init_X5_init mX2_init_n4 mX2_init_n5 mX2_init_n6 rfl rfl (by decide +kernel) rfl (by decide) (by decide) (Nat.le_of_ble_eq_true rfl) (by decide) (by decide) dX2_init_96 (fun f6 => ?_)
  refine k_ws (ws' := [(h0, .inr (2, [.int 0, .ref q0, .ref q1, .ref q2, .ref q3, .ref q4, .ref q5, .null, .null, .null, .null, .null])), (q0, .inr (5, [.ref (f0 0)])), (f0 0, .inl ((XG X).2.1.1, 300, .inl (fun _ => 0))), (q1, .inr (5, [.ref (f1 0)])), (f1 0, .inl ((XG X).2.1.1, 300, .inl (fun _ => 0))), (q2, .inr (5, [.ref (f2 0)])), (f2 0, .inl ((XG X).2.1.1, 300, .inl (fun _ => 0))), (q3, .inr (5, [.ref (f3 0)])), (f3 0, .inl ((XG X).2.1.1, 300, .inl (fun _ => 0))), (q4, .inr (5, [.ref (f4 0)])), (f4 0, .inl ((XG X).2.1.1, 300, .inl (fun _ => 0))), (q5, .inr (5, [.ref (f5 0)])), (f5 0, .inl ((XG X).2.1.1, 300, .inl (fun _ => 0))), (q6, .inr (5, [.ref (f6 0)])), (f6 0, .inl ((XG X).2.1.1, 300, .inl (fun _ => 0)))]) rfl ?_
  refine k_putF K hi9 (ty := .object "ScriptRoom$Row") (fs' := [.int 0, .ref q0, .ref q1, .ref q2, .ref q3, .ref q4, .ref q5, .ref q6, .null, .null, .null, .null]) hiX2_init_2 tyX2 tyX2_ok nmX2 2 7 rfl (by decide) mX2_init_p7 rfl rfl (by decide +kernel) rfl rfl (Nat.le_of_ble_eq_true rfl) rfl dX2_init_99 ?_
  refine k_aload_n K dX2_init_102 rfl 0 rfl ?_
  refine k_new K (fs := [.null]) (ci := 5) hiX2_init_5 tyX5 tyX5_ok mX2_init_n1 mX2_init_n2 mX2_init_n3 rfl (fun j hj => by rcases (show j = 0 by omega) with rfl; rfl) (by decide) (by decide) dX2_init_103 (fun q7 => ?_)
  refine k_dup K dX2_init_106 rfl ?_
  refine k_sipush K (v := 300) dX2_init_107 (by decide) ?_
  refine k_callI (n := 1) K _ [.int 300] (c_X5_init 300 300 (by decide) (by decide) (by decide) (by decide)) (fun _ _ _ _ _ => trivial) (fun _ _ => trivial) gX2_init_X5_init mX2_init_n4 mX2_init_n5 mX2_init_n6 rfl rfl (by decide +kernel) rfl (by decide) (by decide) (Nat.le_of_ble_eq_true rfl) (by decide) (by decide) dX2_init_110 (fun f7 => ?_)
  refine k_ws (ws' := [(h0, .inr (2, [.int 0, .ref q0, .ref q1, .ref q2, .ref q3, .ref q4, .ref q5, .ref q6, .null, .null, .null, .null])), (q0, .inr (5, [.ref (f0 0)])), (f0 0, .inl ((XG X).2.1.1, 300, .inl (fun _ => 0))), (q1, .inr (5, [.ref (f1 0)])), (f1 0, .inl ((XG X).2.1.1, 300, .inl (fun _ => 0))), (q2, .inr (5, [.ref (f2 0)])), (f2 0, .inl ((XG X).2.1.1, 300, .inl (fun _ => 0))), (q3, .inr (5, [.ref (f3 0)])), (f3 0, .inl ((XG X).2.1.1, 300, .inl (fun _ => 0))), (q4, .inr (5, [.ref (f4 0)])), (f4 0, .inl ((XG X).2.1.1, 300, .inl (fun _ => 0))), (q5, .inr (5, [.ref (f5 0)])), (f5 0, .inl ((XG X).2.1.1, 300, .inl (fun _ => 0))), (q6, .inr (5, [.ref (f6 0)])), (f6 0, .inl ((XG X).2.1.1, 300, .inl (fun _ => 0))), (q7, .inr (5, [.ref (f7 0)])), (f7 0, .inl ((XG X).2.1.1, 300, .inl (fun _ => 0)))]) rfl ?_
  refine k_putF K hi9 (ty := .object "ScriptRoom$Row") (fs' := [.int 0, .ref q0, .ref q1, .ref q2, .ref q3, .ref q4, .ref q5, .ref q6, .ref q7, .null, .null, .null]) hiX2_init_2 tyX2 tyX2_ok nmX2 2 8 rfl (by decide) mX2_init_p8 rfl rfl (by decide +kernel) rfl rfl (Nat.le_of_ble_eq_true rfl) rfl dX2_init_113 ?_
  refine k_aload_n K dX2_init_116 rfl 0 rfl ?_
  refine k_new K (fs := [.null]) (ci := 5) hiX2_init_5 tyX5 tyX5_ok mX2_init_n1 mX2_init_n2 mX2_init_n3 rfl (fun j hj => by rcases (show j = 0 by omega) with rfl; rfl) (by decide) (by decide) dX2_init_117 (fun q8 => ?_)
  refine k_dup K dX2_init_120 rfl ?_
  refine k_bipush K (v := 64) dX2_init_121 (by decide) ?_
  refine k_callI (n := 1) K _ [.int 64] (c_X5_init 64 64 (by decide) (by decide) (by decide) (by decide)) (fun _ _ _ _ _ => trivial) (fun _ _ => trivial) gX2_init_X5_init mX2_init_n4 mX2_init_n5 mX2_init_n6 rfl rfl (by decide +kernel) rfl (by decide) (by decide) (Nat.le_of_ble_eq_true rfl) (by decide) (by decide) dX2_init_123 (fun f8 => ?_)
  refine k_ws (ws' := [(h0, .inr (2, [.int 0, .ref q0, .ref q1, .ref q2, .ref q3, .ref q4, .ref q5, .ref q6, .ref q7, .null, .null, .null])), (q0, .inr (5, [.ref (f0 0)])), (f0 0, .inl ((XG X).2.1.1, 300, .inl (fun _ => 0))), (q1, .inr (5, [.ref (f1 0)])), (f1 0, .inl ((XG X).2.1.1, 300, .inl (fun _ => 0))), (q2, .inr (5, [.ref (f2 0)])), (f2 0, .inl ((XG X).2.1.1, 300, .inl (fun _ => 0))), (q3, .inr (5, [.ref (f3 0)])), (f3 0, .inl ((XG X).2.1.1, 300, .inl (fun _ => 0))), (q4, .inr (5, [.ref (f4 0)])), (f4 0, .inl ((XG X).2.1.1, 300, .inl (fun _ => 0))), (q5, .inr (5, [.ref (f5 0)])), (f5 0, .inl ((XG X).2.1.1, 300, .inl (fun _ => 0))), (q6, .inr (5, [.ref (f6 0)])), (f6 0, .inl ((XG X).2.1.1, 300, .inl (fun _ => 0))), (q7, .inr (5, [.ref (f7 0)])), (f7 0, .inl ((XG X).2.1.1, 300, .inl (fun _ => 0))), (q8, .inr (5, [.ref (f8 0)])), (f8 0, .inl ((XG X).2.1.1, 64, .inl (fun _ => 0)))]) rfl ?_
  refine k_putF K hi9 (ty := .object "ScriptRoom$Row") (fs' := [.int 0, .ref q0, .ref q1, .ref q2, .ref q3, .ref q4, .ref q5, .ref q6, .ref q7, .ref q8, .null, .null]) hiX2_init_2 tyX2 tyX2_ok nmX2 2 9 rfl (by decide) mX2_init_p9 rfl rfl (by decide +kernel) rfl rfl (Nat.le_of_ble_eq_true rfl) rfl dX2_init_126 ?_
  refine k_aload_n K dX2_init_129 rfl 0 rfl ?_
  refine k_new K (fs := [.null]) (ci := 5) hiX2_init_5 tyX5 tyX5_ok mX2_init_n1 mX2_init_n2 mX2_init_n3 rfl (fun j hj => by rcases (show j = 0 by omega) with rfl; rfl) (by decide) (by decide) dX2_init_130 (fun q9 => ?_)
  refine k_dup K dX2_init_133 rfl ?_
  refine k_bipush K (v := 64) dX2_init_134 (by decide) ?_
  refine k_callI (n := 1) K _ [.int 64] (c_X5_init 64 64 (by decide) (by decide) (by decide) (by decide)) (fun _ _ _ _ _ => trivial) (fun _ _ => trivial) gX2_init_X5_init mX2_init_n4 mX2_init_n5 mX2_init_n6 rfl rfl (by decide +kernel) rfl (by decide) (by decide) (Nat.le_of_ble_eq_true rfl) (by decide) (by decide) dX2_init_136 (fun f9 => ?_)
  refine k_ws (ws' := [(h0, .inr (2, [.int 0, .ref q0, .ref q1, .ref q2, .ref q3, .ref q4, .ref q5, .ref q6, .ref q7, .ref q8, .null, .null])), (q0, .inr (5, [.ref (f0 0)])), (f0 0, .inl ((XG X).2.1.1, 300, .inl (fun _ => 0))), (q1, .inr (5, [.ref (f1 0)])), (f1 0, .inl ((XG X).2.1.1, 300, .inl (fun _ => 0))), (q2, .inr (5, [.ref (f2 0)])), (f2 0, .inl ((XG X).2.1.1, 300, .inl (fun _ => 0))), (q3, .inr (5, [.ref (f3 0)])), (f3 0, .inl ((XG X).2.1.1, 300, .inl (fun _ => 0))), (q4, .inr (5, [.ref (f4 0)])), (f4 0, .inl ((XG X).2.1.1, 300, .inl (fun _ => 0))), (q5, .inr (5, [.ref (f5 0)])), (f5 0, .inl ((XG X).2.1.1, 300, .inl (fun _ => 0))), (q6, .inr (5, [.ref (f6 0)])), (f6 0, .inl ((XG X).2.1.1, 300, .inl (fun _ => 0))), (q7, .inr (5, [.ref (f7 0)])), (f7 0, .inl ((XG X).2.1.1, 300, .inl (fun _ => 0))), (q8, .inr (5, [.ref (f8 0)])), (f8 0, .inl ((XG X).2.1.1, 64, .inl (fun _ => 0))), (q9, .inr (5, [.ref (f9 0)])), (f9 0, .inl ((XG X).2.1.1, 64, .inl (fun _ => 0)))]) rfl ?_
  refine k_putF K hi9 (ty := .object "ScriptRoom$Row") (fs' := [.int 0, .ref q0, .ref q1, .ref q2, .ref q3, .ref q4, .ref q5, .ref q6, .ref q7, .ref q8, .ref q9, .null]) hiX2_init_2 tyX2 tyX2_ok nmX2 2 10 rfl (by decide) mX2_init_p10 rfl rfl (by decide +kernel) rfl rfl (Nat.le_of_ble_eq_true rfl) rfl dX2_init_139 ?_
  refine k_aload_n K dX2_init_142 rfl 0 rfl ?_
  refine k_new K (fs := [.null]) (ci := 5) hiX2_init_5 tyX5 tyX5_ok mX2_init_n1 mX2_init_n2 mX2_init_n3 rfl (fun j hj => by rcases (show j = 0 by omega) with rfl; rfl) (by decide) (by decide) dX2_init_143 (fun q10 => ?_)
  refine k_dup K dX2_init_146 rfl ?_
  refine k_bipush K (v := 64) dX2_init_147 (by decide) ?_
  refine k_callI (n := 1) K _ [.int 64] (c_X5_init 64 64 (by decide) (by decide) (by decide) (by decide)) (fun _ _ _ _ _ => trivial) (fun _ _ => trivial) gX2_init_X5_init mX2_init_n4 mX2_init_n5 mX2_init_n6 rfl rfl (by decide +kernel) rfl (by decide) (by decide) (Nat.le_of_ble_eq_true rfl) (by decide) (by decide) dX2_init_149 (fun f10 => ?_)
  refine k_ws (ws' := [(h0, .inr (2, [.int 0, .ref q0, .ref q1, .ref q2, .ref q3, .ref q4, .ref q5, .ref q6, .ref q7, .ref q8, .ref q9, .null])), (q0, .inr (5, [.ref (f0 0)])), (f0 0, .inl ((XG X).2.1.1, 300, .inl (fun _ => 0))), (q1, .inr (5, [.ref (f1 0)])), (f1 0, .inl ((XG X).2.1.1, 300, .inl (fun _ => 0))), (q2, .inr (5, [.ref (f2 0)])), (f2 0, .inl ((XG X).2.1.1, 300, .inl (fun _ => 0))), (q3, .inr (5, [.ref (f3 0)])), (f3 0, .inl ((XG X).2.1.1, 300, .inl (fun _ => 0))), (q4, .inr (5, [.ref (f4 0)])), (f4 0, .inl ((XG X).2.1.1, 300, .inl (fun _ => 0))), (q5, .inr (5, [.ref (f5 0)])), (f5 0, .inl ((XG X).2.1.1, 300, .inl (fun _ => 0))), (q6, .inr (5, [.ref (f6 0)])), (f6 0, .inl ((XG X).2.1.1, 300, .inl (fun _ => 0))), (q7, .inr (5, [.ref (f7 0)])), (f7 0, .inl ((XG X).2.1.1, 300, .inl (fun _ => 0))), (q8, .inr (5, [.ref (f8 0)])), (f8 0, .inl ((XG X).2.1.1, 64, .inl (fun _ => 0))), (q9, .inr (5, [.ref (f9 0)])), (f9 0, .inl ((XG X).2.1.1, 64, .inl (fun _ => 0))), (q10, .inr (5, [.ref (f10 0)])), (f10 0, .inl ((XG X).2.1.1, 64, .inl (fun _ => 0)))]) rfl ?_
  refine k_putF K hi9 (ty := .object "ScriptRoom$Row") (fs' := [.int 0, .ref q0, .ref q1, .ref q2, .ref q3, .ref q4, .ref q5, .ref q6, .ref q7, .ref q8, .ref q9, .ref q10]) hiX2_init_2 tyX2 tyX2_ok nmX2 2 11 rfl (by decide) mX2_init_p11 rfl rfl (by decide +kernel) rfl rfl (Nat.le_of_ble_eq_true rfl) rfl dX2_init_152 ?_
  exact hR _ _ _ _ (fun k => [q0, f0 0, q1, f1 0, q2, f2 0, q3, f3 0, q4, f4 0, q5, f5 0, q6, f6 0, q7, f7 0, q8, f8 0, q9, f9 0, q10, f10 0].getD k 0) (by decide) (by decide) dX2_init_155
def outX8 (G : Geo) (h0 : Nat) (f : Nat → Nat) : va_W := [(h0, .inr (8, [.int 0, .int 0, .int 0, .int 0, .int 0, .int 0, .int 0]))]
theorem mX8_init_o1 : Cond.methodLink RX8 3 objectInit ∈ wsX8_init := by decide +kernel
theorem mX8_init_o2 : Cond.instanceMethod objectInit ∈ wsX8_init := by decide +kernel
theorem mX8_init_o3 : Cond.code objectInit ⟨#[0xb1]⟩ 1 none ∈ wsX8_init := by decide +kernel
set_option maxHeartbeats 4000000 in
set_option maxRecDepth 100000 in
theorem c_X8_init (l : Launch) : Cin l yX8_init wsX8_init 1 12 0 0 8 [.int 0, .int 0, .int 0, .int 0, .int 0, .int 0, .int 0] [] (fun _ => True) outX8 := by
  refine mk_in (cc := cX8_init) (nL := 1) (own := RX8) (by decide) rfl rfl rfl (fun _ => Nat.le_of_ble_eq_true rfl) (fun X h0 K hi9 _ hR => ?_)
  show Bc X 1 0 0 0 [(0, .ref h0)] [] [(h0, .inr (8, [.int 0, .int 0, .int 0, .int 0, .int 0, .int 0, .int 0]))]
  refine k_aload_n K dX8_init_0 rfl 0 rfl ?_
  refine k_objInit K mX8_init_o1 mX8_init_o2 mX8_init_o3 dX8_init_1 (by decide) (by decide) ?_
  exact hR _ _ _ _ (fun k => [].getD k 0) (by decide) (by decide) dX8_init_4
def wN9 (U : State) : Prop := va_Nw (.methodLinkNest RX9 9 yX1_init "ScriptRoom") U ∧ va_Nw (.methodLinkNest RX9 18 yX0_init "ScriptRoom") U ∧ va_Nw (.methodLinkNest RX9 25 yX6_init "ScriptRoom") U ∧ va_Nw (.methodLinkNest RX9 32 yX3_init "ScriptRoom") U ∧ va_Nw (.methodLinkNest RX9 39 yX4_init "ScriptRoom") U ∧ va_Nw (.methodLinkNest RX9 46 yX7_init "ScriptRoom") U ∧ va_Nw (.methodLinkNest RX9 53 yX2_init "ScriptRoom") U ∧ va_Nw (.methodLinkNest RX9 60 yX8_init "ScriptRoom") U
theorem wN9.N0 {U : State} (h : wN9 U) : va_Nw (.methodLinkNest RX9 9 yX1_init "ScriptRoom") U := h.1
theorem wN9.N1 {U : State} (h : wN9 U) : va_Nw (.methodLinkNest RX9 18 yX0_init "ScriptRoom") U := h.2.1
theorem wN9.N2 {U : State} (h : wN9 U) : va_Nw (.methodLinkNest RX9 25 yX6_init "ScriptRoom") U := h.2.2.1
theorem wN9.N3 {U : State} (h : wN9 U) : va_Nw (.methodLinkNest RX9 32 yX3_init "ScriptRoom") U := h.2.2.2.1
theorem wN9.N4 {U : State} (h : wN9 U) : va_Nw (.methodLinkNest RX9 39 yX4_init "ScriptRoom") U := h.2.2.2.2.1
theorem wN9.N5 {U : State} (h : wN9 U) : va_Nw (.methodLinkNest RX9 46 yX7_init "ScriptRoom") U := h.2.2.2.2.2.1
theorem wN9.N6 {U : State} (h : wN9 U) : va_Nw (.methodLinkNest RX9 53 yX2_init "ScriptRoom") U := h.2.2.2.2.2.2.1
theorem wN9.N7 {U : State} (h : wN9 U) : va_Nw (.methodLinkNest RX9 60 yX8_init "ScriptRoom") U := h.2.2.2.2.2.2.2
theorem wN9.blind (U : State) (g : JFrame) (mk : MethodId) (a : Array Value) (h : wN9 U) : wN9 (U.calling g mk a) := ⟨va_Nw.same rfl (u := U) (U := U.calling g mk a) rfl h.N0, va_Nw.same rfl (u := U) (U := U.calling g mk a) rfl h.N1, va_Nw.same rfl (u := U) (U := U.calling g mk a) rfl h.N2, va_Nw.same rfl (u := U) (U := U.calling g mk a) rfl h.N3, va_Nw.same rfl (u := U) (U := U.calling g mk a) rfl h.N4, va_Nw.same rfl (u := U) (U := U.calling g mk a) rfl h.N5, va_Nw.same rfl (u := U) (U := U.calling g mk a) rfl h.N6, va_Nw.same rfl (u := U) (U := U.calling g mk a) rfl h.N7⟩
theorem wN9.warm {s U : State} (hW : s.WarmedH U.vm) (h : wN9 s) : wN9 U := ⟨va_Nw.warmM hW h.N0, va_Nw.warmM hW h.N1, va_Nw.warmM hW h.N2, va_Nw.warmM hW h.N3, va_Nw.warmM hW h.N4, va_Nw.warmM hW h.N5, va_Nw.warmM hW h.N6, va_Nw.warmM hW h.N7⟩
def outX9 (G : Geo) (h0 : Nat) (f : Nat → Nat) : va_W := (h0, .inr (9, [.ref (f 0), .ref (f 3), .ref (f 6), .ref (f 23), .ref (f 36), .ref (f 61), .ref (f 66), .ref (f 89), .ref (f 90), .ref (f 92), .int 1, .int 0, .int 0, .int 0, .int 0])) :: (((((((((([] ++ outX1 G (f 0) (fun k => f (1 + k))) ++ outX0 G (f 3) (fun k => f (4 + k))) ++ outX6 G (f 6) (fun k => f (7 + k))) ++ outX3 G (f 23) (fun k => f (24 + k))) ++ outX4 G (f 36) (fun k => f (37 + k))) ++ outX7 G (f 61) (fun k => f (62 + k))) ++ outX2 G (f 66) (fun k => f (67 + k))) ++ outX8 G (f 89) (fun k => f (90 + k))) ++ outX5 4 G (f 90) (fun k => f (91 + k))) ++ outX5 16 G (f 92) (fun k => f (93 + k)))
theorem hiX9_init_0 : ∀ w ∈ wsX00, w ∈ wsX9_init := by decide +kernel
theorem hiX9_init_1 : ∀ w ∈ wsX10, w ∈ wsX9_init := by decide +kernel
theorem hiX9_init_2 : ∀ w ∈ wsX20, w ∈ wsX9_init := by decide +kernel
theorem hiX9_init_3 : ∀ w ∈ wsX30, w ∈ wsX9_init := by decide +kernel
theorem hiX9_init_4 : ∀ w ∈ wsX40, w ∈ wsX9_init := by decide +kernel
theorem hiX9_init_5 : ∀ w ∈ wsX50, w ∈ wsX9_init := by decide +kernel
theorem hiX9_init_6 : ∀ w ∈ wsX60, w ∈ wsX9_init := by decide +kernel
theorem hiX9_init_7 : ∀ w ∈ wsX70, w ∈ wsX9_init := by decide +kernel
theorem hiX9_init_8 : ∀ w ∈ wsX80, w ∈ wsX9_init := by decide +kernel
theorem hiX9_init_9 : ∀ w ∈ wsX90, w ∈ wsX9_init := by decide +kernel
theorem mX9_init_o1 : Cond.methodLink RX9 1 objectInit ∈ wsX9_init := by decide +kernel
theorem mX9_init_o2 : Cond.instanceMethod objectInit ∈ wsX9_init := by decide +kernel
theorem mX9_init_o3 : Cond.code objectInit ⟨#[0xb1]⟩ 1 none ∈ wsX9_init := by decide +kernel
theorem mX9_init_n1_1 : Cond.classLink RX9 7 RX1 ∈ wsX9_init := by decide +kernel
theorem mX9_init_n2_1 : Cond.instantiable RX1 2 ∈ wsX9_init := by decide +kernel
theorem mX9_init_n3_1 : Cond.initialized RX1 ∈ wsX9_init := by decide +kernel
theorem mX9_init_i1 : Cond.initialized yX1_init.cls ∈ wsX9_init := by decide +kernel
theorem mX9_init_j1 : Cond.instanceMethod yX1_init ∈ wsX9_init := by decide +kernel
theorem mX9_init_p0 : Cond.fieldLink RX9 10 RX9 (TX9 0).2.1 (TX9 0).2.2.1 ∈ wsX9_init := by decide +kernel
theorem mX9_init_n1_0 : Cond.classLink RX9 16 RX0 ∈ wsX9_init := by decide +kernel
theorem mX9_init_n2_0 : Cond.instantiable RX0 6 ∈ wsX9_init := by decide +kernel
theorem mX9_init_n3_0 : Cond.initialized RX0 ∈ wsX9_init := by decide +kernel
theorem mX9_init_i0 : Cond.initialized yX0_init.cls ∈ wsX9_init := by decide +kernel
theorem mX9_init_j0 : Cond.instanceMethod yX0_init ∈ wsX9_init := by decide +kernel
theorem mX9_init_p1 : Cond.fieldLink RX9 19 RX9 (TX9 1).2.1 (TX9 1).2.2.1 ∈ wsX9_init := by decide +kernel
theorem mX9_init_n1_6 : Cond.classLink RX9 23 RX6 ∈ wsX9_init := by decide +kernel
theorem mX9_init_n2_6 : Cond.instantiable RX6 8 ∈ wsX9_init := by decide +kernel
theorem mX9_init_n3_6 : Cond.initialized RX6 ∈ wsX9_init := by decide +kernel
theorem mX9_init_i6 : Cond.initialized yX6_init.cls ∈ wsX9_init := by decide +kernel
theorem mX9_init_j6 : Cond.instanceMethod yX6_init ∈ wsX9_init := by decide +kernel
theorem mX9_init_p2 : Cond.fieldLink RX9 26 RX9 (TX9 2).2.1 (TX9 2).2.2.1 ∈ wsX9_init := by decide +kernel
theorem mX9_init_n1_3 : Cond.classLink RX9 30 RX3 ∈ wsX9_init := by decide +kernel
theorem mX9_init_n2_3 : Cond.instantiable RX3 7 ∈ wsX9_init := by decide +kernel
theorem mX9_init_n3_3 : Cond.initialized RX3 ∈ wsX9_init := by decide +kernel
theorem mX9_init_i3 : Cond.initialized yX3_init.cls ∈ wsX9_init := by decide +kernel
theorem mX9_init_j3 : Cond.instanceMethod yX3_init ∈ wsX9_init := by decide +kernel
theorem mX9_init_p3 : Cond.fieldLink RX9 33 RX9 (TX9 3).2.1 (TX9 3).2.2.1 ∈ wsX9_init := by decide +kernel
theorem mX9_init_n1_4 : Cond.classLink RX9 37 RX4 ∈ wsX9_init := by decide +kernel
theorem mX9_init_n2_4 : Cond.instantiable RX4 13 ∈ wsX9_init := by decide +kernel
theorem mX9_init_n3_4 : Cond.initialized RX4 ∈ wsX9_init := by decide +kernel
theorem mX9_init_i4 : Cond.initialized yX4_init.cls ∈ wsX9_init := by decide +kernel
theorem mX9_init_j4 : Cond.instanceMethod yX4_init ∈ wsX9_init := by decide +kernel
theorem mX9_init_p4 : Cond.fieldLink RX9 40 RX9 (TX9 4).2.1 (TX9 4).2.2.1 ∈ wsX9_init := by decide +kernel
theorem mX9_init_n1_7 : Cond.classLink RX9 44 RX7 ∈ wsX9_init := by decide +kernel
theorem mX9_init_n2_7 : Cond.instantiable RX7 3 ∈ wsX9_init := by decide +kernel
theorem mX9_init_n3_7 : Cond.initialized RX7 ∈ wsX9_init := by decide +kernel
theorem mX9_init_i7 : Cond.initialized yX7_init.cls ∈ wsX9_init := by decide +kernel
theorem mX9_init_j7 : Cond.instanceMethod yX7_init ∈ wsX9_init := by decide +kernel
theorem mX9_init_p5 : Cond.fieldLink RX9 47 RX9 (TX9 5).2.1 (TX9 5).2.2.1 ∈ wsX9_init := by decide +kernel
theorem mX9_init_n1_2 : Cond.classLink RX9 51 RX2 ∈ wsX9_init := by decide +kernel
theorem mX9_init_n2_2 : Cond.instantiable RX2 12 ∈ wsX9_init := by decide +kernel
theorem mX9_init_n3_2 : Cond.initialized RX2 ∈ wsX9_init := by decide +kernel
theorem mX9_init_i2 : Cond.initialized yX2_init.cls ∈ wsX9_init := by decide +kernel
theorem mX9_init_j2 : Cond.instanceMethod yX2_init ∈ wsX9_init := by decide +kernel
theorem mX9_init_p6 : Cond.fieldLink RX9 54 RX9 (TX9 6).2.1 (TX9 6).2.2.1 ∈ wsX9_init := by decide +kernel
theorem mX9_init_n1_8 : Cond.classLink RX9 58 RX8 ∈ wsX9_init := by decide +kernel
theorem mX9_init_n2_8 : Cond.instantiable RX8 7 ∈ wsX9_init := by decide +kernel
theorem mX9_init_n3_8 : Cond.initialized RX8 ∈ wsX9_init := by decide +kernel
theorem mX9_init_i8 : Cond.initialized yX8_init.cls ∈ wsX9_init := by decide +kernel
theorem mX9_init_j8 : Cond.instanceMethod yX8_init ∈ wsX9_init := by decide +kernel
theorem mX9_init_p7 : Cond.fieldLink RX9 61 RX9 (TX9 7).2.1 (TX9 7).2.2.1 ∈ wsX9_init := by decide +kernel
theorem mX9_init_n1_5 : Cond.classLink RX9 65 RX5 ∈ wsX9_init := by decide +kernel
theorem mX9_init_n2_5 : Cond.instantiable RX5 1 ∈ wsX9_init := by decide +kernel
theorem mX9_init_n3_5 : Cond.initialized RX5 ∈ wsX9_init := by decide +kernel
theorem mX9_init_i5 : Cond.initialized yX5_init.cls ∈ wsX9_init := by decide +kernel
theorem mX9_init_l5 : Cond.methodLink RX9 67 yX5_init ∈ wsX9_init := by decide +kernel
theorem mX9_init_j5 : Cond.instanceMethod yX5_init ∈ wsX9_init := by decide +kernel
theorem mX9_init_p8 : Cond.fieldLink RX9 70 RX9 (TX9 8).2.1 (TX9 8).2.2.1 ∈ wsX9_init := by decide +kernel
theorem mX9_init_p9 : Cond.fieldLink RX9 74 RX9 (TX9 9).2.1 (TX9 9).2.2.1 ∈ wsX9_init := by decide +kernel
theorem mX9_init_p10 : Cond.fieldLink RX9 77 RX9 (TX9 10).2.1 (TX9 10).2.2.1 ∈ wsX9_init := by decide +kernel
set_option maxHeartbeats 4000000 in
set_option maxRecDepth 100000 in
theorem c_X9_init (l : Launch) : Cin l yX9_init wsX9_init 3 55 94 5028 9 [.null, .null, .null, .null, .null, .null, .null, .null, .null, .null, .int 0, .int 0, .int 0, .int 0, .int 0] [] wN9 outX9 := by
  refine mk_in (cc := cX9_init) (nL := 1) (own := RX9) (by decide) rfl rfl rfl (fun _ => Nat.le_of_ble_eq_true rfl) (fun X h0 K hi9 hE hR => ?_)
  show Bc X 1 0 0 0 [(0, .ref h0)] [] [(h0, .inr (9, [.null, .null, .null, .null, .null, .null, .null, .null, .null, .null, .int 0, .int 0, .int 0, .int 0, .int 0]))]
  refine k_aload_n K dX9_init_0 rfl 0 rfl ?_
  refine k_objInit K mX9_init_o1 mX9_init_o2 mX9_init_o3 dX9_init_1 (by decide) (by decide) ?_
  refine k_aload_n K dX9_init_4 rfl 0 rfl ?_
  refine k_new K (fs := [.null, .int 0]) (ci := 1) hiX9_init_1 tyX1 tyX1_ok mX9_init_n1_1 mX9_init_n2_1 mX9_init_n3_1 rfl (fun j hj => by rcases (show j = 0 ∨ j = 1 by omega) with rfl | rfl <;> rfl) (by decide) (by decide) dX9_init_5 (fun q0 => ?_)
  refine k_dup K dX9_init_8 rfl ?_
  refine k_callN (n := 0) K _ [] c_X1_init (fun _ _ _ _ _ => trivial) (fun _ _ => trivial) gX9_init_X1_init_n9 mX9_init_i1 (hE.N0) mX9_init_j1 rfl rfl (by decide +kernel) rfl (by decide) (by decide) (Nat.le_of_ble_eq_true rfl) (by decide) (by decide) dX9_init_9 (fun f0 => ?_)
  refine k_ws (ws' := (h0, .inr (9, [.null, .null, .null, .null, .null, .null, .null, .null, .null, .null, .int 0, .int 0, .int 0, .int 0, .int 0])) :: ([] ++ outX1 (XG X) q0 f0)) rfl ?_
  refine k_putF K hi9 (ty := .object "ScriptRoom$Line") (fs' := [.ref q0, .null, .null, .null, .null, .null, .null, .null, .null, .null, .int 0, .int 0, .int 0, .int 0, .int 0]) hiX9_init_9 tyX9 tyX9_ok nmX9 9 0 rfl (by decide) mX9_init_p0 rfl rfl (by decide +kernel) rfl rfl (Nat.le_of_ble_eq_true rfl) rfl dX9_init_12 ?_
  refine k_aload_n K dX9_init_15 rfl 0 rfl ?_
  refine k_new K (fs := [.null, .int 0, .int 0, .int 0, .int 0, .int 0]) (ci := 0) hiX9_init_0 tyX0 tyX0_ok mX9_init_n1_0 mX9_init_n2_0 mX9_init_n3_0 rfl (fun j hj => by rcases (show j = 0 ∨ j = 1 ∨ j = 2 ∨ j = 3 ∨ j = 4 ∨ j = 5 by omega) with rfl | rfl | rfl | rfl | rfl | rfl <;> rfl) (by decide) (by decide) dX9_init_16 (fun q1 => ?_)
  refine k_dup K dX9_init_19 rfl ?_
  refine k_callN (n := 0) K _ [] c_X0_init (fun _ _ _ _ _ => trivial) (fun _ _ => trivial) gX9_init_X0_init_n18 mX9_init_i0 (hE.N1) mX9_init_j0 rfl rfl (by decide +kernel) rfl (by decide) (by decide) (Nat.le_of_ble_eq_true rfl) (by decide) (by decide) dX9_init_20 (fun f1 => ?_)
  refine k_ws (ws' := (h0, .inr (9, [.ref q0, .null, .null, .null, .null, .null, .null, .null, .null, .null, .int 0, .int 0, .int 0, .int 0, .int 0])) :: (([] ++ outX1 (XG X) q0 f0) ++ outX0 (XG X) q1 f1)) rfl ?_
  refine k_putF K hi9 (ty := .object "ScriptRoom$Draft") (fs' := [.ref q0, .ref q1, .null, .null, .null, .null, .null, .null, .null, .null, .int 0, .int 0, .int 0, .int 0, .int 0]) hiX9_init_9 tyX9 tyX9_ok nmX9 9 1 rfl (by decide) mX9_init_p1 rfl rfl (by decide +kernel) rfl rfl (Nat.le_of_ble_eq_true rfl) rfl dX9_init_23 ?_
  refine k_aload_n K dX9_init_26 rfl 0 rfl ?_
  refine k_new K (fs := [.null, .null, .null, .null, .null, .null, .null, .null]) (ci := 6) hiX9_init_6 tyX6 tyX6_ok mX9_init_n1_6 mX9_init_n2_6 mX9_init_n3_6 rfl (fun j hj => by rcases (show j = 0 ∨ j = 1 ∨ j = 2 ∨ j = 3 ∨ j = 4 ∨ j = 5 ∨ j = 6 ∨ j = 7 by omega) with rfl | rfl | rfl | rfl | rfl | rfl | rfl | rfl <;> rfl) (by decide) (by decide) dX9_init_27 (fun q2 => ?_)
  refine k_dup K dX9_init_30 rfl ?_
  refine k_callN (n := 0) K _ [] c_X6_init (fun _ _ _ _ _ => trivial) (fun _ _ => trivial) gX9_init_X6_init_n25 mX9_init_i6 (hE.N2) mX9_init_j6 rfl rfl (by decide +kernel) rfl (by decide) (by decide) (Nat.le_of_ble_eq_true rfl) (by decide) (by decide) dX9_init_31 (fun f2 => ?_)
  refine k_ws (ws' := (h0, .inr (9, [.ref q0, .ref q1, .null, .null, .null, .null, .null, .null, .null, .null, .int 0, .int 0, .int 0, .int 0, .int 0])) :: ((([] ++ outX1 (XG X) q0 f0) ++ outX0 (XG X) q1 f1) ++ outX6 (XG X) q2 f2)) rfl ?_
  refine k_putF K hi9 (ty := .object "ScriptRoom$Schemes") (fs' := [.ref q0, .ref q1, .ref q2, .null, .null, .null, .null, .null, .null, .null, .int 0, .int 0, .int 0, .int 0, .int 0]) hiX9_init_9 tyX9 tyX9_ok nmX9 9 2 rfl (by decide) mX9_init_p2 rfl rfl (by decide +kernel) rfl rfl (Nat.le_of_ble_eq_true rfl) rfl dX9_init_34 ?_
  refine k_aload_n K dX9_init_37 rfl 0 rfl ?_
  refine k_new K (fs := [.int 0, .null, .null, .null, .null, .null, .null]) (ci := 3) hiX9_init_3 tyX3 tyX3_ok mX9_init_n1_3 mX9_init_n2_3 mX9_init_n3_3 rfl (fun j hj => by rcases (show j = 0 ∨ j = 1 ∨ j = 2 ∨ j = 3 ∨ j = 4 ∨ j = 5 ∨ j = 6 by omega) with rfl | rfl | rfl | rfl | rfl | rfl | rfl <;> rfl) (by decide) (by decide) dX9_init_38 (fun q3 => ?_)
  refine k_dup K dX9_init_41 rfl ?_
  refine k_callN (n := 0) K _ [] c_X3_init (fun _ _ _ _ _ => trivial) (fun _ _ => trivial) gX9_init_X3_init_n32 mX9_init_i3 (hE.N3) mX9_init_j3 rfl rfl (by decide +kernel) rfl (by decide) (by decide) (Nat.le_of_ble_eq_true rfl) (by decide) (by decide) dX9_init_42 (fun f3 => ?_)
  refine k_ws (ws' := (h0, .inr (9, [.ref q0, .ref q1, .ref q2, .null, .null, .null, .null, .null, .null, .null, .int 0, .int 0, .int 0, .int 0, .int 0])) :: (((([] ++ outX1 (XG X) q0 f0) ++ outX0 (XG X) q1 f1) ++ outX6 (XG X) q2 f2) ++ outX3 (XG X) q3 f3)) rfl ?_
  refine k_putF K hi9 (ty := .object "ScriptRoom$Pupils") (fs' := [.ref q0, .ref q1, .ref q2, .ref q3, .null, .null, .null, .null, .null, .null, .int 0, .int 0, .int 0, .int 0, .int 0]) hiX9_init_9 tyX9 tyX9_ok nmX9 9 3 rfl (by decide) mX9_init_p3 rfl rfl (by decide +kernel) rfl rfl (Nat.le_of_ble_eq_true rfl) rfl dX9_init_45 ?_
  refine k_aload_n K dX9_init_48 rfl 0 rfl ?_
  refine k_new K (fs := [.int 0, .null, .null, .null, .null, .null, .null, .null, .null, .null, .null, .null, .null]) (ci := 4) hiX9_init_4 tyX4 tyX4_ok mX9_init_n1_4 mX9_init_n2_4 mX9_init_n3_4 rfl (fun j hj => by rcases (show j = 0 ∨ j = 1 ∨ j = 2 ∨ j = 3 ∨ j = 4 ∨ j = 5 ∨ j = 6 ∨ j = 7 ∨ j = 8 ∨ j = 9 ∨ j = 10 ∨ j = 11 ∨ j = 12 by omega) with rfl | rfl | rfl | rfl | rfl | rfl | rfl | rfl | rfl | rfl | rfl | rfl | rfl <;> rfl) (by decide) (by decide) dX9_init_49 (fun q4 => ?_)
  refine k_dup K dX9_init_52 rfl ?_
  refine k_callN (n := 0) K _ [] c_X4_init (fun _ _ _ _ _ => trivial) (fun _ _ => trivial) gX9_init_X4_init_n39 mX9_init_i4 (hE.N4) mX9_init_j4 rfl rfl (by decide +kernel) rfl (by decide) (by decide) (Nat.le_of_ble_eq_true rfl) (by decide) (by decide) dX9_init_53 (fun f4 => ?_)
  refine k_ws (ws' := (h0, .inr (9, [.ref q0, .ref q1, .ref q2, .ref q3, .null, .null, .null, .null, .null, .null, .int 0, .int 0, .int 0, .int 0, .int 0])) :: ((((([] ++ outX1 (XG X) q0 f0) ++ outX0 (XG X) q1 f1) ++ outX6 (XG X) q2 f2) ++ outX3 (XG X) q3 f3) ++ outX4 (XG X) q4 f4)) rfl ?_
  refine k_putF K hi9 (ty := .object "ScriptRoom$Readers") (fs' := [.ref q0, .ref q1, .ref q2, .ref q3, .ref q4, .null, .null, .null, .null, .null, .int 0, .int 0, .int 0, .int 0, .int 0]) hiX9_init_9 tyX9 tyX9_ok nmX9 9 4 rfl (by decide) mX9_init_p4 rfl rfl (by decide +kernel) rfl rfl (Nat.le_of_ble_eq_true rfl) rfl dX9_init_56 ?_
  refine k_aload_n K dX9_init_59 rfl 0 rfl ?_
  refine k_new K (fs := [.int 0, .null, .null]) (ci := 7) hiX9_init_7 tyX7 tyX7_ok mX9_init_n1_7 mX9_init_n2_7 mX9_init_n3_7 rfl (fun j hj => by rcases (show j = 0 ∨ j = 1 ∨ j = 2 by omega) with rfl | rfl | rfl <;> rfl) (by decide) (by decide) dX9_init_60 (fun q5 => ?_)
  refine k_dup K dX9_init_63 rfl ?_
  refine k_callN (n := 0) K _ [] c_X7_init (fun _ _ _ _ _ => trivial) (fun _ _ => trivial) gX9_init_X7_init_n46 mX9_init_i7 (hE.N5) mX9_init_j7 rfl rfl (by decide +kernel) rfl (by decide) (by decide) (Nat.le_of_ble_eq_true rfl) (by decide) (by decide) dX9_init_64 (fun f5 => ?_)
  refine k_ws (ws' := (h0, .inr (9, [.ref q0, .ref q1, .ref q2, .ref q3, .ref q4, .null, .null, .null, .null, .null, .int 0, .int 0, .int 0, .int 0, .int 0])) :: (((((([] ++ outX1 (XG X) q0 f0) ++ outX0 (XG X) q1 f1) ++ outX6 (XG X) q2 f2) ++ outX3 (XG X) q3 f3) ++ outX4 (XG X) q4 f4) ++ outX7 (XG X) q5 f5)) rfl ?_
  refine k_putF K hi9 (ty := .object "ScriptRoom$Seeds") (fs' := [.ref q0, .ref q1, .ref q2, .ref q3, .ref q4, .ref q5, .null, .null, .null, .null, .int 0, .int 0, .int 0, .int 0, .int 0]) hiX9_init_9 tyX9 tyX9_ok nmX9 9 5 rfl (by decide) mX9_init_p5 rfl rfl (by decide +kernel) rfl rfl (Nat.le_of_ble_eq_true rfl) rfl dX9_init_67 ?_
  refine k_aload_n K dX9_init_70 rfl 0 rfl ?_
  refine k_new K (fs := [.int 0, .null, .null, .null, .null, .null, .null, .null, .null, .null, .null, .null]) (ci := 2) hiX9_init_2 tyX2 tyX2_ok mX9_init_n1_2 mX9_init_n2_2 mX9_init_n3_2 rfl (fun j hj => by rcases (show j = 0 ∨ j = 1 ∨ j = 2 ∨ j = 3 ∨ j = 4 ∨ j = 5 ∨ j = 6 ∨ j = 7 ∨ j = 8 ∨ j = 9 ∨ j = 10 ∨ j = 11 by omega) with rfl | rfl | rfl | rfl | rfl | rfl | rfl | rfl | rfl | rfl | rfl | rfl <;> rfl) (by decide) (by decide) dX9_init_71 (fun q6 => ?_)
  refine k_dup K dX9_init_74 rfl ?_
  refine k_callN (n := 0) K _ [] c_X2_init (fun _ _ _ _ _ => trivial) (fun _ _ => trivial) gX9_init_X2_init_n53 mX9_init_i2 (hE.N6) mX9_init_j2 rfl rfl (by decide +kernel) rfl (by decide) (by decide) (Nat.le_of_ble_eq_true rfl) (by decide) (by decide) dX9_init_75 (fun f6 => ?_)
  refine k_ws (ws' := (h0, .inr (9, [.ref q0, .ref q1, .ref q2, .ref q3, .ref q4, .ref q5, .null, .null, .null, .null, .int 0, .int 0, .int 0, .int 0, .int 0])) :: ((((((([] ++ outX1 (XG X) q0 f0) ++ outX0 (XG X) q1 f1) ++ outX6 (XG X) q2 f2) ++ outX3 (XG X) q3 f3) ++ outX4 (XG X) q4 f4) ++ outX7 (XG X) q5 f5) ++ outX2 (XG X) q6 f6)) rfl ?_
  refine k_putF K hi9 (ty := .object "ScriptRoom$Log") (fs' := [.ref q0, .ref q1, .ref q2, .ref q3, .ref q4, .ref q5, .ref q6, .null, .null, .null, .int 0, .int 0, .int 0, .int 0, .int 0]) hiX9_init_9 tyX9 tyX9_ok nmX9 9 6 rfl (by decide) mX9_init_p6 rfl rfl (by decide +kernel) rfl rfl (Nat.le_of_ble_eq_true rfl) rfl dX9_init_78 ?_
  refine k_aload_n K dX9_init_81 rfl 0 rfl ?_
  refine k_new K (fs := [.int 0, .int 0, .int 0, .int 0, .int 0, .int 0, .int 0]) (ci := 8) hiX9_init_8 tyX8 tyX8_ok mX9_init_n1_8 mX9_init_n2_8 mX9_init_n3_8 rfl (fun j hj => by rcases (show j = 0 ∨ j = 1 ∨ j = 2 ∨ j = 3 ∨ j = 4 ∨ j = 5 ∨ j = 6 by omega) with rfl | rfl | rfl | rfl | rfl | rfl | rfl <;> rfl) (by decide) (by decide) dX9_init_82 (fun q7 => ?_)
  refine k_dup K dX9_init_85 rfl ?_
  refine k_callN (n := 0) K _ [] c_X8_init (fun _ _ _ _ _ => trivial) (fun _ _ => trivial) gX9_init_X8_init_n60 mX9_init_i8 (hE.N7) mX9_init_j8 rfl rfl (by decide +kernel) rfl (by decide) (by decide) (Nat.le_of_ble_eq_true rfl) (by decide) (by decide) dX9_init_86 (fun f7 => ?_)
  refine k_ws (ws' := (h0, .inr (9, [.ref q0, .ref q1, .ref q2, .ref q3, .ref q4, .ref q5, .ref q6, .null, .null, .null, .int 0, .int 0, .int 0, .int 0, .int 0])) :: (((((((([] ++ outX1 (XG X) q0 f0) ++ outX0 (XG X) q1 f1) ++ outX6 (XG X) q2 f2) ++ outX3 (XG X) q3 f3) ++ outX4 (XG X) q4 f4) ++ outX7 (XG X) q5 f5) ++ outX2 (XG X) q6 f6) ++ outX8 (XG X) q7 f7)) rfl ?_
  refine k_putF K hi9 (ty := .object "ScriptRoom$Tally") (fs' := [.ref q0, .ref q1, .ref q2, .ref q3, .ref q4, .ref q5, .ref q6, .ref q7, .null, .null, .int 0, .int 0, .int 0, .int 0, .int 0]) hiX9_init_9 tyX9 tyX9_ok nmX9 9 7 rfl (by decide) mX9_init_p7 rfl rfl (by decide +kernel) rfl rfl (Nat.le_of_ble_eq_true rfl) rfl dX9_init_89 ?_
  refine k_aload_n K dX9_init_92 rfl 0 rfl ?_
  refine k_new K (fs := [.null]) (ci := 5) hiX9_init_5 tyX5 tyX5_ok mX9_init_n1_5 mX9_init_n2_5 mX9_init_n3_5 rfl (fun j hj => by rcases (show j = 0 by omega) with rfl <;> rfl) (by decide) (by decide) dX9_init_93 (fun q8 => ?_)
  refine k_dup K dX9_init_96 rfl ?_
  refine k_iconst K (v := 4) dX9_init_97 (by decide) ?_
  refine k_callI (n := 1) K _ [.int 4] (c_X5_init 4 4 (by decide) (by decide) (by decide) (by decide)) (fun _ _ _ _ _ => trivial) (fun _ _ => trivial) gX9_init_X5_init mX9_init_i5 mX9_init_l5 mX9_init_j5 rfl rfl (by decide +kernel) rfl (by decide) (by decide) (Nat.le_of_ble_eq_true rfl) (by decide) (by decide) dX9_init_98 (fun f8 => ?_)
  refine k_ws (ws' := (h0, .inr (9, [.ref q0, .ref q1, .ref q2, .ref q3, .ref q4, .ref q5, .ref q6, .ref q7, .null, .null, .int 0, .int 0, .int 0, .int 0, .int 0])) :: ((((((((([] ++ outX1 (XG X) q0 f0) ++ outX0 (XG X) q1 f1) ++ outX6 (XG X) q2 f2) ++ outX3 (XG X) q3 f3) ++ outX4 (XG X) q4 f4) ++ outX7 (XG X) q5 f5) ++ outX2 (XG X) q6 f6) ++ outX8 (XG X) q7 f7) ++ outX5 4 (XG X) q8 f8)) rfl ?_
  refine k_putF K hi9 (ty := .object "ScriptRoom$Row") (fs' := [.ref q0, .ref q1, .ref q2, .ref q3, .ref q4, .ref q5, .ref q6, .ref q7, .ref q8, .null, .int 0, .int 0, .int 0, .int 0, .int 0]) hiX9_init_9 tyX9 tyX9_ok nmX9 9 8 rfl (by decide) mX9_init_p8 rfl rfl (by decide +kernel) rfl rfl (Nat.le_of_ble_eq_true rfl) rfl dX9_init_101 ?_
  refine k_aload_n K dX9_init_104 rfl 0 rfl ?_
  refine k_new K (fs := [.null]) (ci := 5) hiX9_init_5 tyX5 tyX5_ok mX9_init_n1_5 mX9_init_n2_5 mX9_init_n3_5 rfl (fun j hj => by rcases (show j = 0 by omega) with rfl <;> rfl) (by decide) (by decide) dX9_init_105 (fun q9 => ?_)
  refine k_dup K dX9_init_108 rfl ?_
  refine k_bipush K (v := 16) dX9_init_109 (by decide) ?_
  refine k_callI (n := 1) K _ [.int 16] (c_X5_init 16 16 (by decide) (by decide) (by decide) (by decide)) (fun _ _ _ _ _ => trivial) (fun _ _ => trivial) gX9_init_X5_init mX9_init_i5 mX9_init_l5 mX9_init_j5 rfl rfl (by decide +kernel) rfl (by decide) (by decide) (Nat.le_of_ble_eq_true rfl) (by decide) (by decide) dX9_init_111 (fun f9 => ?_)
  refine k_ws (ws' := (h0, .inr (9, [.ref q0, .ref q1, .ref q2, .ref q3, .ref q4, .ref q5, .ref q6, .ref q7, .ref q8, .null, .int 0, .int 0, .int 0, .int 0, .int 0])) :: (((((((((([] ++ outX1 (XG X) q0 f0) ++ outX0 (XG X) q1 f1) ++ outX6 (XG X) q2 f2) ++ outX3 (XG X) q3 f3) ++ outX4 (XG X) q4 f4) ++ outX7 (XG X) q5 f5) ++ outX2 (XG X) q6 f6) ++ outX8 (XG X) q7 f7) ++ outX5 4 (XG X) q8 f8) ++ outX5 16 (XG X) q9 f9)) rfl ?_
  refine k_putF K hi9 (ty := .object "ScriptRoom$Row") (fs' := [.ref q0, .ref q1, .ref q2, .ref q3, .ref q4, .ref q5, .ref q6, .ref q7, .ref q8, .ref q9, .int 0, .int 0, .int 0, .int 0, .int 0]) hiX9_init_9 tyX9 tyX9_ok nmX9 9 9 rfl (by decide) mX9_init_p9 rfl rfl (by decide +kernel) rfl rfl (Nat.le_of_ble_eq_true rfl) rfl dX9_init_114 ?_
  refine k_aload_n K dX9_init_117 rfl 0 rfl ?_
  refine k_iconst K (v := 1) dX9_init_118 (by decide) ?_
  refine k_putI K (fs' := [.ref q0, .ref q1, .ref q2, .ref q3, .ref q4, .ref q5, .ref q6, .ref q7, .ref q8, .ref q9, .int 1, .int 0, .int 0, .int 0, .int 0]) hiX9_init_9 tyX9 tyX9_ok nmX9 9 10 rfl (by decide) mX9_init_p10 rfl rfl (by decide +kernel) (Nat.le_of_ble_eq_true rfl) rfl dX9_init_119 ?_
  exact hR _ _ _ _ (fun k => [q0, f0 0, f0 1, q1, f1 0, f1 1, q2, f2 0, f2 1, f2 2, f2 3, f2 4, f2 5, f2 6, f2 7, f2 8, f2 9, f2 10, f2 11, f2 12, f2 13, f2 14, f2 15, q3, f3 0, f3 1, f3 2, f3 3, f3 4, f3 5, f3 6, f3 7, f3 8, f3 9, f3 10, f3 11, q4, f4 0, f4 1, f4 2, f4 3, f4 4, f4 5, f4 6, f4 7, f4 8, f4 9, f4 10, f4 11, f4 12, f4 13, f4 14, f4 15, f4 16, f4 17, f4 18, f4 19, f4 20, f4 21, f4 22, f4 23, q5, f5 0, f5 1, f5 2, f5 3, q6, f6 0, f6 1, f6 2, f6 3, f6 4, f6 5, f6 6, f6 7, f6 8, f6 9, f6 10, f6 11, f6 12, f6 13, f6 14, f6 15, f6 16, f6 17, f6 18, f6 19, f6 20, f6 21, q7, q8, f8 0, q9, f9 0].getD k 0) (by decide) (by decide) dX9_init_122
