/-! printed by wip/p30/gen/gen.py -/
def f_X9_type_12  (σ : Mem) : Option (Int32 × Mem) := none
def f_X9_type (x1 : Int32) (σ : Mem) : Option (Int32 × Mem) := (if (x1) < (32) then (f_X9_type_12 σ)
  else (if (x1) ≤ (126) then (if (σ 76 5) < (40) then bd (f_X1_append (x1) σ) (fun _ τ2 => some (τ2 76 5, τ2))
      else none)
    else (f_X9_type_12 σ)))
def f_X9_isQuestion_14  (s0 : Int32) (σ : Mem) : Option (Int32 × Mem) := gd (isZ (s0)) (some (s0, σ))
def f_X9_isQuestion_13  (σ : Mem) : Option (Int32 × Mem) := (f_X9_isQuestion_14 (0) σ)
def f_X9_isQuestion (x1 : Int32) (σ : Mem) : Option (Int32 × Mem) := (if (x1) < 0 then (f_X9_isQuestion_13 σ)
  else (if (4) ≤ (x1) then (f_X9_isQuestion_13 σ)
    else (f_X9_isQuestion_14 (1) σ)))
def f_X9_isCounting_44  (s0 : Int32) (σ : Mem) : Option (Int32 × Mem) := gd (isZ (s0)) (some (s0, σ))
def f_X9_isCounting_43  (σ : Mem) : Option (Int32 × Mem) := (f_X9_isCounting_44 (0) σ)
def f_X9_isCounting (x1 x2 : Int32) (σ : Mem) : Option (Int32 × Mem) := (if (ris 6 (x1) σ) = 0 then bd (f_X6_lettersOfLatest (x2) σ) (fun y1 τ2 => (if ((y1) &&& ((rget 5 (x1) τ2) ^^^ ((-1)))) = 0 then (f_X9_isCounting_44 (1) τ2)
    else (f_X9_isCounting_43 τ2)))
  else (f_X9_isCounting_43 σ))
def f_X9_weighReadings_76  (k2 : Int32 → Int32 → Mem → Option (Int32 × Mem)) (v1 v2 : Int32) (σ : Mem) : Option (Int32 × Mem) := (k2 (v1) ((v2) + (1)) σ)
def f_X9_weighReadings_73  (k2 : Int32 → Int32 → Mem → Option (Int32 × Mem)) (v1 v2 s0 s1 : Int32) (σ : Mem) : Option (Int32 × Mem) := nw (rset 8 (s1) (s0) σ) (fun τ1 => (f_X9_weighReadings_76 k2 (v1) (v2) τ1))
def f_X9_weighReadings_2  : Nat → Int32 → Int32 → Mem → Option (Int32 × Mem)
  | 0, _, _, _ => none
  | n + 1, v1, v2, σ => (if (σ 76 6) ≤ (v2) then some (0, σ)
    else (if ((rget 2 (v2) σ) - (rget 2 (v2) σ) / (4) * (4)) = (v1) then bd (f_X9_isCounting (v2) (v1) σ) (fun y2 τ3 => (if (y2) = 0 then (f_X9_weighReadings_73 (f_X9_weighReadings_2 n) (v1) (v2) ((-1)) (v2) τ3)
        else bd (f_X6_markByLatest (v1) (rget 4 (v2) τ3) τ3) (fun y4 τ5 => (f_X9_weighReadings_73 (f_X9_weighReadings_2 n) (v1) (v2) (y4) (v2) τ5))))
      else (f_X9_weighReadings_76 (f_X9_weighReadings_2 n) (v1) (v2) σ)))
def f_X9_weighReadings (x1 : Int32) (σ : Mem) : Option (Int32 × Mem) := (f_X9_weighReadings_2 FUEL (x1) (0) σ)
def f_X9_scheme (x1 : Int32) (σ : Mem) : Option (Int32 × Mem) := bd (f_X9_isQuestion (x1) σ) (fun y1 τ2 => (if (y1) = 0 then none
  else (if (rget 31 (x1) τ2) < (6) then bd (f_X0_faultOf  τ2) (fun y3 τ4 => bd (f_X1_clear  τ4) (fun _ τ6 => (if (y3) = ((-1)) then bd (f_X6_enter (x1) τ6) (fun y7 τ8 => bd (f_X9_weighReadings (x1) τ8) (fun _ τ10 => some (y7, τ10)))
      else some (((-1)) - (y3), τ6))))
    else none)))
def f_X9_arePoints_16  (s0 : Int32) (σ : Mem) : Option (Int32 × Mem) := gd (isZ (s0)) (some (s0, σ))
def f_X9_arePoints_15  (σ : Mem) : Option (Int32 × Mem) := (f_X9_arePoints_16 (0) σ)
def f_X9_arePoints (x1 : Int32) (σ : Mem) : Option (Int32 × Mem) := (if (x1) < 0 then (f_X9_arePoints_15 σ)
  else (if (255) < (x1) then (f_X9_arePoints_15 σ)
    else (f_X9_arePoints_16 (1) σ)))
def f_X9_versions (x1 : Int32) (σ : Mem) : Option (Int32 × Mem) := bd (f_X9_isQuestion (x1) σ) (fun y1 τ2 => (if (y1) = 0 then none
  else some (rget 31 (x1) τ2, τ2)))
def f_X9_markOf_19  (σ : Mem) : Option (Int32 × Mem) := none
def f_X9_markOf (x1 x2 x3 : Int32) (σ : Mem) : Option (Int32 × Mem) := bd (f_X9_isQuestion (x1) σ) (fun y1 τ2 => (if (y1) = 0 then (f_X9_markOf_19 τ2)
  else bd (f_X6_has (x1) (x2) τ2) (fun y3 τ4 => (if (y3) = 0 then (f_X9_markOf_19 τ4)
    else bd (f_X9_arePoints (x3) τ4) (fun y5 τ6 => (if (y5) = 0 then none
      else bd (f_X6_markBy (x1) (x2) (x3) τ6) (fun y7 τ8 => some (y7, τ8))))))))
def f_X9_written_23  (σ : Mem) : Option (Int32 × Mem) := none
def f_X9_written (x1 x2 x3 : Int32) (σ : Mem) : Option (Int32 × Mem) := bd (f_X9_isQuestion (x1) σ) (fun y1 τ2 => (if (y1) = 0 then (f_X9_written_23 τ2)
  else bd (f_X6_has (x1) (x2) τ2) (fun y3 τ4 => (if (y3) = 0 then (f_X9_written_23 τ4)
    else (if 0 ≤ (x3) then bd (f_X6_signAt (x1) (x2) (x3) τ4) (fun y5 τ6 => gd (isC (((y5 : Int32).toUInt32 % 65536).toInt32)) (some (((y5 : Int32).toUInt32 % 65536).toInt32, τ6)))
      else (f_X9_written_23 τ4))))))
theorem hiX9_type_1 : ∀ w ∈ wsX10, w ∈ wsX9_type := by decide +kernel
theorem hiX9_type_9 : ∀ w ∈ wsX90, w ∈ wsX9_type := by decide +kernel
theorem kX9_type_10 : Cond.fieldLink RX9 10 "ScriptRoom" "line" "LScriptRoom$Line;" ∈ wsX9_type := by decide +kernel
theorem kX9_type_112 : Cond.fieldLink RX9 112 "ScriptRoom$Line" "count" "I" ∈ wsX9_type := by decide +kernel
set_option maxHeartbeats 4000000 in
set_option maxRecDepth 100000 in
theorem w_X9_type_12 {X : Ctx} {o : Int64} {rv : Int32 × Mem} (C : Cx X cX9_type RX9 wsX9_type 2 2 43) (hR : Rt X cX9_type 2 o rv) : ∀ (σ : Mem), some rv = f_X9_type_12 σ → Bk X 2 o 0 0 12 [] [] σ := by
  intro σ hf
  unfold f_X9_type_12 at hf
  cases hf
set_option maxHeartbeats 4000000 in
set_option maxRecDepth 100000 in
theorem c_X9_type (x1 : Int32) (l : Launch) : Cti l yX9_type wsX9_type 2 43 (fun G => [.ref (G.1 (5)), .int (x1)]) (f_X9_type x1) := by
  refine mk_i (cc := cX9_type) (nL := 2) (own := RX9) (by decide) rfl rfl (fun _ => Nat.le_of_ble_eq_true rfl) (fun X o σ rv C hR hf => ?_)
  show Bk X 2 o 0 0 0 [(0, .ref (ad X (5))), (1, .int (x1))] [] σ
  unfold f_X9_type at hf
  refine b_iload_n C dX9_type_0 rfl 1 rfl ?_
  refine b_bipush C (v := 32) dX9_type_1 (by decide) ?_
  refine b_icmp_lt C 12 dX9_type_3 (by decide) hf (fun hf => ?_) (fun hf => ?_)
  · refine b_sub [] rfl ?_
    exact w_X9_type_12 C hR _ hf
  · refine b_iload_n C dX9_type_6 rfl 1 rfl ?_
    refine b_bipush C (v := 126) dX9_type_7 (by decide) ?_
    refine b_icmp_le C 20 dX9_type_9 (by decide) hf (fun hf => ?_) (fun hf => ?_)
    · refine b_aload_n C dX9_type_20 rfl 0 rfl ?_
      refine b_getR C hiX9_type_9 5 0 (1) (by decide) rfl (by decide) kX9_type_10 rfl rfl dX9_type_21 ?_
      refine b_getS C hiX9_type_1 1 1 5 (by decide) rfl (by decide) kX9_type_112 rfl rfl dX9_type_24 ?_
      refine b_bipush C (v := 40) dX9_type_27 (by decide) ?_
      refine b_icmp_lt C 40 dX9_type_29 (by decide) hf (fun hf => ?_) (fun hf => ?_)
      · refine b_aload_n C dX9_type_40 rfl 0 rfl ?_
        refine b_getR C hiX9_type_9 5 0 (1) (by decide) rfl (by decide) kX9_type_10 rfl rfl dX9_type_41 ?_
        refine b_iload_n C dX9_type_44 rfl 1 rfl ?_
        obtain ⟨y1, τ2, hqy1, hf⟩ := bd_inv hf
        refine b_callVv (n := 1) C (1) 1 (isObj_s (by decide)) rfl (fun _ => [.int (x1)]) (c_X1_append (x1)) hqy1 gX9_type_X1_append rfl (by decide +kernel) rfl (by decide) (by decide) (Nat.le_of_ble_eq_true rfl) dX9_type_45 ?_
        refine b_aload_n C dX9_type_48 rfl 0 rfl ?_
        refine b_getR C hiX9_type_9 5 0 (1) (by decide) rfl (by decide) kX9_type_10 rfl rfl dX9_type_49 ?_
        refine b_getS C hiX9_type_1 1 1 5 (by decide) rfl (by decide) kX9_type_112 rfl rfl dX9_type_52 ?_
        exact hR _ _ _ _ dX9_type_55 hf
      · cases hf
    · refine b_sub [] rfl ?_
      exact w_X9_type_12 C hR _ hf
set_option maxHeartbeats 4000000 in
set_option maxRecDepth 100000 in
theorem w_X9_isQuestion_14 {X : Ctx} {o : Int64} {rv : Int32 × Mem} (C : Cx X cX9_isQuestion RX9 wsX9_isQuestion 1 0 0) (hR : Rz X cX9_isQuestion 1 o rv) : ∀ (s0 : Int32) (σ : Mem), some rv = f_X9_isQuestion_14 s0 σ → Bk X 1 o 0 0 14 [] [.int (s0)] σ := by
  intro s0 σ hf
  unfold f_X9_isQuestion_14 at hf
  exact hR _ _ _ _ dX9_isQuestion_14 hf
set_option maxHeartbeats 4000000 in
set_option maxRecDepth 100000 in
theorem w_X9_isQuestion_13 {X : Ctx} {o : Int64} {rv : Int32 × Mem} (C : Cx X cX9_isQuestion RX9 wsX9_isQuestion 1 0 0) (hR : Rz X cX9_isQuestion 1 o rv) : ∀ (σ : Mem), some rv = f_X9_isQuestion_13 σ → Bk X 1 o 0 0 13 [] [] σ := by
  intro σ hf
  unfold f_X9_isQuestion_13 at hf
  refine b_iconst C (v := 0) dX9_isQuestion_13 (by decide) ?_
  exact w_X9_isQuestion_14 C hR _ _ hf
set_option maxHeartbeats 4000000 in
set_option maxRecDepth 100000 in
theorem c_X9_isQuestion (x1 : Int32) (l : Launch) : Cti l yX9_isQuestion wsX9_isQuestion 0 0 (fun G => [.int (x1)]) (f_X9_isQuestion x1) := by
  refine mk_z (cc := cX9_isQuestion) (nL := 1) (own := RX9) (by decide) rfl rfl (fun _ => Nat.le_of_ble_eq_true rfl) (fun X o σ rv C hR hf => ?_)
  show Bk X 1 o 0 0 0 [(0, .int (x1))] [] σ
  unfold f_X9_isQuestion at hf
  refine b_iload_n C dX9_isQuestion_0 rfl 0 rfl ?_
  refine b_if_lt C 13 dX9_isQuestion_1 (by decide) hf (fun hf => ?_) (fun hf => ?_)
  · refine b_sub [] rfl ?_
    exact w_X9_isQuestion_13 C hR _ hf
  · refine b_iload_n C dX9_isQuestion_4 rfl 0 rfl ?_
    refine b_iconst C (v := 4) dX9_isQuestion_5 (by decide) ?_
    refine b_icmp_ge C 13 dX9_isQuestion_6 (by decide) hf (fun hf => ?_) (fun hf => ?_)
    · refine b_sub [] rfl ?_
      exact w_X9_isQuestion_13 C hR _ hf
    · refine b_iconst C (v := 1) dX9_isQuestion_9 (by decide) ?_
      refine b_goto C 14 dX9_isQuestion_10 (by decide) ?_
      refine b_sub [] rfl ?_
      exact w_X9_isQuestion_14 C hR _ _ hf
theorem hiX9_isCounting_2 : ∀ w ∈ wsX20, w ∈ wsX9_isCounting := by decide +kernel
theorem hiX9_isCounting_9 : ∀ w ∈ wsX90, w ∈ wsX9_isCounting := by decide +kernel
theorem kX9_isCounting_54 : Cond.fieldLink RX9 54 "ScriptRoom" "log" "LScriptRoom$Log;" ∈ wsX9_isCounting := by decide +kernel
theorem kX9_isCounting_357 : Cond.fieldLink RX9 357 "ScriptRoom$Log" "voids" "LScriptRoom$Row;" ∈ wsX9_isCounting := by decide +kernel
theorem kX9_isCounting_26 : Cond.fieldLink RX9 26 "ScriptRoom" "schemes" "LScriptRoom$Schemes;" ∈ wsX9_isCounting := by decide +kernel
theorem kX9_isCounting_366 : Cond.fieldLink RX9 366 "ScriptRoom$Log" "letters" "LScriptRoom$Row;" ∈ wsX9_isCounting := by decide +kernel
set_option maxHeartbeats 4000000 in
set_option maxRecDepth 100000 in
theorem w_X9_isCounting_44 {X : Ctx} {o : Int64} {rv : Int32 × Mem} (C : Cx X cX9_isCounting RX9 wsX9_isCounting 3 2 42) (hR : Rz X cX9_isCounting 3 o rv) : ∀ (s0 : Int32) (σ : Mem), some rv = f_X9_isCounting_44 s0 σ → Bk X 3 o 0 0 44 [] [.int (s0)] σ := by
  intro s0 σ hf
  unfold f_X9_isCounting_44 at hf
  exact hR _ _ _ _ dX9_isCounting_44 hf
set_option maxHeartbeats 4000000 in
set_option maxRecDepth 100000 in
theorem w_X9_isCounting_43 {X : Ctx} {o : Int64} {rv : Int32 × Mem} (C : Cx X cX9_isCounting RX9 wsX9_isCounting 3 2 42) (hR : Rz X cX9_isCounting 3 o rv) : ∀ (σ : Mem), some rv = f_X9_isCounting_43 σ → Bk X 3 o 0 0 43 [] [] σ := by
  intro σ hf
  unfold f_X9_isCounting_43 at hf
  refine b_iconst C (v := 0) dX9_isCounting_43 (by decide) ?_
  exact w_X9_isCounting_44 C hR _ _ hf
set_option maxHeartbeats 4000000 in
set_option maxRecDepth 100000 in
theorem c_X9_isCounting (x1 x2 : Int32) (l : Launch) : Cti l yX9_isCounting wsX9_isCounting 2 42 (fun G => [.ref (G.1 (5)), .int (x1), .int (x2)]) (f_X9_isCounting x1 x2) := by
  refine mk_z (cc := cX9_isCounting) (nL := 3) (own := RX9) (by decide) rfl rfl (fun _ => Nat.le_of_ble_eq_true rfl) (fun X o σ rv C hR hf => ?_)
  show Bk X 3 o 0 0 0 [(0, .ref (ad X (5))), (1, .int (x1)), (2, .int (x2))] [] σ
  unfold f_X9_isCounting at hf
  refine b_aload_n C dX9_isCounting_0 rfl 0 rfl ?_
  refine b_getR C hiX9_isCounting_9 5 6 (2) (by decide) rfl (by decide) kX9_isCounting_54 rfl rfl dX9_isCounting_1 ?_
  refine b_getR C hiX9_isCounting_2 2 5 (9 + 6) (by decide) rfl (by decide) kX9_isCounting_357 rfl rfl dX9_isCounting_4 ?_
  refine b_iload_n C dX9_isCounting_7 rfl 1 rfl ?_
  refine b_callVi (n := 1) C (9 + 6) 5 (isObj_r (by decide)) rfl (fun _ => [.int (x1)]) (c_X5_is 6 (by decide) (x1)) (e_is 6 (by decide) (x1) _) gX9_isCounting_X5_is rfl (by decide +kernel) rfl (by decide) (by decide) (Nat.le_of_ble_eq_true rfl) dX9_isCounting_8 ?_
  refine b_if_ne C 43 dX9_isCounting_11 (by decide) hf (fun hf => ?_) (fun hf => ?_)
  · refine b_sub [] rfl ?_
    exact w_X9_isCounting_43 C hR _ hf
  · refine b_aload_n C dX9_isCounting_14 rfl 0 rfl ?_
    refine b_getR C hiX9_isCounting_9 5 2 (6) (by decide) rfl (by decide) kX9_isCounting_26 rfl rfl dX9_isCounting_15 ?_
    refine b_iload_n C dX9_isCounting_18 rfl 2 rfl ?_
    obtain ⟨y1, τ2, hqy1, hf⟩ := bd_inv hf
    refine b_callVi (n := 1) C (6) 6 (isObj_s (by decide)) rfl (fun _ => [.int (x2)]) (c_X6_lettersOfLatest (x2)) hqy1 gX9_isCounting_X6_lettersOfLatest rfl (by decide +kernel) rfl (by decide) (by decide) (Nat.le_of_ble_eq_true rfl) dX9_isCounting_19 ?_
    refine b_aload_n C dX9_isCounting_22 rfl 0 rfl ?_
    refine b_getR C hiX9_isCounting_9 5 6 (2) (by decide) rfl (by decide) kX9_isCounting_54 rfl rfl dX9_isCounting_23 ?_
    refine b_getR C hiX9_isCounting_2 2 4 (9 + 5) (by decide) rfl (by decide) kX9_isCounting_366 rfl rfl dX9_isCounting_26 ?_
    refine b_iload_n C dX9_isCounting_29 rfl 1 rfl ?_
    refine b_callVi (n := 1) C (9 + 5) 5 (isObj_r (by decide)) rfl (fun _ => [.int (x1)]) (c_X5_get 5 (by decide) (x1)) (e_get 5 (by decide) (x1) _) gX9_isCounting_X5_get rfl (by decide +kernel) rfl (by decide) (by decide) (Nat.le_of_ble_eq_true rfl) dX9_isCounting_30 ?_
    refine b_iconst C (v := (-1)) dX9_isCounting_33 (by decide) ?_
    refine b_ixor C dX9_isCounting_34 ?_
    refine b_iand C dX9_isCounting_35 ?_
    refine b_if_ne C 43 dX9_isCounting_36 (by decide) hf (fun hf => ?_) (fun hf => ?_)
    · refine b_sub [] rfl ?_
      exact w_X9_isCounting_43 C hR _ hf
    · refine b_iconst C (v := 1) dX9_isCounting_39 (by decide) ?_
      refine b_goto C 44 dX9_isCounting_40 (by decide) ?_
      refine b_sub [] rfl ?_
      exact w_X9_isCounting_44 C hR _ _ hf
theorem hiX9_weighReadings_2 : ∀ w ∈ wsX20, w ∈ wsX9_weighReadings := by decide +kernel
theorem hiX9_weighReadings_9 : ∀ w ∈ wsX90, w ∈ wsX9_weighReadings := by decide +kernel
theorem kX9_weighReadings_54 : Cond.fieldLink RX9 54 "ScriptRoom" "log" "LScriptRoom$Log;" ∈ wsX9_weighReadings := by decide +kernel
theorem kX9_weighReadings_164 : Cond.fieldLink RX9 164 "ScriptRoom$Log" "count" "I" ∈ wsX9_weighReadings := by decide +kernel
theorem kX9_weighReadings_375 : Cond.fieldLink RX9 375 "ScriptRoom$Log" "answers" "LScriptRoom$Row;" ∈ wsX9_weighReadings := by decide +kernel
theorem kX9_weighReadings_333 : Cond.fieldLink RX9 333 "ScriptRoom$Log" "worths" "LScriptRoom$Row;" ∈ wsX9_weighReadings := by decide +kernel
theorem kX9_weighReadings_26 : Cond.fieldLink RX9 26 "ScriptRoom" "schemes" "LScriptRoom$Schemes;" ∈ wsX9_weighReadings := by decide +kernel
theorem kX9_weighReadings_365 : Cond.fieldLink RX9 365 "ScriptRoom$Log" "points" "LScriptRoom$Row;" ∈ wsX9_weighReadings := by decide +kernel
set_option maxHeartbeats 4000000 in
set_option maxRecDepth 100000 in
theorem w_X9_weighReadings_76 {X : Ctx} {o : Int64} {rv : Int32 × Mem} (C : Cx X cX9_weighReadings RX9 wsX9_weighReadings 3 4 95) (hR : Rv X cX9_weighReadings 3 o rv) (k2 : Int32 → Int32 → Mem → Option (Int32 × Mem)) (h2 : ∀ (v1 v2 : Int32) (σ : Mem), some rv = k2 v1 v2 σ → Bk X 3 o 0 0 2 [(0, .ref (ad X (5))), (1, .int (v1)), (2, .int (v2))] [] σ) : ∀ (v1 v2 : Int32) (σ : Mem), some rv = f_X9_weighReadings_76 k2 v1 v2 σ → Bk X 3 o 0 0 76 [(0, .ref (ad X (5))), (1, .int (v1)), (2, .int (v2))] [] σ := by
  intro v1 v2 σ hf
  unfold f_X9_weighReadings_76 at hf
  refine b_iinc (v := (v2) + (1)) (lv' := [(2, .int ((v2) + (1))), (0, .ref (ad X (5))), (1, .int (v1))]) C dX9_weighReadings_76 2 rfl rfl (by decide) rfl ?_
  refine b_goto C 2 dX9_weighReadings_79 (by decide) ?_
  refine b_sub [1, 2, 0] rfl ?_
  exact h2 _ _ _ hf
set_option maxHeartbeats 4000000 in
set_option maxRecDepth 100000 in
theorem w_X9_weighReadings_73 {X : Ctx} {o : Int64} {rv : Int32 × Mem} (C : Cx X cX9_weighReadings RX9 wsX9_weighReadings 3 4 95) (hR : Rv X cX9_weighReadings 3 o rv) (k2 : Int32 → Int32 → Mem → Option (Int32 × Mem)) (h2 : ∀ (v1 v2 : Int32) (σ : Mem), some rv = k2 v1 v2 σ → Bk X 3 o 0 0 2 [(0, .ref (ad X (5))), (1, .int (v1)), (2, .int (v2))] [] σ) : ∀ (v1 v2 s0 s1 : Int32) (σ : Mem), some rv = f_X9_weighReadings_73 k2 v1 v2 s0 s1 σ → Bk X 3 o 0 0 73 [(0, .ref (ad X (5))), (1, .int (v1)), (2, .int (v2))] [.int (s0), .int (s1), .ref (ad X (9 + 8))] σ := by
  intro v1 v2 s0 s1 σ hf
  unfold f_X9_weighReadings_73 at hf
  refine b_callVv (n := 2) C (9 + 8) 5 (isObj_r (by decide)) rfl (fun _ => [.int (s1), .int (s0)]) (c_X5_set 8 (by decide) (s1) (s0)) (e_set 8 (by decide) (s1) (s0) _) gX9_weighReadings_X5_set rfl (by decide +kernel) rfl (by decide) (by decide) (Nat.le_of_ble_eq_true rfl) dX9_weighReadings_73 ?_
  refine b_nw hf (fun τ1 hf => ?_)
  exact w_X9_weighReadings_76 C hR k2 h2 _ _ _ hf
set_option maxHeartbeats 4000000 in
set_option maxRecDepth 100000 in
theorem w_X9_weighReadings_2 {X : Ctx} {o : Int64} {rv : Int32 × Mem} (C : Cx X cX9_weighReadings RX9 wsX9_weighReadings 3 4 95) (hR : Rv X cX9_weighReadings 3 o rv) : ∀ (n : Nat) (v1 v2 : Int32) (σ : Mem), some rv = f_X9_weighReadings_2 n v1 v2 σ → Bk X 3 o 0 0 2 [(0, .ref (ad X (5))), (1, .int (v1)), (2, .int (v2))] [] σ := by
  intro n
  induction n with
  | zero =>
    intro v1 v2 σ hf
    rw [f_X9_weighReadings_2] at hf
    cases hf
  | succ n ih =>
    intro v1 v2 σ hf
    rw [f_X9_weighReadings_2] at hf
    refine b_iload_n C dX9_weighReadings_2 rfl 2 rfl ?_
    refine b_aload_n C dX9_weighReadings_3 rfl 0 rfl ?_
    refine b_getR C hiX9_weighReadings_9 5 6 (2) (by decide) rfl (by decide) kX9_weighReadings_54 rfl rfl dX9_weighReadings_4 ?_
    refine b_getS C hiX9_weighReadings_2 2 0 6 (by decide) rfl (by decide) kX9_weighReadings_164 rfl rfl dX9_weighReadings_7 ?_
    refine b_icmp_ge C 82 dX9_weighReadings_10 (by decide) hf (fun hf => ?_) (fun hf => ?_)
    · exact hR _ _ _ _ dX9_weighReadings_82 hf
    · refine b_aload_n C dX9_weighReadings_13 rfl 0 rfl ?_
      refine b_getR C hiX9_weighReadings_9 5 6 (2) (by decide) rfl (by decide) kX9_weighReadings_54 rfl rfl dX9_weighReadings_14 ?_
      refine b_getR C hiX9_weighReadings_2 2 1 (9 + 2) (by decide) rfl (by decide) kX9_weighReadings_375 rfl rfl dX9_weighReadings_17 ?_
      refine b_iload_n C dX9_weighReadings_20 rfl 2 rfl ?_
      refine b_callVi (n := 1) C (9 + 2) 5 (isObj_r (by decide)) rfl (fun _ => [.int (v2)]) (c_X5_get 2 (by decide) (v2)) (e_get 2 (by decide) (v2) _) gX9_weighReadings_X5_get rfl (by decide +kernel) rfl (by decide) (by decide) (Nat.le_of_ble_eq_true rfl) dX9_weighReadings_21 ?_
      refine b_iconst C (v := 4) dX9_weighReadings_24 (by decide) ?_
      refine b_irem C dX9_weighReadings_25 (by decide) ?_
      refine b_iload_n C dX9_weighReadings_26 rfl 1 rfl ?_
      refine b_icmp_eq C 33 dX9_weighReadings_27 (by decide) hf (fun hf => ?_) (fun hf => ?_)
      · refine b_aload_n C dX9_weighReadings_33 rfl 0 rfl ?_
        refine b_getR C hiX9_weighReadings_9 5 6 (2) (by decide) rfl (by decide) kX9_weighReadings_54 rfl rfl dX9_weighReadings_34 ?_
        refine b_getR C hiX9_weighReadings_2 2 7 (9 + 8) (by decide) rfl (by decide) kX9_weighReadings_333 rfl rfl dX9_weighReadings_37 ?_
        refine b_iload_n C dX9_weighReadings_40 rfl 2 rfl ?_
        refine b_aload_n C dX9_weighReadings_41 rfl 0 rfl ?_
        refine b_iload_n C dX9_weighReadings_42 rfl 2 rfl ?_
        refine b_iload_n C dX9_weighReadings_43 rfl 1 rfl ?_
        obtain ⟨y2, τ3, hqy2, hf⟩ := bd_inv hf
        refine b_callVi (n := 2) C (5) 9 (isObj_s (by decide)) rfl (fun _ => [.int (v2), .int (v1)]) (c_X9_isCounting (v2) (v1)) hqy2 gX9_weighReadings_X9_isCounting rfl (by decide +kernel) rfl (by decide) (by decide) (Nat.le_of_ble_eq_true rfl) dX9_weighReadings_44 ?_
        refine b_if_eq C 72 dX9_weighReadings_47 (by decide) hf (fun hf => ?_) (fun hf => ?_)
        · refine b_iconst C (v := (-1)) dX9_weighReadings_72 (by decide) ?_
          exact w_X9_weighReadings_73 C hR (f_X9_weighReadings_2 n) ih _ _ _ _ _ hf
        · refine b_aload_n C dX9_weighReadings_50 rfl 0 rfl ?_
          refine b_getR C hiX9_weighReadings_9 5 2 (6) (by decide) rfl (by decide) kX9_weighReadings_26 rfl rfl dX9_weighReadings_51 ?_
          refine b_iload_n C dX9_weighReadings_54 rfl 1 rfl ?_
          refine b_aload_n C dX9_weighReadings_55 rfl 0 rfl ?_
          refine b_getR C hiX9_weighReadings_9 5 6 (2) (by decide) rfl (by decide) kX9_weighReadings_54 rfl rfl dX9_weighReadings_56 ?_
          refine b_getR C hiX9_weighReadings_2 2 3 (9 + 4) (by decide) rfl (by decide) kX9_weighReadings_365 rfl rfl dX9_weighReadings_59 ?_
          refine b_iload_n C dX9_weighReadings_62 rfl 2 rfl ?_
          refine b_callVi (n := 1) C (9 + 4) 5 (isObj_r (by decide)) rfl (fun _ => [.int (v2)]) (c_X5_get 4 (by decide) (v2)) (e_get 4 (by decide) (v2) _) gX9_weighReadings_X5_get rfl (by decide +kernel) rfl (by decide) (by decide) (Nat.le_of_ble_eq_true rfl) dX9_weighReadings_63 ?_
          obtain ⟨y4, τ5, hqy4, hf⟩ := bd_inv hf
          refine b_callVi (n := 2) C (6) 6 (isObj_s (by decide)) rfl (fun _ => [.int (v1), .int (rget 4 (v2) τ3)]) (c_X6_markByLatest (v1) (rget 4 (v2) τ3)) hqy4 gX9_weighReadings_X6_markByLatest rfl (by decide +kernel) rfl (by decide) (by decide) (Nat.le_of_ble_eq_true rfl) dX9_weighReadings_66 ?_
          refine b_goto C 73 dX9_weighReadings_69 (by decide) ?_
          exact w_X9_weighReadings_73 C hR (f_X9_weighReadings_2 n) ih _ _ _ _ _ hf
      · refine b_goto C 76 dX9_weighReadings_30 (by decide) ?_
        exact w_X9_weighReadings_76 C hR (f_X9_weighReadings_2 n) ih _ _ _ hf
set_option maxHeartbeats 4000000 in
set_option maxRecDepth 100000 in
theorem c_X9_weighReadings (x1 : Int32) (l : Launch) : Ctv l yX9_weighReadings wsX9_weighReadings 4 95 (fun G => [.ref (G.1 (5)), .int (x1)]) (f_X9_weighReadings x1) := by
  refine mk_v (cc := cX9_weighReadings) (nL := 3) (own := RX9) (by decide) rfl rfl (fun _ => Nat.le_of_ble_eq_true rfl) (fun X o σ rv C hR hf => ?_)
  show Bk X 3 o 0 0 0 [(0, .ref (ad X (5))), (1, .int (x1))] [] σ
  unfold f_X9_weighReadings at hf
  refine b_iconst C (v := 0) dX9_weighReadings_0 (by decide) ?_
  refine b_istore_n (lv' := [(2, .int (0)), (0, .ref (ad X (5))), (1, .int (x1))]) C dX9_weighReadings_1 rfl (by decide) rfl ?_
  refine b_sub [1, 2, 0] rfl ?_
  exact w_X9_weighReadings_2 C hR FUEL _ _ _ hf
theorem hiX9_scheme_6 : ∀ w ∈ wsX60, w ∈ wsX9_scheme := by decide +kernel
theorem hiX9_scheme_9 : ∀ w ∈ wsX90, w ∈ wsX9_scheme := by decide +kernel
theorem kX9_scheme_26 : Cond.fieldLink RX9 26 "ScriptRoom" "schemes" "LScriptRoom$Schemes;" ∈ wsX9_scheme := by decide +kernel
theorem kX9_scheme_119 : Cond.fieldLink RX9 119 "ScriptRoom$Schemes" "counts" "LScriptRoom$Row;" ∈ wsX9_scheme := by decide +kernel
theorem kX9_scheme_19 : Cond.fieldLink RX9 19 "ScriptRoom" "draft" "LScriptRoom$Draft;" ∈ wsX9_scheme := by decide +kernel
theorem kX9_scheme_10 : Cond.fieldLink RX9 10 "ScriptRoom" "line" "LScriptRoom$Line;" ∈ wsX9_scheme := by decide +kernel
set_option maxHeartbeats 4000000 in
set_option maxRecDepth 100000 in
theorem c_X9_scheme (x1 : Int32) (l : Launch) : Cti l yX9_scheme wsX9_scheme 6 129 (fun G => [.ref (G.1 (5)), .int (x1)]) (f_X9_scheme x1) := by
  refine mk_i (cc := cX9_scheme) (nL := 4) (own := RX9) (by decide) rfl rfl (fun _ => Nat.le_of_ble_eq_true rfl) (fun X o σ rv C hR hf => ?_)
  show Bk X 4 o 0 0 0 [(0, .ref (ad X (5))), (1, .int (x1))] [] σ
  unfold f_X9_scheme at hf
  refine b_iload_n C dX9_scheme_0 rfl 1 rfl ?_
  obtain ⟨y1, τ2, hqy1, hf⟩ := bd_inv hf
  refine b_callSi (n := 1) C (fun _ => [.int (x1)]) (c_X9_isQuestion (x1)) hqy1 gX9_scheme_X9_isQuestion rfl (by decide +kernel) rfl (by decide) (by decide) (Nat.le_of_ble_eq_true rfl) dX9_scheme_1 ?_
  refine b_if_ne C 15 dX9_scheme_4 (by decide) hf (fun hf => ?_) (fun hf => ?_)
  · refine b_aload_n C dX9_scheme_15 rfl 0 rfl ?_
    refine b_getR C hiX9_scheme_9 5 2 (6) (by decide) rfl (by decide) kX9_scheme_26 rfl rfl dX9_scheme_16 ?_
    refine b_getR C hiX9_scheme_6 6 0 (9 + 31) (by decide) rfl (by decide) kX9_scheme_119 rfl rfl dX9_scheme_19 ?_
    refine b_iload_n C dX9_scheme_22 rfl 1 rfl ?_
    refine b_callVi (n := 1) C (9 + 31) 5 (isObj_r (by decide)) rfl (fun _ => [.int (x1)]) (c_X5_get 31 (by decide) (x1)) (e_get 31 (by decide) (x1) _) gX9_scheme_X5_get rfl (by decide +kernel) rfl (by decide) (by decide) (Nat.le_of_ble_eq_true rfl) dX9_scheme_23 ?_
    refine b_bipush C (v := 6) dX9_scheme_26 (by decide) ?_
    refine b_icmp_lt C 39 dX9_scheme_28 (by decide) hf (fun hf => ?_) (fun hf => ?_)
    · refine b_aload_n C dX9_scheme_39 rfl 0 rfl ?_
      refine b_getR C hiX9_scheme_9 5 1 (0) (by decide) rfl (by decide) kX9_scheme_19 rfl rfl dX9_scheme_40 ?_
      refine b_aload_n C dX9_scheme_43 rfl 0 rfl ?_
      refine b_getR C hiX9_scheme_9 5 0 (1) (by decide) rfl (by decide) kX9_scheme_10 rfl rfl dX9_scheme_44 ?_
      obtain ⟨y3, τ4, hqy3, hf⟩ := bd_inv hf
      refine b_callVi (n := 1) C (0) 0 (isObj_s (by decide)) rfl (fun G => [.ref (G.1 (1))]) (c_X0_faultOf ) hqy3 gX9_scheme_X0_faultOf rfl (by decide +kernel) rfl (by decide) (by decide) (Nat.le_of_ble_eq_true rfl) dX9_scheme_47 ?_
      refine b_istore_n (lv' := [(2, .int (y3)), (0, .ref (ad X (5))), (1, .int (x1))]) C dX9_scheme_50 rfl (by decide) rfl ?_
      refine b_aload_n C dX9_scheme_51 rfl 1 rfl ?_
      refine b_getR C hiX9_scheme_9 5 0 (1) (by decide) rfl (by decide) kX9_scheme_10 rfl rfl dX9_scheme_52 ?_
      obtain ⟨y5, τ6, hqy5, hf⟩ := bd_inv hf
      refine b_callVv (n := 0) C (1) 1 (isObj_s (by decide)) rfl (fun _ => []) (c_X1_clear ) hqy5 gX9_scheme_X1_clear rfl (by decide +kernel) rfl (by decide) (by decide) (Nat.le_of_ble_eq_true rfl) dX9_scheme_55 ?_
      refine b_iload_n C dX9_scheme_58 rfl 0 rfl ?_
      refine b_iconst C (v := (-1)) dX9_scheme_59 (by decide) ?_
      refine b_icmp_eq C 67 dX9_scheme_60 (by decide) hf (fun hf => ?_) (fun hf => ?_)
      · refine b_aload_n C dX9_scheme_67 rfl 1 rfl ?_
        refine b_getR C hiX9_scheme_9 5 2 (6) (by decide) rfl (by decide) kX9_scheme_26 rfl rfl dX9_scheme_68 ?_
        refine b_iload_n C dX9_scheme_71 rfl 2 rfl ?_
        refine b_aload_n C dX9_scheme_72 rfl 1 rfl ?_
        refine b_getR C hiX9_scheme_9 5 1 (0) (by decide) rfl (by decide) kX9_scheme_19 rfl rfl dX9_scheme_73 ?_
        obtain ⟨y7, τ8, hqy7, hf⟩ := bd_inv hf
        refine b_callVi (n := 2) C (6) 6 (isObj_s (by decide)) rfl (fun G => [.int (x1), .ref (G.1 (0))]) (c_X6_enter (x1)) hqy7 gX9_scheme_X6_enter rfl (by decide +kernel) rfl (by decide) (by decide) (Nat.le_of_ble_eq_true rfl) dX9_scheme_76 ?_
        refine b_istore_n (lv' := [(3, .int (y7)), (2, .int (y3)), (0, .ref (ad X (5))), (1, .int (x1))]) C dX9_scheme_79 rfl (by decide) rfl ?_
        refine b_aload_n C dX9_scheme_80 rfl 2 rfl ?_
        refine b_iload_n C dX9_scheme_81 rfl 3 rfl ?_
        obtain ⟨y9, τ10, hqy9, hf⟩ := bd_inv hf
        refine b_callVv (n := 1) C (5) 9 (isObj_s (by decide)) rfl (fun _ => [.int (x1)]) (c_X9_weighReadings (x1)) hqy9 gX9_scheme_X9_weighReadings rfl (by decide +kernel) rfl (by decide) (by decide) (Nat.le_of_ble_eq_true rfl) dX9_scheme_82 ?_
        refine b_iload_n C dX9_scheme_85 rfl 0 rfl ?_
        exact hR _ _ _ _ dX9_scheme_86 hf
      · refine b_iconst C (v := (-1)) dX9_scheme_63 (by decide) ?_
        refine b_iload_n C dX9_scheme_64 rfl 0 rfl ?_
        refine b_isub C dX9_scheme_65 ?_
        exact hR _ _ _ _ dX9_scheme_66 hf
    · cases hf
  · cases hf
set_option maxHeartbeats 4000000 in
set_option maxRecDepth 100000 in
theorem w_X9_arePoints_16 {X : Ctx} {o : Int64} {rv : Int32 × Mem} (C : Cx X cX9_arePoints RX9 wsX9_arePoints 1 0 0) (hR : Rz X cX9_arePoints 1 o rv) : ∀ (s0 : Int32) (σ : Mem), some rv = f_X9_arePoints_16 s0 σ → Bk X 1 o 0 0 16 [] [.int (s0)] σ := by
  intro s0 σ hf
  unfold f_X9_arePoints_16 at hf
  exact hR _ _ _ _ dX9_arePoints_16 hf
set_option maxHeartbeats 4000000 in
set_option maxRecDepth 100000 in
theorem w_X9_arePoints_15 {X : Ctx} {o : Int64} {rv : Int32 × Mem} (C : Cx X cX9_arePoints RX9 wsX9_arePoints 1 0 0) (hR : Rz X cX9_arePoints 1 o rv) : ∀ (σ : Mem), some rv = f_X9_arePoints_15 σ → Bk X 1 o 0 0 15 [] [] σ := by
  intro σ hf
  unfold f_X9_arePoints_15 at hf
  refine b_iconst C (v := 0) dX9_arePoints_15 (by decide) ?_
  exact w_X9_arePoints_16 C hR _ _ hf
set_option maxHeartbeats 4000000 in
set_option maxRecDepth 100000 in
theorem c_X9_arePoints (x1 : Int32) (l : Launch) : Cti l yX9_arePoints wsX9_arePoints 0 0 (fun G => [.int (x1)]) (f_X9_arePoints x1) := by
  refine mk_z (cc := cX9_arePoints) (nL := 1) (own := RX9) (by decide) rfl rfl (fun _ => Nat.le_of_ble_eq_true rfl) (fun X o σ rv C hR hf => ?_)
  show Bk X 1 o 0 0 0 [(0, .int (x1))] [] σ
  unfold f_X9_arePoints at hf
  refine b_iload_n C dX9_arePoints_0 rfl 0 rfl ?_
  refine b_if_lt C 15 dX9_arePoints_1 (by decide) hf (fun hf => ?_) (fun hf => ?_)
  · refine b_sub [] rfl ?_
    exact w_X9_arePoints_15 C hR _ hf
  · refine b_iload_n C dX9_arePoints_4 rfl 0 rfl ?_
    refine b_sipush C (v := 255) dX9_arePoints_5 (by decide) ?_
    refine b_icmp_gt C 15 dX9_arePoints_8 (by decide) hf (fun hf => ?_) (fun hf => ?_)
    · refine b_sub [] rfl ?_
      exact w_X9_arePoints_15 C hR _ hf
    · refine b_iconst C (v := 1) dX9_arePoints_11 (by decide) ?_
      refine b_goto C 16 dX9_arePoints_12 (by decide) ?_
      refine b_sub [] rfl ?_
      exact w_X9_arePoints_16 C hR _ _ hf
theorem hiX9_versions_6 : ∀ w ∈ wsX60, w ∈ wsX9_versions := by decide +kernel
theorem hiX9_versions_9 : ∀ w ∈ wsX90, w ∈ wsX9_versions := by decide +kernel
theorem kX9_versions_26 : Cond.fieldLink RX9 26 "ScriptRoom" "schemes" "LScriptRoom$Schemes;" ∈ wsX9_versions := by decide +kernel
theorem kX9_versions_119 : Cond.fieldLink RX9 119 "ScriptRoom$Schemes" "counts" "LScriptRoom$Row;" ∈ wsX9_versions := by decide +kernel
set_option maxHeartbeats 4000000 in
set_option maxRecDepth 100000 in
theorem c_X9_versions (x1 : Int32) (l : Launch) : Cti l yX9_versions wsX9_versions 1 21 (fun G => [.ref (G.1 (5)), .int (x1)]) (f_X9_versions x1) := by
  refine mk_i (cc := cX9_versions) (nL := 2) (own := RX9) (by decide) rfl rfl (fun _ => Nat.le_of_ble_eq_true rfl) (fun X o σ rv C hR hf => ?_)
  show Bk X 2 o 0 0 0 [(0, .ref (ad X (5))), (1, .int (x1))] [] σ
  unfold f_X9_versions at hf
  refine b_iload_n C dX9_versions_0 rfl 1 rfl ?_
  obtain ⟨y1, τ2, hqy1, hf⟩ := bd_inv hf
  refine b_callSi (n := 1) C (fun _ => [.int (x1)]) (c_X9_isQuestion (x1)) hqy1 gX9_versions_X9_isQuestion rfl (by decide +kernel) rfl (by decide) (by decide) (Nat.le_of_ble_eq_true rfl) dX9_versions_1 ?_
  refine b_if_ne C 15 dX9_versions_4 (by decide) hf (fun hf => ?_) (fun hf => ?_)
  · refine b_aload_n C dX9_versions_15 rfl 0 rfl ?_
    refine b_getR C hiX9_versions_9 5 2 (6) (by decide) rfl (by decide) kX9_versions_26 rfl rfl dX9_versions_16 ?_
    refine b_getR C hiX9_versions_6 6 0 (9 + 31) (by decide) rfl (by decide) kX9_versions_119 rfl rfl dX9_versions_19 ?_
    refine b_iload_n C dX9_versions_22 rfl 1 rfl ?_
    refine b_callVi (n := 1) C (9 + 31) 5 (isObj_r (by decide)) rfl (fun _ => [.int (x1)]) (c_X5_get 31 (by decide) (x1)) (e_get 31 (by decide) (x1) _) gX9_versions_X5_get rfl (by decide +kernel) rfl (by decide) (by decide) (Nat.le_of_ble_eq_true rfl) dX9_versions_23 ?_
    exact hR _ _ _ _ dX9_versions_26 hf
  · cases hf
theorem hiX9_markOf_9 : ∀ w ∈ wsX90, w ∈ wsX9_markOf := by decide +kernel
theorem kX9_markOf_26 : Cond.fieldLink RX9 26 "ScriptRoom" "schemes" "LScriptRoom$Schemes;" ∈ wsX9_markOf := by decide +kernel
set_option maxHeartbeats 4000000 in
set_option maxRecDepth 100000 in
theorem w_X9_markOf_19 {X : Ctx} {o : Int64} {rv : Int32 × Mem} (C : Cx X cX9_markOf RX9 wsX9_markOf 4 3 73) (hR : Rt X cX9_markOf 4 o rv) : ∀ (σ : Mem), some rv = f_X9_markOf_19 σ → Bk X 4 o 0 0 19 [] [] σ := by
  intro σ hf
  unfold f_X9_markOf_19 at hf
  cases hf
set_option maxHeartbeats 4000000 in
set_option maxRecDepth 100000 in
theorem c_X9_markOf (x1 x2 x3 : Int32) (l : Launch) : Cti l yX9_markOf wsX9_markOf 3 73 (fun G => [.ref (G.1 (5)), .int (x1), .int (x2), .int (x3)]) (f_X9_markOf x1 x2 x3) := by
  refine mk_i (cc := cX9_markOf) (nL := 4) (own := RX9) (by decide) rfl rfl (fun _ => Nat.le_of_ble_eq_true rfl) (fun X o σ rv C hR hf => ?_)
  show Bk X 4 o 0 0 0 [(0, .ref (ad X (5))), (1, .int (x1)), (2, .int (x2)), (3, .int (x3))] [] σ
  unfold f_X9_markOf at hf
  refine b_iload_n C dX9_markOf_0 rfl 1 rfl ?_
  obtain ⟨y1, τ2, hqy1, hf⟩ := bd_inv hf
  refine b_callSi (n := 1) C (fun _ => [.int (x1)]) (c_X9_isQuestion (x1)) hqy1 gX9_markOf_X9_isQuestion rfl (by decide +kernel) rfl (by decide) (by decide) (Nat.le_of_ble_eq_true rfl) dX9_markOf_1 ?_
  refine b_if_eq C 19 dX9_markOf_4 (by decide) hf (fun hf => ?_) (fun hf => ?_)
  · refine b_sub [] rfl ?_
    exact w_X9_markOf_19 C hR _ hf
  · refine b_aload_n C dX9_markOf_7 rfl 0 rfl ?_
    refine b_getR C hiX9_markOf_9 5 2 (6) (by decide) rfl (by decide) kX9_markOf_26 rfl rfl dX9_markOf_8 ?_
    refine b_iload_n C dX9_markOf_11 rfl 1 rfl ?_
    refine b_iload_n C dX9_markOf_12 rfl 2 rfl ?_
    obtain ⟨y3, τ4, hqy3, hf⟩ := bd_inv hf
    refine b_callVi (n := 2) C (6) 6 (isObj_s (by decide)) rfl (fun _ => [.int (x1), .int (x2)]) (c_X6_has (x1) (x2)) hqy3 gX9_markOf_X6_has rfl (by decide +kernel) rfl (by decide) (by decide) (Nat.le_of_ble_eq_true rfl) dX9_markOf_13 ?_
    refine b_if_ne C 27 dX9_markOf_16 (by decide) hf (fun hf => ?_) (fun hf => ?_)
    · refine b_iload_n C dX9_markOf_27 rfl 3 rfl ?_
      obtain ⟨y5, τ6, hqy5, hf⟩ := bd_inv hf
      refine b_callSi (n := 1) C (fun _ => [.int (x3)]) (c_X9_arePoints (x3)) hqy5 gX9_markOf_X9_arePoints rfl (by decide +kernel) rfl (by decide) (by decide) (Nat.le_of_ble_eq_true rfl) dX9_markOf_28 ?_
      refine b_if_ne C 42 dX9_markOf_31 (by decide) hf (fun hf => ?_) (fun hf => ?_)
      · refine b_aload_n C dX9_markOf_42 rfl 0 rfl ?_
        refine b_getR C hiX9_markOf_9 5 2 (6) (by decide) rfl (by decide) kX9_markOf_26 rfl rfl dX9_markOf_43 ?_
        refine b_iload_n C dX9_markOf_46 rfl 1 rfl ?_
        refine b_iload_n C dX9_markOf_47 rfl 2 rfl ?_
        refine b_iload_n C dX9_markOf_48 rfl 3 rfl ?_
        obtain ⟨y7, τ8, hqy7, hf⟩ := bd_inv hf
        refine b_callVi (n := 3) C (6) 6 (isObj_s (by decide)) rfl (fun _ => [.int (x1), .int (x2), .int (x3)]) (c_X6_markBy (x1) (x2) (x3)) hqy7 gX9_markOf_X6_markBy rfl (by decide +kernel) rfl (by decide) (by decide) (Nat.le_of_ble_eq_true rfl) dX9_markOf_49 ?_
        exact hR _ _ _ _ dX9_markOf_52 hf
      · cases hf
    · refine b_sub [] rfl ?_
      exact w_X9_markOf_19 C hR _ hf
theorem hiX9_written_9 : ∀ w ∈ wsX90, w ∈ wsX9_written := by decide +kernel
theorem kX9_written_26 : Cond.fieldLink RX9 26 "ScriptRoom" "schemes" "LScriptRoom$Schemes;" ∈ wsX9_written := by decide +kernel
set_option maxHeartbeats 4000000 in
set_option maxRecDepth 100000 in
theorem w_X9_written_23 {X : Ctx} {o : Int64} {rv : Int32 × Mem} (C : Cx X cX9_written RX9 wsX9_written 4 2 45) (hR : Rc X cX9_written 4 o rv) : ∀ (σ : Mem), some rv = f_X9_written_23 σ → Bk X 4 o 0 0 23 [] [] σ := by
  intro σ hf
  unfold f_X9_written_23 at hf
  cases hf
set_option maxHeartbeats 4000000 in
set_option maxRecDepth 100000 in
theorem c_X9_written (x1 x2 x3 : Int32) (l : Launch) : Cti l yX9_written wsX9_written 2 45 (fun G => [.ref (G.1 (5)), .int (x1), .int (x2), .int (x3)]) (f_X9_written x1 x2 x3) := by
  refine mk_c (cc := cX9_written) (nL := 4) (own := RX9) (by decide) rfl rfl (fun _ => Nat.le_of_ble_eq_true rfl) (fun X o σ rv C hR hf => ?_)
  show Bk X 4 o 0 0 0 [(0, .ref (ad X (5))), (1, .int (x1)), (2, .int (x2)), (3, .int (x3))] [] σ
  unfold f_X9_written at hf
  refine b_iload_n C dX9_written_0 rfl 1 rfl ?_
  obtain ⟨y1, τ2, hqy1, hf⟩ := bd_inv hf
  refine b_callSi (n := 1) C (fun _ => [.int (x1)]) (c_X9_isQuestion (x1)) hqy1 gX9_written_X9_isQuestion rfl (by decide +kernel) rfl (by decide) (by decide) (Nat.le_of_ble_eq_true rfl) dX9_written_1 ?_
  refine b_if_eq C 23 dX9_written_4 (by decide) hf (fun hf => ?_) (fun hf => ?_)
  · refine b_sub [] rfl ?_
    exact w_X9_written_23 C hR _ hf
  · refine b_aload_n C dX9_written_7 rfl 0 rfl ?_
    refine b_getR C hiX9_written_9 5 2 (6) (by decide) rfl (by decide) kX9_written_26 rfl rfl dX9_written_8 ?_
    refine b_iload_n C dX9_written_11 rfl 1 rfl ?_
    refine b_iload_n C dX9_written_12 rfl 2 rfl ?_
    obtain ⟨y3, τ4, hqy3, hf⟩ := bd_inv hf
    refine b_callVi (n := 2) C (6) 6 (isObj_s (by decide)) rfl (fun _ => [.int (x1), .int (x2)]) (c_X6_has (x1) (x2)) hqy3 gX9_written_X6_has rfl (by decide +kernel) rfl (by decide) (by decide) (Nat.le_of_ble_eq_true rfl) dX9_written_13 ?_
    refine b_if_eq C 23 dX9_written_16 (by decide) hf (fun hf => ?_) (fun hf => ?_)
    · refine b_sub [] rfl ?_
      exact w_X9_written_23 C hR _ hf
    · refine b_iload_n C dX9_written_19 rfl 3 rfl ?_
      refine b_if_ge C 31 dX9_written_20 (by decide) hf (fun hf => ?_) (fun hf => ?_)
      · refine b_aload_n C dX9_written_31 rfl 0 rfl ?_
        refine b_getR C hiX9_written_9 5 2 (6) (by decide) rfl (by decide) kX9_written_26 rfl rfl dX9_written_32 ?_
        refine b_iload_n C dX9_written_35 rfl 1 rfl ?_
        refine b_iload_n C dX9_written_36 rfl 2 rfl ?_
        refine b_iload_n C dX9_written_37 rfl 3 rfl ?_
        obtain ⟨y5, τ6, hqy5, hf⟩ := bd_inv hf
        refine b_callVi (n := 3) C (6) 6 (isObj_s (by decide)) rfl (fun _ => [.int (x1), .int (x2), .int (x3)]) (c_X6_signAt (x1) (x2) (x3)) hqy5 gX9_written_X6_signAt rfl (by decide +kernel) rfl (by decide) (by decide) (Nat.le_of_ble_eq_true rfl) dX9_written_38 ?_
        refine b_i2c C dX9_written_41 ?_
        exact hR _ _ _ _ dX9_written_42 hf
      · refine b_sub [] rfl ?_
        exact w_X9_written_23 C hR _ hf
