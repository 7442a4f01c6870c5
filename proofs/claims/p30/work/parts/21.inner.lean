/-! printed by wip/p30/gen/gen.py -/
def f_X1_append (x1 : Int32) (σ : Mem) : Option (Int32 × Mem) := (if (σ 76 5) < (40) then nw (rset 1 (σ 76 5) (x1) σ) (fun τ1 => nw (wr τ1 76 5 ((τ1 76 5) + (1))) (fun τ2 => some (0, τ2)))
  else some (0, σ))
def f_X0_begin (σ : Mem) : Option (Int32 × Mem) := nw (wr σ 76 0 (0)) (fun τ1 => nw (wr τ1 76 1 (0)) (fun τ2 => nw (wr τ2 76 2 ((-1))) (fun τ3 => nw (wr τ3 76 3 (0)) (fun τ4 => nw (wr τ4 76 4 (0)) (fun τ5 => some (0, τ5))))))
def f_X0_write (x1 : Int32) (σ : Mem) : Option (Int32 × Mem) := nw (rset 0 (σ 76 0) (x1) σ) (fun τ1 => nw (wr τ1 76 0 ((τ1 76 0) + (1))) (fun τ2 => some (0, τ2)))
def f_X0_goesTo (x1 x2 : Int32) (σ : Mem) : Option (Int32 × Mem) := bd (f_X0_write (x2) σ) (fun _ τ2 => nw (wr τ2 76 4 (x1)) (fun τ3 => gd (isZ (1)) (some (1, τ3))))
def f_X0_takesAtHead_48  (σ : Mem) : Option (Int32 × Mem) := gd (isZ (0)) (some (0, σ))
def f_X0_takesAtHead_34  (v1 : Int32) (σ : Mem) : Option (Int32 × Mem) := (if (v1) = (40) then (if (σ 76 3) < (4) then nw (wr σ 76 3 ((σ 76 3) + (1))) (fun τ1 => bd (f_X0_goesTo (0) (v1) τ1) (fun y2 τ3 => gd (isZ (y2)) (some (y2, τ3))))
    else (f_X0_takesAtHead_48 σ))
  else (f_X0_takesAtHead_48 σ))
def f_X0_takesAtHead (x1 : Int32) (σ : Mem) : Option (Int32 × Mem) := (if (x1) < (97) then (f_X0_takesAtHead_34 (x1) σ)
  else (if (104) < (x1) then (f_X0_takesAtHead_34 (x1) σ)
    else nw (wr σ 76 1 ((σ 76 1) ||| ((1) <<< (((x1) - (97)) &&& 31)))) (fun τ4 => bd (f_X0_goesTo (2) (x1) τ4) (fun y5 τ6 => gd (isZ (y5)) (some (y5, τ6))))))
def f_X0_takesBehindPart_19  (v1 : Int32) (σ : Mem) : Option (Int32 × Mem) := bd (f_X0_goesTo (0) (v1) σ) (fun y1 τ2 => gd (isZ (y1)) (some (y1, τ2)))
def f_X0_takesBehindPart_69  (σ : Mem) : Option (Int32 × Mem) := gd (isZ (0)) (some (0, σ))
def f_X0_takesBehindPart_56  (v1 : Int32) (σ : Mem) : Option (Int32 × Mem) := (if (v1) = (60) then (if (σ 76 3) ≤ 0 then bd (f_X0_goesTo (3) (v1) σ) (fun y3 τ4 => gd (isZ (y3)) (some (y3, τ4)))
    else (f_X0_takesBehindPart_69 σ))
  else (f_X0_takesBehindPart_69 σ))
def f_X0_takesBehindPart_26  (v1 : Int32) (σ : Mem) : Option (Int32 × Mem) := (if (v1) = (41) then (if (σ 76 3) ≤ 0 then (f_X0_takesBehindPart_56 (v1) σ)
    else nw (wr σ 76 3 ((σ 76 3) - (1))) (fun τ5 => bd (f_X0_goesTo (2) (v1) τ5) (fun y6 τ7 => gd (isZ (y6)) (some (y6, τ7)))))
  else (f_X0_takesBehindPart_56 (v1) σ))
def f_X0_takesBehindPart (x1 : Int32) (σ : Mem) : Option (Int32 × Mem) := (if (x1) = (43) then (f_X0_takesBehindPart_19 (x1) σ)
  else (if (x1) = (124) then (if (σ 76 3) ≤ 0 then (f_X0_takesBehindPart_26 (x1) σ)
      else (f_X0_takesBehindPart_19 (x1) σ))
    else (f_X0_takesBehindPart_26 (x1) σ)))
def f_X0_takesInNumber_12  (σ : Mem) : Option (Int32 × Mem) := gd (isZ (0)) (some (0, σ))
def f_X0_takesInNumber (x1 x2 x3 : Int32) (σ : Mem) : Option (Int32 × Mem) := (if (x1) < (48) then (f_X0_takesInNumber_12 σ)
  else (if (x1) ≤ (57) then nw (wr σ 76 2 ((((10) * (x2)) + (x1)) - (48))) (fun τ1 => nw (wr τ1 76 4 (x3)) (fun τ2 => gd (isZ (1)) (some (1, τ2))))
    else (f_X0_takesInNumber_12 σ)))
def f_X0_takes_30  (v1 : Int32) (σ : Mem) : Option (Int32 × Mem) := (if (σ 76 4) = 0 then bd (f_X0_goesTo (1) (v1) σ) (fun y1 τ2 => gd (isZ (y1)) (some (y1, τ2)))
  else if (σ 76 4) = 1 then bd (f_X0_takesAtHead (v1) σ) (fun y3 τ4 => gd (isZ (y3)) (some (y3, τ4)))
  else if (σ 76 4) = 2 then bd (f_X0_takesBehindPart (v1) σ) (fun y5 τ6 => gd (isZ (y5)) (some (y5, τ6)))
  else if (σ 76 4) = 3 then bd (f_X0_takesInNumber (v1) (0) (4) σ) (fun y7 τ8 => gd (isZ (y7)) (some (y7, τ8)))
  else if (σ 76 4) = 4 then bd (f_X0_takesInNumber (v1) (σ 76 2) (5) σ) (fun y9 τ10 => gd (isZ (y9)) (some (y9, τ10)))
  else gd (isZ (0)) (some (0, σ)))
def f_X0_takes_19  (v1 : Int32) (σ : Mem) : Option (Int32 × Mem) := bd (f_X0_write (49) σ) (fun _ τ12 => nw (wr τ12 76 4 (1)) (fun τ13 => (f_X0_takes_30 (v1) τ13)))
def f_X0_takes (x1 : Int32) (σ : Mem) : Option (Int32 × Mem) := (if (σ 76 4) = 0 then (if (x1) < (49) then (f_X0_takes_19 (x1) σ)
    else (if (x1) ≤ (57) then (f_X0_takes_30 (x1) σ)
      else (f_X0_takes_19 (x1) σ)))
  else (f_X0_takes_30 (x1) σ))
def f_X0_writeNumber_32  (σ : Mem) : Option (Int32 × Mem) := bd (f_X0_write ((48) + ((σ 76 2) - (σ 76 2) / (10) * (10))) σ) (fun _ τ2 => some (0, τ2))
def f_X0_writeNumber (σ : Mem) : Option (Int32 × Mem) := (if (σ 76 2) = ((-1)) then some (0, σ)
  else (if (σ 76 2) ≤ (9) then (f_X0_writeNumber_32 σ)
    else bd (f_X0_write ((48) + ((σ 76 2) / (10))) σ) (fun _ τ4 => (f_X0_writeNumber_32 τ4))))
def f_X0_faultOf_73  (s0 : Int32) (σ : Mem) : Option (Int32 × Mem) := (if (s0) = 0 then some (σ 76 5, σ)
  else bd (f_X0_writeNumber  σ) (fun _ τ2 => some ((-1), τ2)))
def f_X0_faultOf_68  (σ : Mem) : Option (Int32 × Mem) := (f_X0_faultOf_73 (1) σ)
def f_X0_faultOf_52  (σ : Mem) : Option (Int32 × Mem) := (if (σ 76 4) = (4) then (f_X0_faultOf_68 σ)
  else (if (σ 76 4) = (5) then (f_X0_faultOf_68 σ)
    else (f_X0_faultOf_73 (0) σ)))
def f_X0_faultOf_6  : Nat → Int32 → Mem → Option (Int32 × Mem)
  | 0, _, _ => none
  | n + 1, v2, σ => (if (σ 76 5) ≤ (v2) then (if (σ 76 4) = (2) then (if (σ 76 3) = 0 then (f_X0_faultOf_68 σ)
        else (f_X0_faultOf_52 σ))
      else (f_X0_faultOf_52 σ))
    else bd (f_X0_takes (rget 1 (v2) σ) σ) (fun y3 τ4 => (if (y3) = 0 then some (v2, τ4)
      else (f_X0_faultOf_6 n ((v2) + (1)) τ4))))
def f_X0_faultOf (σ : Mem) : Option (Int32 × Mem) := bd (f_X0_begin  σ) (fun _ τ6 => (f_X0_faultOf_6 FUEL (0) τ6))
def f_X1_clear (σ : Mem) : Option (Int32 × Mem) := nw (wr σ 76 5 (0)) (fun τ1 => some (0, τ1))
def f_X6_enter_108  (v1 v3 s0 s1 : Int32) (σ : Mem) : Option (Int32 × Mem) := nw (rset 35 (s1) (s0) σ) (fun τ1 => nw (radd 31 (v1) (1) τ1) (fun τ2 => some (v3, τ2)))
def f_X6_enter_20  : Nat → Int32 → Int32 → Int32 → Int32 → Mem → Option (Int32 × Mem)
  | 0, _, _, _, _, _ => none
  | n + 1, v1, v3, v4, v5, σ => (if (σ 76 0) ≤ (v5) then nw (rset 33 (v4) (σ 76 0) σ) (fun τ3 => nw (rset 34 (v4) (τ3 76 1) τ3) (fun τ4 => (if (τ4 76 2) = ((-1)) then (f_X6_enter_108 (v1) (v3) (99) (v4) τ4)
      else (f_X6_enter_108 (v1) (v3) (τ4 76 2) (v4) τ4))))
    else nw (rset 32 (((v4) * (80)) + (v5)) (rget 0 (v5) σ) σ) (fun τ5 => (f_X6_enter_20 n (v1) (v3) (v4) ((v5) + (1)) τ5)))
def f_X6_enter (x1 : Int32) (σ : Mem) : Option (Int32 × Mem) := nv (rget 31 (x1) σ) (fun y6 => nv (((x1) * (6)) + (y6)) (fun y7 => (f_X6_enter_20 FUEL (x1) (y6) (y7) (0) σ)))
def f_X6_lettersOfLatest (x1 : Int32) (σ : Mem) : Option (Int32 × Mem) := some (rget 34 ((((x1) * (6)) + (rget 31 (x1) σ)) - (1)) σ, σ)
def f_X6_begin (x1 x2 : Int32) (σ : Mem) : Option (Int32 × Mem) := nw (rset 36 (x1) (0) σ) (fun τ1 => nw (rset 37 (x1) (0) τ1) (fun τ2 => nw (rset 38 (x1) (x2) τ2) (fun τ3 => some (0, τ3))))
def f_X6_endSum (x1 : Int32) (σ : Mem) : Option (Int32 × Mem) := nw (rset 37 (x1) (if (rget 37 (x1) σ) < (rget 36 (x1) σ) then (rget 36 (x1) σ) else (rget 37 (x1) σ)) σ) (fun τ1 => nw (rset 36 (x1) (0) τ1) (fun τ2 => some (0, τ2)))
def f_X6_markBy_210  (v4 : Int32) (σ : Mem) : Option (Int32 × Mem) := some (if (rget 35 (v4) σ) < (rget 36 (0) σ) then (rget 35 (v4) σ) else (rget 36 (0) σ), σ)
def f_X6_markBy_204  (k36 : Int32 → Int32 → Int32 → Int32 → Int32 → Int32 → Mem → Option (Int32 × Mem)) (v3 v4 v5 v6 v7 v8 : Int32) (σ : Mem) : Option (Int32 × Mem) := (k36 (v3) (v4) (v5) (v6) (v7) ((v8) + (1)) σ)
def f_X6_markBy_164  (k36 : Int32 → Int32 → Int32 → Int32 → Int32 → Int32 → Mem → Option (Int32 × Mem)) (v3 v4 v5 v6 v7 v8 v9 : Int32) (σ : Mem) : Option (Int32 × Mem) := (if (v9) = (41) then nw (radd 36 ((v6) - (1)) ((rget 38 (v6) σ) * (rget 37 (v6) σ)) σ) (fun τ1 => (f_X6_markBy_204 k36 (v3) (v4) (v5) ((v6) + (-1)) (v7) (v8) τ1))
  else (f_X6_markBy_204 k36 (v3) (v4) (v5) (v6) (v7) (v8) σ))
def f_X6_markBy_158  (k36 : Int32 → Int32 → Int32 → Int32 → Int32 → Int32 → Mem → Option (Int32 × Mem)) (v3 v4 v5 v6 v7 v8 v9 : Int32) (σ : Mem) : Option (Int32 × Mem) := bd (f_X6_endSum (v6) σ) (fun _ τ3 => (f_X6_markBy_164 k36 (v3) (v4) (v5) (v6) (v7) (v8) (v9) τ3))
def f_X6_markBy_144  (k36 : Int32 → Int32 → Int32 → Int32 → Int32 → Int32 → Mem → Option (Int32 × Mem)) (v3 v4 v5 v6 v7 v8 v9 : Int32) (σ : Mem) : Option (Int32 × Mem) := (if (v9) = (124) then (f_X6_markBy_158 k36 (v3) (v4) (v5) (v6) (v7) (v8) (v9) σ)
  else (if (v9) = (41) then (f_X6_markBy_158 k36 (v3) (v4) (v5) (v6) (v7) (v8) (v9) σ)
    else (f_X6_markBy_164 k36 (v3) (v4) (v5) (v6) (v7) (v8) (v9) σ)))
def f_X6_markBy_126  (k36 : Int32 → Int32 → Int32 → Int32 → Int32 → Int32 → Mem → Option (Int32 × Mem)) (v3 v4 v5 v6 v7 v8 v9 : Int32) (σ : Mem) : Option (Int32 × Mem) := (if (v9) = (40) then bd (f_X6_begin ((v6) + (1)) (v7) σ) (fun _ τ5 => (f_X6_markBy_144 k36 (v3) (v4) (v5) ((v6) + (1)) (v7) (v8) (v9) τ5))
  else (f_X6_markBy_144 k36 (v3) (v4) (v5) (v6) (v7) (v8) (v9) σ))
def f_X6_markBy_91  (k36 : Int32 → Int32 → Int32 → Int32 → Int32 → Int32 → Mem → Option (Int32 × Mem)) (v3 v4 v5 v6 v7 v8 v9 : Int32) (σ : Mem) : Option (Int32 × Mem) := (if (v9) < (97) then (f_X6_markBy_126 k36 (v3) (v4) (v5) (v6) (v7) (v8) (v9) σ)
  else (if (104) < (v9) then (f_X6_markBy_126 k36 (v3) (v4) (v5) (v6) (v7) (v8) (v9) σ)
    else nw (radd 36 (v6) ((v7) * (((v3) >>> (((v9) - (97)) &&& 31)) &&& (1))) σ) (fun τ6 => (f_X6_markBy_126 k36 (v3) (v4) (v5) (v6) (v7) (v8) (v9) τ6))))
def f_X6_markBy_36  : Nat → Int32 → Int32 → Int32 → Int32 → Int32 → Int32 → Mem → Option (Int32 × Mem)
  | 0, _, _, _, _, _, _, _ => none
  | n + 1, v3, v4, v5, v6, v7, v8, σ => (if (v5) ≤ (v8) then (f_X6_markBy_210 (v4) σ)
    else nv (rget 32 (((v4) * (80)) + (v8)) σ) (fun y7 => (if (y7) = (60) then (f_X6_markBy_210 (v4) σ)
      else (if (y7) < (49) then (f_X6_markBy_91 (f_X6_markBy_36 n) (v3) (v4) (v5) (v6) (v7) (v8) (y7) σ)
        else (if (57) < (y7) then (f_X6_markBy_91 (f_X6_markBy_36 n) (v3) (v4) (v5) (v6) (v7) (v8) (y7) σ)
          else nv ((y7) - (48)) (fun y8 => (f_X6_markBy_91 (f_X6_markBy_36 n) (v3) (v4) (v5) (v6) (y8) (v8) (y7) σ)))))))
def f_X6_markBy (x1 x2 x3 : Int32) (σ : Mem) : Option (Int32 × Mem) := nv (((x1) * (6)) + (x2)) (fun y9 => nv (rget 33 (y9) σ) (fun y10 => bd (f_X6_begin (0) (1) σ) (fun _ τ12 => (f_X6_markBy_36 FUEL (x3) (y9) (y10) (0) (1) (0) τ12))))
def f_X6_markByLatest (x1 x2 : Int32) (σ : Mem) : Option (Int32 × Mem) := bd (f_X6_markBy (x1) ((rget 31 (x1) σ) - (1)) (x2) σ) (fun y1 τ2 => some (y1, τ2))
def f_X6_has_21  (s0 : Int32) (σ : Mem) : Option (Int32 × Mem) := gd (isZ (s0)) (some (s0, σ))
def f_X6_has_20  (σ : Mem) : Option (Int32 × Mem) := (f_X6_has_21 (0) σ)
def f_X6_has (x1 x2 : Int32) (σ : Mem) : Option (Int32 × Mem) := (if (x2) < 0 then (f_X6_has_20 σ)
  else (if (rget 31 (x1) σ) ≤ (x2) then (f_X6_has_20 σ)
    else (f_X6_has_21 (1) σ)))
def f_X6_signAt_39  (s0 : Int32) (σ : Mem) : Option (Int32 × Mem) := some (s0, σ)
def f_X6_signAt (x1 x2 x3 : Int32) (σ : Mem) : Option (Int32 × Mem) := nv (((x1) * (6)) + (x2)) (fun y1 => (if (rget 33 (y1) σ) ≤ (x3) then (f_X6_signAt_39 (0) σ)
  else (f_X6_signAt_39 (rget 32 (((y1) * (80)) + (x3)) σ) σ)))
theorem hiX1_append_1 : ∀ w ∈ wsX10, w ∈ wsX1_append := by decide +kernel
theorem kX1_append_18 : Cond.fieldLink RX1 18 "ScriptRoom$Line" "count" "I" ∈ wsX1_append := by decide +kernel
theorem kX1_append_14 : Cond.fieldLink RX1 14 "ScriptRoom$Line" "signs" "LScriptRoom$Row;" ∈ wsX1_append := by decide +kernel
set_option maxHeartbeats 4000000 in
set_option maxRecDepth 100000 in
theorem c_X1_append (x1 : Int32) (l : Launch) : Ctv l yX1_append wsX1_append 1 22 (fun G => [.ref (G.1 (1)), .int (x1)]) (f_X1_append x1) := by
  refine mk_v (cc := cX1_append) (nL := 2) (own := RX1) (by decide) rfl rfl (fun _ => Nat.le_of_ble_eq_true rfl) (fun X o σ rv C hR hf => ?_)
  show Bk X 2 o 0 0 0 [(0, .ref (ad X (1))), (1, .int (x1))] [] σ
  unfold f_X1_append at hf
  refine b_aload_n C dX1_append_0 rfl 0 rfl ?_
  refine b_getS C hiX1_append_1 1 1 5 (by decide) rfl (by decide) kX1_append_18 rfl rfl dX1_append_1 ?_
  refine b_bipush C (v := 40) dX1_append_4 (by decide) ?_
  refine b_icmp_lt C 10 dX1_append_6 (by decide) hf (fun hf => ?_) (fun hf => ?_)
  · refine b_aload_n C dX1_append_10 rfl 0 rfl ?_
    refine b_getR C hiX1_append_1 1 0 (9 + 1) (by decide) rfl (by decide) kX1_append_14 rfl rfl dX1_append_11 ?_
    refine b_aload_n C dX1_append_14 rfl 0 rfl ?_
    refine b_getS C hiX1_append_1 1 1 5 (by decide) rfl (by decide) kX1_append_18 rfl rfl dX1_append_15 ?_
    refine b_iload_n C dX1_append_18 rfl 1 rfl ?_
    refine b_callVv (n := 2) C (9 + 1) 5 (isObj_r (by decide)) rfl (fun _ => [.int (σ 76 5), .int (x1)]) (c_X5_set 1 (by decide) (σ 76 5) (x1)) (e_set 1 (by decide) (σ 76 5) (x1) _) gX1_append_X5_set rfl (by decide +kernel) rfl (by decide) (by decide) (Nat.le_of_ble_eq_true rfl) dX1_append_19 ?_
    refine b_nw hf (fun τ1 hf => ?_)
    refine b_aload_n C dX1_append_22 rfl 0 rfl ?_
    refine b_dup C dX1_append_23 rfl ?_
    refine b_getS C hiX1_append_1 1 1 5 (by decide) rfl (by decide) kX1_append_18 rfl rfl dX1_append_24 ?_
    refine b_iconst C (v := 1) dX1_append_27 (by decide) ?_
    refine b_iadd C dX1_append_28 ?_
    refine b_putS C (ty := .int) hiX1_append_1 tyX1 tyX1_ok nmX1 1 1 5 (by decide) rfl (by decide) kX1_append_18 rfl rfl (by decide +kernel) rfl rfl rfl dX1_append_29 ?_
    refine b_nw hf (fun τ2 hf => ?_)
    exact hR _ _ _ _ dX1_append_32 hf
  · exact hR _ _ _ _ dX1_append_9 hf
theorem hiX0_begin_0 : ∀ w ∈ wsX00, w ∈ wsX0_begin := by decide +kernel
theorem kX0_begin_47 : Cond.fieldLink RX0 47 "ScriptRoom$Draft" "count" "I" ∈ wsX0_begin := by decide +kernel
theorem kX0_begin_48 : Cond.fieldLink RX0 48 "ScriptRoom$Draft" "letters" "I" ∈ wsX0_begin := by decide +kernel
theorem kX0_begin_51 : Cond.fieldLink RX0 51 "ScriptRoom$Draft" "number" "I" ∈ wsX0_begin := by decide +kernel
theorem kX0_begin_41 : Cond.fieldLink RX0 41 "ScriptRoom$Draft" "open" "I" ∈ wsX0_begin := by decide +kernel
theorem kX0_begin_38 : Cond.fieldLink RX0 38 "ScriptRoom$Draft" "state" "I" ∈ wsX0_begin := by decide +kernel
set_option maxHeartbeats 4000000 in
set_option maxRecDepth 100000 in
theorem c_X0_begin (l : Launch) : Ctv l yX0_begin wsX0_begin 0 0 (fun G => [.ref (G.1 (0))]) (f_X0_begin ) := by
  refine mk_v (cc := cX0_begin) (nL := 1) (own := RX0) (by decide) rfl rfl (fun _ => Nat.le_of_ble_eq_true rfl) (fun X o σ rv C hR hf => ?_)
  show Bk X 1 o 0 0 0 [(0, .ref (ad X (0)))] [] σ
  unfold f_X0_begin at hf
  refine b_aload_n C dX0_begin_0 rfl 0 rfl ?_
  refine b_iconst C (v := 0) dX0_begin_1 (by decide) ?_
  refine b_putS C (ty := .int) hiX0_begin_0 tyX0 tyX0_ok nmX0 0 1 0 (by decide) rfl (by decide) kX0_begin_47 rfl rfl (by decide +kernel) rfl rfl rfl dX0_begin_2 ?_
  refine b_nw hf (fun τ1 hf => ?_)
  refine b_aload_n C dX0_begin_5 rfl 0 rfl ?_
  refine b_iconst C (v := 0) dX0_begin_6 (by decide) ?_
  refine b_putS C (ty := .int) hiX0_begin_0 tyX0 tyX0_ok nmX0 0 2 1 (by decide) rfl (by decide) kX0_begin_48 rfl rfl (by decide +kernel) rfl rfl rfl dX0_begin_7 ?_
  refine b_nw hf (fun τ2 hf => ?_)
  refine b_aload_n C dX0_begin_10 rfl 0 rfl ?_
  refine b_iconst C (v := (-1)) dX0_begin_11 (by decide) ?_
  refine b_putS C (ty := .int) hiX0_begin_0 tyX0 tyX0_ok nmX0 0 3 2 (by decide) rfl (by decide) kX0_begin_51 rfl rfl (by decide +kernel) rfl rfl rfl dX0_begin_12 ?_
  refine b_nw hf (fun τ3 hf => ?_)
  refine b_aload_n C dX0_begin_15 rfl 0 rfl ?_
  refine b_iconst C (v := 0) dX0_begin_16 (by decide) ?_
  refine b_putS C (ty := .int) hiX0_begin_0 tyX0 tyX0_ok nmX0 0 4 3 (by decide) rfl (by decide) kX0_begin_41 rfl rfl (by decide +kernel) rfl rfl rfl dX0_begin_17 ?_
  refine b_nw hf (fun τ4 hf => ?_)
  refine b_aload_n C dX0_begin_20 rfl 0 rfl ?_
  refine b_iconst C (v := 0) dX0_begin_21 (by decide) ?_
  refine b_putS C (ty := .int) hiX0_begin_0 tyX0 tyX0_ok nmX0 0 5 4 (by decide) rfl (by decide) kX0_begin_38 rfl rfl (by decide +kernel) rfl rfl rfl dX0_begin_22 ?_
  refine b_nw hf (fun τ5 hf => ?_)
  exact hR _ _ _ _ dX0_begin_25 hf
theorem hiX0_write_0 : ∀ w ∈ wsX00, w ∈ wsX0_write := by decide +kernel
theorem kX0_write_18 : Cond.fieldLink RX0 18 "ScriptRoom$Draft" "signs" "LScriptRoom$Row;" ∈ wsX0_write := by decide +kernel
theorem kX0_write_47 : Cond.fieldLink RX0 47 "ScriptRoom$Draft" "count" "I" ∈ wsX0_write := by decide +kernel
set_option maxHeartbeats 4000000 in
set_option maxRecDepth 100000 in
theorem c_X0_write (x1 : Int32) (l : Launch) : Ctv l yX0_write wsX0_write 1 22 (fun G => [.ref (G.1 (0)), .int (x1)]) (f_X0_write x1) := by
  refine mk_v (cc := cX0_write) (nL := 2) (own := RX0) (by decide) rfl rfl (fun _ => Nat.le_of_ble_eq_true rfl) (fun X o σ rv C hR hf => ?_)
  show Bk X 2 o 0 0 0 [(0, .ref (ad X (0))), (1, .int (x1))] [] σ
  unfold f_X0_write at hf
  refine b_aload_n C dX0_write_0 rfl 0 rfl ?_
  refine b_getR C hiX0_write_0 0 0 (9 + 0) (by decide) rfl (by decide) kX0_write_18 rfl rfl dX0_write_1 ?_
  refine b_aload_n C dX0_write_4 rfl 0 rfl ?_
  refine b_getS C hiX0_write_0 0 1 0 (by decide) rfl (by decide) kX0_write_47 rfl rfl dX0_write_5 ?_
  refine b_iload_n C dX0_write_8 rfl 1 rfl ?_
  refine b_callVv (n := 2) C (9 + 0) 5 (isObj_r (by decide)) rfl (fun _ => [.int (σ 76 0), .int (x1)]) (c_X5_set 0 (by decide) (σ 76 0) (x1)) (e_set 0 (by decide) (σ 76 0) (x1) _) gX0_write_X5_set rfl (by decide +kernel) rfl (by decide) (by decide) (Nat.le_of_ble_eq_true rfl) dX0_write_9 ?_
  refine b_nw hf (fun τ1 hf => ?_)
  refine b_aload_n C dX0_write_12 rfl 0 rfl ?_
  refine b_dup C dX0_write_13 rfl ?_
  refine b_getS C hiX0_write_0 0 1 0 (by decide) rfl (by decide) kX0_write_47 rfl rfl dX0_write_14 ?_
  refine b_iconst C (v := 1) dX0_write_17 (by decide) ?_
  refine b_iadd C dX0_write_18 ?_
  refine b_putS C (ty := .int) hiX0_write_0 tyX0 tyX0_ok nmX0 0 1 0 (by decide) rfl (by decide) kX0_write_47 rfl rfl (by decide +kernel) rfl rfl rfl dX0_write_19 ?_
  refine b_nw hf (fun τ2 hf => ?_)
  exact hR _ _ _ _ dX0_write_22 hf
theorem hiX0_goesTo_0 : ∀ w ∈ wsX00, w ∈ wsX0_goesTo := by decide +kernel
theorem kX0_goesTo_38 : Cond.fieldLink RX0 38 "ScriptRoom$Draft" "state" "I" ∈ wsX0_goesTo := by decide +kernel
set_option maxHeartbeats 4000000 in
set_option maxRecDepth 100000 in
theorem c_X0_goesTo (x1 x2 : Int32) (l : Launch) : Cti l yX0_goesTo wsX0_goesTo 2 43 (fun G => [.ref (G.1 (0)), .int (x1), .int (x2)]) (f_X0_goesTo x1 x2) := by
  refine mk_z (cc := cX0_goesTo) (nL := 3) (own := RX0) (by decide) rfl rfl (fun _ => Nat.le_of_ble_eq_true rfl) (fun X o σ rv C hR hf => ?_)
  show Bk X 3 o 0 0 0 [(0, .ref (ad X (0))), (1, .int (x1)), (2, .int (x2))] [] σ
  unfold f_X0_goesTo at hf
  refine b_aload_n C dX0_goesTo_0 rfl 0 rfl ?_
  refine b_iload_n C dX0_goesTo_1 rfl 2 rfl ?_
  obtain ⟨y1, τ2, hqy1, hf⟩ := bd_inv hf
  refine b_callVv (n := 1) C (0) 0 (isObj_s (by decide)) rfl (fun _ => [.int (x2)]) (c_X0_write (x2)) hqy1 gX0_goesTo_X0_write rfl (by decide +kernel) rfl (by decide) (by decide) (Nat.le_of_ble_eq_true rfl) dX0_goesTo_2 ?_
  refine b_aload_n C dX0_goesTo_5 rfl 0 rfl ?_
  refine b_iload_n C dX0_goesTo_6 rfl 1 rfl ?_
  refine b_putS C (ty := .int) hiX0_goesTo_0 tyX0 tyX0_ok nmX0 0 5 4 (by decide) rfl (by decide) kX0_goesTo_38 rfl rfl (by decide +kernel) rfl rfl rfl dX0_goesTo_7 ?_
  refine b_nw hf (fun τ3 hf => ?_)
  refine b_iconst C (v := 1) dX0_goesTo_10 (by decide) ?_
  exact hR _ _ _ _ dX0_goesTo_11 hf
theorem hiX0_takesAtHead_0 : ∀ w ∈ wsX00, w ∈ wsX0_takesAtHead := by decide +kernel
theorem kX0_takesAtHead_41 : Cond.fieldLink RX0 41 "ScriptRoom$Draft" "open" "I" ∈ wsX0_takesAtHead := by decide +kernel
theorem kX0_takesAtHead_48 : Cond.fieldLink RX0 48 "ScriptRoom$Draft" "letters" "I" ∈ wsX0_takesAtHead := by decide +kernel
set_option maxHeartbeats 4000000 in
set_option maxRecDepth 100000 in
theorem w_X0_takesAtHead_48 {X : Ctx} {o : Int64} {rv : Int32 × Mem} (C : Cx X cX0_takesAtHead RX0 wsX0_takesAtHead 2 3 65) (hR : Rz X cX0_takesAtHead 2 o rv) : ∀ (σ : Mem), some rv = f_X0_takesAtHead_48 σ → Bk X 2 o 0 0 48 [] [] σ := by
  intro σ hf
  unfold f_X0_takesAtHead_48 at hf
  refine b_iconst C (v := 0) dX0_takesAtHead_48 (by decide) ?_
  exact hR _ _ _ _ dX0_takesAtHead_49 hf
set_option maxHeartbeats 4000000 in
set_option maxRecDepth 100000 in
theorem w_X0_takesAtHead_34 {X : Ctx} {o : Int64} {rv : Int32 × Mem} (C : Cx X cX0_takesAtHead RX0 wsX0_takesAtHead 2 3 65) (hR : Rz X cX0_takesAtHead 2 o rv) : ∀ (v1 : Int32) (σ : Mem), some rv = f_X0_takesAtHead_34 v1 σ → Bk X 2 o 0 0 34 [(0, .ref (ad X (0))), (1, .int (v1))] [] σ := by
  intro v1 σ hf
  unfold f_X0_takesAtHead_34 at hf
  refine b_iload_n C dX0_takesAtHead_34 rfl 1 rfl ?_
  refine b_bipush C (v := 40) dX0_takesAtHead_35 (by decide) ?_
  refine b_icmp_ne C 48 dX0_takesAtHead_37 (by decide) hf (fun hf => ?_) (fun hf => ?_)
  · refine b_sub [] rfl ?_
    exact w_X0_takesAtHead_48 C hR _ hf
  · refine b_aload_n C dX0_takesAtHead_40 rfl 0 rfl ?_
    refine b_getS C hiX0_takesAtHead_0 0 4 3 (by decide) rfl (by decide) kX0_takesAtHead_41 rfl rfl dX0_takesAtHead_41 ?_
    refine b_iconst C (v := 4) dX0_takesAtHead_44 (by decide) ?_
    refine b_icmp_lt C 50 dX0_takesAtHead_45 (by decide) hf (fun hf => ?_) (fun hf => ?_)
    · refine b_aload_n C dX0_takesAtHead_50 rfl 0 rfl ?_
      refine b_dup C dX0_takesAtHead_51 rfl ?_
      refine b_getS C hiX0_takesAtHead_0 0 4 3 (by decide) rfl (by decide) kX0_takesAtHead_41 rfl rfl dX0_takesAtHead_52 ?_
      refine b_iconst C (v := 1) dX0_takesAtHead_55 (by decide) ?_
      refine b_iadd C dX0_takesAtHead_56 ?_
      refine b_putS C (ty := .int) hiX0_takesAtHead_0 tyX0 tyX0_ok nmX0 0 4 3 (by decide) rfl (by decide) kX0_takesAtHead_41 rfl rfl (by decide +kernel) rfl rfl rfl dX0_takesAtHead_57 ?_
      refine b_nw hf (fun τ1 hf => ?_)
      refine b_aload_n C dX0_takesAtHead_60 rfl 0 rfl ?_
      refine b_iconst C (v := 0) dX0_takesAtHead_61 (by decide) ?_
      refine b_iload_n C dX0_takesAtHead_62 rfl 1 rfl ?_
      obtain ⟨y2, τ3, hqy2, hf⟩ := bd_inv hf
      refine b_callVi (n := 2) C (0) 0 (isObj_s (by decide)) rfl (fun _ => [.int (0), .int (v1)]) (c_X0_goesTo (0) (v1)) hqy2 gX0_takesAtHead_X0_goesTo rfl (by decide +kernel) rfl (by decide) (by decide) (Nat.le_of_ble_eq_true rfl) dX0_takesAtHead_63 ?_
      exact hR _ _ _ _ dX0_takesAtHead_66 hf
    · refine b_sub [] rfl ?_
      exact w_X0_takesAtHead_48 C hR _ hf
set_option maxHeartbeats 4000000 in
set_option maxRecDepth 100000 in
theorem c_X0_takesAtHead (x1 : Int32) (l : Launch) : Cti l yX0_takesAtHead wsX0_takesAtHead 3 65 (fun G => [.ref (G.1 (0)), .int (x1)]) (f_X0_takesAtHead x1) := by
  refine mk_z (cc := cX0_takesAtHead) (nL := 2) (own := RX0) (by decide) rfl rfl (fun _ => Nat.le_of_ble_eq_true rfl) (fun X o σ rv C hR hf => ?_)
  show Bk X 2 o 0 0 0 [(0, .ref (ad X (0))), (1, .int (x1))] [] σ
  unfold f_X0_takesAtHead at hf
  refine b_iload_n C dX0_takesAtHead_0 rfl 1 rfl ?_
  refine b_bipush C (v := 97) dX0_takesAtHead_1 (by decide) ?_
  refine b_icmp_lt C 34 dX0_takesAtHead_3 (by decide) hf (fun hf => ?_) (fun hf => ?_)
  · exact w_X0_takesAtHead_34 C hR _ _ hf
  · refine b_iload_n C dX0_takesAtHead_6 rfl 1 rfl ?_
    refine b_bipush C (v := 104) dX0_takesAtHead_7 (by decide) ?_
    refine b_icmp_gt C 34 dX0_takesAtHead_9 (by decide) hf (fun hf => ?_) (fun hf => ?_)
    · exact w_X0_takesAtHead_34 C hR _ _ hf
    · refine b_aload_n C dX0_takesAtHead_12 rfl 0 rfl ?_
      refine b_dup C dX0_takesAtHead_13 rfl ?_
      refine b_getS C hiX0_takesAtHead_0 0 2 1 (by decide) rfl (by decide) kX0_takesAtHead_48 rfl rfl dX0_takesAtHead_14 ?_
      refine b_iconst C (v := 1) dX0_takesAtHead_17 (by decide) ?_
      refine b_iload_n C dX0_takesAtHead_18 rfl 1 rfl ?_
      refine b_bipush C (v := 97) dX0_takesAtHead_19 (by decide) ?_
      refine b_isub C dX0_takesAtHead_21 ?_
      refine b_ishl C dX0_takesAtHead_22 ?_
      refine b_ior C dX0_takesAtHead_23 ?_
      refine b_putS C (ty := .int) hiX0_takesAtHead_0 tyX0 tyX0_ok nmX0 0 2 1 (by decide) rfl (by decide) kX0_takesAtHead_48 rfl rfl (by decide +kernel) rfl rfl rfl dX0_takesAtHead_24 ?_
      refine b_nw hf (fun τ4 hf => ?_)
      refine b_aload_n C dX0_takesAtHead_27 rfl 0 rfl ?_
      refine b_iconst C (v := 2) dX0_takesAtHead_28 (by decide) ?_
      refine b_iload_n C dX0_takesAtHead_29 rfl 1 rfl ?_
      obtain ⟨y5, τ6, hqy5, hf⟩ := bd_inv hf
      refine b_callVi (n := 2) C (0) 0 (isObj_s (by decide)) rfl (fun _ => [.int (2), .int (x1)]) (c_X0_goesTo (2) (x1)) hqy5 gX0_takesAtHead_X0_goesTo rfl (by decide +kernel) rfl (by decide) (by decide) (Nat.le_of_ble_eq_true rfl) dX0_takesAtHead_30 ?_
      exact hR _ _ _ _ dX0_takesAtHead_33 hf
theorem hiX0_takesBehindPart_0 : ∀ w ∈ wsX00, w ∈ wsX0_takesBehindPart := by decide +kernel
theorem kX0_takesBehindPart_41 : Cond.fieldLink RX0 41 "ScriptRoom$Draft" "open" "I" ∈ wsX0_takesBehindPart := by decide +kernel
set_option maxHeartbeats 4000000 in
set_option maxRecDepth 100000 in
theorem w_X0_takesBehindPart_19 {X : Ctx} {o : Int64} {rv : Int32 × Mem} (C : Cx X cX0_takesBehindPart RX0 wsX0_takesBehindPart 2 3 65) (hR : Rz X cX0_takesBehindPart 2 o rv) : ∀ (v1 : Int32) (σ : Mem), some rv = f_X0_takesBehindPart_19 v1 σ → Bk X 2 o 0 0 19 [(0, .ref (ad X (0))), (1, .int (v1))] [] σ := by
  intro v1 σ hf
  unfold f_X0_takesBehindPart_19 at hf
  refine b_aload_n C dX0_takesBehindPart_19 rfl 0 rfl ?_
  refine b_iconst C (v := 0) dX0_takesBehindPart_20 (by decide) ?_
  refine b_iload_n C dX0_takesBehindPart_21 rfl 1 rfl ?_
  obtain ⟨y1, τ2, hqy1, hf⟩ := bd_inv hf
  refine b_callVi (n := 2) C (0) 0 (isObj_s (by decide)) rfl (fun _ => [.int (0), .int (v1)]) (c_X0_goesTo (0) (v1)) hqy1 gX0_takesBehindPart_X0_goesTo rfl (by decide +kernel) rfl (by decide) (by decide) (Nat.le_of_ble_eq_true rfl) dX0_takesBehindPart_22 ?_
  exact hR _ _ _ _ dX0_takesBehindPart_25 hf
set_option maxHeartbeats 4000000 in
set_option maxRecDepth 100000 in
theorem w_X0_takesBehindPart_69 {X : Ctx} {o : Int64} {rv : Int32 × Mem} (C : Cx X cX0_takesBehindPart RX0 wsX0_takesBehindPart 2 3 65) (hR : Rz X cX0_takesBehindPart 2 o rv) : ∀ (σ : Mem), some rv = f_X0_takesBehindPart_69 σ → Bk X 2 o 0 0 69 [] [] σ := by
  intro σ hf
  unfold f_X0_takesBehindPart_69 at hf
  refine b_iconst C (v := 0) dX0_takesBehindPart_69 (by decide) ?_
  exact hR _ _ _ _ dX0_takesBehindPart_70 hf
set_option maxHeartbeats 4000000 in
set_option maxRecDepth 100000 in
theorem w_X0_takesBehindPart_56 {X : Ctx} {o : Int64} {rv : Int32 × Mem} (C : Cx X cX0_takesBehindPart RX0 wsX0_takesBehindPart 2 3 65) (hR : Rz X cX0_takesBehindPart 2 o rv) : ∀ (v1 : Int32) (σ : Mem), some rv = f_X0_takesBehindPart_56 v1 σ → Bk X 2 o 0 0 56 [(0, .ref (ad X (0))), (1, .int (v1))] [] σ := by
  intro v1 σ hf
  unfold f_X0_takesBehindPart_56 at hf
  refine b_iload_n C dX0_takesBehindPart_56 rfl 1 rfl ?_
  refine b_bipush C (v := 60) dX0_takesBehindPart_57 (by decide) ?_
  refine b_icmp_ne C 69 dX0_takesBehindPart_59 (by decide) hf (fun hf => ?_) (fun hf => ?_)
  · refine b_sub [] rfl ?_
    exact w_X0_takesBehindPart_69 C hR _ hf
  · refine b_aload_n C dX0_takesBehindPart_62 rfl 0 rfl ?_
    refine b_getS C hiX0_takesBehindPart_0 0 4 3 (by decide) rfl (by decide) kX0_takesBehindPart_41 rfl rfl dX0_takesBehindPart_63 ?_
    refine b_if_le C 71 dX0_takesBehindPart_66 (by decide) hf (fun hf => ?_) (fun hf => ?_)
    · refine b_aload_n C dX0_takesBehindPart_71 rfl 0 rfl ?_
      refine b_iconst C (v := 3) dX0_takesBehindPart_72 (by decide) ?_
      refine b_iload_n C dX0_takesBehindPart_73 rfl 1 rfl ?_
      obtain ⟨y3, τ4, hqy3, hf⟩ := bd_inv hf
      refine b_callVi (n := 2) C (0) 0 (isObj_s (by decide)) rfl (fun _ => [.int (3), .int (v1)]) (c_X0_goesTo (3) (v1)) hqy3 gX0_takesBehindPart_X0_goesTo rfl (by decide +kernel) rfl (by decide) (by decide) (Nat.le_of_ble_eq_true rfl) dX0_takesBehindPart_74 ?_
      exact hR _ _ _ _ dX0_takesBehindPart_77 hf
    · refine b_sub [] rfl ?_
      exact w_X0_takesBehindPart_69 C hR _ hf
set_option maxHeartbeats 4000000 in
set_option maxRecDepth 100000 in
theorem w_X0_takesBehindPart_26 {X : Ctx} {o : Int64} {rv : Int32 × Mem} (C : Cx X cX0_takesBehindPart RX0 wsX0_takesBehindPart 2 3 65) (hR : Rz X cX0_takesBehindPart 2 o rv) : ∀ (v1 : Int32) (σ : Mem), some rv = f_X0_takesBehindPart_26 v1 σ → Bk X 2 o 0 0 26 [(0, .ref (ad X (0))), (1, .int (v1))] [] σ := by
  intro v1 σ hf
  unfold f_X0_takesBehindPart_26 at hf
  refine b_iload_n C dX0_takesBehindPart_26 rfl 1 rfl ?_
  refine b_bipush C (v := 41) dX0_takesBehindPart_27 (by decide) ?_
  refine b_icmp_ne C 56 dX0_takesBehindPart_29 (by decide) hf (fun hf => ?_) (fun hf => ?_)
  · exact w_X0_takesBehindPart_56 C hR _ _ hf
  · refine b_aload_n C dX0_takesBehindPart_32 rfl 0 rfl ?_
    refine b_getS C hiX0_takesBehindPart_0 0 4 3 (by decide) rfl (by decide) kX0_takesBehindPart_41 rfl rfl dX0_takesBehindPart_33 ?_
    refine b_if_le C 56 dX0_takesBehindPart_36 (by decide) hf (fun hf => ?_) (fun hf => ?_)
    · exact w_X0_takesBehindPart_56 C hR _ _ hf
    · refine b_aload_n C dX0_takesBehindPart_39 rfl 0 rfl ?_
      refine b_dup C dX0_takesBehindPart_40 rfl ?_
      refine b_getS C hiX0_takesBehindPart_0 0 4 3 (by decide) rfl (by decide) kX0_takesBehindPart_41 rfl rfl dX0_takesBehindPart_41 ?_
      refine b_iconst C (v := 1) dX0_takesBehindPart_44 (by decide) ?_
      refine b_isub C dX0_takesBehindPart_45 ?_
      refine b_putS C (ty := .int) hiX0_takesBehindPart_0 tyX0 tyX0_ok nmX0 0 4 3 (by decide) rfl (by decide) kX0_takesBehindPart_41 rfl rfl (by decide +kernel) rfl rfl rfl dX0_takesBehindPart_46 ?_
      refine b_nw hf (fun τ5 hf => ?_)
      refine b_aload_n C dX0_takesBehindPart_49 rfl 0 rfl ?_
      refine b_iconst C (v := 2) dX0_takesBehindPart_50 (by decide) ?_
      refine b_iload_n C dX0_takesBehindPart_51 rfl 1 rfl ?_
      obtain ⟨y6, τ7, hqy6, hf⟩ := bd_inv hf
      refine b_callVi (n := 2) C (0) 0 (isObj_s (by decide)) rfl (fun _ => [.int (2), .int (v1)]) (c_X0_goesTo (2) (v1)) hqy6 gX0_takesBehindPart_X0_goesTo rfl (by decide +kernel) rfl (by decide) (by decide) (Nat.le_of_ble_eq_true rfl) dX0_takesBehindPart_52 ?_
      exact hR _ _ _ _ dX0_takesBehindPart_55 hf
set_option maxHeartbeats 4000000 in
set_option maxRecDepth 100000 in
theorem c_X0_takesBehindPart (x1 : Int32) (l : Launch) : Cti l yX0_takesBehindPart wsX0_takesBehindPart 3 65 (fun G => [.ref (G.1 (0)), .int (x1)]) (f_X0_takesBehindPart x1) := by
  refine mk_z (cc := cX0_takesBehindPart) (nL := 2) (own := RX0) (by decide) rfl rfl (fun _ => Nat.le_of_ble_eq_true rfl) (fun X o σ rv C hR hf => ?_)
  show Bk X 2 o 0 0 0 [(0, .ref (ad X (0))), (1, .int (x1))] [] σ
  unfold f_X0_takesBehindPart at hf
  refine b_iload_n C dX0_takesBehindPart_0 rfl 1 rfl ?_
  refine b_bipush C (v := 43) dX0_takesBehindPart_1 (by decide) ?_
  refine b_icmp_eq C 19 dX0_takesBehindPart_3 (by decide) hf (fun hf => ?_) (fun hf => ?_)
  · exact w_X0_takesBehindPart_19 C hR _ _ hf
  · refine b_iload_n C dX0_takesBehindPart_6 rfl 1 rfl ?_
    refine b_bipush C (v := 124) dX0_takesBehindPart_7 (by decide) ?_
    refine b_icmp_ne C 26 dX0_takesBehindPart_9 (by decide) hf (fun hf => ?_) (fun hf => ?_)
    · exact w_X0_takesBehindPart_26 C hR _ _ hf
    · refine b_aload_n C dX0_takesBehindPart_12 rfl 0 rfl ?_
      refine b_getS C hiX0_takesBehindPart_0 0 4 3 (by decide) rfl (by decide) kX0_takesBehindPart_41 rfl rfl dX0_takesBehindPart_13 ?_
      refine b_if_le C 26 dX0_takesBehindPart_16 (by decide) hf (fun hf => ?_) (fun hf => ?_)
      · exact w_X0_takesBehindPart_26 C hR _ _ hf
      · exact w_X0_takesBehindPart_19 C hR _ _ hf
theorem hiX0_takesInNumber_0 : ∀ w ∈ wsX00, w ∈ wsX0_takesInNumber := by decide +kernel
theorem kX0_takesInNumber_51 : Cond.fieldLink RX0 51 "ScriptRoom$Draft" "number" "I" ∈ wsX0_takesInNumber := by decide +kernel
theorem kX0_takesInNumber_38 : Cond.fieldLink RX0 38 "ScriptRoom$Draft" "state" "I" ∈ wsX0_takesInNumber := by decide +kernel
set_option maxHeartbeats 4000000 in
set_option maxRecDepth 100000 in
theorem w_X0_takesInNumber_12 {X : Ctx} {o : Int64} {rv : Int32 × Mem} (C : Cx X cX0_takesInNumber RX0 wsX0_takesInNumber 4 0 0) (hR : Rz X cX0_takesInNumber 4 o rv) : ∀ (σ : Mem), some rv = f_X0_takesInNumber_12 σ → Bk X 4 o 0 0 12 [] [] σ := by
  intro σ hf
  unfold f_X0_takesInNumber_12 at hf
  refine b_iconst C (v := 0) dX0_takesInNumber_12 (by decide) ?_
  exact hR _ _ _ _ dX0_takesInNumber_13 hf
set_option maxHeartbeats 4000000 in
set_option maxRecDepth 100000 in
theorem c_X0_takesInNumber (x1 x2 x3 : Int32) (l : Launch) : Cti l yX0_takesInNumber wsX0_takesInNumber 0 0 (fun G => [.ref (G.1 (0)), .int (x1), .int (x2), .int (x3)]) (f_X0_takesInNumber x1 x2 x3) := by
  refine mk_z (cc := cX0_takesInNumber) (nL := 4) (own := RX0) (by decide) rfl rfl (fun _ => Nat.le_of_ble_eq_true rfl) (fun X o σ rv C hR hf => ?_)
  show Bk X 4 o 0 0 0 [(0, .ref (ad X (0))), (1, .int (x1)), (2, .int (x2)), (3, .int (x3))] [] σ
  unfold f_X0_takesInNumber at hf
  refine b_iload_n C dX0_takesInNumber_0 rfl 1 rfl ?_
  refine b_bipush C (v := 48) dX0_takesInNumber_1 (by decide) ?_
  refine b_icmp_lt C 12 dX0_takesInNumber_3 (by decide) hf (fun hf => ?_) (fun hf => ?_)
  · refine b_sub [] rfl ?_
    exact w_X0_takesInNumber_12 C hR _ hf
  · refine b_iload_n C dX0_takesInNumber_6 rfl 1 rfl ?_
    refine b_bipush C (v := 57) dX0_takesInNumber_7 (by decide) ?_
    refine b_icmp_le C 14 dX0_takesInNumber_9 (by decide) hf (fun hf => ?_) (fun hf => ?_)
    · refine b_aload_n C dX0_takesInNumber_14 rfl 0 rfl ?_
      refine b_bipush C (v := 10) dX0_takesInNumber_15 (by decide) ?_
      refine b_iload_n C dX0_takesInNumber_17 rfl 2 rfl ?_
      refine b_imul C dX0_takesInNumber_18 ?_
      refine b_iload_n C dX0_takesInNumber_19 rfl 1 rfl ?_
      refine b_iadd C dX0_takesInNumber_20 ?_
      refine b_bipush C (v := 48) dX0_takesInNumber_21 (by decide) ?_
      refine b_isub C dX0_takesInNumber_23 ?_
      refine b_putS C (ty := .int) hiX0_takesInNumber_0 tyX0 tyX0_ok nmX0 0 3 2 (by decide) rfl (by decide) kX0_takesInNumber_51 rfl rfl (by decide +kernel) rfl rfl rfl dX0_takesInNumber_24 ?_
      refine b_nw hf (fun τ1 hf => ?_)
      refine b_aload_n C dX0_takesInNumber_27 rfl 0 rfl ?_
      refine b_iload_n C dX0_takesInNumber_28 rfl 3 rfl ?_
      refine b_putS C (ty := .int) hiX0_takesInNumber_0 tyX0 tyX0_ok nmX0 0 5 4 (by decide) rfl (by decide) kX0_takesInNumber_38 rfl rfl (by decide +kernel) rfl rfl rfl dX0_takesInNumber_29 ?_
      refine b_nw hf (fun τ2 hf => ?_)
      refine b_iconst C (v := 1) dX0_takesInNumber_32 (by decide) ?_
      exact hR _ _ _ _ dX0_takesInNumber_33 hf
    · refine b_sub [] rfl ?_
      exact w_X0_takesInNumber_12 C hR _ hf
theorem hiX0_takes_0 : ∀ w ∈ wsX00, w ∈ wsX0_takes := by decide +kernel
theorem kX0_takes_38 : Cond.fieldLink RX0 38 "ScriptRoom$Draft" "state" "I" ∈ wsX0_takes := by decide +kernel
theorem kX0_takes_51 : Cond.fieldLink RX0 51 "ScriptRoom$Draft" "number" "I" ∈ wsX0_takes := by decide +kernel
set_option maxHeartbeats 4000000 in
set_option maxRecDepth 100000 in
theorem w_X0_takes_30 {X : Ctx} {o : Int64} {rv : Int32 × Mem} (C : Cx X cX0_takes RX0 wsX0_takes 2 4 86) (hR : Rz X cX0_takes 2 o rv) : ∀ (v1 : Int32) (σ : Mem), some rv = f_X0_takes_30 v1 σ → Bk X 2 o 0 0 30 [(0, .ref (ad X (0))), (1, .int (v1))] [] σ := by
  intro v1 σ hf
  unfold f_X0_takes_30 at hf
  refine b_aload_n C dX0_takes_30 rfl 0 rfl ?_
  refine b_getS C hiX0_takes_0 0 5 4 (by decide) rfl (by decide) kX0_takes_38 rfl rfl dX0_takes_31 ?_
  have ht0 : ∀ k, k < 0 → (σ 76 4 : Int32) ≠ nI k := tb_c0
  by_cases hc0 : (σ 76 4 : Int32) = 0
  · rw [if_pos hc0] at hf
    refine b_tableIn C 68 dX0_takes_34 (by rw [hc0]; decide) (by rw [hc0]; decide) (by rw [hc0]; rfl) (by decide) ?_
    refine b_aload_n C dX0_takes_68 rfl 0 rfl ?_
    refine b_iconst C (v := 1) dX0_takes_69 (by decide) ?_
    refine b_iload_n C dX0_takes_70 rfl 1 rfl ?_
    obtain ⟨y1, τ2, hqy1, hf⟩ := bd_inv hf
    refine b_callVi (n := 2) C (0) 0 (isObj_s (by decide)) rfl (fun _ => [.int (1), .int (v1)]) (c_X0_goesTo (1) (v1)) hqy1 gX0_takes_X0_goesTo rfl (by decide +kernel) rfl (by decide) (by decide) (Nat.le_of_ble_eq_true rfl) dX0_takes_71 ?_
    exact hR _ _ _ _ dX0_takes_74 hf
  rw [if_neg hc0] at hf
  have ht1 := tb_cs ht0 hc0
  by_cases hc1 : (σ 76 4 : Int32) = 1
  · rw [if_pos hc1] at hf
    refine b_tableIn C 75 dX0_takes_34 (by rw [hc1]; decide) (by rw [hc1]; decide) (by rw [hc1]; rfl) (by decide) ?_
    refine b_aload_n C dX0_takes_75 rfl 0 rfl ?_
    refine b_iload_n C dX0_takes_76 rfl 1 rfl ?_
    obtain ⟨y3, τ4, hqy3, hf⟩ := bd_inv hf
    refine b_callVi (n := 1) C (0) 0 (isObj_s (by decide)) rfl (fun _ => [.int (v1)]) (c_X0_takesAtHead (v1)) hqy3 gX0_takes_X0_takesAtHead rfl (by decide +kernel) rfl (by decide) (by decide) (Nat.le_of_ble_eq_true rfl) dX0_takes_77 ?_
    exact hR _ _ _ _ dX0_takes_80 hf
  rw [if_neg hc1] at hf
  have ht2 := tb_cs ht1 hc1
  by_cases hc2 : (σ 76 4 : Int32) = 2
  · rw [if_pos hc2] at hf
    refine b_tableIn C 81 dX0_takes_34 (by rw [hc2]; decide) (by rw [hc2]; decide) (by rw [hc2]; rfl) (by decide) ?_
    refine b_aload_n C dX0_takes_81 rfl 0 rfl ?_
    refine b_iload_n C dX0_takes_82 rfl 1 rfl ?_
    obtain ⟨y5, τ6, hqy5, hf⟩ := bd_inv hf
    refine b_callVi (n := 1) C (0) 0 (isObj_s (by decide)) rfl (fun _ => [.int (v1)]) (c_X0_takesBehindPart (v1)) hqy5 gX0_takes_X0_takesBehindPart rfl (by decide +kernel) rfl (by decide) (by decide) (Nat.le_of_ble_eq_true rfl) dX0_takes_83 ?_
    exact hR _ _ _ _ dX0_takes_86 hf
  rw [if_neg hc2] at hf
  have ht3 := tb_cs ht2 hc2
  by_cases hc3 : (σ 76 4 : Int32) = 3
  · rw [if_pos hc3] at hf
    refine b_tableIn C 87 dX0_takes_34 (by rw [hc3]; decide) (by rw [hc3]; decide) (by rw [hc3]; rfl) (by decide) ?_
    refine b_aload_n C dX0_takes_87 rfl 0 rfl ?_
    refine b_iload_n C dX0_takes_88 rfl 1 rfl ?_
    refine b_iconst C (v := 0) dX0_takes_89 (by decide) ?_
    refine b_iconst C (v := 4) dX0_takes_90 (by decide) ?_
    obtain ⟨y7, τ8, hqy7, hf⟩ := bd_inv hf
    refine b_callVi (n := 3) C (0) 0 (isObj_s (by decide)) rfl (fun _ => [.int (v1), .int (0), .int (4)]) (c_X0_takesInNumber (v1) (0) (4)) hqy7 gX0_takes_X0_takesInNumber rfl (by decide +kernel) rfl (by decide) (by decide) (Nat.le_of_ble_eq_true rfl) dX0_takes_91 ?_
    exact hR _ _ _ _ dX0_takes_94 hf
  rw [if_neg hc3] at hf
  have ht4 := tb_cs ht3 hc3
  by_cases hc4 : (σ 76 4 : Int32) = 4
  · rw [if_pos hc4] at hf
    refine b_tableIn C 95 dX0_takes_34 (by rw [hc4]; decide) (by rw [hc4]; decide) (by rw [hc4]; rfl) (by decide) ?_
    refine b_aload_n C dX0_takes_95 rfl 0 rfl ?_
    refine b_iload_n C dX0_takes_96 rfl 1 rfl ?_
    refine b_aload_n C dX0_takes_97 rfl 0 rfl ?_
    refine b_getS C hiX0_takes_0 0 3 2 (by decide) rfl (by decide) kX0_takes_51 rfl rfl dX0_takes_98 ?_
    refine b_iconst C (v := 5) dX0_takes_101 (by decide) ?_
    obtain ⟨y9, τ10, hqy9, hf⟩ := bd_inv hf
    refine b_callVi (n := 3) C (0) 0 (isObj_s (by decide)) rfl (fun _ => [.int (v1), .int (σ 76 2), .int (5)]) (c_X0_takesInNumber (v1) (σ 76 2) (5)) hqy9 gX0_takes_X0_takesInNumber rfl (by decide +kernel) rfl (by decide) (by decide) (Nat.le_of_ble_eq_true rfl) dX0_takes_102 ?_
    exact hR _ _ _ _ dX0_takes_105 hf
  rw [if_neg hc4] at hf
  have ht5 := tb_cs ht4 hc4
  refine b_tableOut C 106 dX0_takes_34 (tb_out 5 (by decide) ht5) (by decide) ?_
  refine b_iconst C (v := 0) dX0_takes_106 (by decide) ?_
  exact hR _ _ _ _ dX0_takes_107 hf
set_option maxHeartbeats 4000000 in
set_option maxRecDepth 100000 in
theorem w_X0_takes_19 {X : Ctx} {o : Int64} {rv : Int32 × Mem} (C : Cx X cX0_takes RX0 wsX0_takes 2 4 86) (hR : Rz X cX0_takes 2 o rv) : ∀ (v1 : Int32) (σ : Mem), some rv = f_X0_takes_19 v1 σ → Bk X 2 o 0 0 19 [(0, .ref (ad X (0))), (1, .int (v1))] [] σ := by
  intro v1 σ hf
  unfold f_X0_takes_19 at hf
  refine b_aload_n C dX0_takes_19 rfl 0 rfl ?_
  refine b_bipush C (v := 49) dX0_takes_20 (by decide) ?_
  obtain ⟨y11, τ12, hqy11, hf⟩ := bd_inv hf
  refine b_callVv (n := 1) C (0) 0 (isObj_s (by decide)) rfl (fun _ => [.int (49)]) (c_X0_write (49)) hqy11 gX0_takes_X0_write rfl (by decide +kernel) rfl (by decide) (by decide) (Nat.le_of_ble_eq_true rfl) dX0_takes_22 ?_
  refine b_aload_n C dX0_takes_25 rfl 0 rfl ?_
  refine b_iconst C (v := 1) dX0_takes_26 (by decide) ?_
  refine b_putS C (ty := .int) hiX0_takes_0 tyX0 tyX0_ok nmX0 0 5 4 (by decide) rfl (by decide) kX0_takes_38 rfl rfl (by decide +kernel) rfl rfl rfl dX0_takes_27 ?_
  refine b_nw hf (fun τ13 hf => ?_)
  exact w_X0_takes_30 C hR _ _ hf
set_option maxHeartbeats 4000000 in
set_option maxRecDepth 100000 in
theorem c_X0_takes (x1 : Int32) (l : Launch) : Cti l yX0_takes wsX0_takes 4 86 (fun G => [.ref (G.1 (0)), .int (x1)]) (f_X0_takes x1) := by
  refine mk_z (cc := cX0_takes) (nL := 2) (own := RX0) (by decide) rfl rfl (fun _ => Nat.le_of_ble_eq_true rfl) (fun X o σ rv C hR hf => ?_)
  show Bk X 2 o 0 0 0 [(0, .ref (ad X (0))), (1, .int (x1))] [] σ
  unfold f_X0_takes at hf
  refine b_aload_n C dX0_takes_0 rfl 0 rfl ?_
  refine b_getS C hiX0_takes_0 0 5 4 (by decide) rfl (by decide) kX0_takes_38 rfl rfl dX0_takes_1 ?_
  refine b_if_ne C 30 dX0_takes_4 (by decide) hf (fun hf => ?_) (fun hf => ?_)
  · exact w_X0_takes_30 C hR _ _ hf
  · refine b_iload_n C dX0_takes_7 rfl 1 rfl ?_
    refine b_bipush C (v := 49) dX0_takes_8 (by decide) ?_
    refine b_icmp_lt C 19 dX0_takes_10 (by decide) hf (fun hf => ?_) (fun hf => ?_)
    · exact w_X0_takes_19 C hR _ _ hf
    · refine b_iload_n C dX0_takes_13 rfl 1 rfl ?_
      refine b_bipush C (v := 57) dX0_takes_14 (by decide) ?_
      refine b_icmp_le C 30 dX0_takes_16 (by decide) hf (fun hf => ?_) (fun hf => ?_)
      · exact w_X0_takes_30 C hR _ _ hf
      · exact w_X0_takes_19 C hR _ _ hf
theorem hiX0_writeNumber_0 : ∀ w ∈ wsX00, w ∈ wsX0_writeNumber := by decide +kernel
theorem kX0_writeNumber_51 : Cond.fieldLink RX0 51 "ScriptRoom$Draft" "number" "I" ∈ wsX0_writeNumber := by decide +kernel
set_option maxHeartbeats 4000000 in
set_option maxRecDepth 100000 in
theorem w_X0_writeNumber_32 {X : Ctx} {o : Int64} {rv : Int32 × Mem} (C : Cx X cX0_writeNumber RX0 wsX0_writeNumber 1 2 43) (hR : Rv X cX0_writeNumber 1 o rv) : ∀ (σ : Mem), some rv = f_X0_writeNumber_32 σ → Bk X 1 o 0 0 32 [(0, .ref (ad X (0)))] [] σ := by
  intro σ hf
  unfold f_X0_writeNumber_32 at hf
  refine b_aload_n C dX0_writeNumber_32 rfl 0 rfl ?_
  refine b_bipush C (v := 48) dX0_writeNumber_33 (by decide) ?_
  refine b_aload_n C dX0_writeNumber_35 rfl 0 rfl ?_
  refine b_getS C hiX0_writeNumber_0 0 3 2 (by decide) rfl (by decide) kX0_writeNumber_51 rfl rfl dX0_writeNumber_36 ?_
  refine b_bipush C (v := 10) dX0_writeNumber_39 (by decide) ?_
  refine b_irem C dX0_writeNumber_41 (by decide) ?_
  refine b_iadd C dX0_writeNumber_42 ?_
  obtain ⟨y1, τ2, hqy1, hf⟩ := bd_inv hf
  refine b_callVv (n := 1) C (0) 0 (isObj_s (by decide)) rfl (fun _ => [.int ((48) + ((σ 76 2) - (σ 76 2) / (10) * (10)))]) (c_X0_write ((48) + ((σ 76 2) - (σ 76 2) / (10) * (10)))) hqy1 gX0_writeNumber_X0_write rfl (by decide +kernel) rfl (by decide) (by decide) (Nat.le_of_ble_eq_true rfl) dX0_writeNumber_43 ?_
  exact hR _ _ _ _ dX0_writeNumber_46 hf
set_option maxHeartbeats 4000000 in
set_option maxRecDepth 100000 in
theorem c_X0_writeNumber (l : Launch) : Ctv l yX0_writeNumber wsX0_writeNumber 2 43 (fun G => [.ref (G.1 (0))]) (f_X0_writeNumber ) := by
  refine mk_v (cc := cX0_writeNumber) (nL := 1) (own := RX0) (by decide) rfl rfl (fun _ => Nat.le_of_ble_eq_true rfl) (fun X o σ rv C hR hf => ?_)
  show Bk X 1 o 0 0 0 [(0, .ref (ad X (0)))] [] σ
  unfold f_X0_writeNumber at hf
  refine b_aload_n C dX0_writeNumber_0 rfl 0 rfl ?_
  refine b_getS C hiX0_writeNumber_0 0 3 2 (by decide) rfl (by decide) kX0_writeNumber_51 rfl rfl dX0_writeNumber_1 ?_
  refine b_iconst C (v := (-1)) dX0_writeNumber_4 (by decide) ?_
  refine b_icmp_ne C 9 dX0_writeNumber_5 (by decide) hf (fun hf => ?_) (fun hf => ?_)
  · refine b_aload_n C dX0_writeNumber_9 rfl 0 rfl ?_
    refine b_getS C hiX0_writeNumber_0 0 3 2 (by decide) rfl (by decide) kX0_writeNumber_51 rfl rfl dX0_writeNumber_10 ?_
    refine b_bipush C (v := 9) dX0_writeNumber_13 (by decide) ?_
    refine b_icmp_le C 32 dX0_writeNumber_15 (by decide) hf (fun hf => ?_) (fun hf => ?_)
    · exact w_X0_writeNumber_32 C hR _ hf
    · refine b_aload_n C dX0_writeNumber_18 rfl 0 rfl ?_
      refine b_bipush C (v := 48) dX0_writeNumber_19 (by decide) ?_
      refine b_aload_n C dX0_writeNumber_21 rfl 0 rfl ?_
      refine b_getS C hiX0_writeNumber_0 0 3 2 (by decide) rfl (by decide) kX0_writeNumber_51 rfl rfl dX0_writeNumber_22 ?_
      refine b_bipush C (v := 10) dX0_writeNumber_25 (by decide) ?_
      refine b_idiv C dX0_writeNumber_27 (by decide) ?_
      refine b_iadd C dX0_writeNumber_28 ?_
      obtain ⟨y3, τ4, hqy3, hf⟩ := bd_inv hf
      refine b_callVv (n := 1) C (0) 0 (isObj_s (by decide)) rfl (fun _ => [.int ((48) + ((σ 76 2) / (10)))]) (c_X0_write ((48) + ((σ 76 2) / (10)))) hqy3 gX0_writeNumber_X0_write rfl (by decide +kernel) rfl (by decide) (by decide) (Nat.le_of_ble_eq_true rfl) dX0_writeNumber_29 ?_
      exact w_X0_writeNumber_32 C hR _ hf
  · exact hR _ _ _ _ dX0_writeNumber_8 hf
theorem hiX0_faultOf_0 : ∀ w ∈ wsX00, w ∈ wsX0_faultOf := by decide +kernel
theorem hiX0_faultOf_1 : ∀ w ∈ wsX10, w ∈ wsX0_faultOf := by decide +kernel
theorem kX0_faultOf_25 : Cond.fieldLink RX0 25 "ScriptRoom$Line" "count" "I" ∈ wsX0_faultOf := by decide +kernel
theorem kX0_faultOf_38 : Cond.fieldLink RX0 38 "ScriptRoom$Draft" "state" "I" ∈ wsX0_faultOf := by decide +kernel
theorem kX0_faultOf_41 : Cond.fieldLink RX0 41 "ScriptRoom$Draft" "open" "I" ∈ wsX0_faultOf := by decide +kernel
theorem kX0_faultOf_29 : Cond.fieldLink RX0 29 "ScriptRoom$Line" "signs" "LScriptRoom$Row;" ∈ wsX0_faultOf := by decide +kernel
set_option maxHeartbeats 4000000 in
set_option maxRecDepth 100000 in
theorem w_X0_faultOf_73 {X : Ctx} {o : Int64} {rv : Int32 × Mem} (C : Cx X cX0_faultOf RX0 wsX0_faultOf 3 5 107) (hR : Rt X cX0_faultOf 3 o rv) : ∀ (s0 : Int32) (σ : Mem), some rv = f_X0_faultOf_73 s0 σ → Bk X 3 o 0 0 73 [(0, .ref (ad X (0))), (1, .ref (ad X (1)))] [.int (s0)] σ := by
  intro s0 σ hf
  unfold f_X0_faultOf_73 at hf
  refine b_istore_n (lv' := [(2, .int (s0)), (0, .ref (ad X (0))), (1, .ref (ad X (1)))]) C dX0_faultOf_73 rfl (by decide) rfl ?_
  refine b_iload_n C dX0_faultOf_74 rfl 0 rfl ?_
  refine b_if_ne C 83 dX0_faultOf_75 (by decide) hf (fun hf => ?_) (fun hf => ?_)
  · refine b_aload_n C dX0_faultOf_83 rfl 1 rfl ?_
    obtain ⟨y1, τ2, hqy1, hf⟩ := bd_inv hf
    refine b_callVv (n := 0) C (0) 0 (isObj_s (by decide)) rfl (fun _ => []) (c_X0_writeNumber ) hqy1 gX0_faultOf_X0_writeNumber rfl (by decide +kernel) rfl (by decide) (by decide) (Nat.le_of_ble_eq_true rfl) dX0_faultOf_84 ?_
    refine b_iconst C (v := (-1)) dX0_faultOf_87 (by decide) ?_
    exact hR _ _ _ _ dX0_faultOf_88 hf
  · refine b_aload_n C dX0_faultOf_78 rfl 2 rfl ?_
    refine b_getS C hiX0_faultOf_1 1 1 5 (by decide) rfl (by decide) kX0_faultOf_25 rfl rfl dX0_faultOf_79 ?_
    exact hR _ _ _ _ dX0_faultOf_82 hf
set_option maxHeartbeats 4000000 in
set_option maxRecDepth 100000 in
theorem w_X0_faultOf_68 {X : Ctx} {o : Int64} {rv : Int32 × Mem} (C : Cx X cX0_faultOf RX0 wsX0_faultOf 3 5 107) (hR : Rt X cX0_faultOf 3 o rv) : ∀ (σ : Mem), some rv = f_X0_faultOf_68 σ → Bk X 3 o 0 0 68 [(0, .ref (ad X (0))), (1, .ref (ad X (1)))] [] σ := by
  intro σ hf
  unfold f_X0_faultOf_68 at hf
  refine b_iconst C (v := 1) dX0_faultOf_68 (by decide) ?_
  refine b_goto C 73 dX0_faultOf_69 (by decide) ?_
  exact w_X0_faultOf_73 C hR _ _ hf
set_option maxHeartbeats 4000000 in
set_option maxRecDepth 100000 in
theorem w_X0_faultOf_52 {X : Ctx} {o : Int64} {rv : Int32 × Mem} (C : Cx X cX0_faultOf RX0 wsX0_faultOf 3 5 107) (hR : Rt X cX0_faultOf 3 o rv) : ∀ (σ : Mem), some rv = f_X0_faultOf_52 σ → Bk X 3 o 0 0 52 [(0, .ref (ad X (0))), (1, .ref (ad X (1)))] [] σ := by
  intro σ hf
  unfold f_X0_faultOf_52 at hf
  refine b_aload_n C dX0_faultOf_52 rfl 0 rfl ?_
  refine b_getS C hiX0_faultOf_0 0 5 4 (by decide) rfl (by decide) kX0_faultOf_38 rfl rfl dX0_faultOf_53 ?_
  refine b_iconst C (v := 4) dX0_faultOf_56 (by decide) ?_
  refine b_icmp_eq C 68 dX0_faultOf_57 (by decide) hf (fun hf => ?_) (fun hf => ?_)
  · exact w_X0_faultOf_68 C hR _ hf
  · refine b_aload_n C dX0_faultOf_60 rfl 0 rfl ?_
    refine b_getS C hiX0_faultOf_0 0 5 4 (by decide) rfl (by decide) kX0_faultOf_38 rfl rfl dX0_faultOf_61 ?_
    refine b_iconst C (v := 5) dX0_faultOf_64 (by decide) ?_
    refine b_icmp_ne C 72 dX0_faultOf_65 (by decide) hf (fun hf => ?_) (fun hf => ?_)
    · refine b_iconst C (v := 0) dX0_faultOf_72 (by decide) ?_
      exact w_X0_faultOf_73 C hR _ _ hf
    · exact w_X0_faultOf_68 C hR _ hf
set_option maxHeartbeats 4000000 in
set_option maxRecDepth 100000 in
theorem w_X0_faultOf_6 {X : Ctx} {o : Int64} {rv : Int32 × Mem} (C : Cx X cX0_faultOf RX0 wsX0_faultOf 3 5 107) (hR : Rt X cX0_faultOf 3 o rv) : ∀ (n : Nat) (v2 : Int32) (σ : Mem), some rv = f_X0_faultOf_6 n v2 σ → Bk X 3 o 0 0 6 [(0, .ref (ad X (0))), (1, .ref (ad X (1))), (2, .int (v2))] [] σ := by
  intro n
  induction n with
  | zero =>
    intro v2 σ hf
    rw [f_X0_faultOf_6] at hf
    cases hf
  | succ n ih =>
    intro v2 σ hf
    rw [f_X0_faultOf_6] at hf
    refine b_iload_n C dX0_faultOf_6 rfl 2 rfl ?_
    refine b_aload_n C dX0_faultOf_7 rfl 1 rfl ?_
    refine b_getS C hiX0_faultOf_1 1 1 5 (by decide) rfl (by decide) kX0_faultOf_25 rfl rfl dX0_faultOf_8 ?_
    refine b_icmp_ge C 37 dX0_faultOf_11 (by decide) hf (fun hf => ?_) (fun hf => ?_)
    · refine b_aload_n C dX0_faultOf_37 rfl 0 rfl ?_
      refine b_getS C hiX0_faultOf_0 0 5 4 (by decide) rfl (by decide) kX0_faultOf_38 rfl rfl dX0_faultOf_38 ?_
      refine b_iconst C (v := 2) dX0_faultOf_41 (by decide) ?_
      refine b_icmp_ne C 52 dX0_faultOf_42 (by decide) hf (fun hf => ?_) (fun hf => ?_)
      · refine b_sub [0, 1] rfl ?_
        exact w_X0_faultOf_52 C hR _ hf
      · refine b_aload_n C dX0_faultOf_45 rfl 0 rfl ?_
        refine b_getS C hiX0_faultOf_0 0 4 3 (by decide) rfl (by decide) kX0_faultOf_41 rfl rfl dX0_faultOf_46 ?_
        refine b_if_eq C 68 dX0_faultOf_49 (by decide) hf (fun hf => ?_) (fun hf => ?_)
        · refine b_sub [0, 1] rfl ?_
          exact w_X0_faultOf_68 C hR _ hf
        · refine b_sub [0, 1] rfl ?_
          exact w_X0_faultOf_52 C hR _ hf
    · refine b_aload_n C dX0_faultOf_14 rfl 0 rfl ?_
      refine b_aload_n C dX0_faultOf_15 rfl 1 rfl ?_
      refine b_getR C hiX0_faultOf_1 1 0 (9 + 1) (by decide) rfl (by decide) kX0_faultOf_29 rfl rfl dX0_faultOf_16 ?_
      refine b_iload_n C dX0_faultOf_19 rfl 2 rfl ?_
      refine b_callVi (n := 1) C (9 + 1) 5 (isObj_r (by decide)) rfl (fun _ => [.int (v2)]) (c_X5_get 1 (by decide) (v2)) (e_get 1 (by decide) (v2) _) gX0_faultOf_X5_get rfl (by decide +kernel) rfl (by decide) (by decide) (Nat.le_of_ble_eq_true rfl) dX0_faultOf_20 ?_
      obtain ⟨y3, τ4, hqy3, hf⟩ := bd_inv hf
      refine b_callVi (n := 1) C (0) 0 (isObj_s (by decide)) rfl (fun _ => [.int (rget 1 (v2) σ)]) (c_X0_takes (rget 1 (v2) σ)) hqy3 gX0_faultOf_X0_takes rfl (by decide +kernel) rfl (by decide) (by decide) (Nat.le_of_ble_eq_true rfl) dX0_faultOf_23 ?_
      refine b_if_ne C 31 dX0_faultOf_26 (by decide) hf (fun hf => ?_) (fun hf => ?_)
      · refine b_iinc (v := (v2) + (1)) (lv' := [(2, .int ((v2) + (1))), (0, .ref (ad X (0))), (1, .ref (ad X (1)))]) C dX0_faultOf_31 2 rfl rfl (by decide) rfl ?_
        refine b_goto C 6 dX0_faultOf_34 (by decide) ?_
        refine b_sub [1, 2, 0] rfl ?_
        exact ih _ _ hf
      · refine b_iload_n C dX0_faultOf_29 rfl 2 rfl ?_
        exact hR _ _ _ _ dX0_faultOf_30 hf
set_option maxHeartbeats 4000000 in
set_option maxRecDepth 100000 in
theorem c_X0_faultOf (l : Launch) : Cti l yX0_faultOf wsX0_faultOf 5 107 (fun G => [.ref (G.1 (0)), .ref (G.1 (1))]) (f_X0_faultOf ) := by
  refine mk_i (cc := cX0_faultOf) (nL := 3) (own := RX0) (by decide) rfl rfl (fun _ => Nat.le_of_ble_eq_true rfl) (fun X o σ rv C hR hf => ?_)
  show Bk X 3 o 0 0 0 [(0, .ref (ad X (0))), (1, .ref (ad X (1)))] [] σ
  unfold f_X0_faultOf at hf
  refine b_aload_n C dX0_faultOf_0 rfl 0 rfl ?_
  obtain ⟨y5, τ6, hqy5, hf⟩ := bd_inv hf
  refine b_callVv (n := 0) C (0) 0 (isObj_s (by decide)) rfl (fun _ => []) (c_X0_begin ) hqy5 gX0_faultOf_X0_begin rfl (by decide +kernel) rfl (by decide) (by decide) (Nat.le_of_ble_eq_true rfl) dX0_faultOf_1 ?_
  refine b_iconst C (v := 0) dX0_faultOf_4 (by decide) ?_
  refine b_istore_n (lv' := [(2, .int (0)), (0, .ref (ad X (0))), (1, .ref (ad X (1)))]) C dX0_faultOf_5 rfl (by decide) rfl ?_
  refine b_sub [1, 2, 0] rfl ?_
  exact w_X0_faultOf_6 C hR FUEL _ _ hf
theorem hiX1_clear_1 : ∀ w ∈ wsX10, w ∈ wsX1_clear := by decide +kernel
theorem kX1_clear_18 : Cond.fieldLink RX1 18 "ScriptRoom$Line" "count" "I" ∈ wsX1_clear := by decide +kernel
set_option maxHeartbeats 4000000 in
set_option maxRecDepth 100000 in
theorem c_X1_clear (l : Launch) : Ctv l yX1_clear wsX1_clear 0 0 (fun G => [.ref (G.1 (1))]) (f_X1_clear ) := by
  refine mk_v (cc := cX1_clear) (nL := 1) (own := RX1) (by decide) rfl rfl (fun _ => Nat.le_of_ble_eq_true rfl) (fun X o σ rv C hR hf => ?_)
  show Bk X 1 o 0 0 0 [(0, .ref (ad X (1)))] [] σ
  unfold f_X1_clear at hf
  refine b_aload_n C dX1_clear_0 rfl 0 rfl ?_
  refine b_iconst C (v := 0) dX1_clear_1 (by decide) ?_
  refine b_putS C (ty := .int) hiX1_clear_1 tyX1 tyX1_ok nmX1 1 1 5 (by decide) rfl (by decide) kX1_clear_18 rfl rfl (by decide +kernel) rfl rfl rfl dX1_clear_2 ?_
  refine b_nw hf (fun τ1 hf => ?_)
  exact hR _ _ _ _ dX1_clear_5 hf
theorem hiX6_enter_0 : ∀ w ∈ wsX00, w ∈ wsX6_enter := by decide +kernel
theorem hiX6_enter_6 : ∀ w ∈ wsX60, w ∈ wsX6_enter := by decide +kernel
theorem kX6_enter_18 : Cond.fieldLink RX6 18 "ScriptRoom$Schemes" "counts" "LScriptRoom$Row;" ∈ wsX6_enter := by decide +kernel
theorem kX6_enter_47 : Cond.fieldLink RX6 47 "ScriptRoom$Draft" "count" "I" ∈ wsX6_enter := by decide +kernel
theorem kX6_enter_25 : Cond.fieldLink RX6 25 "ScriptRoom$Schemes" "lengths" "LScriptRoom$Row;" ∈ wsX6_enter := by decide +kernel
theorem kX6_enter_28 : Cond.fieldLink RX6 28 "ScriptRoom$Schemes" "letters" "LScriptRoom$Row;" ∈ wsX6_enter := by decide +kernel
theorem kX6_enter_56 : Cond.fieldLink RX6 56 "ScriptRoom$Draft" "letters" "I" ∈ wsX6_enter := by decide +kernel
theorem kX6_enter_31 : Cond.fieldLink RX6 31 "ScriptRoom$Schemes" "mosts" "LScriptRoom$Row;" ∈ wsX6_enter := by decide +kernel
theorem kX6_enter_58 : Cond.fieldLink RX6 58 "ScriptRoom$Draft" "number" "I" ∈ wsX6_enter := by decide +kernel
theorem kX6_enter_22 : Cond.fieldLink RX6 22 "ScriptRoom$Schemes" "signs" "LScriptRoom$Row;" ∈ wsX6_enter := by decide +kernel
theorem kX6_enter_51 : Cond.fieldLink RX6 51 "ScriptRoom$Draft" "signs" "LScriptRoom$Row;" ∈ wsX6_enter := by decide +kernel
set_option maxHeartbeats 4000000 in
set_option maxRecDepth 100000 in
theorem w_X6_enter_108 {X : Ctx} {o : Int64} {rv : Int32 × Mem} (C : Cx X cX6_enter RX6 wsX6_enter 6 1 22) (hR : Rt X cX6_enter 6 o rv) : ∀ (v1 v3 s0 s1 : Int32) (σ : Mem), some rv = f_X6_enter_108 v1 v3 s0 s1 σ → Bk X 6 o 0 0 108 [(0, .ref (ad X (6))), (1, .int (v1)), (3, .int (v3))] [.int (s0), .int (s1), .ref (ad X (9 + 35))] σ := by
  intro v1 v3 s0 s1 σ hf
  unfold f_X6_enter_108 at hf
  refine b_callVv (n := 2) C (9 + 35) 5 (isObj_r (by decide)) rfl (fun _ => [.int (s1), .int (s0)]) (c_X5_set 35 (by decide) (s1) (s0)) (e_set 35 (by decide) (s1) (s0) _) gX6_enter_X5_set rfl (by decide +kernel) rfl (by decide) (by decide) (Nat.le_of_ble_eq_true rfl) dX6_enter_108 ?_
  refine b_nw hf (fun τ1 hf => ?_)
  refine b_aload_n C dX6_enter_111 rfl 0 rfl ?_
  refine b_getR C hiX6_enter_6 6 0 (9 + 31) (by decide) rfl (by decide) kX6_enter_18 rfl rfl dX6_enter_112 ?_
  refine b_iload_n C dX6_enter_115 rfl 1 rfl ?_
  refine b_iconst C (v := 1) dX6_enter_116 (by decide) ?_
  refine b_callVv (n := 2) C (9 + 31) 5 (isObj_r (by decide)) rfl (fun _ => [.int (v1), .int (1)]) (c_X5_add 31 (by decide) (v1) (1)) (e_add 31 (by decide) (v1) (1) _) gX6_enter_X5_add rfl (by decide +kernel) rfl (by decide) (by decide) (Nat.le_of_ble_eq_true rfl) dX6_enter_117 ?_
  refine b_nw hf (fun τ2 hf => ?_)
  refine b_iload_n C dX6_enter_120 rfl 2 rfl ?_
  exact hR _ _ _ _ dX6_enter_121 hf
set_option maxHeartbeats 4000000 in
set_option maxRecDepth 100000 in
theorem w_X6_enter_20 {X : Ctx} {o : Int64} {rv : Int32 × Mem} (C : Cx X cX6_enter RX6 wsX6_enter 6 1 22) (hR : Rt X cX6_enter 6 o rv) : ∀ (n : Nat) (v1 v3 v4 v5 : Int32) (σ : Mem), some rv = f_X6_enter_20 n v1 v3 v4 v5 σ → Bk X 6 o 0 0 20 [(0, .ref (ad X (6))), (1, .int (v1)), (2, .ref (ad X (0))), (3, .int (v3)), (4, .int (v4)), (5, .int (v5))] [] σ := by
  intro n
  induction n with
  | zero =>
    intro v1 v3 v4 v5 σ hf
    rw [f_X6_enter_20] at hf
    cases hf
  | succ n ih =>
    intro v1 v3 v4 v5 σ hf
    rw [f_X6_enter_20] at hf
    refine b_iload C dX6_enter_20 5 rfl ?_
    refine b_aload_n C dX6_enter_22 rfl 2 rfl ?_
    refine b_getS C hiX6_enter_0 0 1 0 (by decide) rfl (by decide) kX6_enter_47 rfl rfl dX6_enter_23 ?_
    refine b_icmp_ge C 59 dX6_enter_26 (by decide) hf (fun hf => ?_) (fun hf => ?_)
    · refine b_aload_n C dX6_enter_59 rfl 0 rfl ?_
      refine b_getR C hiX6_enter_6 6 2 (9 + 33) (by decide) rfl (by decide) kX6_enter_25 rfl rfl dX6_enter_60 ?_
      refine b_iload C dX6_enter_63 4 rfl ?_
      refine b_aload_n C dX6_enter_65 rfl 2 rfl ?_
      refine b_getS C hiX6_enter_0 0 1 0 (by decide) rfl (by decide) kX6_enter_47 rfl rfl dX6_enter_66 ?_
      refine b_callVv (n := 2) C (9 + 33) 5 (isObj_r (by decide)) rfl (fun _ => [.int (v4), .int (σ 76 0)]) (c_X5_set 33 (by decide) (v4) (σ 76 0)) (e_set 33 (by decide) (v4) (σ 76 0) _) gX6_enter_X5_set rfl (by decide +kernel) rfl (by decide) (by decide) (Nat.le_of_ble_eq_true rfl) dX6_enter_69 ?_
      refine b_nw hf (fun τ3 hf => ?_)
      refine b_aload_n C dX6_enter_72 rfl 0 rfl ?_
      refine b_getR C hiX6_enter_6 6 3 (9 + 34) (by decide) rfl (by decide) kX6_enter_28 rfl rfl dX6_enter_73 ?_
      refine b_iload C dX6_enter_76 4 rfl ?_
      refine b_aload_n C dX6_enter_78 rfl 2 rfl ?_
      refine b_getS C hiX6_enter_0 0 2 1 (by decide) rfl (by decide) kX6_enter_56 rfl rfl dX6_enter_79 ?_
      refine b_callVv (n := 2) C (9 + 34) 5 (isObj_r (by decide)) rfl (fun _ => [.int (v4), .int (τ3 76 1)]) (c_X5_set 34 (by decide) (v4) (τ3 76 1)) (e_set 34 (by decide) (v4) (τ3 76 1) _) gX6_enter_X5_set rfl (by decide +kernel) rfl (by decide) (by decide) (Nat.le_of_ble_eq_true rfl) dX6_enter_82 ?_
      refine b_nw hf (fun τ4 hf => ?_)
      refine b_aload_n C dX6_enter_85 rfl 0 rfl ?_
      refine b_getR C hiX6_enter_6 6 4 (9 + 35) (by decide) rfl (by decide) kX6_enter_31 rfl rfl dX6_enter_86 ?_
      refine b_iload C dX6_enter_89 4 rfl ?_
      refine b_aload_n C dX6_enter_91 rfl 2 rfl ?_
      refine b_getS C hiX6_enter_0 0 3 2 (by decide) rfl (by decide) kX6_enter_58 rfl rfl dX6_enter_92 ?_
      refine b_iconst C (v := (-1)) dX6_enter_95 (by decide) ?_
      refine b_icmp_ne C 104 dX6_enter_96 (by decide) hf (fun hf => ?_) (fun hf => ?_)
      · refine b_aload_n C dX6_enter_104 rfl 2 rfl ?_
        refine b_getS C hiX6_enter_0 0 3 2 (by decide) rfl (by decide) kX6_enter_58 rfl rfl dX6_enter_105 ?_
        refine b_sub [0, 1, 3] rfl ?_
        exact w_X6_enter_108 C hR _ _ _ _ _ hf
      · refine b_bipush C (v := 99) dX6_enter_99 (by decide) ?_
        refine b_goto C 108 dX6_enter_101 (by decide) ?_
        refine b_sub [0, 1, 3] rfl ?_
        exact w_X6_enter_108 C hR _ _ _ _ _ hf
    · refine b_aload_n C dX6_enter_29 rfl 0 rfl ?_
      refine b_getR C hiX6_enter_6 6 1 (9 + 32) (by decide) rfl (by decide) kX6_enter_22 rfl rfl dX6_enter_30 ?_
      refine b_iload C dX6_enter_33 4 rfl ?_
      refine b_bipush C (v := 80) dX6_enter_35 (by decide) ?_
      refine b_imul C dX6_enter_37 ?_
      refine b_iload C dX6_enter_38 5 rfl ?_
      refine b_iadd C dX6_enter_40 ?_
      refine b_aload_n C dX6_enter_41 rfl 2 rfl ?_
      refine b_getR C hiX6_enter_0 0 0 (9 + 0) (by decide) rfl (by decide) kX6_enter_51 rfl rfl dX6_enter_42 ?_
      refine b_iload C dX6_enter_45 5 rfl ?_
      refine b_callVi (n := 1) C (9 + 0) 5 (isObj_r (by decide)) rfl (fun _ => [.int (v5)]) (c_X5_get 0 (by decide) (v5)) (e_get 0 (by decide) (v5) _) gX6_enter_X5_get rfl (by decide +kernel) rfl (by decide) (by decide) (Nat.le_of_ble_eq_true rfl) dX6_enter_47 ?_
      refine b_callVv (n := 2) C (9 + 32) 5 (isObj_r (by decide)) rfl (fun _ => [.int (((v4) * (80)) + (v5)), .int (rget 0 (v5) σ)]) (c_X5_set 32 (by decide) (((v4) * (80)) + (v5)) (rget 0 (v5) σ)) (e_set 32 (by decide) (((v4) * (80)) + (v5)) (rget 0 (v5) σ) _) gX6_enter_X5_set rfl (by decide +kernel) rfl (by decide) (by decide) (Nat.le_of_ble_eq_true rfl) dX6_enter_50 ?_
      refine b_nw hf (fun τ5 hf => ?_)
      refine b_iinc (v := (v5) + (1)) (lv' := [(5, .int ((v5) + (1))), (0, .ref (ad X (6))), (1, .int (v1)), (2, .ref (ad X (0))), (3, .int (v3)), (4, .int (v4))]) C dX6_enter_53 5 rfl rfl (by decide) rfl ?_
      refine b_goto C 20 dX6_enter_56 (by decide) ?_
      refine b_sub [1, 2, 3, 4, 5, 0] rfl ?_
      exact ih _ _ _ _ _ hf
set_option maxHeartbeats 4000000 in
set_option maxRecDepth 100000 in
theorem c_X6_enter (x1 : Int32) (l : Launch) : Cti l yX6_enter wsX6_enter 1 22 (fun G => [.ref (G.1 (6)), .int (x1), .ref (G.1 (0))]) (f_X6_enter x1) := by
  refine mk_i (cc := cX6_enter) (nL := 6) (own := RX6) (by decide) rfl rfl (fun _ => Nat.le_of_ble_eq_true rfl) (fun X o σ rv C hR hf => ?_)
  show Bk X 6 o 0 0 0 [(0, .ref (ad X (6))), (1, .int (x1)), (2, .ref (ad X (0)))] [] σ
  unfold f_X6_enter at hf
  refine b_aload_n C dX6_enter_0 rfl 0 rfl ?_
  refine b_getR C hiX6_enter_6 6 0 (9 + 31) (by decide) rfl (by decide) kX6_enter_18 rfl rfl dX6_enter_1 ?_
  refine b_iload_n C dX6_enter_4 rfl 1 rfl ?_
  refine b_callVi (n := 1) C (9 + 31) 5 (isObj_r (by decide)) rfl (fun _ => [.int (x1)]) (c_X5_get 31 (by decide) (x1)) (e_get 31 (by decide) (x1) _) gX6_enter_X5_get rfl (by decide +kernel) rfl (by decide) (by decide) (Nat.le_of_ble_eq_true rfl) dX6_enter_5 ?_
  refine b_nv hf (fun y6 hf => ?_)
  refine b_istore_n (lv' := [(3, .int (y6)), (0, .ref (ad X (6))), (1, .int (x1)), (2, .ref (ad X (0)))]) C dX6_enter_8 rfl (by decide) rfl ?_
  refine b_iload_n C dX6_enter_9 rfl 2 rfl ?_
  refine b_bipush C (v := 6) dX6_enter_10 (by decide) ?_
  refine b_imul C dX6_enter_12 ?_
  refine b_iload_n C dX6_enter_13 rfl 0 rfl ?_
  refine b_iadd C dX6_enter_14 ?_
  refine b_nv hf (fun y7 hf => ?_)
  refine b_istore (lv' := [(4, .int (y7)), (3, .int (y6)), (0, .ref (ad X (6))), (1, .int (x1)), (2, .ref (ad X (0)))]) C dX6_enter_15 (by decide) rfl ?_
  refine b_iconst C (v := 0) dX6_enter_17 (by decide) ?_
  refine b_istore (lv' := [(5, .int (0)), (4, .int (y7)), (3, .int (y6)), (0, .ref (ad X (6))), (1, .int (x1)), (2, .ref (ad X (0)))]) C dX6_enter_18 (by decide) rfl ?_
  refine b_sub [3, 4, 5, 2, 1, 0] rfl ?_
  exact w_X6_enter_20 C hR FUEL _ _ _ _ _ hf
theorem hiX6_lettersOfLatest_6 : ∀ w ∈ wsX60, w ∈ wsX6_lettersOfLatest := by decide +kernel
theorem kX6_lettersOfLatest_28 : Cond.fieldLink RX6 28 "ScriptRoom$Schemes" "letters" "LScriptRoom$Row;" ∈ wsX6_lettersOfLatest := by decide +kernel
theorem kX6_lettersOfLatest_18 : Cond.fieldLink RX6 18 "ScriptRoom$Schemes" "counts" "LScriptRoom$Row;" ∈ wsX6_lettersOfLatest := by decide +kernel
set_option maxHeartbeats 4000000 in
set_option maxRecDepth 100000 in
theorem c_X6_lettersOfLatest (x1 : Int32) (l : Launch) : Cti l yX6_lettersOfLatest wsX6_lettersOfLatest 1 21 (fun G => [.ref (G.1 (6)), .int (x1)]) (f_X6_lettersOfLatest x1) := by
  refine mk_i (cc := cX6_lettersOfLatest) (nL := 2) (own := RX6) (by decide) rfl rfl (fun _ => Nat.le_of_ble_eq_true rfl) (fun X o σ rv C hR hf => ?_)
  show Bk X 2 o 0 0 0 [(0, .ref (ad X (6))), (1, .int (x1))] [] σ
  unfold f_X6_lettersOfLatest at hf
  refine b_aload_n C dX6_lettersOfLatest_0 rfl 0 rfl ?_
  refine b_getR C hiX6_lettersOfLatest_6 6 3 (9 + 34) (by decide) rfl (by decide) kX6_lettersOfLatest_28 rfl rfl dX6_lettersOfLatest_1 ?_
  refine b_iload_n C dX6_lettersOfLatest_4 rfl 1 rfl ?_
  refine b_bipush C (v := 6) dX6_lettersOfLatest_5 (by decide) ?_
  refine b_imul C dX6_lettersOfLatest_7 ?_
  refine b_aload_n C dX6_lettersOfLatest_8 rfl 0 rfl ?_
  refine b_getR C hiX6_lettersOfLatest_6 6 0 (9 + 31) (by decide) rfl (by decide) kX6_lettersOfLatest_18 rfl rfl dX6_lettersOfLatest_9 ?_
  refine b_iload_n C dX6_lettersOfLatest_12 rfl 1 rfl ?_
  refine b_callVi (n := 1) C (9 + 31) 5 (isObj_r (by decide)) rfl (fun _ => [.int (x1)]) (c_X5_get 31 (by decide) (x1)) (e_get 31 (by decide) (x1) _) gX6_lettersOfLatest_X5_get rfl (by decide +kernel) rfl (by decide) (by decide) (Nat.le_of_ble_eq_true rfl) dX6_lettersOfLatest_13 ?_
  refine b_iadd C dX6_lettersOfLatest_16 ?_
  refine b_iconst C (v := 1) dX6_lettersOfLatest_17 (by decide) ?_
  refine b_isub C dX6_lettersOfLatest_18 ?_
  refine b_callVi (n := 1) C (9 + 34) 5 (isObj_r (by decide)) rfl (fun _ => [.int ((((x1) * (6)) + (rget 31 (x1) σ)) - (1))]) (c_X5_get 34 (by decide) ((((x1) * (6)) + (rget 31 (x1) σ)) - (1))) (e_get 34 (by decide) ((((x1) * (6)) + (rget 31 (x1) σ)) - (1)) _) gX6_lettersOfLatest_X5_get rfl (by decide +kernel) rfl (by decide) (by decide) (Nat.le_of_ble_eq_true rfl) dX6_lettersOfLatest_19 ?_
  exact hR _ _ _ _ dX6_lettersOfLatest_22 hf
theorem hiX6_begin_6 : ∀ w ∈ wsX60, w ∈ wsX6_begin := by decide +kernel
theorem kX6_begin_34 : Cond.fieldLink RX6 34 "ScriptRoom$Schemes" "sums" "LScriptRoom$Row;" ∈ wsX6_begin := by decide +kernel
theorem kX6_begin_37 : Cond.fieldLink RX6 37 "ScriptRoom$Schemes" "bests" "LScriptRoom$Row;" ∈ wsX6_begin := by decide +kernel
theorem kX6_begin_40 : Cond.fieldLink RX6 40 "ScriptRoom$Schemes" "factors" "LScriptRoom$Row;" ∈ wsX6_begin := by decide +kernel
set_option maxHeartbeats 4000000 in
set_option maxRecDepth 100000 in
theorem c_X6_begin (x1 x2 : Int32) (l : Launch) : Ctv l yX6_begin wsX6_begin 1 22 (fun G => [.ref (G.1 (6)), .int (x1), .int (x2)]) (f_X6_begin x1 x2) := by
  refine mk_v (cc := cX6_begin) (nL := 3) (own := RX6) (by decide) rfl rfl (fun _ => Nat.le_of_ble_eq_true rfl) (fun X o σ rv C hR hf => ?_)
  show Bk X 3 o 0 0 0 [(0, .ref (ad X (6))), (1, .int (x1)), (2, .int (x2))] [] σ
  unfold f_X6_begin at hf
  refine b_aload_n C dX6_begin_0 rfl 0 rfl ?_
  refine b_getR C hiX6_begin_6 6 5 (9 + 36) (by decide) rfl (by decide) kX6_begin_34 rfl rfl dX6_begin_1 ?_
  refine b_iload_n C dX6_begin_4 rfl 1 rfl ?_
  refine b_iconst C (v := 0) dX6_begin_5 (by decide) ?_
  refine b_callVv (n := 2) C (9 + 36) 5 (isObj_r (by decide)) rfl (fun _ => [.int (x1), .int (0)]) (c_X5_set 36 (by decide) (x1) (0)) (e_set 36 (by decide) (x1) (0) _) gX6_begin_X5_set rfl (by decide +kernel) rfl (by decide) (by decide) (Nat.le_of_ble_eq_true rfl) dX6_begin_6 ?_
  refine b_nw hf (fun τ1 hf => ?_)
  refine b_aload_n C dX6_begin_9 rfl 0 rfl ?_
  refine b_getR C hiX6_begin_6 6 6 (9 + 37) (by decide) rfl (by decide) kX6_begin_37 rfl rfl dX6_begin_10 ?_
  refine b_iload_n C dX6_begin_13 rfl 1 rfl ?_
  refine b_iconst C (v := 0) dX6_begin_14 (by decide) ?_
  refine b_callVv (n := 2) C (9 + 37) 5 (isObj_r (by decide)) rfl (fun _ => [.int (x1), .int (0)]) (c_X5_set 37 (by decide) (x1) (0)) (e_set 37 (by decide) (x1) (0) _) gX6_begin_X5_set rfl (by decide +kernel) rfl (by decide) (by decide) (Nat.le_of_ble_eq_true rfl) dX6_begin_15 ?_
  refine b_nw hf (fun τ2 hf => ?_)
  refine b_aload_n C dX6_begin_18 rfl 0 rfl ?_
  refine b_getR C hiX6_begin_6 6 7 (9 + 38) (by decide) rfl (by decide) kX6_begin_40 rfl rfl dX6_begin_19 ?_
  refine b_iload_n C dX6_begin_22 rfl 1 rfl ?_
  refine b_iload_n C dX6_begin_23 rfl 2 rfl ?_
  refine b_callVv (n := 2) C (9 + 38) 5 (isObj_r (by decide)) rfl (fun _ => [.int (x1), .int (x2)]) (c_X5_set 38 (by decide) (x1) (x2)) (e_set 38 (by decide) (x1) (x2) _) gX6_begin_X5_set rfl (by decide +kernel) rfl (by decide) (by decide) (Nat.le_of_ble_eq_true rfl) dX6_begin_24 ?_
  refine b_nw hf (fun τ3 hf => ?_)
  exact hR _ _ _ _ dX6_begin_27 hf
theorem hiX6_endSum_6 : ∀ w ∈ wsX60, w ∈ wsX6_endSum := by decide +kernel
theorem kX6_endSum_37 : Cond.fieldLink RX6 37 "ScriptRoom$Schemes" "bests" "LScriptRoom$Row;" ∈ wsX6_endSum := by decide +kernel
theorem kX6_endSum_34 : Cond.fieldLink RX6 34 "ScriptRoom$Schemes" "sums" "LScriptRoom$Row;" ∈ wsX6_endSum := by decide +kernel
theorem kX6_endSum_mmax_l : Cond.methodLink RX6 80 Lib.Math.max.name ∈ wsX6_endSum := by decide +kernel
theorem kX6_endSum_mmax_s : Cond.static Lib.Math.max.name ∈ wsX6_endSum := by decide +kernel
theorem kX6_endSum_math_i : Cond.initialized "java/lang/Math" ∈ wsX6_endSum := by decide +kernel
theorem kX6_endSum_mmax_c : Cond.code Lib.Math.max.name Lib.Math.max.code 2 (some .int) ∈ wsX6_endSum := by decide +kernel
set_option maxHeartbeats 4000000 in
set_option maxRecDepth 100000 in
theorem c_X6_endSum (x1 : Int32) (l : Launch) : Ctv l yX6_endSum wsX6_endSum 1 22 (fun G => [.ref (G.1 (6)), .int (x1)]) (f_X6_endSum x1) := by
  refine mk_v (cc := cX6_endSum) (nL := 2) (own := RX6) (by decide) rfl rfl (fun _ => Nat.le_of_ble_eq_true rfl) (fun X o σ rv C hR hf => ?_)
  show Bk X 2 o 0 0 0 [(0, .ref (ad X (6))), (1, .int (x1))] [] σ
  unfold f_X6_endSum at hf
  refine b_aload_n C dX6_endSum_0 rfl 0 rfl ?_
  refine b_getR C hiX6_endSum_6 6 6 (9 + 37) (by decide) rfl (by decide) kX6_endSum_37 rfl rfl dX6_endSum_1 ?_
  refine b_iload_n C dX6_endSum_4 rfl 1 rfl ?_
  refine b_aload_n C dX6_endSum_5 rfl 0 rfl ?_
  refine b_getR C hiX6_endSum_6 6 6 (9 + 37) (by decide) rfl (by decide) kX6_endSum_37 rfl rfl dX6_endSum_6 ?_
  refine b_iload_n C dX6_endSum_9 rfl 1 rfl ?_
  refine b_callVi (n := 1) C (9 + 37) 5 (isObj_r (by decide)) rfl (fun _ => [.int (x1)]) (c_X5_get 37 (by decide) (x1)) (e_get 37 (by decide) (x1) _) gX6_endSum_X5_get rfl (by decide +kernel) rfl (by decide) (by decide) (Nat.le_of_ble_eq_true rfl) dX6_endSum_10 ?_
  refine b_aload_n C dX6_endSum_13 rfl 0 rfl ?_
  refine b_getR C hiX6_endSum_6 6 5 (9 + 36) (by decide) rfl (by decide) kX6_endSum_34 rfl rfl dX6_endSum_14 ?_
  refine b_iload_n C dX6_endSum_17 rfl 1 rfl ?_
  refine b_callVi (n := 1) C (9 + 36) 5 (isObj_r (by decide)) rfl (fun _ => [.int (x1)]) (c_X5_get 36 (by decide) (x1)) (e_get 36 (by decide) (x1) _) gX6_endSum_X5_get rfl (by decide +kernel) rfl (by decide) (by decide) (Nat.le_of_ble_eq_true rfl) dX6_endSum_18 ?_
  refine b_mmax C kX6_endSum_mmax_l kX6_endSum_mmax_s kX6_endSum_math_i kX6_endSum_mmax_c (by decide) (Nat.le_of_ble_eq_true rfl) dX6_endSum_21 ?_
  refine b_callVv (n := 2) C (9 + 37) 5 (isObj_r (by decide)) rfl (fun _ => [.int (x1), .int (if (rget 37 (x1) σ) < (rget 36 (x1) σ) then (rget 36 (x1) σ) else (rget 37 (x1) σ))]) (c_X5_set 37 (by decide) (x1) (if (rget 37 (x1) σ) < (rget 36 (x1) σ) then (rget 36 (x1) σ) else (rget 37 (x1) σ))) (e_set 37 (by decide) (x1) (if (rget 37 (x1) σ) < (rget 36 (x1) σ) then (rget 36 (x1) σ) else (rget 37 (x1) σ)) _) gX6_endSum_X5_set rfl (by decide +kernel) rfl (by decide) (by decide) (Nat.le_of_ble_eq_true rfl) dX6_endSum_24 ?_
  refine b_nw hf (fun τ1 hf => ?_)
  refine b_aload_n C dX6_endSum_27 rfl 0 rfl ?_
  refine b_getR C hiX6_endSum_6 6 5 (9 + 36) (by decide) rfl (by decide) kX6_endSum_34 rfl rfl dX6_endSum_28 ?_
  refine b_iload_n C dX6_endSum_31 rfl 1 rfl ?_
  refine b_iconst C (v := 0) dX6_endSum_32 (by decide) ?_
  refine b_callVv (n := 2) C (9 + 36) 5 (isObj_r (by decide)) rfl (fun _ => [.int (x1), .int (0)]) (c_X5_set 36 (by decide) (x1) (0)) (e_set 36 (by decide) (x1) (0) _) gX6_endSum_X5_set rfl (by decide +kernel) rfl (by decide) (by decide) (Nat.le_of_ble_eq_true rfl) dX6_endSum_33 ?_
  refine b_nw hf (fun τ2 hf => ?_)
  exact hR _ _ _ _ dX6_endSum_36 hf
theorem hiX6_markBy_6 : ∀ w ∈ wsX60, w ∈ wsX6_markBy := by decide +kernel
theorem kX6_markBy_34 : Cond.fieldLink RX6 34 "ScriptRoom$Schemes" "sums" "LScriptRoom$Row;" ∈ wsX6_markBy := by decide +kernel
theorem kX6_markBy_31 : Cond.fieldLink RX6 31 "ScriptRoom$Schemes" "mosts" "LScriptRoom$Row;" ∈ wsX6_markBy := by decide +kernel
theorem kX6_markBy_mmin_l : Cond.methodLink RX6 74 Lib.Math.min.name ∈ wsX6_markBy := by decide +kernel
theorem kX6_markBy_mmin_s : Cond.static Lib.Math.min.name ∈ wsX6_markBy := by decide +kernel
theorem kX6_markBy_math_i : Cond.initialized "java/lang/Math" ∈ wsX6_markBy := by decide +kernel
theorem kX6_markBy_mmin_c : Cond.code Lib.Math.min.name Lib.Math.min.code 2 (some .int) ∈ wsX6_markBy := by decide +kernel
theorem kX6_markBy_40 : Cond.fieldLink RX6 40 "ScriptRoom$Schemes" "factors" "LScriptRoom$Row;" ∈ wsX6_markBy := by decide +kernel
theorem kX6_markBy_37 : Cond.fieldLink RX6 37 "ScriptRoom$Schemes" "bests" "LScriptRoom$Row;" ∈ wsX6_markBy := by decide +kernel
theorem kX6_markBy_22 : Cond.fieldLink RX6 22 "ScriptRoom$Schemes" "signs" "LScriptRoom$Row;" ∈ wsX6_markBy := by decide +kernel
theorem kX6_markBy_25 : Cond.fieldLink RX6 25 "ScriptRoom$Schemes" "lengths" "LScriptRoom$Row;" ∈ wsX6_markBy := by decide +kernel
set_option maxHeartbeats 4000000 in
set_option maxRecDepth 100000 in
theorem w_X6_markBy_210 {X : Ctx} {o : Int64} {rv : Int32 × Mem} (C : Cx X cX6_markBy RX6 wsX6_markBy 10 2 44) (hR : Rt X cX6_markBy 10 o rv) : ∀ (v4 : Int32) (σ : Mem), some rv = f_X6_markBy_210 v4 σ → Bk X 10 o 0 0 210 [(0, .ref (ad X (6))), (4, .int (v4))] [] σ := by
  intro v4 σ hf
  unfold f_X6_markBy_210 at hf
  refine b_aload_n C dX6_markBy_210 rfl 0 rfl ?_
  refine b_getR C hiX6_markBy_6 6 5 (9 + 36) (by decide) rfl (by decide) kX6_markBy_34 rfl rfl dX6_markBy_211 ?_
  refine b_iconst C (v := 0) dX6_markBy_214 (by decide) ?_
  refine b_callVi (n := 1) C (9 + 36) 5 (isObj_r (by decide)) rfl (fun _ => [.int (0)]) (c_X5_get 36 (by decide) (0)) (e_get 36 (by decide) (0) _) gX6_markBy_X5_get rfl (by decide +kernel) rfl (by decide) (by decide) (Nat.le_of_ble_eq_true rfl) dX6_markBy_215 ?_
  refine b_aload_n C dX6_markBy_218 rfl 0 rfl ?_
  refine b_getR C hiX6_markBy_6 6 4 (9 + 35) (by decide) rfl (by decide) kX6_markBy_31 rfl rfl dX6_markBy_219 ?_
  refine b_iload C dX6_markBy_222 1 rfl ?_
  refine b_callVi (n := 1) C (9 + 35) 5 (isObj_r (by decide)) rfl (fun _ => [.int (v4)]) (c_X5_get 35 (by decide) (v4)) (e_get 35 (by decide) (v4) _) gX6_markBy_X5_get rfl (by decide +kernel) rfl (by decide) (by decide) (Nat.le_of_ble_eq_true rfl) dX6_markBy_224 ?_
  refine b_mmin C kX6_markBy_mmin_l kX6_markBy_mmin_s kX6_markBy_math_i kX6_markBy_mmin_c (by decide) (Nat.le_of_ble_eq_true rfl) dX6_markBy_227 ?_
  exact hR _ _ _ _ dX6_markBy_230 hf
set_option maxHeartbeats 4000000 in
set_option maxRecDepth 100000 in
theorem w_X6_markBy_204 {X : Ctx} {o : Int64} {rv : Int32 × Mem} (C : Cx X cX6_markBy RX6 wsX6_markBy 10 2 44) (hR : Rt X cX6_markBy 10 o rv) (k36 : Int32 → Int32 → Int32 → Int32 → Int32 → Int32 → Mem → Option (Int32 × Mem)) (h36 : ∀ (v3 v4 v5 v6 v7 v8 : Int32) (σ : Mem), some rv = k36 v3 v4 v5 v6 v7 v8 σ → Bk X 10 o 0 0 36 [(0, .ref (ad X (6))), (3, .int (v3)), (4, .int (v4)), (5, .int (v5)), (6, .int (v6)), (7, .int (v7)), (8, .int (v8))] [] σ) : ∀ (v3 v4 v5 v6 v7 v8 : Int32) (σ : Mem), some rv = f_X6_markBy_204 k36 v3 v4 v5 v6 v7 v8 σ → Bk X 10 o 0 0 204 [(0, .ref (ad X (6))), (3, .int (v3)), (4, .int (v4)), (5, .int (v5)), (6, .int (v6)), (7, .int (v7)), (8, .int (v8))] [] σ := by
  intro v3 v4 v5 v6 v7 v8 σ hf
  unfold f_X6_markBy_204 at hf
  refine b_iinc (v := (v8) + (1)) (lv' := [(8, .int ((v8) + (1))), (0, .ref (ad X (6))), (3, .int (v3)), (4, .int (v4)), (5, .int (v5)), (6, .int (v6)), (7, .int (v7))]) C dX6_markBy_204 6 rfl rfl (by decide) rfl ?_
  refine b_goto C 36 dX6_markBy_207 (by decide) ?_
  refine b_sub [1, 2, 3, 4, 5, 6, 0] rfl ?_
  exact h36 _ _ _ _ _ _ _ hf
set_option maxHeartbeats 4000000 in
set_option maxRecDepth 100000 in
theorem w_X6_markBy_164 {X : Ctx} {o : Int64} {rv : Int32 × Mem} (C : Cx X cX6_markBy RX6 wsX6_markBy 10 2 44) (hR : Rt X cX6_markBy 10 o rv) (k36 : Int32 → Int32 → Int32 → Int32 → Int32 → Int32 → Mem → Option (Int32 × Mem)) (h36 : ∀ (v3 v4 v5 v6 v7 v8 : Int32) (σ : Mem), some rv = k36 v3 v4 v5 v6 v7 v8 σ → Bk X 10 o 0 0 36 [(0, .ref (ad X (6))), (3, .int (v3)), (4, .int (v4)), (5, .int (v5)), (6, .int (v6)), (7, .int (v7)), (8, .int (v8))] [] σ) : ∀ (v3 v4 v5 v6 v7 v8 v9 : Int32) (σ : Mem), some rv = f_X6_markBy_164 k36 v3 v4 v5 v6 v7 v8 v9 σ → Bk X 10 o 0 0 164 [(0, .ref (ad X (6))), (3, .int (v3)), (4, .int (v4)), (5, .int (v5)), (6, .int (v6)), (7, .int (v7)), (8, .int (v8)), (9, .int (v9))] [] σ := by
  intro v3 v4 v5 v6 v7 v8 v9 σ hf
  unfold f_X6_markBy_164 at hf
  refine b_iload C dX6_markBy_164 7 rfl ?_
  refine b_bipush C (v := 41) dX6_markBy_166 (by decide) ?_
  refine b_icmp_ne C 204 dX6_markBy_168 (by decide) hf (fun hf => ?_) (fun hf => ?_)
  · refine b_sub [0, 1, 2, 3, 4, 5, 6] rfl ?_
    exact w_X6_markBy_204 C hR k36 h36 _ _ _ _ _ _ _ hf
  · refine b_aload_n C dX6_markBy_171 rfl 0 rfl ?_
    refine b_getR C hiX6_markBy_6 6 5 (9 + 36) (by decide) rfl (by decide) kX6_markBy_34 rfl rfl dX6_markBy_172 ?_
    refine b_iload C dX6_markBy_175 4 rfl ?_
    refine b_iconst C (v := 1) dX6_markBy_177 (by decide) ?_
    refine b_isub C dX6_markBy_178 ?_
    refine b_aload_n C dX6_markBy_179 rfl 0 rfl ?_
    refine b_getR C hiX6_markBy_6 6 7 (9 + 38) (by decide) rfl (by decide) kX6_markBy_40 rfl rfl dX6_markBy_180 ?_
    refine b_iload C dX6_markBy_183 4 rfl ?_
    refine b_callVi (n := 1) C (9 + 38) 5 (isObj_r (by decide)) rfl (fun _ => [.int (v6)]) (c_X5_get 38 (by decide) (v6)) (e_get 38 (by decide) (v6) _) gX6_markBy_X5_get rfl (by decide +kernel) rfl (by decide) (by decide) (Nat.le_of_ble_eq_true rfl) dX6_markBy_185 ?_
    refine b_aload_n C dX6_markBy_188 rfl 0 rfl ?_
    refine b_getR C hiX6_markBy_6 6 6 (9 + 37) (by decide) rfl (by decide) kX6_markBy_37 rfl rfl dX6_markBy_189 ?_
    refine b_iload C dX6_markBy_192 4 rfl ?_
    refine b_callVi (n := 1) C (9 + 37) 5 (isObj_r (by decide)) rfl (fun _ => [.int (v6)]) (c_X5_get 37 (by decide) (v6)) (e_get 37 (by decide) (v6) _) gX6_markBy_X5_get rfl (by decide +kernel) rfl (by decide) (by decide) (Nat.le_of_ble_eq_true rfl) dX6_markBy_194 ?_
    refine b_imul C dX6_markBy_197 ?_
    refine b_callVv (n := 2) C (9 + 36) 5 (isObj_r (by decide)) rfl (fun _ => [.int ((v6) - (1)), .int ((rget 38 (v6) σ) * (rget 37 (v6) σ))]) (c_X5_add 36 (by decide) ((v6) - (1)) ((rget 38 (v6) σ) * (rget 37 (v6) σ))) (e_add 36 (by decide) ((v6) - (1)) ((rget 38 (v6) σ) * (rget 37 (v6) σ)) _) gX6_markBy_X5_add rfl (by decide +kernel) rfl (by decide) (by decide) (Nat.le_of_ble_eq_true rfl) dX6_markBy_198 ?_
    refine b_nw hf (fun τ1 hf => ?_)
    refine b_iinc (v := (v6) + (-1)) (lv' := [(6, .int ((v6) + (-1))), (0, .ref (ad X (6))), (3, .int (v3)), (4, .int (v4)), (5, .int (v5)), (7, .int (v7)), (8, .int (v8)), (9, .int (v9))]) C dX6_markBy_201 4 rfl rfl (by decide) rfl ?_
    refine b_sub [1, 2, 3, 4, 0, 5, 6] rfl ?_
    exact w_X6_markBy_204 C hR k36 h36 _ _ _ _ _ _ _ hf
set_option maxHeartbeats 4000000 in
set_option maxRecDepth 100000 in
theorem w_X6_markBy_158 {X : Ctx} {o : Int64} {rv : Int32 × Mem} (C : Cx X cX6_markBy RX6 wsX6_markBy 10 2 44) (hR : Rt X cX6_markBy 10 o rv) (k36 : Int32 → Int32 → Int32 → Int32 → Int32 → Int32 → Mem → Option (Int32 × Mem)) (h36 : ∀ (v3 v4 v5 v6 v7 v8 : Int32) (σ : Mem), some rv = k36 v3 v4 v5 v6 v7 v8 σ → Bk X 10 o 0 0 36 [(0, .ref (ad X (6))), (3, .int (v3)), (4, .int (v4)), (5, .int (v5)), (6, .int (v6)), (7, .int (v7)), (8, .int (v8))] [] σ) : ∀ (v3 v4 v5 v6 v7 v8 v9 : Int32) (σ : Mem), some rv = f_X6_markBy_158 k36 v3 v4 v5 v6 v7 v8 v9 σ → Bk X 10 o 0 0 158 [(0, .ref (ad X (6))), (3, .int (v3)), (4, .int (v4)), (5, .int (v5)), (6, .int (v6)), (7, .int (v7)), (8, .int (v8)), (9, .int (v9))] [] σ := by
  intro v3 v4 v5 v6 v7 v8 v9 σ hf
  unfold f_X6_markBy_158 at hf
  refine b_aload_n C dX6_markBy_158 rfl 0 rfl ?_
  refine b_iload C dX6_markBy_159 4 rfl ?_
  obtain ⟨y2, τ3, hqy2, hf⟩ := bd_inv hf
  refine b_callVv (n := 1) C (6) 6 (isObj_s (by decide)) rfl (fun _ => [.int (v6)]) (c_X6_endSum (v6)) hqy2 gX6_markBy_X6_endSum rfl (by decide +kernel) rfl (by decide) (by decide) (Nat.le_of_ble_eq_true rfl) dX6_markBy_161 ?_
  exact w_X6_markBy_164 C hR k36 h36 _ _ _ _ _ _ _ _ hf
set_option maxHeartbeats 4000000 in
set_option maxRecDepth 100000 in
theorem w_X6_markBy_144 {X : Ctx} {o : Int64} {rv : Int32 × Mem} (C : Cx X cX6_markBy RX6 wsX6_markBy 10 2 44) (hR : Rt X cX6_markBy 10 o rv) (k36 : Int32 → Int32 → Int32 → Int32 → Int32 → Int32 → Mem → Option (Int32 × Mem)) (h36 : ∀ (v3 v4 v5 v6 v7 v8 : Int32) (σ : Mem), some rv = k36 v3 v4 v5 v6 v7 v8 σ → Bk X 10 o 0 0 36 [(0, .ref (ad X (6))), (3, .int (v3)), (4, .int (v4)), (5, .int (v5)), (6, .int (v6)), (7, .int (v7)), (8, .int (v8))] [] σ) : ∀ (v3 v4 v5 v6 v7 v8 v9 : Int32) (σ : Mem), some rv = f_X6_markBy_144 k36 v3 v4 v5 v6 v7 v8 v9 σ → Bk X 10 o 0 0 144 [(0, .ref (ad X (6))), (3, .int (v3)), (4, .int (v4)), (5, .int (v5)), (6, .int (v6)), (7, .int (v7)), (8, .int (v8)), (9, .int (v9))] [] σ := by
  intro v3 v4 v5 v6 v7 v8 v9 σ hf
  unfold f_X6_markBy_144 at hf
  refine b_iload C dX6_markBy_144 7 rfl ?_
  refine b_bipush C (v := 124) dX6_markBy_146 (by decide) ?_
  refine b_icmp_eq C 158 dX6_markBy_148 (by decide) hf (fun hf => ?_) (fun hf => ?_)
  · exact w_X6_markBy_158 C hR k36 h36 _ _ _ _ _ _ _ _ hf
  · refine b_iload C dX6_markBy_151 7 rfl ?_
    refine b_bipush C (v := 41) dX6_markBy_153 (by decide) ?_
    refine b_icmp_ne C 164 dX6_markBy_155 (by decide) hf (fun hf => ?_) (fun hf => ?_)
    · exact w_X6_markBy_164 C hR k36 h36 _ _ _ _ _ _ _ _ hf
    · exact w_X6_markBy_158 C hR k36 h36 _ _ _ _ _ _ _ _ hf
set_option maxHeartbeats 4000000 in
set_option maxRecDepth 100000 in
theorem w_X6_markBy_126 {X : Ctx} {o : Int64} {rv : Int32 × Mem} (C : Cx X cX6_markBy RX6 wsX6_markBy 10 2 44) (hR : Rt X cX6_markBy 10 o rv) (k36 : Int32 → Int32 → Int32 → Int32 → Int32 → Int32 → Mem → Option (Int32 × Mem)) (h36 : ∀ (v3 v4 v5 v6 v7 v8 : Int32) (σ : Mem), some rv = k36 v3 v4 v5 v6 v7 v8 σ → Bk X 10 o 0 0 36 [(0, .ref (ad X (6))), (3, .int (v3)), (4, .int (v4)), (5, .int (v5)), (6, .int (v6)), (7, .int (v7)), (8, .int (v8))] [] σ) : ∀ (v3 v4 v5 v6 v7 v8 v9 : Int32) (σ : Mem), some rv = f_X6_markBy_126 k36 v3 v4 v5 v6 v7 v8 v9 σ → Bk X 10 o 0 0 126 [(0, .ref (ad X (6))), (3, .int (v3)), (4, .int (v4)), (5, .int (v5)), (6, .int (v6)), (7, .int (v7)), (8, .int (v8)), (9, .int (v9))] [] σ := by
  intro v3 v4 v5 v6 v7 v8 v9 σ hf
  unfold f_X6_markBy_126 at hf
  refine b_iload C dX6_markBy_126 7 rfl ?_
  refine b_bipush C (v := 40) dX6_markBy_128 (by decide) ?_
  refine b_icmp_ne C 144 dX6_markBy_130 (by decide) hf (fun hf => ?_) (fun hf => ?_)
  · exact w_X6_markBy_144 C hR k36 h36 _ _ _ _ _ _ _ _ hf
  · refine b_iinc (v := (v6) + (1)) (lv' := [(6, .int ((v6) + (1))), (0, .ref (ad X (6))), (3, .int (v3)), (4, .int (v4)), (5, .int (v5)), (7, .int (v7)), (8, .int (v8)), (9, .int (v9))]) C dX6_markBy_133 4 rfl rfl (by decide) rfl ?_
    refine b_aload_n C dX6_markBy_136 rfl 1 rfl ?_
    refine b_iload C dX6_markBy_137 0 rfl ?_
    refine b_iload C dX6_markBy_139 5 rfl ?_
    obtain ⟨y4, τ5, hqy4, hf⟩ := bd_inv hf
    refine b_callVv (n := 2) C (6) 6 (isObj_s (by decide)) rfl (fun _ => [.int ((v6) + (1)), .int (v7)]) (c_X6_begin ((v6) + (1)) (v7)) hqy4 gX6_markBy_X6_begin rfl (by decide +kernel) rfl (by decide) (by decide) (Nat.le_of_ble_eq_true rfl) dX6_markBy_141 ?_
    refine b_sub [1, 2, 3, 4, 0, 5, 6, 7] rfl ?_
    exact w_X6_markBy_144 C hR k36 h36 _ _ _ _ _ _ _ _ hf
set_option maxHeartbeats 4000000 in
set_option maxRecDepth 100000 in
theorem w_X6_markBy_91 {X : Ctx} {o : Int64} {rv : Int32 × Mem} (C : Cx X cX6_markBy RX6 wsX6_markBy 10 2 44) (hR : Rt X cX6_markBy 10 o rv) (k36 : Int32 → Int32 → Int32 → Int32 → Int32 → Int32 → Mem → Option (Int32 × Mem)) (h36 : ∀ (v3 v4 v5 v6 v7 v8 : Int32) (σ : Mem), some rv = k36 v3 v4 v5 v6 v7 v8 σ → Bk X 10 o 0 0 36 [(0, .ref (ad X (6))), (3, .int (v3)), (4, .int (v4)), (5, .int (v5)), (6, .int (v6)), (7, .int (v7)), (8, .int (v8))] [] σ) : ∀ (v3 v4 v5 v6 v7 v8 v9 : Int32) (σ : Mem), some rv = f_X6_markBy_91 k36 v3 v4 v5 v6 v7 v8 v9 σ → Bk X 10 o 0 0 91 [(0, .ref (ad X (6))), (3, .int (v3)), (4, .int (v4)), (5, .int (v5)), (6, .int (v6)), (7, .int (v7)), (8, .int (v8)), (9, .int (v9))] [] σ := by
  intro v3 v4 v5 v6 v7 v8 v9 σ hf
  unfold f_X6_markBy_91 at hf
  refine b_iload C dX6_markBy_91 7 rfl ?_
  refine b_bipush C (v := 97) dX6_markBy_93 (by decide) ?_
  refine b_icmp_lt C 126 dX6_markBy_95 (by decide) hf (fun hf => ?_) (fun hf => ?_)
  · exact w_X6_markBy_126 C hR k36 h36 _ _ _ _ _ _ _ _ hf
  · refine b_iload C dX6_markBy_98 7 rfl ?_
    refine b_bipush C (v := 104) dX6_markBy_100 (by decide) ?_
    refine b_icmp_gt C 126 dX6_markBy_102 (by decide) hf (fun hf => ?_) (fun hf => ?_)
    · exact w_X6_markBy_126 C hR k36 h36 _ _ _ _ _ _ _ _ hf
    · refine b_aload_n C dX6_markBy_105 rfl 0 rfl ?_
      refine b_getR C hiX6_markBy_6 6 5 (9 + 36) (by decide) rfl (by decide) kX6_markBy_34 rfl rfl dX6_markBy_106 ?_
      refine b_iload C dX6_markBy_109 4 rfl ?_
      refine b_iload C dX6_markBy_111 5 rfl ?_
      refine b_iload_n C dX6_markBy_113 rfl 1 rfl ?_
      refine b_iload C dX6_markBy_114 7 rfl ?_
      refine b_bipush C (v := 97) dX6_markBy_116 (by decide) ?_
      refine b_isub C dX6_markBy_118 ?_
      refine b_ishr C dX6_markBy_119 ?_
      refine b_iconst C (v := 1) dX6_markBy_120 (by decide) ?_
      refine b_iand C dX6_markBy_121 ?_
      refine b_imul C dX6_markBy_122 ?_
      refine b_callVv (n := 2) C (9 + 36) 5 (isObj_r (by decide)) rfl (fun _ => [.int (v6), .int ((v7) * (((v3) >>> (((v9) - (97)) &&& 31)) &&& (1)))]) (c_X5_add 36 (by decide) (v6) ((v7) * (((v3) >>> (((v9) - (97)) &&& 31)) &&& (1)))) (e_add 36 (by decide) (v6) ((v7) * (((v3) >>> (((v9) - (97)) &&& 31)) &&& (1))) _) gX6_markBy_X5_add rfl (by decide +kernel) rfl (by decide) (by decide) (Nat.le_of_ble_eq_true rfl) dX6_markBy_123 ?_
      refine b_nw hf (fun τ6 hf => ?_)
      exact w_X6_markBy_126 C hR k36 h36 _ _ _ _ _ _ _ _ hf
set_option maxHeartbeats 4000000 in
set_option maxRecDepth 100000 in
theorem w_X6_markBy_36 {X : Ctx} {o : Int64} {rv : Int32 × Mem} (C : Cx X cX6_markBy RX6 wsX6_markBy 10 2 44) (hR : Rt X cX6_markBy 10 o rv) : ∀ (n : Nat) (v3 v4 v5 v6 v7 v8 : Int32) (σ : Mem), some rv = f_X6_markBy_36 n v3 v4 v5 v6 v7 v8 σ → Bk X 10 o 0 0 36 [(0, .ref (ad X (6))), (3, .int (v3)), (4, .int (v4)), (5, .int (v5)), (6, .int (v6)), (7, .int (v7)), (8, .int (v8))] [] σ := by
  intro n
  induction n with
  | zero =>
    intro v3 v4 v5 v6 v7 v8 σ hf
    rw [f_X6_markBy_36] at hf
    cases hf
  | succ n ih =>
    intro v3 v4 v5 v6 v7 v8 σ hf
    rw [f_X6_markBy_36] at hf
    refine b_iload C dX6_markBy_36 6 rfl ?_
    refine b_iload C dX6_markBy_38 3 rfl ?_
    refine b_icmp_ge C 210 dX6_markBy_40 (by decide) hf (fun hf => ?_) (fun hf => ?_)
    · refine b_sub [0, 2] rfl ?_
      exact w_X6_markBy_210 C hR _ _ hf
    · refine b_aload_n C dX6_markBy_43 rfl 0 rfl ?_
      refine b_getR C hiX6_markBy_6 6 1 (9 + 32) (by decide) rfl (by decide) kX6_markBy_22 rfl rfl dX6_markBy_44 ?_
      refine b_iload C dX6_markBy_47 2 rfl ?_
      refine b_bipush C (v := 80) dX6_markBy_49 (by decide) ?_
      refine b_imul C dX6_markBy_51 ?_
      refine b_iload C dX6_markBy_52 6 rfl ?_
      refine b_iadd C dX6_markBy_54 ?_
      refine b_callVi (n := 1) C (9 + 32) 5 (isObj_r (by decide)) rfl (fun _ => [.int (((v4) * (80)) + (v8))]) (c_X5_get 32 (by decide) (((v4) * (80)) + (v8))) (e_get 32 (by decide) (((v4) * (80)) + (v8)) _) gX6_markBy_X5_get rfl (by decide +kernel) rfl (by decide) (by decide) (Nat.le_of_ble_eq_true rfl) dX6_markBy_55 ?_
      refine b_nv hf (fun y7 hf => ?_)
      refine b_istore (lv' := [(9, .int (y7)), (0, .ref (ad X (6))), (3, .int (v3)), (4, .int (v4)), (5, .int (v5)), (6, .int (v6)), (7, .int (v7)), (8, .int (v8))]) C dX6_markBy_58 (by decide) rfl ?_
      refine b_iload C dX6_markBy_60 0 rfl ?_
      refine b_bipush C (v := 60) dX6_markBy_62 (by decide) ?_
      refine b_icmp_ne C 70 dX6_markBy_64 (by decide) hf (fun hf => ?_) (fun hf => ?_)
      · refine b_iload C dX6_markBy_70 0 rfl ?_
        refine b_bipush C (v := 49) dX6_markBy_72 (by decide) ?_
        refine b_icmp_lt C 91 dX6_markBy_74 (by decide) hf (fun hf => ?_) (fun hf => ?_)
        · refine b_sub [1, 2, 3, 4, 5, 6, 7, 0] rfl ?_
          exact w_X6_markBy_91 C hR (f_X6_markBy_36 n) ih _ _ _ _ _ _ _ _ hf
        · refine b_iload C dX6_markBy_77 0 rfl ?_
          refine b_bipush C (v := 57) dX6_markBy_79 (by decide) ?_
          refine b_icmp_gt C 91 dX6_markBy_81 (by decide) hf (fun hf => ?_) (fun hf => ?_)
          · refine b_sub [1, 2, 3, 4, 5, 6, 7, 0] rfl ?_
            exact w_X6_markBy_91 C hR (f_X6_markBy_36 n) ih _ _ _ _ _ _ _ _ hf
          · refine b_iload C dX6_markBy_84 0 rfl ?_
            refine b_bipush C (v := 48) dX6_markBy_86 (by decide) ?_
            refine b_isub C dX6_markBy_88 ?_
            refine b_nv hf (fun y8 hf => ?_)
            refine b_istore (lv' := [(7, .int (y8)), (9, .int (y7)), (0, .ref (ad X (6))), (3, .int (v3)), (4, .int (v4)), (5, .int (v5)), (6, .int (v6)), (8, .int (v8))]) C dX6_markBy_89 (by decide) rfl ?_
            refine b_sub [2, 3, 4, 5, 6, 0, 7, 1] rfl ?_
            exact w_X6_markBy_91 C hR (f_X6_markBy_36 n) ih _ _ _ _ _ _ _ _ hf
      · refine b_goto C 210 dX6_markBy_67 (by decide) ?_
        refine b_sub [1, 3] rfl ?_
        exact w_X6_markBy_210 C hR _ _ hf
set_option maxHeartbeats 4000000 in
set_option maxRecDepth 100000 in
theorem c_X6_markBy (x1 x2 x3 : Int32) (l : Launch) : Cti l yX6_markBy wsX6_markBy 2 44 (fun G => [.ref (G.1 (6)), .int (x1), .int (x2), .int (x3)]) (f_X6_markBy x1 x2 x3) := by
  refine mk_i (cc := cX6_markBy) (nL := 10) (own := RX6) (by decide) rfl rfl (fun _ => Nat.le_of_ble_eq_true rfl) (fun X o σ rv C hR hf => ?_)
  show Bk X 10 o 0 0 0 [(0, .ref (ad X (6))), (1, .int (x1)), (2, .int (x2)), (3, .int (x3))] [] σ
  unfold f_X6_markBy at hf
  refine b_iload_n C dX6_markBy_0 rfl 1 rfl ?_
  refine b_bipush C (v := 6) dX6_markBy_1 (by decide) ?_
  refine b_imul C dX6_markBy_3 ?_
  refine b_iload_n C dX6_markBy_4 rfl 2 rfl ?_
  refine b_iadd C dX6_markBy_5 ?_
  refine b_nv hf (fun y9 hf => ?_)
  refine b_istore (lv' := [(4, .int (y9)), (0, .ref (ad X (6))), (1, .int (x1)), (2, .int (x2)), (3, .int (x3))]) C dX6_markBy_6 (by decide) rfl ?_
  refine b_aload_n C dX6_markBy_8 rfl 1 rfl ?_
  refine b_getR C hiX6_markBy_6 6 2 (9 + 33) (by decide) rfl (by decide) kX6_markBy_25 rfl rfl dX6_markBy_9 ?_
  refine b_iload C dX6_markBy_12 0 rfl ?_
  refine b_callVi (n := 1) C (9 + 33) 5 (isObj_r (by decide)) rfl (fun _ => [.int (y9)]) (c_X5_get 33 (by decide) (y9)) (e_get 33 (by decide) (y9) _) gX6_markBy_X5_get rfl (by decide +kernel) rfl (by decide) (by decide) (Nat.le_of_ble_eq_true rfl) dX6_markBy_14 ?_
  refine b_nv hf (fun y10 hf => ?_)
  refine b_istore (lv' := [(5, .int (y10)), (4, .int (y9)), (0, .ref (ad X (6))), (1, .int (x1)), (2, .int (x2)), (3, .int (x3))]) C dX6_markBy_17 (by decide) rfl ?_
  refine b_iconst C (v := 0) dX6_markBy_19 (by decide) ?_
  refine b_istore (lv' := [(6, .int (0)), (5, .int (y10)), (4, .int (y9)), (0, .ref (ad X (6))), (1, .int (x1)), (2, .int (x2)), (3, .int (x3))]) C dX6_markBy_20 (by decide) rfl ?_
  refine b_iconst C (v := 1) dX6_markBy_22 (by decide) ?_
  refine b_istore (lv' := [(7, .int (1)), (6, .int (0)), (5, .int (y10)), (4, .int (y9)), (0, .ref (ad X (6))), (1, .int (x1)), (2, .int (x2)), (3, .int (x3))]) C dX6_markBy_23 (by decide) rfl ?_
  refine b_aload_n C dX6_markBy_25 rfl 4 rfl ?_
  refine b_iload C dX6_markBy_26 1 rfl ?_
  refine b_iload C dX6_markBy_28 0 rfl ?_
  obtain ⟨y11, τ12, hqy11, hf⟩ := bd_inv hf
  refine b_callVv (n := 2) C (6) 6 (isObj_s (by decide)) rfl (fun _ => [.int (0), .int (1)]) (c_X6_begin (0) (1)) hqy11 gX6_markBy_X6_begin rfl (by decide +kernel) rfl (by decide) (by decide) (Nat.le_of_ble_eq_true rfl) dX6_markBy_30 ?_
  refine b_iconst C (v := 0) dX6_markBy_33 (by decide) ?_
  refine b_istore (lv' := [(8, .int (0)), (7, .int (1)), (6, .int (0)), (5, .int (y10)), (4, .int (y9)), (0, .ref (ad X (6))), (1, .int (x1)), (2, .int (x2)), (3, .int (x3))]) C dX6_markBy_34 (by decide) rfl ?_
  refine b_sub [5, 8, 4, 3, 2, 1, 0] rfl ?_
  exact w_X6_markBy_36 C hR FUEL _ _ _ _ _ _ _ hf
theorem hiX6_markByLatest_6 : ∀ w ∈ wsX60, w ∈ wsX6_markByLatest := by decide +kernel
theorem kX6_markByLatest_18 : Cond.fieldLink RX6 18 "ScriptRoom$Schemes" "counts" "LScriptRoom$Row;" ∈ wsX6_markByLatest := by decide +kernel
set_option maxHeartbeats 4000000 in
set_option maxRecDepth 100000 in
theorem c_X6_markByLatest (x1 x2 : Int32) (l : Launch) : Cti l yX6_markByLatest wsX6_markByLatest 3 73 (fun G => [.ref (G.1 (6)), .int (x1), .int (x2)]) (f_X6_markByLatest x1 x2) := by
  refine mk_i (cc := cX6_markByLatest) (nL := 3) (own := RX6) (by decide) rfl rfl (fun _ => Nat.le_of_ble_eq_true rfl) (fun X o σ rv C hR hf => ?_)
  show Bk X 3 o 0 0 0 [(0, .ref (ad X (6))), (1, .int (x1)), (2, .int (x2))] [] σ
  unfold f_X6_markByLatest at hf
  refine b_aload_n C dX6_markByLatest_0 rfl 0 rfl ?_
  refine b_iload_n C dX6_markByLatest_1 rfl 1 rfl ?_
  refine b_aload_n C dX6_markByLatest_2 rfl 0 rfl ?_
  refine b_getR C hiX6_markByLatest_6 6 0 (9 + 31) (by decide) rfl (by decide) kX6_markByLatest_18 rfl rfl dX6_markByLatest_3 ?_
  refine b_iload_n C dX6_markByLatest_6 rfl 1 rfl ?_
  refine b_callVi (n := 1) C (9 + 31) 5 (isObj_r (by decide)) rfl (fun _ => [.int (x1)]) (c_X5_get 31 (by decide) (x1)) (e_get 31 (by decide) (x1) _) gX6_markByLatest_X5_get rfl (by decide +kernel) rfl (by decide) (by decide) (Nat.le_of_ble_eq_true rfl) dX6_markByLatest_7 ?_
  refine b_iconst C (v := 1) dX6_markByLatest_10 (by decide) ?_
  refine b_isub C dX6_markByLatest_11 ?_
  refine b_iload_n C dX6_markByLatest_12 rfl 2 rfl ?_
  obtain ⟨y1, τ2, hqy1, hf⟩ := bd_inv hf
  refine b_callVi (n := 3) C (6) 6 (isObj_s (by decide)) rfl (fun _ => [.int (x1), .int ((rget 31 (x1) σ) - (1)), .int (x2)]) (c_X6_markBy (x1) ((rget 31 (x1) σ) - (1)) (x2)) hqy1 gX6_markByLatest_X6_markBy rfl (by decide +kernel) rfl (by decide) (by decide) (Nat.le_of_ble_eq_true rfl) dX6_markByLatest_13 ?_
  exact hR _ _ _ _ dX6_markByLatest_16 hf
theorem hiX6_has_6 : ∀ w ∈ wsX60, w ∈ wsX6_has := by decide +kernel
theorem kX6_has_18 : Cond.fieldLink RX6 18 "ScriptRoom$Schemes" "counts" "LScriptRoom$Row;" ∈ wsX6_has := by decide +kernel
set_option maxHeartbeats 4000000 in
set_option maxRecDepth 100000 in
theorem w_X6_has_21 {X : Ctx} {o : Int64} {rv : Int32 × Mem} (C : Cx X cX6_has RX6 wsX6_has 3 1 21) (hR : Rz X cX6_has 3 o rv) : ∀ (s0 : Int32) (σ : Mem), some rv = f_X6_has_21 s0 σ → Bk X 3 o 0 0 21 [] [.int (s0)] σ := by
  intro s0 σ hf
  unfold f_X6_has_21 at hf
  exact hR _ _ _ _ dX6_has_21 hf
set_option maxHeartbeats 4000000 in
set_option maxRecDepth 100000 in
theorem w_X6_has_20 {X : Ctx} {o : Int64} {rv : Int32 × Mem} (C : Cx X cX6_has RX6 wsX6_has 3 1 21) (hR : Rz X cX6_has 3 o rv) : ∀ (σ : Mem), some rv = f_X6_has_20 σ → Bk X 3 o 0 0 20 [] [] σ := by
  intro σ hf
  unfold f_X6_has_20 at hf
  refine b_iconst C (v := 0) dX6_has_20 (by decide) ?_
  exact w_X6_has_21 C hR _ _ hf
set_option maxHeartbeats 4000000 in
set_option maxRecDepth 100000 in
theorem c_X6_has (x1 x2 : Int32) (l : Launch) : Cti l yX6_has wsX6_has 1 21 (fun G => [.ref (G.1 (6)), .int (x1), .int (x2)]) (f_X6_has x1 x2) := by
  refine mk_z (cc := cX6_has) (nL := 3) (own := RX6) (by decide) rfl rfl (fun _ => Nat.le_of_ble_eq_true rfl) (fun X o σ rv C hR hf => ?_)
  show Bk X 3 o 0 0 0 [(0, .ref (ad X (6))), (1, .int (x1)), (2, .int (x2))] [] σ
  unfold f_X6_has at hf
  refine b_iload_n C dX6_has_0 rfl 2 rfl ?_
  refine b_if_lt C 20 dX6_has_1 (by decide) hf (fun hf => ?_) (fun hf => ?_)
  · refine b_sub [] rfl ?_
    exact w_X6_has_20 C hR _ hf
  · refine b_iload_n C dX6_has_4 rfl 2 rfl ?_
    refine b_aload_n C dX6_has_5 rfl 0 rfl ?_
    refine b_getR C hiX6_has_6 6 0 (9 + 31) (by decide) rfl (by decide) kX6_has_18 rfl rfl dX6_has_6 ?_
    refine b_iload_n C dX6_has_9 rfl 1 rfl ?_
    refine b_callVi (n := 1) C (9 + 31) 5 (isObj_r (by decide)) rfl (fun _ => [.int (x1)]) (c_X5_get 31 (by decide) (x1)) (e_get 31 (by decide) (x1) _) gX6_has_X5_get rfl (by decide +kernel) rfl (by decide) (by decide) (Nat.le_of_ble_eq_true rfl) dX6_has_10 ?_
    refine b_icmp_ge C 20 dX6_has_13 (by decide) hf (fun hf => ?_) (fun hf => ?_)
    · refine b_sub [] rfl ?_
      exact w_X6_has_20 C hR _ hf
    · refine b_iconst C (v := 1) dX6_has_16 (by decide) ?_
      refine b_goto C 21 dX6_has_17 (by decide) ?_
      refine b_sub [] rfl ?_
      exact w_X6_has_21 C hR _ _ hf
theorem hiX6_signAt_6 : ∀ w ∈ wsX60, w ∈ wsX6_signAt := by decide +kernel
theorem kX6_signAt_25 : Cond.fieldLink RX6 25 "ScriptRoom$Schemes" "lengths" "LScriptRoom$Row;" ∈ wsX6_signAt := by decide +kernel
theorem kX6_signAt_22 : Cond.fieldLink RX6 22 "ScriptRoom$Schemes" "signs" "LScriptRoom$Row;" ∈ wsX6_signAt := by decide +kernel
set_option maxHeartbeats 4000000 in
set_option maxRecDepth 100000 in
theorem w_X6_signAt_39 {X : Ctx} {o : Int64} {rv : Int32 × Mem} (C : Cx X cX6_signAt RX6 wsX6_signAt 5 1 21) (hR : Rt X cX6_signAt 5 o rv) : ∀ (s0 : Int32) (σ : Mem), some rv = f_X6_signAt_39 s0 σ → Bk X 5 o 0 0 39 [] [.int (s0)] σ := by
  intro s0 σ hf
  unfold f_X6_signAt_39 at hf
  exact hR _ _ _ _ dX6_signAt_39 hf
set_option maxHeartbeats 4000000 in
set_option maxRecDepth 100000 in
theorem c_X6_signAt (x1 x2 x3 : Int32) (l : Launch) : Cti l yX6_signAt wsX6_signAt 1 21 (fun G => [.ref (G.1 (6)), .int (x1), .int (x2), .int (x3)]) (f_X6_signAt x1 x2 x3) := by
  refine mk_i (cc := cX6_signAt) (nL := 5) (own := RX6) (by decide) rfl rfl (fun _ => Nat.le_of_ble_eq_true rfl) (fun X o σ rv C hR hf => ?_)
  show Bk X 5 o 0 0 0 [(0, .ref (ad X (6))), (1, .int (x1)), (2, .int (x2)), (3, .int (x3))] [] σ
  unfold f_X6_signAt at hf
  refine b_iload_n C dX6_signAt_0 rfl 1 rfl ?_
  refine b_bipush C (v := 6) dX6_signAt_1 (by decide) ?_
  refine b_imul C dX6_signAt_3 ?_
  refine b_iload_n C dX6_signAt_4 rfl 2 rfl ?_
  refine b_iadd C dX6_signAt_5 ?_
  refine b_nv hf (fun y1 hf => ?_)
  refine b_istore (lv' := [(4, .int (y1)), (0, .ref (ad X (6))), (1, .int (x1)), (2, .int (x2)), (3, .int (x3))]) C dX6_signAt_6 (by decide) rfl ?_
  refine b_iload_n C dX6_signAt_8 rfl 4 rfl ?_
  refine b_aload_n C dX6_signAt_9 rfl 1 rfl ?_
  refine b_getR C hiX6_signAt_6 6 2 (9 + 33) (by decide) rfl (by decide) kX6_signAt_25 rfl rfl dX6_signAt_10 ?_
  refine b_iload C dX6_signAt_13 0 rfl ?_
  refine b_callVi (n := 1) C (9 + 33) 5 (isObj_r (by decide)) rfl (fun _ => [.int (y1)]) (c_X5_get 33 (by decide) (y1)) (e_get 33 (by decide) (y1) _) gX6_signAt_X5_get rfl (by decide +kernel) rfl (by decide) (by decide) (Nat.le_of_ble_eq_true rfl) dX6_signAt_15 ?_
  refine b_icmp_ge C 38 dX6_signAt_18 (by decide) hf (fun hf => ?_) (fun hf => ?_)
  · refine b_iconst C (v := 0) dX6_signAt_38 (by decide) ?_
    refine b_sub [] rfl ?_
    exact w_X6_signAt_39 C hR _ _ hf
  · refine b_aload_n C dX6_signAt_21 rfl 1 rfl ?_
    refine b_getR C hiX6_signAt_6 6 1 (9 + 32) (by decide) rfl (by decide) kX6_signAt_22 rfl rfl dX6_signAt_22 ?_
    refine b_iload C dX6_signAt_25 0 rfl ?_
    refine b_bipush C (v := 80) dX6_signAt_27 (by decide) ?_
    refine b_imul C dX6_signAt_29 ?_
    refine b_iload_n C dX6_signAt_30 rfl 4 rfl ?_
    refine b_iadd C dX6_signAt_31 ?_
    refine b_callVi (n := 1) C (9 + 32) 5 (isObj_r (by decide)) rfl (fun _ => [.int (((y1) * (80)) + (x3))]) (c_X5_get 32 (by decide) (((y1) * (80)) + (x3))) (e_get 32 (by decide) (((y1) * (80)) + (x3)) _) gX6_signAt_X5_get rfl (by decide +kernel) rfl (by decide) (by decide) (Nat.le_of_ble_eq_true rfl) dX6_signAt_32 ?_
    refine b_goto C 39 dX6_signAt_35 (by decide) ?_
    refine b_sub [] rfl ?_
    exact w_X6_signAt_39 C hR _ _ hf
