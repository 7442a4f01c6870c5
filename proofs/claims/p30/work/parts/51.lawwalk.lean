/-! printed by wip/p30/gen/law2.py -/
theorem kL_law_c7 : Cond.constant RL 7 (1073741823) ∈ lw_tbl := List.mem_of_getElem? (i := 400) (by decide +kernel)
def f_L_law_667 (L : Nat) (xs : Nat → Int32)  (v3 : Int32) (σ : M2) : Option (Int32 × M2) := gd (isZ (v3)) (some (v3, σ))
def f_L_law_257 (L : Nat) (xs : Nat → Int32)  (k21 : Int32 → Int32 → M2 → Option (Int32 × M2)) (k66 : Int32 → Int32 → Int32 → Int32 → Int32 → Int32 → Int32 → Int32 → M2 → Option (Int32 × M2)) (v3 v4 v5 v6 v8 v9 v10 s0 : Int32) (σ : M2) : Option (Int32 × M2) := (k66 (v3) (v4) (v5) (v6) (s0) (v8) (v9) (v10) σ)
def f_L_law_252 (L : Nat) (xs : Nat → Int32)  (k21 : Int32 → Int32 → M2 → Option (Int32 × M2)) (k66 : Int32 → Int32 → Int32 → Int32 → Int32 → Int32 → Int32 → Int32 → M2 → Option (Int32 × M2)) (v3 v4 v5 v6 v8 v9 v10 : Int32) (σ : M2) : Option (Int32 × M2) := (f_L_law_257 L xs k21 k66 (v3) (v4) (v5) (v6) (v8) (v9) (v10) (0) σ)
def f_L_law_231 (L : Nat) (xs : Nat → Int32)  (k21 : Int32 → Int32 → M2 → Option (Int32 × M2)) (k66 : Int32 → Int32 → Int32 → Int32 → Int32 → Int32 → Int32 → Int32 → M2 → Option (Int32 × M2)) (v3 v4 v5 v6 v8 v9 v10 v11 : Int32) (σ : M2) : Option (Int32 × M2) := (if (v11) = (40) then (f_L_law_252 L xs k21 k66 (v3) (v4) (v5) (v6) (v8) (v9) (v10) σ)
  else (if (v11) = (43) then (f_L_law_252 L xs k21 k66 (v3) (v4) (v5) (v6) (v8) (v9) (v10) σ)
    else (if (v11) = (124) then (f_L_law_252 L xs k21 k66 (v3) (v4) (v5) (v6) (v8) (v9) (v10) σ)
      else (f_L_law_257 L xs k21 k66 (v3) (v4) (v5) (v6) (v8) (v9) (v10) (2) σ))))
def f_L_law_210 (L : Nat) (xs : Nat → Int32)  (k21 : Int32 → Int32 → M2 → Option (Int32 × M2)) (k66 : Int32 → Int32 → Int32 → Int32 → Int32 → Int32 → Int32 → Int32 → M2 → Option (Int32 × M2)) (v3 v4 v5 v6 v9 v10 v11 s0 s1 : Int32) (σ : M2) : Option (Int32 × M2) := nv ((s1) + (s0)) (fun y1 => (if (v11) < (49) then (f_L_law_231 L xs k21 k66 (v3) (v4) (v5) (v6) (y1) (v9) (v10) (v11) σ)
  else (if (57) < (v11) then (f_L_law_231 L xs k21 k66 (v3) (v4) (v5) (v6) (y1) (v9) (v10) (v11) σ)
    else (f_L_law_257 L xs k21 k66 (v3) (v4) (v5) (v6) (y1) (v9) (v10) (1) σ))))
def f_L_law_181 (L : Nat) (xs : Nat → Int32)  (k21 : Int32 → Int32 → M2 → Option (Int32 × M2)) (k66 : Int32 → Int32 → Int32 → Int32 → Int32 → Int32 → Int32 → Int32 → M2 → Option (Int32 × M2)) (v4 v5 v6 v8 v9 v10 v11 s0 : Int32) (σ : M2) : Option (Int32 × M2) := (if (v11) = (40) then (f_L_law_210 L xs k21 k66 (s0) (v4) (v5) (v6) ((v9) + (1)) (v10) (v11) (1) (v8) σ)
  else (if (v11) = (41) then (f_L_law_210 L xs k21 k66 (s0) (v4) (v5) (v6) ((v9) + (1)) (v10) (v11) ((-1)) (v8) σ)
    else (f_L_law_210 L xs k21 k66 (s0) (v4) (v5) (v6) ((v9) + (1)) (v10) (v11) (0) (v8) σ)))
def f_L_law_180 (L : Nat) (xs : Nat → Int32)  (k21 : Int32 → Int32 → M2 → Option (Int32 × M2)) (k66 : Int32 → Int32 → Int32 → Int32 → Int32 → Int32 → Int32 → Int32 → M2 → Option (Int32 × M2)) (v4 v5 v6 v8 v9 v10 v11 : Int32) (σ : M2) : Option (Int32 × M2) := (f_L_law_181 L xs k21 k66 (v4) (v5) (v6) (v8) (v9) (v10) (v11) (0) σ)
def f_L_law_155 (L : Nat) (xs : Nat → Int32)  (k21 : Int32 → Int32 → M2 → Option (Int32 × M2)) (k66 : Int32 → Int32 → Int32 → Int32 → Int32 → Int32 → Int32 → Int32 → M2 → Option (Int32 × M2)) (v3 v4 v5 v6 v8 v9 v10 s0 : Int32) (σ : M2) : Option (Int32 × M2) := (if (v3) = 0 then (f_L_law_180 L xs k21 k66 (v4) (v5) (v6) (v8) (v9) (v10) (s0) σ)
  else bd2 (onO (f_L_does (1) (s0) (0)) σ) (fun y2 τ3 => (if (y2) = ((v9) + (1)) then (f_L_law_181 L xs k21 k66 (v4) (v5) (v6) (v8) (v9) (v10) (s0) (1) τ3)
    else (f_L_law_180 L xs k21 k66 (v4) (v5) (v6) (v8) (v9) (v10) (s0) τ3))))
def f_L_law_143 (L : Nat) (xs : Nat → Int32)  (k21 : Int32 → Int32 → M2 → Option (Int32 × M2)) (k66 : Int32 → Int32 → Int32 → Int32 → Int32 → Int32 → Int32 → Int32 → M2 → Option (Int32 × M2)) (v3 v4 v5 v6 v7 v8 v9 v10 : Int32) (σ : M2) : Option (Int32 × M2) := bd2 (onO (f_L_signFor (v7) (v8) ((v10) / (8))) σ) (fun y4 τ5 => (f_L_law_155 L xs k21 k66 (v3) (v4) (v5) (v6) (v8) (v9) (v10) (y4) τ5))
def f_L_law_125 (L : Nat) (xs : Nat → Int32)  (k21 : Int32 → Int32 → M2 → Option (Int32 × M2)) (k66 : Int32 → Int32 → Int32 → Int32 → Int32 → Int32 → Int32 → Int32 → M2 → Option (Int32 × M2)) (v3 v4 v5 v6 v7 v8 v9 v10 : Int32) (σ : M2) : Option (Int32 × M2) := (if (v9) ≤ (9) then (f_L_law_143 L xs k21 k66 (v3) (v4) (v5) (v6) (v7) (v8) (v9) (v10) σ)
  else (if (2) ≤ (v7) then (f_L_law_143 L xs k21 k66 (v3) (v4) (v5) (v6) (v7) (v8) (v9) (v10) σ)
    else (f_L_law_155 L xs k21 k66 (v3) (v4) (v5) (v6) (v8) (v9) (v10) (99) σ)))
def f_L_law_83 (L : Nat) (xs : Nat → Int32)  (k21 : Int32 → Int32 → M2 → Option (Int32 × M2)) (k66 : Int32 → Int32 → Int32 → Int32 → Int32 → Int32 → Int32 → Int32 → M2 → Option (Int32 × M2)) (v3 v4 v5 v6 v7 v8 v9 v10 : Int32) (σ : M2) : Option (Int32 × M2) := nv (((((v10) * (31)) + ((7) * (v4))) + (v9)) &&& (1073741823)) (fun y6 => (if (v9) ≤ (9) then (f_L_law_125 L xs k21 k66 (v3) (v4) (v5) (v6) (v7) (v8) (v9) (y6) σ)
  else (if (v7) = (2) then (if (v8) ≤ 0 then (f_L_law_125 L xs k21 k66 (v3) (v4) (v5) (v6) (v7) (v8) (v9) (y6) σ)
      else (f_L_law_155 L xs k21 k66 (v3) (v4) (v5) (v6) (v8) (v9) (y6) (41) σ))
    else (f_L_law_125 L xs k21 k66 (v3) (v4) (v5) (v6) (v7) (v8) (v9) (y6) σ))))
def f_L_law_660 (L : Nat) (xs : Nat → Int32)  (k21 : Int32 → Int32 → M2 → Option (Int32 × M2)) (v4 s0 : Int32) (σ : M2) : Option (Int32 × M2) := (k21 (s0) ((v4) + (1)) σ)
def f_L_law_659 (L : Nat) (xs : Nat → Int32)  (k21 : Int32 → Int32 → M2 → Option (Int32 × M2)) (v4 : Int32) (σ : M2) : Option (Int32 × M2) := (f_L_law_660 L xs k21 (v4) (0) σ)
def f_L_law_630 (L : Nat) (xs : Nat → Int32)  (k21 : Int32 → Int32 → M2 → Option (Int32 × M2)) (v3 v4 v5 : Int32) (σ : M2) : Option (Int32 × M2) := (if (v3) = 0 then (f_L_law_659 L xs k21 (v4) σ)
  else bd2 (onO (f_L_does (9) (v5) (0)) σ) (fun y7 τ8 => bd2 (onP (f_L_does (9) (v5) (0)) τ8) (fun y9 τ10 => (if (y7) = (y9) then (f_L_law_660 L xs k21 (v4) (1) τ10)
    else (f_L_law_659 L xs k21 (v4) τ10)))))
def f_L_law_623 (L : Nat) (xs : Nat → Int32)  (k21 : Int32 → Int32 → M2 → Option (Int32 × M2)) (k545 : Int32 → Int32 → Int32 → Int32 → Int32 → M2 → Option (Int32 × M2)) (v4 v5 v12 v14 s0 : Int32) (σ : M2) : Option (Int32 × M2) := (k545 (s0) (v4) (v5) (v12) ((v14) + (1)) σ)
def f_L_law_622 (L : Nat) (xs : Nat → Int32)  (k21 : Int32 → Int32 → M2 → Option (Int32 × M2)) (k545 : Int32 → Int32 → Int32 → Int32 → Int32 → M2 → Option (Int32 × M2)) (v4 v5 v12 v14 : Int32) (σ : M2) : Option (Int32 × M2) := (f_L_law_623 L xs k21 k545 (v4) (v5) (v12) (v14) (0) σ)
def f_L_law_545 (L : Nat) (xs : Nat → Int32)  (k21 : Int32 → Int32 → M2 → Option (Int32 × M2)) : Nat → Int32 → Int32 → Int32 → Int32 → Int32 → M2 → Option (Int32 × M2)
  | 0, _, _, _, _, _, _ => none
  | n + 1, v3, v4, v5, v12, v14, σ => (if (24) ≤ (v14) then (f_L_law_630 L xs k21 (v3) (v4) (v5) σ)
    else (if (v3) = 0 then (f_L_law_630 L xs k21 (v3) (v4) (v5) σ)
      else gd (decide (0 ≤ ((v4) + (v14)))) (nv ((((dw L xs ((v4) + (v14))) / (64)) + ((41) * (v14))) - (((dw L xs ((v4) + (v14))) / (64)) + ((41) * (v14))) / (256) * (256)) (fun y11 => bd2 (onP (f_L_markOf (v5) (v12) (y11)) σ) (fun y12 τ13 => bd2 (onO (f_L_markOf (v5) (v12) (y11)) τ13) (fun y14 τ15 => (if (y12) = (y14) then bd2 (onO (f_L_markOf (v5) (v12) (y11)) τ15) (fun y16 τ17 => (if (99) < (y16) then (f_L_law_622 L xs k21 (f_L_law_545 L xs k21 n) (v4) (v5) (v12) (v14) τ17)
          else (f_L_law_623 L xs k21 (f_L_law_545 L xs k21 n) (v4) (v5) (v12) (v14) (1) τ17)))
        else (f_L_law_622 L xs k21 (f_L_law_545 L xs k21 n) (v4) (v5) (v12) (v14) τ15))))))))
def f_L_law_542 (L : Nat) (xs : Nat → Int32)  (k21 : Int32 → Int32 → M2 → Option (Int32 × M2)) (v3 v4 v5 v12 : Int32) (σ : M2) : Option (Int32 × M2) := (f_L_law_545 L xs k21 FUEL (v3) (v4) (v5) (v12) (0) σ)
def f_L_law_535 (L : Nat) (xs : Nat → Int32)  (k21 : Int32 → Int32 → M2 → Option (Int32 × M2)) (k496 : Int32 → Int32 → Int32 → Int32 → Int32 → Int32 → M2 → Option (Int32 × M2)) (v4 v5 v12 v13 v14 s0 : Int32) (σ : M2) : Option (Int32 × M2) := (k496 (s0) (v4) (v5) (v12) (v13) ((v14) + (1)) σ)
def f_L_law_496 (L : Nat) (xs : Nat → Int32)  (k21 : Int32 → Int32 → M2 → Option (Int32 × M2)) : Nat → Int32 → Int32 → Int32 → Int32 → Int32 → Int32 → M2 → Option (Int32 × M2)
  | 0, _, _, _, _, _, _, _ => none
  | n + 1, v3, v4, v5, v12, v13, v14, σ => (if (v13) < (v14) then (f_L_law_542 L xs k21 (v3) (v4) (v5) (v12) σ)
    else (if (v3) = 0 then (f_L_law_542 L xs k21 (v3) (v4) (v5) (v12) σ)
      else bd2 (onP (f_L_written (v5) (v12) (v14)) σ) (fun y18 τ19 => bd2 (onO (f_L_written (v5) (v12) (v14)) τ19) (fun y20 τ21 => (if (y18) = (y20) then (f_L_law_535 L xs k21 (f_L_law_496 L xs k21 n) (v4) (v5) (v12) (v13) (v14) (1) τ21)
        else (f_L_law_535 L xs k21 (f_L_law_496 L xs k21 n) (v4) (v5) (v12) (v13) (v14) (0) τ21))))))
def f_L_law_492 (L : Nat) (xs : Nat → Int32)  (k21 : Int32 → Int32 → M2 → Option (Int32 × M2)) (v4 v5 v12 v13 s0 : Int32) (σ : M2) : Option (Int32 × M2) := (f_L_law_496 L xs k21 FUEL (s0) (v4) (v5) (v12) (v13) (0) σ)
def f_L_law_491 (L : Nat) (xs : Nat → Int32)  (k21 : Int32 → Int32 → M2 → Option (Int32 × M2)) (v4 v5 v12 v13 : Int32) (σ : M2) : Option (Int32 × M2) := (f_L_law_492 L xs k21 (v4) (v5) (v12) (v13) (0) σ)
def f_L_law_470 (L : Nat) (xs : Nat → Int32)  (k21 : Int32 → Int32 → M2 → Option (Int32 × M2)) (v3 v4 v5 v12 v13 : Int32) (σ : M2) : Option (Int32 × M2) := (if (v3) = 0 then (f_L_law_491 L xs k21 (v4) (v5) (v12) (v13) σ)
  else bd2 (onP (f_L_does (2) (v5) (0)) σ) (fun y22 τ23 => (if (y22) = (v12) then (f_L_law_492 L xs k21 (v4) (v5) (v12) (v13) (1) τ23)
    else (f_L_law_491 L xs k21 (v4) (v5) (v12) (v13) τ23))))
def f_L_law_463 (L : Nat) (xs : Nat → Int32)  (k21 : Int32 → Int32 → M2 → Option (Int32 × M2)) (k418 : Int32 → Int32 → Int32 → Int32 → Int32 → M2 → Option (Int32 × M2)) (v4 v5 v12 v13 s0 : Int32) (σ : M2) : Option (Int32 × M2) := (k418 (s0) (v4) (v5) (v12) ((v13) + (1)) σ)
def f_L_law_418 (L : Nat) (xs : Nat → Int32)  (k21 : Int32 → Int32 → M2 → Option (Int32 × M2)) : Nat → Int32 → Int32 → Int32 → Int32 → Int32 → M2 → Option (Int32 × M2)
  | 0, _, _, _, _, _, _ => none
  | n + 1, v3, v4, v5, v12, v13, σ => (if (v3) = 0 then (f_L_law_470 L xs k21 (v3) (v4) (v5) (v12) (v13) σ)
    else bd2 (onO (f_L_written (v5) (v12) (v13)) σ) (fun y24 τ25 => (if (y24) ≤ 0 then (f_L_law_470 L xs k21 (v3) (v4) (v5) (v12) (v13) τ25)
      else bd2 (onO (f_L_written (v5) (v12) (v13)) τ25) (fun y26 τ27 => bd2 (onP (f_L_does (1) (y26) (0)) τ27) (fun y28 τ29 => (if (y28) = ((v13) + (1)) then (f_L_law_463 L xs k21 (f_L_law_418 L xs k21 n) (v4) (v5) (v12) (v13) (1) τ29)
        else (f_L_law_463 L xs k21 (f_L_law_418 L xs k21 n) (v4) (v5) (v12) (v13) (0) τ29)))))))
def f_L_law_409 (L : Nat) (xs : Nat → Int32)  (k21 : Int32 → Int32 → M2 → Option (Int32 × M2)) (v4 v5 v12 s0 : Int32) (σ : M2) : Option (Int32 × M2) := (if (v12) < 0 then (f_L_law_630 L xs k21 (s0) (v4) (v5) σ)
  else (f_L_law_418 L xs k21 FUEL (s0) (v4) (v5) (v12) (0) σ))
def f_L_law_408 (L : Nat) (xs : Nat → Int32)  (k21 : Int32 → Int32 → M2 → Option (Int32 × M2)) (v4 v5 v12 : Int32) (σ : M2) : Option (Int32 × M2) := (f_L_law_409 L xs k21 (v4) (v5) (v12) (0) σ)
def f_L_law_401 (L : Nat) (xs : Nat → Int32)  (k21 : Int32 → Int32 → M2 → Option (Int32 × M2)) (v4 v5 v12 s0 s1 : Int32) (σ : M2) : Option (Int32 × M2) := (if (s1) = (s0) then (f_L_law_409 L xs k21 (v4) (v5) (v12) (1) σ)
  else (f_L_law_408 L xs k21 (v4) (v5) (v12) σ))
def f_L_law_371 (L : Nat) (xs : Nat → Int32)  (k21 : Int32 → Int32 → M2 → Option (Int32 × M2)) (v3 v4 v5 v6 v9 v11 : Int32) (σ : M2) : Option (Int32 × M2) := bd2 (onO (f_L_does (2) (v5) (0)) σ) (fun y30 τ31 => (if (v3) = 0 then (f_L_law_408 L xs k21 (v4) (v5) (y30) τ31)
  else (if (v11) = 0 then (f_L_law_401 L xs k21 (v4) (v5) (y30) (v6) (y30) τ31)
    else (f_L_law_401 L xs k21 (v4) (v5) (y30) (((-1)) - (v9)) (y30) τ31))))
def f_L_law_370 (L : Nat) (xs : Nat → Int32)  (k21 : Int32 → Int32 → M2 → Option (Int32 × M2)) (v4 v5 v6 v9 v11 s0 : Int32) (σ : M2) : Option (Int32 × M2) := (f_L_law_371 L xs k21 (s0) (v4) (v5) (v6) (v9) (v11) σ)
def f_L_law_369 (L : Nat) (xs : Nat → Int32)  (k21 : Int32 → Int32 → M2 → Option (Int32 × M2)) (v4 v5 v6 v9 v11 : Int32) (σ : M2) : Option (Int32 × M2) := (f_L_law_370 L xs k21 (v4) (v5) (v6) (v9) (v11) (0) σ)
def f_L_law_310 (L : Nat) (xs : Nat → Int32)  (k21 : Int32 → Int32 → M2 → Option (Int32 × M2)) (v4 v5 v6 v9 v11 s0 : Int32) (σ : M2) : Option (Int32 × M2) := (f_L_law_371 L xs k21 (s0) (v4) (v5) (v6) (v9) (v11) σ)
def f_L_law_309 (L : Nat) (xs : Nat → Int32)  (k21 : Int32 → Int32 → M2 → Option (Int32 × M2)) (v4 v5 v6 v9 v11 : Int32) (σ : M2) : Option (Int32 × M2) := (f_L_law_310 L xs k21 (v4) (v5) (v6) (v9) (v11) (0) σ)
def f_L_law_279 (L : Nat) (xs : Nat → Int32)  (k21 : Int32 → Int32 → M2 → Option (Int32 × M2)) (v3 v4 v5 v6 v9 v10 s0 : Int32) (σ : M2) : Option (Int32 × M2) := (if (s0) = 0 then gd (decide (0 ≤ (v4))) ((if ((dw L xs (v4)) - (dw L xs (v4)) / (3) * (3)) = 0 then (if (v3) = 0 then (f_L_law_369 L xs k21 (v4) (v5) (v6) (v9) (s0) σ)
      else bd2 (onO (f_L_does (1) (60) (0)) σ) (fun y32 τ33 => (if (y32) = ((v9) + (1)) then bd2 (onO (f_L_does (1) ((48) + ((v10) - (v10) / (10) * (10))) (0)) τ33) (fun y34 τ35 => (if (y34) = ((v9) + (2)) then (f_L_law_370 L xs k21 (v4) (v5) (v6) (v9) (s0) (1) τ35)
          else (f_L_law_369 L xs k21 (v4) (v5) (v6) (v9) (s0) τ35)))
        else (f_L_law_369 L xs k21 (v4) (v5) (v6) (v9) (s0) τ33))))
    else (f_L_law_371 L xs k21 (v3) (v4) (v5) (v6) (v9) (s0) σ)))
  else (if (v3) = 0 then (f_L_law_309 L xs k21 (v4) (v5) (v6) (v9) (s0) σ)
    else bd2 (onO (f_L_does (1) (122) (0)) σ) (fun y36 τ37 => (if (y36) = ((v9) + (1)) then (f_L_law_310 L xs k21 (v4) (v5) (v6) (v9) (s0) (1) τ37)
      else (f_L_law_309 L xs k21 (v4) (v5) (v6) (v9) (s0) τ37)))))
def f_L_law_66 (L : Nat) (xs : Nat → Int32)  (k21 : Int32 → Int32 → M2 → Option (Int32 × M2)) : Nat → Int32 → Int32 → Int32 → Int32 → Int32 → Int32 → Int32 → Int32 → M2 → Option (Int32 × M2)
  | 0, _, _, _, _, _, _, _, _, _ => none
  | n + 1, v3, v4, v5, v6, v7, v8, v9, v10, σ => (if (v7) = (2) then (if 0 < (v8) then (f_L_law_83 L xs k21 (f_L_law_66 L xs k21 n) (v3) (v4) (v5) (v6) (v7) (v8) (v9) (v10) σ)
      else (if (4) ≤ (v9) then gd (decide (0 ≤ (v4))) ((if ((dw L xs (v4)) - (dw L xs (v4)) / (6) * (6)) = 0 then (f_L_law_279 L xs k21 (v3) (v4) (v5) (v6) (v9) (v10) (1) σ)
          else (f_L_law_279 L xs k21 (v3) (v4) (v5) (v6) (v9) (v10) (0) σ)))
        else (f_L_law_83 L xs k21 (f_L_law_66 L xs k21 n) (v3) (v4) (v5) (v6) (v7) (v8) (v9) (v10) σ)))
    else (f_L_law_83 L xs k21 (f_L_law_66 L xs k21 n) (v3) (v4) (v5) (v6) (v7) (v8) (v9) (v10) σ))
def f_L_law_21 (L : Nat) (xs : Nat → Int32)  : Nat → Int32 → Int32 → M2 → Option (Int32 × M2)
  | 0, _, _, _ => none
  | n + 1, v3, v4, σ => (if (20) ≤ (v4) then (f_L_law_667 L xs (v3) σ)
    else (if (v3) = 0 then (f_L_law_667 L xs (v3) σ)
      else nv ((v4) - (v4) / (4) * (4)) (fun y38 => bd2 (onO (f_L_does (9) (y38) (0)) σ) (fun y39 τ40 => gd (decide (0 ≤ (v4))) (nv (dw L xs (v4)) (fun y41 => (f_L_law_66 L xs (f_L_law_21 L xs n) FUEL (v3) (v4) (y38) (y39) (0) (0) (0) (y41) τ40)))))))
def f_L_law (L : Nat) (xs : Nat → Int32) (σ : M2) : Option (Int32 × M2) := (f_L_law_21 L xs FUEL (1) (0) σ)
set_option maxHeartbeats 4000000 in
set_option maxRecDepth 100000 in
theorem w_L_law_667 {X : Ctl} {b : Nat} {rv : Int32 × M2} (L : Nat) (xs : Nat → Int32) (C : Cl X b L xs cL_law RL lw_tbl 16 10 380) (hR : Rl X cL_law 16 rv) : ∀ (v3 : Int32) (σ : M2), some rv = f_L_law_667 L xs v3 σ → Bl X 16 667 [(3, .int (v3))] [] σ := by
  intro v3 σ hf
  unfold f_L_law_667 at hf
  refine l_iload_n C dL_law_667 rfl 0 rfl ?_
  exact hR _ _ _ _ dL_law_668 hf
set_option maxHeartbeats 4000000 in
set_option maxRecDepth 100000 in
theorem w_L_law_257 {X : Ctl} {b : Nat} {rv : Int32 × M2} (L : Nat) (xs : Nat → Int32) (C : Cl X b L xs cL_law RL lw_tbl 16 10 380) (hR : Rl X cL_law 16 rv) (k21 : Int32 → Int32 → M2 → Option (Int32 × M2)) (h21 : ∀ (v3 v4 : Int32) (σ : M2), some rv = k21 v3 v4 σ → Bl X 16 21 [(0, .ref b), (1, .ref (adO X)), (2, .ref (adP X)), (3, .int (v3)), (4, .int (v4))] [] σ) (k66 : Int32 → Int32 → Int32 → Int32 → Int32 → Int32 → Int32 → Int32 → M2 → Option (Int32 × M2)) (h66 : ∀ (v3 v4 v5 v6 v7 v8 v9 v10 : Int32) (σ : M2), some rv = k66 v3 v4 v5 v6 v7 v8 v9 v10 σ → Bl X 16 66 [(0, .ref b), (1, .ref (adO X)), (2, .ref (adP X)), (3, .int (v3)), (4, .int (v4)), (5, .int (v5)), (6, .int (v6)), (7, .int (v7)), (8, .int (v8)), (9, .int (v9)), (10, .int (v10))] [] σ) : ∀ (v3 v4 v5 v6 v8 v9 v10 s0 : Int32) (σ : M2), some rv = f_L_law_257 L xs k21 k66 v3 v4 v5 v6 v8 v9 v10 s0 σ → Bl X 16 257 [(0, .ref b), (1, .ref (adO X)), (2, .ref (adP X)), (3, .int (v3)), (4, .int (v4)), (5, .int (v5)), (6, .int (v6)), (8, .int (v8)), (9, .int (v9)), (10, .int (v10))] [.int (s0)] σ := by
  intro v3 v4 v5 v6 v8 v9 v10 s0 σ hf
  unfold f_L_law_257 at hf
  refine l_istore (lv' := [(7, .int (s0)), (0, .ref b), (1, .ref (adO X)), (2, .ref (adP X)), (3, .int (v3)), (4, .int (v4)), (5, .int (v5)), (6, .int (v6)), (8, .int (v8)), (9, .int (v9)), (10, .int (v10))]) C dL_law_257 (by decide) rfl ?_
  refine l_goto C 66 dL_law_259 (by decide) ?_
  refine l_sub [1, 2, 3, 4, 5, 6, 7, 0, 8, 9, 10] rfl ?_
  exact h66 _ _ _ _ _ _ _ _ _ hf
set_option maxHeartbeats 4000000 in
set_option maxRecDepth 100000 in
theorem w_L_law_252 {X : Ctl} {b : Nat} {rv : Int32 × M2} (L : Nat) (xs : Nat → Int32) (C : Cl X b L xs cL_law RL lw_tbl 16 10 380) (hR : Rl X cL_law 16 rv) (k21 : Int32 → Int32 → M2 → Option (Int32 × M2)) (h21 : ∀ (v3 v4 : Int32) (σ : M2), some rv = k21 v3 v4 σ → Bl X 16 21 [(0, .ref b), (1, .ref (adO X)), (2, .ref (adP X)), (3, .int (v3)), (4, .int (v4))] [] σ) (k66 : Int32 → Int32 → Int32 → Int32 → Int32 → Int32 → Int32 → Int32 → M2 → Option (Int32 × M2)) (h66 : ∀ (v3 v4 v5 v6 v7 v8 v9 v10 : Int32) (σ : M2), some rv = k66 v3 v4 v5 v6 v7 v8 v9 v10 σ → Bl X 16 66 [(0, .ref b), (1, .ref (adO X)), (2, .ref (adP X)), (3, .int (v3)), (4, .int (v4)), (5, .int (v5)), (6, .int (v6)), (7, .int (v7)), (8, .int (v8)), (9, .int (v9)), (10, .int (v10))] [] σ) : ∀ (v3 v4 v5 v6 v8 v9 v10 : Int32) (σ : M2), some rv = f_L_law_252 L xs k21 k66 v3 v4 v5 v6 v8 v9 v10 σ → Bl X 16 252 [(0, .ref b), (1, .ref (adO X)), (2, .ref (adP X)), (3, .int (v3)), (4, .int (v4)), (5, .int (v5)), (6, .int (v6)), (8, .int (v8)), (9, .int (v9)), (10, .int (v10))] [] σ := by
  intro v3 v4 v5 v6 v8 v9 v10 σ hf
  unfold f_L_law_252 at hf
  refine l_iconst C (v := 0) dL_law_252 (by decide) ?_
  refine l_goto C 257 dL_law_253 (by decide) ?_
  exact w_L_law_257 L xs C hR k21 h21 k66 h66 _ _ _ _ _ _ _ _ _ hf
set_option maxHeartbeats 4000000 in
set_option maxRecDepth 100000 in
theorem w_L_law_231 {X : Ctl} {b : Nat} {rv : Int32 × M2} (L : Nat) (xs : Nat → Int32) (C : Cl X b L xs cL_law RL lw_tbl 16 10 380) (hR : Rl X cL_law 16 rv) (k21 : Int32 → Int32 → M2 → Option (Int32 × M2)) (h21 : ∀ (v3 v4 : Int32) (σ : M2), some rv = k21 v3 v4 σ → Bl X 16 21 [(0, .ref b), (1, .ref (adO X)), (2, .ref (adP X)), (3, .int (v3)), (4, .int (v4))] [] σ) (k66 : Int32 → Int32 → Int32 → Int32 → Int32 → Int32 → Int32 → Int32 → M2 → Option (Int32 × M2)) (h66 : ∀ (v3 v4 v5 v6 v7 v8 v9 v10 : Int32) (σ : M2), some rv = k66 v3 v4 v5 v6 v7 v8 v9 v10 σ → Bl X 16 66 [(0, .ref b), (1, .ref (adO X)), (2, .ref (adP X)), (3, .int (v3)), (4, .int (v4)), (5, .int (v5)), (6, .int (v6)), (7, .int (v7)), (8, .int (v8)), (9, .int (v9)), (10, .int (v10))] [] σ) : ∀ (v3 v4 v5 v6 v8 v9 v10 v11 : Int32) (σ : M2), some rv = f_L_law_231 L xs k21 k66 v3 v4 v5 v6 v8 v9 v10 v11 σ → Bl X 16 231 [(0, .ref b), (1, .ref (adO X)), (2, .ref (adP X)), (3, .int (v3)), (4, .int (v4)), (5, .int (v5)), (6, .int (v6)), (8, .int (v8)), (9, .int (v9)), (10, .int (v10)), (11, .int (v11))] [] σ := by
  intro v3 v4 v5 v6 v8 v9 v10 v11 σ hf
  unfold f_L_law_231 at hf
  refine l_iload C dL_law_231 10 rfl ?_
  refine l_bipush C (v := 40) dL_law_233 (by decide) ?_
  refine l_icmp_eq C 252 dL_law_235 (by decide) hf (fun hf => ?_) (fun hf => ?_)
  · refine l_sub [0, 1, 2, 3, 4, 5, 6, 7, 8, 9] rfl ?_
    exact w_L_law_252 L xs C hR k21 h21 k66 h66 _ _ _ _ _ _ _ _ hf
  · refine l_iload C dL_law_238 10 rfl ?_
    refine l_bipush C (v := 43) dL_law_240 (by decide) ?_
    refine l_icmp_eq C 252 dL_law_242 (by decide) hf (fun hf => ?_) (fun hf => ?_)
    · refine l_sub [0, 1, 2, 3, 4, 5, 6, 7, 8, 9] rfl ?_
      exact w_L_law_252 L xs C hR k21 h21 k66 h66 _ _ _ _ _ _ _ _ hf
    · refine l_iload C dL_law_245 10 rfl ?_
      refine l_bipush C (v := 124) dL_law_247 (by decide) ?_
      refine l_icmp_ne C 256 dL_law_249 (by decide) hf (fun hf => ?_) (fun hf => ?_)
      · refine l_iconst C (v := 2) dL_law_256 (by decide) ?_
        refine l_sub [0, 1, 2, 3, 4, 5, 6, 7, 8, 9] rfl ?_
        exact w_L_law_257 L xs C hR k21 h21 k66 h66 _ _ _ _ _ _ _ _ _ hf
      · refine l_sub [0, 1, 2, 3, 4, 5, 6, 7, 8, 9] rfl ?_
        exact w_L_law_252 L xs C hR k21 h21 k66 h66 _ _ _ _ _ _ _ _ hf
set_option maxHeartbeats 4000000 in
set_option maxRecDepth 100000 in
theorem w_L_law_210 {X : Ctl} {b : Nat} {rv : Int32 × M2} (L : Nat) (xs : Nat → Int32) (C : Cl X b L xs cL_law RL lw_tbl 16 10 380) (hR : Rl X cL_law 16 rv) (k21 : Int32 → Int32 → M2 → Option (Int32 × M2)) (h21 : ∀ (v3 v4 : Int32) (σ : M2), some rv = k21 v3 v4 σ → Bl X 16 21 [(0, .ref b), (1, .ref (adO X)), (2, .ref (adP X)), (3, .int (v3)), (4, .int (v4))] [] σ) (k66 : Int32 → Int32 → Int32 → Int32 → Int32 → Int32 → Int32 → Int32 → M2 → Option (Int32 × M2)) (h66 : ∀ (v3 v4 v5 v6 v7 v8 v9 v10 : Int32) (σ : M2), some rv = k66 v3 v4 v5 v6 v7 v8 v9 v10 σ → Bl X 16 66 [(0, .ref b), (1, .ref (adO X)), (2, .ref (adP X)), (3, .int (v3)), (4, .int (v4)), (5, .int (v5)), (6, .int (v6)), (7, .int (v7)), (8, .int (v8)), (9, .int (v9)), (10, .int (v10))] [] σ) : ∀ (v3 v4 v5 v6 v9 v10 v11 s0 s1 : Int32) (σ : M2), some rv = f_L_law_210 L xs k21 k66 v3 v4 v5 v6 v9 v10 v11 s0 s1 σ → Bl X 16 210 [(0, .ref b), (1, .ref (adO X)), (2, .ref (adP X)), (3, .int (v3)), (4, .int (v4)), (5, .int (v5)), (6, .int (v6)), (9, .int (v9)), (10, .int (v10)), (11, .int (v11))] [.int (s0), .int (s1)] σ := by
  intro v3 v4 v5 v6 v9 v10 v11 s0 s1 σ hf
  unfold f_L_law_210 at hf
  refine l_iadd C dL_law_210 ?_
  refine l_nv hf (fun y1 hf => ?_)
  refine l_istore (lv' := [(8, .int (y1)), (0, .ref b), (1, .ref (adO X)), (2, .ref (adP X)), (3, .int (v3)), (4, .int (v4)), (5, .int (v5)), (6, .int (v6)), (9, .int (v9)), (10, .int (v10)), (11, .int (v11))]) C dL_law_211 (by decide) rfl ?_
  refine l_iload C dL_law_213 10 rfl ?_
  refine l_bipush C (v := 49) dL_law_215 (by decide) ?_
  refine l_icmp_lt C 231 dL_law_217 (by decide) hf (fun hf => ?_) (fun hf => ?_)
  · refine l_sub [1, 2, 3, 4, 5, 6, 7, 0, 8, 9, 10] rfl ?_
    exact w_L_law_231 L xs C hR k21 h21 k66 h66 _ _ _ _ _ _ _ _ _ hf
  · refine l_iload C dL_law_220 10 rfl ?_
    refine l_bipush C (v := 57) dL_law_222 (by decide) ?_
    refine l_icmp_gt C 231 dL_law_224 (by decide) hf (fun hf => ?_) (fun hf => ?_)
    · refine l_sub [1, 2, 3, 4, 5, 6, 7, 0, 8, 9, 10] rfl ?_
      exact w_L_law_231 L xs C hR k21 h21 k66 h66 _ _ _ _ _ _ _ _ _ hf
    · refine l_iconst C (v := 1) dL_law_227 (by decide) ?_
      refine l_goto C 257 dL_law_228 (by decide) ?_
      refine l_sub [1, 2, 3, 4, 5, 6, 7, 0, 8, 9] rfl ?_
      exact w_L_law_257 L xs C hR k21 h21 k66 h66 _ _ _ _ _ _ _ _ _ hf
set_option maxHeartbeats 4000000 in
set_option maxRecDepth 100000 in
theorem w_L_law_181 {X : Ctl} {b : Nat} {rv : Int32 × M2} (L : Nat) (xs : Nat → Int32) (C : Cl X b L xs cL_law RL lw_tbl 16 10 380) (hR : Rl X cL_law 16 rv) (k21 : Int32 → Int32 → M2 → Option (Int32 × M2)) (h21 : ∀ (v3 v4 : Int32) (σ : M2), some rv = k21 v3 v4 σ → Bl X 16 21 [(0, .ref b), (1, .ref (adO X)), (2, .ref (adP X)), (3, .int (v3)), (4, .int (v4))] [] σ) (k66 : Int32 → Int32 → Int32 → Int32 → Int32 → Int32 → Int32 → Int32 → M2 → Option (Int32 × M2)) (h66 : ∀ (v3 v4 v5 v6 v7 v8 v9 v10 : Int32) (σ : M2), some rv = k66 v3 v4 v5 v6 v7 v8 v9 v10 σ → Bl X 16 66 [(0, .ref b), (1, .ref (adO X)), (2, .ref (adP X)), (3, .int (v3)), (4, .int (v4)), (5, .int (v5)), (6, .int (v6)), (7, .int (v7)), (8, .int (v8)), (9, .int (v9)), (10, .int (v10))] [] σ) : ∀ (v4 v5 v6 v8 v9 v10 v11 s0 : Int32) (σ : M2), some rv = f_L_law_181 L xs k21 k66 v4 v5 v6 v8 v9 v10 v11 s0 σ → Bl X 16 181 [(0, .ref b), (1, .ref (adO X)), (2, .ref (adP X)), (4, .int (v4)), (5, .int (v5)), (6, .int (v6)), (8, .int (v8)), (9, .int (v9)), (10, .int (v10)), (11, .int (v11))] [.int (s0)] σ := by
  intro v4 v5 v6 v8 v9 v10 v11 s0 σ hf
  unfold f_L_law_181 at hf
  refine l_istore_n (lv' := [(3, .int (s0)), (0, .ref b), (1, .ref (adO X)), (2, .ref (adP X)), (4, .int (v4)), (5, .int (v5)), (6, .int (v6)), (8, .int (v8)), (9, .int (v9)), (10, .int (v10)), (11, .int (v11))]) C dL_law_181 rfl (by decide) rfl ?_
  refine l_iinc (v := (v9) + (1)) (lv' := [(9, .int ((v9) + (1))), (3, .int (s0)), (0, .ref b), (1, .ref (adO X)), (2, .ref (adP X)), (4, .int (v4)), (5, .int (v5)), (6, .int (v6)), (8, .int (v8)), (10, .int (v10)), (11, .int (v11))]) C dL_law_182 8 rfl rfl (by decide) rfl ?_
  refine l_iload C dL_law_185 8 rfl ?_
  refine l_iload C dL_law_187 10 rfl ?_
  refine l_bipush C (v := 40) dL_law_189 (by decide) ?_
  refine l_icmp_ne C 198 dL_law_191 (by decide) hf (fun hf => ?_) (fun hf => ?_)
  · refine l_iload C dL_law_198 10 rfl ?_
    refine l_bipush C (v := 41) dL_law_200 (by decide) ?_
    refine l_icmp_ne C 209 dL_law_202 (by decide) hf (fun hf => ?_) (fun hf => ?_)
    · refine l_iconst C (v := 0) dL_law_209 (by decide) ?_
      refine l_sub [2, 3, 4, 1, 5, 6, 7, 0, 9, 10] rfl ?_
      exact w_L_law_210 L xs C hR k21 h21 k66 h66 _ _ _ _ _ _ _ _ _ _ hf
    · refine l_iconst C (v := (-1)) dL_law_205 (by decide) ?_
      refine l_goto C 210 dL_law_206 (by decide) ?_
      refine l_sub [2, 3, 4, 1, 5, 6, 7, 0, 9, 10] rfl ?_
      exact w_L_law_210 L xs C hR k21 h21 k66 h66 _ _ _ _ _ _ _ _ _ _ hf
  · refine l_iconst C (v := 1) dL_law_194 (by decide) ?_
    refine l_goto C 210 dL_law_195 (by decide) ?_
    refine l_sub [2, 3, 4, 1, 5, 6, 7, 0, 9, 10] rfl ?_
    exact w_L_law_210 L xs C hR k21 h21 k66 h66 _ _ _ _ _ _ _ _ _ _ hf
set_option maxHeartbeats 4000000 in
set_option maxRecDepth 100000 in
theorem w_L_law_180 {X : Ctl} {b : Nat} {rv : Int32 × M2} (L : Nat) (xs : Nat → Int32) (C : Cl X b L xs cL_law RL lw_tbl 16 10 380) (hR : Rl X cL_law 16 rv) (k21 : Int32 → Int32 → M2 → Option (Int32 × M2)) (h21 : ∀ (v3 v4 : Int32) (σ : M2), some rv = k21 v3 v4 σ → Bl X 16 21 [(0, .ref b), (1, .ref (adO X)), (2, .ref (adP X)), (3, .int (v3)), (4, .int (v4))] [] σ) (k66 : Int32 → Int32 → Int32 → Int32 → Int32 → Int32 → Int32 → Int32 → M2 → Option (Int32 × M2)) (h66 : ∀ (v3 v4 v5 v6 v7 v8 v9 v10 : Int32) (σ : M2), some rv = k66 v3 v4 v5 v6 v7 v8 v9 v10 σ → Bl X 16 66 [(0, .ref b), (1, .ref (adO X)), (2, .ref (adP X)), (3, .int (v3)), (4, .int (v4)), (5, .int (v5)), (6, .int (v6)), (7, .int (v7)), (8, .int (v8)), (9, .int (v9)), (10, .int (v10))] [] σ) : ∀ (v4 v5 v6 v8 v9 v10 v11 : Int32) (σ : M2), some rv = f_L_law_180 L xs k21 k66 v4 v5 v6 v8 v9 v10 v11 σ → Bl X 16 180 [(0, .ref b), (1, .ref (adO X)), (2, .ref (adP X)), (4, .int (v4)), (5, .int (v5)), (6, .int (v6)), (8, .int (v8)), (9, .int (v9)), (10, .int (v10)), (11, .int (v11))] [] σ := by
  intro v4 v5 v6 v8 v9 v10 v11 σ hf
  unfold f_L_law_180 at hf
  refine l_iconst C (v := 0) dL_law_180 (by decide) ?_
  exact w_L_law_181 L xs C hR k21 h21 k66 h66 _ _ _ _ _ _ _ _ _ hf
set_option maxHeartbeats 4000000 in
set_option maxRecDepth 100000 in
theorem w_L_law_155 {X : Ctl} {b : Nat} {rv : Int32 × M2} (L : Nat) (xs : Nat → Int32) (C : Cl X b L xs cL_law RL lw_tbl 16 10 380) (hR : Rl X cL_law 16 rv) (k21 : Int32 → Int32 → M2 → Option (Int32 × M2)) (h21 : ∀ (v3 v4 : Int32) (σ : M2), some rv = k21 v3 v4 σ → Bl X 16 21 [(0, .ref b), (1, .ref (adO X)), (2, .ref (adP X)), (3, .int (v3)), (4, .int (v4))] [] σ) (k66 : Int32 → Int32 → Int32 → Int32 → Int32 → Int32 → Int32 → Int32 → M2 → Option (Int32 × M2)) (h66 : ∀ (v3 v4 v5 v6 v7 v8 v9 v10 : Int32) (σ : M2), some rv = k66 v3 v4 v5 v6 v7 v8 v9 v10 σ → Bl X 16 66 [(0, .ref b), (1, .ref (adO X)), (2, .ref (adP X)), (3, .int (v3)), (4, .int (v4)), (5, .int (v5)), (6, .int (v6)), (7, .int (v7)), (8, .int (v8)), (9, .int (v9)), (10, .int (v10))] [] σ) : ∀ (v3 v4 v5 v6 v8 v9 v10 s0 : Int32) (σ : M2), some rv = f_L_law_155 L xs k21 k66 v3 v4 v5 v6 v8 v9 v10 s0 σ → Bl X 16 155 [(0, .ref b), (1, .ref (adO X)), (2, .ref (adP X)), (3, .int (v3)), (4, .int (v4)), (5, .int (v5)), (6, .int (v6)), (8, .int (v8)), (9, .int (v9)), (10, .int (v10))] [.int (s0)] σ := by
  intro v3 v4 v5 v6 v8 v9 v10 s0 σ hf
  unfold f_L_law_155 at hf
  refine l_istore (lv' := [(11, .int (s0)), (0, .ref b), (1, .ref (adO X)), (2, .ref (adP X)), (3, .int (v3)), (4, .int (v4)), (5, .int (v5)), (6, .int (v6)), (8, .int (v8)), (9, .int (v9)), (10, .int (v10))]) C dL_law_155 (by decide) rfl ?_
  refine l_iload_n C dL_law_157 rfl 4 rfl ?_
  refine l_if_eq C 180 dL_law_158 (by decide) hf (fun hf => ?_) (fun hf => ?_)
  · refine l_sub [1, 2, 3, 5, 6, 7, 8, 9, 10, 0] rfl ?_
    exact w_L_law_180 L xs C hR k21 h21 k66 h66 _ _ _ _ _ _ _ _ hf
  · refine l_aload_n C dL_law_161 rfl 2 rfl ?_
    refine l_iconst C (v := 1) dL_law_162 (by decide) ?_
    refine l_iload C dL_law_163 0 rfl ?_
    refine l_iconst C (v := 0) dL_law_165 (by decide) ?_
    obtain ⟨y2, τ3, hqy2, hf⟩ := bd2_inv hf
    refine l_callO (n := 4) C (fun G => [.ref (G.1 5), .int (1), .int (s0), .int (0)]) (c_L_does (1) (s0) (0)) hqy2 gT_L_does rfl (by decide +kernel) rfl (by decide) (by decide) (Nat.le_of_ble_eq_true rfl) dL_law_166 ?_
    refine l_iload C dL_law_169 9 rfl ?_
    refine l_iconst C (v := 1) dL_law_171 (by decide) ?_
    refine l_iadd C dL_law_172 ?_
    refine l_icmp_ne C 180 dL_law_173 (by decide) hf (fun hf => ?_) (fun hf => ?_)
    · refine l_sub [1, 2, 3, 5, 6, 7, 8, 9, 10, 0] rfl ?_
      exact w_L_law_180 L xs C hR k21 h21 k66 h66 _ _ _ _ _ _ _ _ hf
    · refine l_iconst C (v := 1) dL_law_176 (by decide) ?_
      refine l_goto C 181 dL_law_177 (by decide) ?_
      refine l_sub [1, 2, 3, 5, 6, 7, 8, 9, 10, 0] rfl ?_
      exact w_L_law_181 L xs C hR k21 h21 k66 h66 _ _ _ _ _ _ _ _ _ hf
set_option maxHeartbeats 4000000 in
set_option maxRecDepth 100000 in
theorem w_L_law_143 {X : Ctl} {b : Nat} {rv : Int32 × M2} (L : Nat) (xs : Nat → Int32) (C : Cl X b L xs cL_law RL lw_tbl 16 10 380) (hR : Rl X cL_law 16 rv) (k21 : Int32 → Int32 → M2 → Option (Int32 × M2)) (h21 : ∀ (v3 v4 : Int32) (σ : M2), some rv = k21 v3 v4 σ → Bl X 16 21 [(0, .ref b), (1, .ref (adO X)), (2, .ref (adP X)), (3, .int (v3)), (4, .int (v4))] [] σ) (k66 : Int32 → Int32 → Int32 → Int32 → Int32 → Int32 → Int32 → Int32 → M2 → Option (Int32 × M2)) (h66 : ∀ (v3 v4 v5 v6 v7 v8 v9 v10 : Int32) (σ : M2), some rv = k66 v3 v4 v5 v6 v7 v8 v9 v10 σ → Bl X 16 66 [(0, .ref b), (1, .ref (adO X)), (2, .ref (adP X)), (3, .int (v3)), (4, .int (v4)), (5, .int (v5)), (6, .int (v6)), (7, .int (v7)), (8, .int (v8)), (9, .int (v9)), (10, .int (v10))] [] σ) : ∀ (v3 v4 v5 v6 v7 v8 v9 v10 : Int32) (σ : M2), some rv = f_L_law_143 L xs k21 k66 v3 v4 v5 v6 v7 v8 v9 v10 σ → Bl X 16 143 [(0, .ref b), (1, .ref (adO X)), (2, .ref (adP X)), (3, .int (v3)), (4, .int (v4)), (5, .int (v5)), (6, .int (v6)), (7, .int (v7)), (8, .int (v8)), (9, .int (v9)), (10, .int (v10))] [] σ := by
  intro v3 v4 v5 v6 v7 v8 v9 v10 σ hf
  unfold f_L_law_143 at hf
  refine l_iload C dL_law_143 7 rfl ?_
  refine l_iload C dL_law_145 8 rfl ?_
  refine l_iload C dL_law_147 10 rfl ?_
  refine l_bipush C (v := 8) dL_law_149 (by decide) ?_
  refine l_idiv C dL_law_151 (by decide) ?_
  obtain ⟨y4, τ5, hqy4, hf⟩ := bd2_inv hf
  refine l_callS (n := 3) C (fun _ => [.int (v7), .int (v8), .int ((v10) / (8))]) (c_L_signFor (v7) (v8) ((v10) / (8))) hqy4 gT_L_signFor rfl (by decide +kernel) rfl (by decide) (by decide) (Nat.le_of_ble_eq_true rfl) dL_law_152 ?_
  refine l_sub [0, 1, 2, 3, 4, 5, 6, 8, 9, 10] rfl ?_
  exact w_L_law_155 L xs C hR k21 h21 k66 h66 _ _ _ _ _ _ _ _ _ hf
set_option maxHeartbeats 4000000 in
set_option maxRecDepth 100000 in
theorem w_L_law_125 {X : Ctl} {b : Nat} {rv : Int32 × M2} (L : Nat) (xs : Nat → Int32) (C : Cl X b L xs cL_law RL lw_tbl 16 10 380) (hR : Rl X cL_law 16 rv) (k21 : Int32 → Int32 → M2 → Option (Int32 × M2)) (h21 : ∀ (v3 v4 : Int32) (σ : M2), some rv = k21 v3 v4 σ → Bl X 16 21 [(0, .ref b), (1, .ref (adO X)), (2, .ref (adP X)), (3, .int (v3)), (4, .int (v4))] [] σ) (k66 : Int32 → Int32 → Int32 → Int32 → Int32 → Int32 → Int32 → Int32 → M2 → Option (Int32 × M2)) (h66 : ∀ (v3 v4 v5 v6 v7 v8 v9 v10 : Int32) (σ : M2), some rv = k66 v3 v4 v5 v6 v7 v8 v9 v10 σ → Bl X 16 66 [(0, .ref b), (1, .ref (adO X)), (2, .ref (adP X)), (3, .int (v3)), (4, .int (v4)), (5, .int (v5)), (6, .int (v6)), (7, .int (v7)), (8, .int (v8)), (9, .int (v9)), (10, .int (v10))] [] σ) : ∀ (v3 v4 v5 v6 v7 v8 v9 v10 : Int32) (σ : M2), some rv = f_L_law_125 L xs k21 k66 v3 v4 v5 v6 v7 v8 v9 v10 σ → Bl X 16 125 [(0, .ref b), (1, .ref (adO X)), (2, .ref (adP X)), (3, .int (v3)), (4, .int (v4)), (5, .int (v5)), (6, .int (v6)), (7, .int (v7)), (8, .int (v8)), (9, .int (v9)), (10, .int (v10))] [] σ := by
  intro v3 v4 v5 v6 v7 v8 v9 v10 σ hf
  unfold f_L_law_125 at hf
  refine l_iload C dL_law_125 9 rfl ?_
  refine l_bipush C (v := 9) dL_law_127 (by decide) ?_
  refine l_icmp_le C 143 dL_law_129 (by decide) hf (fun hf => ?_) (fun hf => ?_)
  · exact w_L_law_143 L xs C hR k21 h21 k66 h66 _ _ _ _ _ _ _ _ _ hf
  · refine l_iload C dL_law_132 7 rfl ?_
    refine l_iconst C (v := 2) dL_law_134 (by decide) ?_
    refine l_icmp_ge C 143 dL_law_135 (by decide) hf (fun hf => ?_) (fun hf => ?_)
    · exact w_L_law_143 L xs C hR k21 h21 k66 h66 _ _ _ _ _ _ _ _ _ hf
    · refine l_bipush C (v := 99) dL_law_138 (by decide) ?_
      refine l_goto C 155 dL_law_140 (by decide) ?_
      refine l_sub [0, 1, 2, 3, 4, 5, 6, 8, 9, 10] rfl ?_
      exact w_L_law_155 L xs C hR k21 h21 k66 h66 _ _ _ _ _ _ _ _ _ hf
set_option maxHeartbeats 4000000 in
set_option maxRecDepth 100000 in
theorem w_L_law_83 {X : Ctl} {b : Nat} {rv : Int32 × M2} (L : Nat) (xs : Nat → Int32) (C : Cl X b L xs cL_law RL lw_tbl 16 10 380) (hR : Rl X cL_law 16 rv) (k21 : Int32 → Int32 → M2 → Option (Int32 × M2)) (h21 : ∀ (v3 v4 : Int32) (σ : M2), some rv = k21 v3 v4 σ → Bl X 16 21 [(0, .ref b), (1, .ref (adO X)), (2, .ref (adP X)), (3, .int (v3)), (4, .int (v4))] [] σ) (k66 : Int32 → Int32 → Int32 → Int32 → Int32 → Int32 → Int32 → Int32 → M2 → Option (Int32 × M2)) (h66 : ∀ (v3 v4 v5 v6 v7 v8 v9 v10 : Int32) (σ : M2), some rv = k66 v3 v4 v5 v6 v7 v8 v9 v10 σ → Bl X 16 66 [(0, .ref b), (1, .ref (adO X)), (2, .ref (adP X)), (3, .int (v3)), (4, .int (v4)), (5, .int (v5)), (6, .int (v6)), (7, .int (v7)), (8, .int (v8)), (9, .int (v9)), (10, .int (v10))] [] σ) : ∀ (v3 v4 v5 v6 v7 v8 v9 v10 : Int32) (σ : M2), some rv = f_L_law_83 L xs k21 k66 v3 v4 v5 v6 v7 v8 v9 v10 σ → Bl X 16 83 [(0, .ref b), (1, .ref (adO X)), (2, .ref (adP X)), (3, .int (v3)), (4, .int (v4)), (5, .int (v5)), (6, .int (v6)), (7, .int (v7)), (8, .int (v8)), (9, .int (v9)), (10, .int (v10))] [] σ := by
  intro v3 v4 v5 v6 v7 v8 v9 v10 σ hf
  unfold f_L_law_83 at hf
  refine l_iload C dL_law_83 10 rfl ?_
  refine l_bipush C (v := 31) dL_law_85 (by decide) ?_
  refine l_imul C dL_law_87 ?_
  refine l_bipush C (v := 7) dL_law_88 (by decide) ?_
  refine l_iload C dL_law_90 4 rfl ?_
  refine l_imul C dL_law_92 ?_
  refine l_iadd C dL_law_93 ?_
  refine l_iload C dL_law_94 9 rfl ?_
  refine l_iadd C dL_law_96 ?_
  refine l_ldc C (v := 1073741823) kL_law_c7 dL_law_97 ?_
  refine l_iand C dL_law_99 ?_
  refine l_nv hf (fun y6 hf => ?_)
  refine l_istore (lv' := [(10, .int (y6)), (0, .ref b), (1, .ref (adO X)), (2, .ref (adP X)), (3, .int (v3)), (4, .int (v4)), (5, .int (v5)), (6, .int (v6)), (7, .int (v7)), (8, .int (v8)), (9, .int (v9))]) C dL_law_100 (by decide) rfl ?_
  refine l_iload C dL_law_102 10 rfl ?_
  refine l_bipush C (v := 9) dL_law_104 (by decide) ?_
  refine l_icmp_le C 125 dL_law_106 (by decide) hf (fun hf => ?_) (fun hf => ?_)
  · refine l_sub [1, 2, 3, 4, 5, 6, 7, 8, 9, 10, 0] rfl ?_
    exact w_L_law_125 L xs C hR k21 h21 k66 h66 _ _ _ _ _ _ _ _ _ hf
  · refine l_iload C dL_law_109 8 rfl ?_
    refine l_iconst C (v := 2) dL_law_111 (by decide) ?_
    refine l_icmp_ne C 125 dL_law_112 (by decide) hf (fun hf => ?_) (fun hf => ?_)
    · refine l_sub [1, 2, 3, 4, 5, 6, 7, 8, 9, 10, 0] rfl ?_
      exact w_L_law_125 L xs C hR k21 h21 k66 h66 _ _ _ _ _ _ _ _ _ hf
    · refine l_iload C dL_law_115 9 rfl ?_
      refine l_if_le C 125 dL_law_117 (by decide) hf (fun hf => ?_) (fun hf => ?_)
      · refine l_sub [1, 2, 3, 4, 5, 6, 7, 8, 9, 10, 0] rfl ?_
        exact w_L_law_125 L xs C hR k21 h21 k66 h66 _ _ _ _ _ _ _ _ _ hf
      · refine l_bipush C (v := 41) dL_law_120 (by decide) ?_
        refine l_goto C 155 dL_law_122 (by decide) ?_
        refine l_sub [1, 2, 3, 4, 5, 6, 7, 9, 10, 0] rfl ?_
        exact w_L_law_155 L xs C hR k21 h21 k66 h66 _ _ _ _ _ _ _ _ _ hf
set_option maxHeartbeats 4000000 in
set_option maxRecDepth 100000 in
theorem w_L_law_660 {X : Ctl} {b : Nat} {rv : Int32 × M2} (L : Nat) (xs : Nat → Int32) (C : Cl X b L xs cL_law RL lw_tbl 16 10 380) (hR : Rl X cL_law 16 rv) (k21 : Int32 → Int32 → M2 → Option (Int32 × M2)) (h21 : ∀ (v3 v4 : Int32) (σ : M2), some rv = k21 v3 v4 σ → Bl X 16 21 [(0, .ref b), (1, .ref (adO X)), (2, .ref (adP X)), (3, .int (v3)), (4, .int (v4))] [] σ) : ∀ (v4 s0 : Int32) (σ : M2), some rv = f_L_law_660 L xs k21 v4 s0 σ → Bl X 16 660 [(0, .ref b), (1, .ref (adO X)), (2, .ref (adP X)), (4, .int (v4))] [.int (s0)] σ := by
  intro v4 s0 σ hf
  unfold f_L_law_660 at hf
  refine l_istore_n (lv' := [(3, .int (s0)), (0, .ref b), (1, .ref (adO X)), (2, .ref (adP X)), (4, .int (v4))]) C dL_law_660 rfl (by decide) rfl ?_
  refine l_iinc (v := (v4) + (1)) (lv' := [(4, .int ((v4) + (1))), (3, .int (s0)), (0, .ref b), (1, .ref (adO X)), (2, .ref (adP X))]) C dL_law_661 4 rfl rfl (by decide) rfl ?_
  refine l_goto C 21 dL_law_664 (by decide) ?_
  refine l_sub [2, 3, 4, 1, 0] rfl ?_
  exact h21 _ _ _ hf
set_option maxHeartbeats 4000000 in
set_option maxRecDepth 100000 in
theorem w_L_law_659 {X : Ctl} {b : Nat} {rv : Int32 × M2} (L : Nat) (xs : Nat → Int32) (C : Cl X b L xs cL_law RL lw_tbl 16 10 380) (hR : Rl X cL_law 16 rv) (k21 : Int32 → Int32 → M2 → Option (Int32 × M2)) (h21 : ∀ (v3 v4 : Int32) (σ : M2), some rv = k21 v3 v4 σ → Bl X 16 21 [(0, .ref b), (1, .ref (adO X)), (2, .ref (adP X)), (3, .int (v3)), (4, .int (v4))] [] σ) : ∀ (v4 : Int32) (σ : M2), some rv = f_L_law_659 L xs k21 v4 σ → Bl X 16 659 [(0, .ref b), (1, .ref (adO X)), (2, .ref (adP X)), (4, .int (v4))] [] σ := by
  intro v4 σ hf
  unfold f_L_law_659 at hf
  refine l_iconst C (v := 0) dL_law_659 (by decide) ?_
  exact w_L_law_660 L xs C hR k21 h21 _ _ _ hf
set_option maxHeartbeats 4000000 in
set_option maxRecDepth 100000 in
theorem w_L_law_630 {X : Ctl} {b : Nat} {rv : Int32 × M2} (L : Nat) (xs : Nat → Int32) (C : Cl X b L xs cL_law RL lw_tbl 16 10 380) (hR : Rl X cL_law 16 rv) (k21 : Int32 → Int32 → M2 → Option (Int32 × M2)) (h21 : ∀ (v3 v4 : Int32) (σ : M2), some rv = k21 v3 v4 σ → Bl X 16 21 [(0, .ref b), (1, .ref (adO X)), (2, .ref (adP X)), (3, .int (v3)), (4, .int (v4))] [] σ) : ∀ (v3 v4 v5 : Int32) (σ : M2), some rv = f_L_law_630 L xs k21 v3 v4 v5 σ → Bl X 16 630 [(0, .ref b), (1, .ref (adO X)), (2, .ref (adP X)), (3, .int (v3)), (4, .int (v4)), (5, .int (v5))] [] σ := by
  intro v3 v4 v5 σ hf
  unfold f_L_law_630 at hf
  refine l_iload_n C dL_law_630 rfl 3 rfl ?_
  refine l_if_eq C 659 dL_law_631 (by decide) hf (fun hf => ?_) (fun hf => ?_)
  · refine l_sub [0, 1, 2, 4] rfl ?_
    exact w_L_law_659 L xs C hR k21 h21 _ _ hf
  · refine l_aload_n C dL_law_634 rfl 1 rfl ?_
    refine l_bipush C (v := 9) dL_law_635 (by decide) ?_
    refine l_iload C dL_law_637 5 rfl ?_
    refine l_iconst C (v := 0) dL_law_639 (by decide) ?_
    obtain ⟨y7, τ8, hqy7, hf⟩ := bd2_inv hf
    refine l_callO (n := 4) C (fun G => [.ref (G.1 5), .int (9), .int (v5), .int (0)]) (c_L_does (9) (v5) (0)) hqy7 gT_L_does rfl (by decide +kernel) rfl (by decide) (by decide) (Nat.le_of_ble_eq_true rfl) dL_law_640 ?_
    refine l_aload_n C dL_law_643 rfl 2 rfl ?_
    refine l_bipush C (v := 9) dL_law_644 (by decide) ?_
    refine l_iload C dL_law_646 5 rfl ?_
    refine l_iconst C (v := 0) dL_law_648 (by decide) ?_
    obtain ⟨y9, τ10, hqy9, hf⟩ := bd2_inv hf
    refine l_callP (n := 4) C (fun G => [.ref (G.1 5), .int (9), .int (v5), .int (0)]) (c_L_does (9) (v5) (0)) hqy9 gT_L_does rfl (by decide +kernel) rfl (by decide) (by decide) (Nat.le_of_ble_eq_true rfl) dL_law_649 ?_
    refine l_icmp_ne C 659 dL_law_652 (by decide) hf (fun hf => ?_) (fun hf => ?_)
    · refine l_sub [0, 1, 2, 4] rfl ?_
      exact w_L_law_659 L xs C hR k21 h21 _ _ hf
    · refine l_iconst C (v := 1) dL_law_655 (by decide) ?_
      refine l_goto C 660 dL_law_656 (by decide) ?_
      refine l_sub [0, 1, 2, 4] rfl ?_
      exact w_L_law_660 L xs C hR k21 h21 _ _ _ hf
set_option maxHeartbeats 4000000 in
set_option maxRecDepth 100000 in
theorem w_L_law_623 {X : Ctl} {b : Nat} {rv : Int32 × M2} (L : Nat) (xs : Nat → Int32) (C : Cl X b L xs cL_law RL lw_tbl 16 10 380) (hR : Rl X cL_law 16 rv) (k21 : Int32 → Int32 → M2 → Option (Int32 × M2)) (h21 : ∀ (v3 v4 : Int32) (σ : M2), some rv = k21 v3 v4 σ → Bl X 16 21 [(0, .ref b), (1, .ref (adO X)), (2, .ref (adP X)), (3, .int (v3)), (4, .int (v4))] [] σ) (k545 : Int32 → Int32 → Int32 → Int32 → Int32 → M2 → Option (Int32 × M2)) (h545 : ∀ (v3 v4 v5 v12 v14 : Int32) (σ : M2), some rv = k545 v3 v4 v5 v12 v14 σ → Bl X 16 545 [(0, .ref b), (1, .ref (adO X)), (2, .ref (adP X)), (3, .int (v3)), (4, .int (v4)), (5, .int (v5)), (12, .int (v12)), (14, .int (v14))] [] σ) : ∀ (v4 v5 v12 v14 s0 : Int32) (σ : M2), some rv = f_L_law_623 L xs k21 k545 v4 v5 v12 v14 s0 σ → Bl X 16 623 [(0, .ref b), (1, .ref (adO X)), (2, .ref (adP X)), (4, .int (v4)), (5, .int (v5)), (12, .int (v12)), (14, .int (v14))] [.int (s0)] σ := by
  intro v4 v5 v12 v14 s0 σ hf
  unfold f_L_law_623 at hf
  refine l_istore_n (lv' := [(3, .int (s0)), (0, .ref b), (1, .ref (adO X)), (2, .ref (adP X)), (4, .int (v4)), (5, .int (v5)), (12, .int (v12)), (14, .int (v14))]) C dL_law_623 rfl (by decide) rfl ?_
  refine l_iinc (v := (v14) + (1)) (lv' := [(14, .int ((v14) + (1))), (3, .int (s0)), (0, .ref b), (1, .ref (adO X)), (2, .ref (adP X)), (4, .int (v4)), (5, .int (v5)), (12, .int (v12))]) C dL_law_624 7 rfl rfl (by decide) rfl ?_
  refine l_goto C 545 dL_law_627 (by decide) ?_
  refine l_sub [2, 3, 4, 1, 5, 6, 7, 0] rfl ?_
  exact h545 _ _ _ _ _ _ hf
set_option maxHeartbeats 4000000 in
set_option maxRecDepth 100000 in
theorem w_L_law_622 {X : Ctl} {b : Nat} {rv : Int32 × M2} (L : Nat) (xs : Nat → Int32) (C : Cl X b L xs cL_law RL lw_tbl 16 10 380) (hR : Rl X cL_law 16 rv) (k21 : Int32 → Int32 → M2 → Option (Int32 × M2)) (h21 : ∀ (v3 v4 : Int32) (σ : M2), some rv = k21 v3 v4 σ → Bl X 16 21 [(0, .ref b), (1, .ref (adO X)), (2, .ref (adP X)), (3, .int (v3)), (4, .int (v4))] [] σ) (k545 : Int32 → Int32 → Int32 → Int32 → Int32 → M2 → Option (Int32 × M2)) (h545 : ∀ (v3 v4 v5 v12 v14 : Int32) (σ : M2), some rv = k545 v3 v4 v5 v12 v14 σ → Bl X 16 545 [(0, .ref b), (1, .ref (adO X)), (2, .ref (adP X)), (3, .int (v3)), (4, .int (v4)), (5, .int (v5)), (12, .int (v12)), (14, .int (v14))] [] σ) : ∀ (v4 v5 v12 v14 : Int32) (σ : M2), some rv = f_L_law_622 L xs k21 k545 v4 v5 v12 v14 σ → Bl X 16 622 [(0, .ref b), (1, .ref (adO X)), (2, .ref (adP X)), (4, .int (v4)), (5, .int (v5)), (12, .int (v12)), (14, .int (v14))] [] σ := by
  intro v4 v5 v12 v14 σ hf
  unfold f_L_law_622 at hf
  refine l_iconst C (v := 0) dL_law_622 (by decide) ?_
  exact w_L_law_623 L xs C hR k21 h21 k545 h545 _ _ _ _ _ _ hf
set_option maxHeartbeats 4000000 in
set_option maxRecDepth 100000 in
theorem w_L_law_545 {X : Ctl} {b : Nat} {rv : Int32 × M2} (L : Nat) (xs : Nat → Int32) (C : Cl X b L xs cL_law RL lw_tbl 16 10 380) (hR : Rl X cL_law 16 rv) (k21 : Int32 → Int32 → M2 → Option (Int32 × M2)) (h21 : ∀ (v3 v4 : Int32) (σ : M2), some rv = k21 v3 v4 σ → Bl X 16 21 [(0, .ref b), (1, .ref (adO X)), (2, .ref (adP X)), (3, .int (v3)), (4, .int (v4))] [] σ) : ∀ (n : Nat) (v3 v4 v5 v12 v14 : Int32) (σ : M2), some rv = f_L_law_545 L xs k21 n v3 v4 v5 v12 v14 σ → Bl X 16 545 [(0, .ref b), (1, .ref (adO X)), (2, .ref (adP X)), (3, .int (v3)), (4, .int (v4)), (5, .int (v5)), (12, .int (v12)), (14, .int (v14))] [] σ := by
  intro n
  induction n with
  | zero =>
    intro v3 v4 v5 v12 v14 σ hf
    rw [f_L_law_545] at hf
    cases hf
  | succ n ih =>
    intro v3 v4 v5 v12 v14 σ hf
    rw [f_L_law_545] at hf
    refine l_iload C dL_law_545 7 rfl ?_
    refine l_bipush C (v := 24) dL_law_547 (by decide) ?_
    refine l_icmp_ge C 630 dL_law_549 (by decide) hf (fun hf => ?_) (fun hf => ?_)
    · refine l_sub [0, 1, 2, 3, 4, 5] rfl ?_
      exact w_L_law_630 L xs C hR k21 h21 _ _ _ _ hf
    · refine l_iload_n C dL_law_552 rfl 3 rfl ?_
      refine l_if_eq C 630 dL_law_553 (by decide) hf (fun hf => ?_) (fun hf => ?_)
      · refine l_sub [0, 1, 2, 3, 4, 5] rfl ?_
        exact w_L_law_630 L xs C hR k21 h21 _ _ _ _ hf
      · refine l_aload_n C dL_law_556 rfl 0 rfl ?_
        refine l_iload C dL_law_557 4 rfl ?_
        refine l_iload C dL_law_559 7 rfl ?_
        refine l_iadd C dL_law_561 ?_
        obtain ⟨hz, hf⟩ := gd_inv hf
        refine l_drawn C (of_decide_eq_true hz) gT_L_drawn (by decide) (by decide) (Nat.le_of_ble_eq_true rfl) dL_law_562 ?_
        refine l_bipush C (v := 64) dL_law_565 (by decide) ?_
        refine l_idiv C dL_law_567 (by decide) ?_
        refine l_bipush C (v := 41) dL_law_568 (by decide) ?_
        refine l_iload C dL_law_570 7 rfl ?_
        refine l_imul C dL_law_572 ?_
        refine l_iadd C dL_law_573 ?_
        refine l_sipush C (v := 256) dL_law_574 (by decide) ?_
        refine l_irem C dL_law_577 (by decide) ?_
        refine l_nv hf (fun y11 hf => ?_)
        refine l_istore (lv' := [(15, .int (y11)), (0, .ref b), (1, .ref (adO X)), (2, .ref (adP X)), (3, .int (v3)), (4, .int (v4)), (5, .int (v5)), (12, .int (v12)), (14, .int (v14))]) C dL_law_578 (by decide) rfl ?_
        refine l_aload_n C dL_law_580 rfl 3 rfl ?_
        refine l_iload C dL_law_581 6 rfl ?_
        refine l_iload C dL_law_583 7 rfl ?_
        refine l_iload C dL_law_585 0 rfl ?_
        obtain ⟨y12, τ13, hqy12, hf⟩ := bd2_inv hf
        refine l_callP (n := 4) C (fun G => [.ref (G.1 5), .int (v5), .int (v12), .int (y11)]) (c_L_markOf (v5) (v12) (y11)) hqy12 gT_L_markOf rfl (by decide +kernel) rfl (by decide) (by decide) (Nat.le_of_ble_eq_true rfl) dL_law_587 ?_
        refine l_aload_n C dL_law_590 rfl 2 rfl ?_
        refine l_iload C dL_law_591 6 rfl ?_
        refine l_iload C dL_law_593 7 rfl ?_
        refine l_iload C dL_law_595 0 rfl ?_
        obtain ⟨y14, τ15, hqy14, hf⟩ := bd2_inv hf
        refine l_callO (n := 4) C (fun G => [.ref (G.1 5), .int (v5), .int (v12), .int (y11)]) (c_L_markOf (v5) (v12) (y11)) hqy14 gT_L_markOf rfl (by decide +kernel) rfl (by decide) (by decide) (Nat.le_of_ble_eq_true rfl) dL_law_597 ?_
        refine l_icmp_ne C 622 dL_law_600 (by decide) hf (fun hf => ?_) (fun hf => ?_)
        · refine l_sub [1, 2, 3, 5, 6, 7, 8] rfl ?_
          exact w_L_law_622 L xs C hR k21 h21 (f_L_law_545 L xs k21 n) ih _ _ _ _ _ hf
        · refine l_aload_n C dL_law_603 rfl 2 rfl ?_
          refine l_iload C dL_law_604 6 rfl ?_
          refine l_iload C dL_law_606 7 rfl ?_
          refine l_iload C dL_law_608 0 rfl ?_
          obtain ⟨y16, τ17, hqy16, hf⟩ := bd2_inv hf
          refine l_callO (n := 4) C (fun G => [.ref (G.1 5), .int (v5), .int (v12), .int (y11)]) (c_L_markOf (v5) (v12) (y11)) hqy16 gT_L_markOf rfl (by decide +kernel) rfl (by decide) (by decide) (Nat.le_of_ble_eq_true rfl) dL_law_610 ?_
          refine l_bipush C (v := 99) dL_law_613 (by decide) ?_
          refine l_icmp_gt C 622 dL_law_615 (by decide) hf (fun hf => ?_) (fun hf => ?_)
          · refine l_sub [1, 2, 3, 5, 6, 7, 8] rfl ?_
            exact w_L_law_622 L xs C hR k21 h21 (f_L_law_545 L xs k21 n) ih _ _ _ _ _ hf
          · refine l_iconst C (v := 1) dL_law_618 (by decide) ?_
            refine l_goto C 623 dL_law_619 (by decide) ?_
            refine l_sub [1, 2, 3, 5, 6, 7, 8] rfl ?_
            exact w_L_law_623 L xs C hR k21 h21 (f_L_law_545 L xs k21 n) ih _ _ _ _ _ _ hf
set_option maxHeartbeats 4000000 in
set_option maxRecDepth 100000 in
theorem w_L_law_542 {X : Ctl} {b : Nat} {rv : Int32 × M2} (L : Nat) (xs : Nat → Int32) (C : Cl X b L xs cL_law RL lw_tbl 16 10 380) (hR : Rl X cL_law 16 rv) (k21 : Int32 → Int32 → M2 → Option (Int32 × M2)) (h21 : ∀ (v3 v4 : Int32) (σ : M2), some rv = k21 v3 v4 σ → Bl X 16 21 [(0, .ref b), (1, .ref (adO X)), (2, .ref (adP X)), (3, .int (v3)), (4, .int (v4))] [] σ) : ∀ (v3 v4 v5 v12 : Int32) (σ : M2), some rv = f_L_law_542 L xs k21 v3 v4 v5 v12 σ → Bl X 16 542 [(0, .ref b), (1, .ref (adO X)), (2, .ref (adP X)), (3, .int (v3)), (4, .int (v4)), (5, .int (v5)), (12, .int (v12))] [] σ := by
  intro v3 v4 v5 v12 σ hf
  unfold f_L_law_542 at hf
  refine l_iconst C (v := 0) dL_law_542 (by decide) ?_
  refine l_istore (lv' := [(14, .int (0)), (0, .ref b), (1, .ref (adO X)), (2, .ref (adP X)), (3, .int (v3)), (4, .int (v4)), (5, .int (v5)), (12, .int (v12))]) C dL_law_543 (by decide) rfl ?_
  refine l_sub [1, 2, 3, 4, 5, 6, 7, 0] rfl ?_
  exact w_L_law_545 L xs C hR k21 h21 FUEL _ _ _ _ _ _ hf
set_option maxHeartbeats 4000000 in
set_option maxRecDepth 100000 in
theorem w_L_law_535 {X : Ctl} {b : Nat} {rv : Int32 × M2} (L : Nat) (xs : Nat → Int32) (C : Cl X b L xs cL_law RL lw_tbl 16 10 380) (hR : Rl X cL_law 16 rv) (k21 : Int32 → Int32 → M2 → Option (Int32 × M2)) (h21 : ∀ (v3 v4 : Int32) (σ : M2), some rv = k21 v3 v4 σ → Bl X 16 21 [(0, .ref b), (1, .ref (adO X)), (2, .ref (adP X)), (3, .int (v3)), (4, .int (v4))] [] σ) (k496 : Int32 → Int32 → Int32 → Int32 → Int32 → Int32 → M2 → Option (Int32 × M2)) (h496 : ∀ (v3 v4 v5 v12 v13 v14 : Int32) (σ : M2), some rv = k496 v3 v4 v5 v12 v13 v14 σ → Bl X 16 496 [(0, .ref b), (1, .ref (adO X)), (2, .ref (adP X)), (3, .int (v3)), (4, .int (v4)), (5, .int (v5)), (12, .int (v12)), (13, .int (v13)), (14, .int (v14))] [] σ) : ∀ (v4 v5 v12 v13 v14 s0 : Int32) (σ : M2), some rv = f_L_law_535 L xs k21 k496 v4 v5 v12 v13 v14 s0 σ → Bl X 16 535 [(0, .ref b), (1, .ref (adO X)), (2, .ref (adP X)), (4, .int (v4)), (5, .int (v5)), (12, .int (v12)), (13, .int (v13)), (14, .int (v14))] [.int (s0)] σ := by
  intro v4 v5 v12 v13 v14 s0 σ hf
  unfold f_L_law_535 at hf
  refine l_istore_n (lv' := [(3, .int (s0)), (0, .ref b), (1, .ref (adO X)), (2, .ref (adP X)), (4, .int (v4)), (5, .int (v5)), (12, .int (v12)), (13, .int (v13)), (14, .int (v14))]) C dL_law_535 rfl (by decide) rfl ?_
  refine l_iinc (v := (v14) + (1)) (lv' := [(14, .int ((v14) + (1))), (3, .int (s0)), (0, .ref b), (1, .ref (adO X)), (2, .ref (adP X)), (4, .int (v4)), (5, .int (v5)), (12, .int (v12)), (13, .int (v13))]) C dL_law_536 8 rfl rfl (by decide) rfl ?_
  refine l_goto C 496 dL_law_539 (by decide) ?_
  refine l_sub [2, 3, 4, 1, 5, 6, 7, 8, 0] rfl ?_
  exact h496 _ _ _ _ _ _ _ hf
set_option maxHeartbeats 4000000 in
set_option maxRecDepth 100000 in
theorem w_L_law_496 {X : Ctl} {b : Nat} {rv : Int32 × M2} (L : Nat) (xs : Nat → Int32) (C : Cl X b L xs cL_law RL lw_tbl 16 10 380) (hR : Rl X cL_law 16 rv) (k21 : Int32 → Int32 → M2 → Option (Int32 × M2)) (h21 : ∀ (v3 v4 : Int32) (σ : M2), some rv = k21 v3 v4 σ → Bl X 16 21 [(0, .ref b), (1, .ref (adO X)), (2, .ref (adP X)), (3, .int (v3)), (4, .int (v4))] [] σ) : ∀ (n : Nat) (v3 v4 v5 v12 v13 v14 : Int32) (σ : M2), some rv = f_L_law_496 L xs k21 n v3 v4 v5 v12 v13 v14 σ → Bl X 16 496 [(0, .ref b), (1, .ref (adO X)), (2, .ref (adP X)), (3, .int (v3)), (4, .int (v4)), (5, .int (v5)), (12, .int (v12)), (13, .int (v13)), (14, .int (v14))] [] σ := by
  intro n
  induction n with
  | zero =>
    intro v3 v4 v5 v12 v13 v14 σ hf
    rw [f_L_law_496] at hf
    cases hf
  | succ n ih =>
    intro v3 v4 v5 v12 v13 v14 σ hf
    rw [f_L_law_496] at hf
    refine l_iload C dL_law_496 8 rfl ?_
    refine l_iload C dL_law_498 7 rfl ?_
    refine l_icmp_gt C 542 dL_law_500 (by decide) hf (fun hf => ?_) (fun hf => ?_)
    · refine l_sub [0, 1, 2, 3, 4, 5, 6] rfl ?_
      exact w_L_law_542 L xs C hR k21 h21 _ _ _ _ _ hf
    · refine l_iload_n C dL_law_503 rfl 3 rfl ?_
      refine l_if_eq C 542 dL_law_504 (by decide) hf (fun hf => ?_) (fun hf => ?_)
      · refine l_sub [0, 1, 2, 3, 4, 5, 6] rfl ?_
        exact w_L_law_542 L xs C hR k21 h21 _ _ _ _ _ hf
      · refine l_aload_n C dL_law_507 rfl 2 rfl ?_
        refine l_iload C dL_law_508 5 rfl ?_
        refine l_iload C dL_law_510 6 rfl ?_
        refine l_iload C dL_law_512 8 rfl ?_
        obtain ⟨y18, τ19, hqy18, hf⟩ := bd2_inv hf
        refine l_callP (n := 4) C (fun G => [.ref (G.1 5), .int (v5), .int (v12), .int (v14)]) (c_L_written (v5) (v12) (v14)) hqy18 gT_L_written rfl (by decide +kernel) rfl (by decide) (by decide) (Nat.le_of_ble_eq_true rfl) dL_law_514 ?_
        refine l_aload_n C dL_law_517 rfl 1 rfl ?_
        refine l_iload C dL_law_518 5 rfl ?_
        refine l_iload C dL_law_520 6 rfl ?_
        refine l_iload C dL_law_522 8 rfl ?_
        obtain ⟨y20, τ21, hqy20, hf⟩ := bd2_inv hf
        refine l_callO (n := 4) C (fun G => [.ref (G.1 5), .int (v5), .int (v12), .int (v14)]) (c_L_written (v5) (v12) (v14)) hqy20 gT_L_written rfl (by decide +kernel) rfl (by decide) (by decide) (Nat.le_of_ble_eq_true rfl) dL_law_524 ?_
        refine l_icmp_ne C 534 dL_law_527 (by decide) hf (fun hf => ?_) (fun hf => ?_)
        · refine l_iconst C (v := 0) dL_law_534 (by decide) ?_
          refine l_sub [0, 1, 2, 4, 5, 6, 7, 8] rfl ?_
          exact w_L_law_535 L xs C hR k21 h21 (f_L_law_496 L xs k21 n) ih _ _ _ _ _ _ _ hf
        · refine l_iconst C (v := 1) dL_law_530 (by decide) ?_
          refine l_goto C 535 dL_law_531 (by decide) ?_
          refine l_sub [0, 1, 2, 4, 5, 6, 7, 8] rfl ?_
          exact w_L_law_535 L xs C hR k21 h21 (f_L_law_496 L xs k21 n) ih _ _ _ _ _ _ _ hf
set_option maxHeartbeats 4000000 in
set_option maxRecDepth 100000 in
theorem w_L_law_492 {X : Ctl} {b : Nat} {rv : Int32 × M2} (L : Nat) (xs : Nat → Int32) (C : Cl X b L xs cL_law RL lw_tbl 16 10 380) (hR : Rl X cL_law 16 rv) (k21 : Int32 → Int32 → M2 → Option (Int32 × M2)) (h21 : ∀ (v3 v4 : Int32) (σ : M2), some rv = k21 v3 v4 σ → Bl X 16 21 [(0, .ref b), (1, .ref (adO X)), (2, .ref (adP X)), (3, .int (v3)), (4, .int (v4))] [] σ) : ∀ (v4 v5 v12 v13 s0 : Int32) (σ : M2), some rv = f_L_law_492 L xs k21 v4 v5 v12 v13 s0 σ → Bl X 16 492 [(0, .ref b), (1, .ref (adO X)), (2, .ref (adP X)), (4, .int (v4)), (5, .int (v5)), (12, .int (v12)), (13, .int (v13))] [.int (s0)] σ := by
  intro v4 v5 v12 v13 s0 σ hf
  unfold f_L_law_492 at hf
  refine l_istore_n (lv' := [(3, .int (s0)), (0, .ref b), (1, .ref (adO X)), (2, .ref (adP X)), (4, .int (v4)), (5, .int (v5)), (12, .int (v12)), (13, .int (v13))]) C dL_law_492 rfl (by decide) rfl ?_
  refine l_iconst C (v := 0) dL_law_493 (by decide) ?_
  refine l_istore (lv' := [(14, .int (0)), (3, .int (s0)), (0, .ref b), (1, .ref (adO X)), (2, .ref (adP X)), (4, .int (v4)), (5, .int (v5)), (12, .int (v12)), (13, .int (v13))]) C dL_law_494 (by decide) rfl ?_
  refine l_sub [2, 3, 4, 1, 5, 6, 7, 8, 0] rfl ?_
  exact w_L_law_496 L xs C hR k21 h21 FUEL _ _ _ _ _ _ _ hf
set_option maxHeartbeats 4000000 in
set_option maxRecDepth 100000 in
theorem w_L_law_491 {X : Ctl} {b : Nat} {rv : Int32 × M2} (L : Nat) (xs : Nat → Int32) (C : Cl X b L xs cL_law RL lw_tbl 16 10 380) (hR : Rl X cL_law 16 rv) (k21 : Int32 → Int32 → M2 → Option (Int32 × M2)) (h21 : ∀ (v3 v4 : Int32) (σ : M2), some rv = k21 v3 v4 σ → Bl X 16 21 [(0, .ref b), (1, .ref (adO X)), (2, .ref (adP X)), (3, .int (v3)), (4, .int (v4))] [] σ) : ∀ (v4 v5 v12 v13 : Int32) (σ : M2), some rv = f_L_law_491 L xs k21 v4 v5 v12 v13 σ → Bl X 16 491 [(0, .ref b), (1, .ref (adO X)), (2, .ref (adP X)), (4, .int (v4)), (5, .int (v5)), (12, .int (v12)), (13, .int (v13))] [] σ := by
  intro v4 v5 v12 v13 σ hf
  unfold f_L_law_491 at hf
  refine l_iconst C (v := 0) dL_law_491 (by decide) ?_
  exact w_L_law_492 L xs C hR k21 h21 _ _ _ _ _ _ hf
set_option maxHeartbeats 4000000 in
set_option maxRecDepth 100000 in
theorem w_L_law_470 {X : Ctl} {b : Nat} {rv : Int32 × M2} (L : Nat) (xs : Nat → Int32) (C : Cl X b L xs cL_law RL lw_tbl 16 10 380) (hR : Rl X cL_law 16 rv) (k21 : Int32 → Int32 → M2 → Option (Int32 × M2)) (h21 : ∀ (v3 v4 : Int32) (σ : M2), some rv = k21 v3 v4 σ → Bl X 16 21 [(0, .ref b), (1, .ref (adO X)), (2, .ref (adP X)), (3, .int (v3)), (4, .int (v4))] [] σ) : ∀ (v3 v4 v5 v12 v13 : Int32) (σ : M2), some rv = f_L_law_470 L xs k21 v3 v4 v5 v12 v13 σ → Bl X 16 470 [(0, .ref b), (1, .ref (adO X)), (2, .ref (adP X)), (3, .int (v3)), (4, .int (v4)), (5, .int (v5)), (12, .int (v12)), (13, .int (v13))] [] σ := by
  intro v3 v4 v5 v12 v13 σ hf
  unfold f_L_law_470 at hf
  refine l_iload_n C dL_law_470 rfl 3 rfl ?_
  refine l_if_eq C 491 dL_law_471 (by decide) hf (fun hf => ?_) (fun hf => ?_)
  · refine l_sub [0, 1, 2, 4, 5, 6, 7] rfl ?_
    exact w_L_law_491 L xs C hR k21 h21 _ _ _ _ _ hf
  · refine l_aload_n C dL_law_474 rfl 2 rfl ?_
    refine l_iconst C (v := 2) dL_law_475 (by decide) ?_
    refine l_iload C dL_law_476 5 rfl ?_
    refine l_iconst C (v := 0) dL_law_478 (by decide) ?_
    obtain ⟨y22, τ23, hqy22, hf⟩ := bd2_inv hf
    refine l_callP (n := 4) C (fun G => [.ref (G.1 5), .int (2), .int (v5), .int (0)]) (c_L_does (2) (v5) (0)) hqy22 gT_L_does rfl (by decide +kernel) rfl (by decide) (by decide) (Nat.le_of_ble_eq_true rfl) dL_law_479 ?_
    refine l_iload C dL_law_482 6 rfl ?_
    refine l_icmp_ne C 491 dL_law_484 (by decide) hf (fun hf => ?_) (fun hf => ?_)
    · refine l_sub [0, 1, 2, 4, 5, 6, 7] rfl ?_
      exact w_L_law_491 L xs C hR k21 h21 _ _ _ _ _ hf
    · refine l_iconst C (v := 1) dL_law_487 (by decide) ?_
      refine l_goto C 492 dL_law_488 (by decide) ?_
      refine l_sub [0, 1, 2, 4, 5, 6, 7] rfl ?_
      exact w_L_law_492 L xs C hR k21 h21 _ _ _ _ _ _ hf
set_option maxHeartbeats 4000000 in
set_option maxRecDepth 100000 in
theorem w_L_law_463 {X : Ctl} {b : Nat} {rv : Int32 × M2} (L : Nat) (xs : Nat → Int32) (C : Cl X b L xs cL_law RL lw_tbl 16 10 380) (hR : Rl X cL_law 16 rv) (k21 : Int32 → Int32 → M2 → Option (Int32 × M2)) (h21 : ∀ (v3 v4 : Int32) (σ : M2), some rv = k21 v3 v4 σ → Bl X 16 21 [(0, .ref b), (1, .ref (adO X)), (2, .ref (adP X)), (3, .int (v3)), (4, .int (v4))] [] σ) (k418 : Int32 → Int32 → Int32 → Int32 → Int32 → M2 → Option (Int32 × M2)) (h418 : ∀ (v3 v4 v5 v12 v13 : Int32) (σ : M2), some rv = k418 v3 v4 v5 v12 v13 σ → Bl X 16 418 [(0, .ref b), (1, .ref (adO X)), (2, .ref (adP X)), (3, .int (v3)), (4, .int (v4)), (5, .int (v5)), (12, .int (v12)), (13, .int (v13))] [] σ) : ∀ (v4 v5 v12 v13 s0 : Int32) (σ : M2), some rv = f_L_law_463 L xs k21 k418 v4 v5 v12 v13 s0 σ → Bl X 16 463 [(0, .ref b), (1, .ref (adO X)), (2, .ref (adP X)), (4, .int (v4)), (5, .int (v5)), (12, .int (v12)), (13, .int (v13))] [.int (s0)] σ := by
  intro v4 v5 v12 v13 s0 σ hf
  unfold f_L_law_463 at hf
  refine l_istore_n (lv' := [(3, .int (s0)), (0, .ref b), (1, .ref (adO X)), (2, .ref (adP X)), (4, .int (v4)), (5, .int (v5)), (12, .int (v12)), (13, .int (v13))]) C dL_law_463 rfl (by decide) rfl ?_
  refine l_iinc (v := (v13) + (1)) (lv' := [(13, .int ((v13) + (1))), (3, .int (s0)), (0, .ref b), (1, .ref (adO X)), (2, .ref (adP X)), (4, .int (v4)), (5, .int (v5)), (12, .int (v12))]) C dL_law_464 7 rfl rfl (by decide) rfl ?_
  refine l_goto C 418 dL_law_467 (by decide) ?_
  refine l_sub [2, 3, 4, 1, 5, 6, 7, 0] rfl ?_
  exact h418 _ _ _ _ _ _ hf
set_option maxHeartbeats 4000000 in
set_option maxRecDepth 100000 in
theorem w_L_law_418 {X : Ctl} {b : Nat} {rv : Int32 × M2} (L : Nat) (xs : Nat → Int32) (C : Cl X b L xs cL_law RL lw_tbl 16 10 380) (hR : Rl X cL_law 16 rv) (k21 : Int32 → Int32 → M2 → Option (Int32 × M2)) (h21 : ∀ (v3 v4 : Int32) (σ : M2), some rv = k21 v3 v4 σ → Bl X 16 21 [(0, .ref b), (1, .ref (adO X)), (2, .ref (adP X)), (3, .int (v3)), (4, .int (v4))] [] σ) : ∀ (n : Nat) (v3 v4 v5 v12 v13 : Int32) (σ : M2), some rv = f_L_law_418 L xs k21 n v3 v4 v5 v12 v13 σ → Bl X 16 418 [(0, .ref b), (1, .ref (adO X)), (2, .ref (adP X)), (3, .int (v3)), (4, .int (v4)), (5, .int (v5)), (12, .int (v12)), (13, .int (v13))] [] σ := by
  intro n
  induction n with
  | zero =>
    intro v3 v4 v5 v12 v13 σ hf
    rw [f_L_law_418] at hf
    cases hf
  | succ n ih =>
    intro v3 v4 v5 v12 v13 σ hf
    rw [f_L_law_418] at hf
    refine l_iload_n C dL_law_418 rfl 3 rfl ?_
    refine l_if_eq C 470 dL_law_419 (by decide) hf (fun hf => ?_) (fun hf => ?_)
    · exact w_L_law_470 L xs C hR k21 h21 _ _ _ _ _ _ hf
    · refine l_aload_n C dL_law_422 rfl 1 rfl ?_
      refine l_iload C dL_law_423 5 rfl ?_
      refine l_iload C dL_law_425 6 rfl ?_
      refine l_iload C dL_law_427 7 rfl ?_
      obtain ⟨y24, τ25, hqy24, hf⟩ := bd2_inv hf
      refine l_callO (n := 4) C (fun G => [.ref (G.1 5), .int (v5), .int (v12), .int (v13)]) (c_L_written (v5) (v12) (v13)) hqy24 gT_L_written rfl (by decide +kernel) rfl (by decide) (by decide) (Nat.le_of_ble_eq_true rfl) dL_law_429 ?_
      refine l_if_le C 470 dL_law_432 (by decide) hf (fun hf => ?_) (fun hf => ?_)
      · exact w_L_law_470 L xs C hR k21 h21 _ _ _ _ _ _ hf
      · refine l_aload_n C dL_law_435 rfl 2 rfl ?_
        refine l_iconst C (v := 1) dL_law_436 (by decide) ?_
        refine l_aload_n C dL_law_437 rfl 1 rfl ?_
        refine l_iload C dL_law_438 5 rfl ?_
        refine l_iload C dL_law_440 6 rfl ?_
        refine l_iload C dL_law_442 7 rfl ?_
        obtain ⟨y26, τ27, hqy26, hf⟩ := bd2_inv hf
        refine l_callO (n := 4) C (fun G => [.ref (G.1 5), .int (v5), .int (v12), .int (v13)]) (c_L_written (v5) (v12) (v13)) hqy26 gT_L_written rfl (by decide +kernel) rfl (by decide) (by decide) (Nat.le_of_ble_eq_true rfl) dL_law_444 ?_
        refine l_iconst C (v := 0) dL_law_447 (by decide) ?_
        obtain ⟨y28, τ29, hqy28, hf⟩ := bd2_inv hf
        refine l_callP (n := 4) C (fun G => [.ref (G.1 5), .int (1), .int (y26), .int (0)]) (c_L_does (1) (y26) (0)) hqy28 gT_L_does rfl (by decide +kernel) rfl (by decide) (by decide) (Nat.le_of_ble_eq_true rfl) dL_law_448 ?_
        refine l_iload C dL_law_451 7 rfl ?_
        refine l_iconst C (v := 1) dL_law_453 (by decide) ?_
        refine l_iadd C dL_law_454 ?_
        refine l_icmp_ne C 462 dL_law_455 (by decide) hf (fun hf => ?_) (fun hf => ?_)
        · refine l_iconst C (v := 0) dL_law_462 (by decide) ?_
          refine l_sub [0, 1, 2, 4, 5, 6, 7] rfl ?_
          exact w_L_law_463 L xs C hR k21 h21 (f_L_law_418 L xs k21 n) ih _ _ _ _ _ _ hf
        · refine l_iconst C (v := 1) dL_law_458 (by decide) ?_
          refine l_goto C 463 dL_law_459 (by decide) ?_
          refine l_sub [0, 1, 2, 4, 5, 6, 7] rfl ?_
          exact w_L_law_463 L xs C hR k21 h21 (f_L_law_418 L xs k21 n) ih _ _ _ _ _ _ hf
set_option maxHeartbeats 4000000 in
set_option maxRecDepth 100000 in
theorem w_L_law_409 {X : Ctl} {b : Nat} {rv : Int32 × M2} (L : Nat) (xs : Nat → Int32) (C : Cl X b L xs cL_law RL lw_tbl 16 10 380) (hR : Rl X cL_law 16 rv) (k21 : Int32 → Int32 → M2 → Option (Int32 × M2)) (h21 : ∀ (v3 v4 : Int32) (σ : M2), some rv = k21 v3 v4 σ → Bl X 16 21 [(0, .ref b), (1, .ref (adO X)), (2, .ref (adP X)), (3, .int (v3)), (4, .int (v4))] [] σ) : ∀ (v4 v5 v12 s0 : Int32) (σ : M2), some rv = f_L_law_409 L xs k21 v4 v5 v12 s0 σ → Bl X 16 409 [(0, .ref b), (1, .ref (adO X)), (2, .ref (adP X)), (4, .int (v4)), (5, .int (v5)), (12, .int (v12))] [.int (s0)] σ := by
  intro v4 v5 v12 s0 σ hf
  unfold f_L_law_409 at hf
  refine l_istore_n (lv' := [(3, .int (s0)), (0, .ref b), (1, .ref (adO X)), (2, .ref (adP X)), (4, .int (v4)), (5, .int (v5)), (12, .int (v12))]) C dL_law_409 rfl (by decide) rfl ?_
  refine l_iload C dL_law_410 6 rfl ?_
  refine l_if_lt C 630 dL_law_412 (by decide) hf (fun hf => ?_) (fun hf => ?_)
  · refine l_sub [1, 2, 3, 0, 4, 5] rfl ?_
    exact w_L_law_630 L xs C hR k21 h21 _ _ _ _ hf
  · refine l_iconst C (v := 0) dL_law_415 (by decide) ?_
    refine l_istore (lv' := [(13, .int (0)), (3, .int (s0)), (0, .ref b), (1, .ref (adO X)), (2, .ref (adP X)), (4, .int (v4)), (5, .int (v5)), (12, .int (v12))]) C dL_law_416 (by decide) rfl ?_
    refine l_sub [2, 3, 4, 1, 5, 6, 7, 0] rfl ?_
    exact w_L_law_418 L xs C hR k21 h21 FUEL _ _ _ _ _ _ hf
set_option maxHeartbeats 4000000 in
set_option maxRecDepth 100000 in
theorem w_L_law_408 {X : Ctl} {b : Nat} {rv : Int32 × M2} (L : Nat) (xs : Nat → Int32) (C : Cl X b L xs cL_law RL lw_tbl 16 10 380) (hR : Rl X cL_law 16 rv) (k21 : Int32 → Int32 → M2 → Option (Int32 × M2)) (h21 : ∀ (v3 v4 : Int32) (σ : M2), some rv = k21 v3 v4 σ → Bl X 16 21 [(0, .ref b), (1, .ref (adO X)), (2, .ref (adP X)), (3, .int (v3)), (4, .int (v4))] [] σ) : ∀ (v4 v5 v12 : Int32) (σ : M2), some rv = f_L_law_408 L xs k21 v4 v5 v12 σ → Bl X 16 408 [(0, .ref b), (1, .ref (adO X)), (2, .ref (adP X)), (4, .int (v4)), (5, .int (v5)), (12, .int (v12))] [] σ := by
  intro v4 v5 v12 σ hf
  unfold f_L_law_408 at hf
  refine l_iconst C (v := 0) dL_law_408 (by decide) ?_
  exact w_L_law_409 L xs C hR k21 h21 _ _ _ _ _ hf
set_option maxHeartbeats 4000000 in
set_option maxRecDepth 100000 in
theorem w_L_law_401 {X : Ctl} {b : Nat} {rv : Int32 × M2} (L : Nat) (xs : Nat → Int32) (C : Cl X b L xs cL_law RL lw_tbl 16 10 380) (hR : Rl X cL_law 16 rv) (k21 : Int32 → Int32 → M2 → Option (Int32 × M2)) (h21 : ∀ (v3 v4 : Int32) (σ : M2), some rv = k21 v3 v4 σ → Bl X 16 21 [(0, .ref b), (1, .ref (adO X)), (2, .ref (adP X)), (3, .int (v3)), (4, .int (v4))] [] σ) : ∀ (v4 v5 v12 s0 s1 : Int32) (σ : M2), some rv = f_L_law_401 L xs k21 v4 v5 v12 s0 s1 σ → Bl X 16 401 [(0, .ref b), (1, .ref (adO X)), (2, .ref (adP X)), (4, .int (v4)), (5, .int (v5)), (12, .int (v12))] [.int (s0), .int (s1)] σ := by
  intro v4 v5 v12 s0 s1 σ hf
  unfold f_L_law_401 at hf
  refine l_icmp_ne C 408 dL_law_401 (by decide) hf (fun hf => ?_) (fun hf => ?_)
  · exact w_L_law_408 L xs C hR k21 h21 _ _ _ _ hf
  · refine l_iconst C (v := 1) dL_law_404 (by decide) ?_
    refine l_goto C 409 dL_law_405 (by decide) ?_
    exact w_L_law_409 L xs C hR k21 h21 _ _ _ _ _ hf
set_option maxHeartbeats 4000000 in
set_option maxRecDepth 100000 in
theorem w_L_law_371 {X : Ctl} {b : Nat} {rv : Int32 × M2} (L : Nat) (xs : Nat → Int32) (C : Cl X b L xs cL_law RL lw_tbl 16 10 380) (hR : Rl X cL_law 16 rv) (k21 : Int32 → Int32 → M2 → Option (Int32 × M2)) (h21 : ∀ (v3 v4 : Int32) (σ : M2), some rv = k21 v3 v4 σ → Bl X 16 21 [(0, .ref b), (1, .ref (adO X)), (2, .ref (adP X)), (3, .int (v3)), (4, .int (v4))] [] σ) : ∀ (v3 v4 v5 v6 v9 v11 : Int32) (σ : M2), some rv = f_L_law_371 L xs k21 v3 v4 v5 v6 v9 v11 σ → Bl X 16 371 [(0, .ref b), (1, .ref (adO X)), (2, .ref (adP X)), (3, .int (v3)), (4, .int (v4)), (5, .int (v5)), (6, .int (v6)), (9, .int (v9)), (11, .int (v11))] [] σ := by
  intro v3 v4 v5 v6 v9 v11 σ hf
  unfold f_L_law_371 at hf
  refine l_aload_n C dL_law_371 rfl 1 rfl ?_
  refine l_iconst C (v := 2) dL_law_372 (by decide) ?_
  refine l_iload C dL_law_373 5 rfl ?_
  refine l_iconst C (v := 0) dL_law_375 (by decide) ?_
  obtain ⟨y30, τ31, hqy30, hf⟩ := bd2_inv hf
  refine l_callO (n := 4) C (fun G => [.ref (G.1 5), .int (2), .int (v5), .int (0)]) (c_L_does (2) (v5) (0)) hqy30 gT_L_does rfl (by decide +kernel) rfl (by decide) (by decide) (Nat.le_of_ble_eq_true rfl) dL_law_376 ?_
  refine l_istore (lv' := [(12, .int (y30)), (0, .ref b), (1, .ref (adO X)), (2, .ref (adP X)), (3, .int (v3)), (4, .int (v4)), (5, .int (v5)), (6, .int (v6)), (9, .int (v9)), (11, .int (v11))]) C dL_law_379 (by decide) rfl ?_
  refine l_iload_n C dL_law_381 rfl 4 rfl ?_
  refine l_if_eq C 408 dL_law_382 (by decide) hf (fun hf => ?_) (fun hf => ?_)
  · refine l_sub [1, 2, 3, 5, 6, 0] rfl ?_
    exact w_L_law_408 L xs C hR k21 h21 _ _ _ _ hf
  · refine l_iload C dL_law_385 0 rfl ?_
    refine l_iload C dL_law_387 9 rfl ?_
    refine l_if_eq C 399 dL_law_389 (by decide) hf (fun hf => ?_) (fun hf => ?_)
    · refine l_iload C dL_law_399 7 rfl ?_
      refine l_sub [1, 2, 3, 5, 6, 0] rfl ?_
      exact w_L_law_401 L xs C hR k21 h21 _ _ _ _ _ _ hf
    · refine l_iconst C (v := (-1)) dL_law_392 (by decide) ?_
      refine l_iload C dL_law_393 8 rfl ?_
      refine l_isub C dL_law_395 ?_
      refine l_goto C 401 dL_law_396 (by decide) ?_
      refine l_sub [1, 2, 3, 5, 6, 0] rfl ?_
      exact w_L_law_401 L xs C hR k21 h21 _ _ _ _ _ _ hf
set_option maxHeartbeats 4000000 in
set_option maxRecDepth 100000 in
theorem w_L_law_370 {X : Ctl} {b : Nat} {rv : Int32 × M2} (L : Nat) (xs : Nat → Int32) (C : Cl X b L xs cL_law RL lw_tbl 16 10 380) (hR : Rl X cL_law 16 rv) (k21 : Int32 → Int32 → M2 → Option (Int32 × M2)) (h21 : ∀ (v3 v4 : Int32) (σ : M2), some rv = k21 v3 v4 σ → Bl X 16 21 [(0, .ref b), (1, .ref (adO X)), (2, .ref (adP X)), (3, .int (v3)), (4, .int (v4))] [] σ) : ∀ (v4 v5 v6 v9 v11 s0 : Int32) (σ : M2), some rv = f_L_law_370 L xs k21 v4 v5 v6 v9 v11 s0 σ → Bl X 16 370 [(0, .ref b), (1, .ref (adO X)), (2, .ref (adP X)), (4, .int (v4)), (5, .int (v5)), (6, .int (v6)), (9, .int (v9)), (11, .int (v11))] [.int (s0)] σ := by
  intro v4 v5 v6 v9 v11 s0 σ hf
  unfold f_L_law_370 at hf
  refine l_istore_n (lv' := [(3, .int (s0)), (0, .ref b), (1, .ref (adO X)), (2, .ref (adP X)), (4, .int (v4)), (5, .int (v5)), (6, .int (v6)), (9, .int (v9)), (11, .int (v11))]) C dL_law_370 rfl (by decide) rfl ?_
  refine l_sub [1, 2, 3, 0, 4, 5, 6, 7, 8] rfl ?_
  exact w_L_law_371 L xs C hR k21 h21 _ _ _ _ _ _ _ hf
set_option maxHeartbeats 4000000 in
set_option maxRecDepth 100000 in
theorem w_L_law_369 {X : Ctl} {b : Nat} {rv : Int32 × M2} (L : Nat) (xs : Nat → Int32) (C : Cl X b L xs cL_law RL lw_tbl 16 10 380) (hR : Rl X cL_law 16 rv) (k21 : Int32 → Int32 → M2 → Option (Int32 × M2)) (h21 : ∀ (v3 v4 : Int32) (σ : M2), some rv = k21 v3 v4 σ → Bl X 16 21 [(0, .ref b), (1, .ref (adO X)), (2, .ref (adP X)), (3, .int (v3)), (4, .int (v4))] [] σ) : ∀ (v4 v5 v6 v9 v11 : Int32) (σ : M2), some rv = f_L_law_369 L xs k21 v4 v5 v6 v9 v11 σ → Bl X 16 369 [(0, .ref b), (1, .ref (adO X)), (2, .ref (adP X)), (4, .int (v4)), (5, .int (v5)), (6, .int (v6)), (9, .int (v9)), (11, .int (v11))] [] σ := by
  intro v4 v5 v6 v9 v11 σ hf
  unfold f_L_law_369 at hf
  refine l_iconst C (v := 0) dL_law_369 (by decide) ?_
  exact w_L_law_370 L xs C hR k21 h21 _ _ _ _ _ _ _ hf
set_option maxHeartbeats 4000000 in
set_option maxRecDepth 100000 in
theorem w_L_law_310 {X : Ctl} {b : Nat} {rv : Int32 × M2} (L : Nat) (xs : Nat → Int32) (C : Cl X b L xs cL_law RL lw_tbl 16 10 380) (hR : Rl X cL_law 16 rv) (k21 : Int32 → Int32 → M2 → Option (Int32 × M2)) (h21 : ∀ (v3 v4 : Int32) (σ : M2), some rv = k21 v3 v4 σ → Bl X 16 21 [(0, .ref b), (1, .ref (adO X)), (2, .ref (adP X)), (3, .int (v3)), (4, .int (v4))] [] σ) : ∀ (v4 v5 v6 v9 v11 s0 : Int32) (σ : M2), some rv = f_L_law_310 L xs k21 v4 v5 v6 v9 v11 s0 σ → Bl X 16 310 [(0, .ref b), (1, .ref (adO X)), (2, .ref (adP X)), (4, .int (v4)), (5, .int (v5)), (6, .int (v6)), (9, .int (v9)), (11, .int (v11))] [.int (s0)] σ := by
  intro v4 v5 v6 v9 v11 s0 σ hf
  unfold f_L_law_310 at hf
  refine l_istore_n (lv' := [(3, .int (s0)), (0, .ref b), (1, .ref (adO X)), (2, .ref (adP X)), (4, .int (v4)), (5, .int (v5)), (6, .int (v6)), (9, .int (v9)), (11, .int (v11))]) C dL_law_310 rfl (by decide) rfl ?_
  refine l_goto C 371 dL_law_311 (by decide) ?_
  refine l_sub [1, 2, 3, 0, 4, 5, 6, 7, 8] rfl ?_
  exact w_L_law_371 L xs C hR k21 h21 _ _ _ _ _ _ _ hf
set_option maxHeartbeats 4000000 in
set_option maxRecDepth 100000 in
theorem w_L_law_309 {X : Ctl} {b : Nat} {rv : Int32 × M2} (L : Nat) (xs : Nat → Int32) (C : Cl X b L xs cL_law RL lw_tbl 16 10 380) (hR : Rl X cL_law 16 rv) (k21 : Int32 → Int32 → M2 → Option (Int32 × M2)) (h21 : ∀ (v3 v4 : Int32) (σ : M2), some rv = k21 v3 v4 σ → Bl X 16 21 [(0, .ref b), (1, .ref (adO X)), (2, .ref (adP X)), (3, .int (v3)), (4, .int (v4))] [] σ) : ∀ (v4 v5 v6 v9 v11 : Int32) (σ : M2), some rv = f_L_law_309 L xs k21 v4 v5 v6 v9 v11 σ → Bl X 16 309 [(0, .ref b), (1, .ref (adO X)), (2, .ref (adP X)), (4, .int (v4)), (5, .int (v5)), (6, .int (v6)), (9, .int (v9)), (11, .int (v11))] [] σ := by
  intro v4 v5 v6 v9 v11 σ hf
  unfold f_L_law_309 at hf
  refine l_iconst C (v := 0) dL_law_309 (by decide) ?_
  exact w_L_law_310 L xs C hR k21 h21 _ _ _ _ _ _ _ hf
set_option maxHeartbeats 4000000 in
set_option maxRecDepth 100000 in
theorem w_L_law_279 {X : Ctl} {b : Nat} {rv : Int32 × M2} (L : Nat) (xs : Nat → Int32) (C : Cl X b L xs cL_law RL lw_tbl 16 10 380) (hR : Rl X cL_law 16 rv) (k21 : Int32 → Int32 → M2 → Option (Int32 × M2)) (h21 : ∀ (v3 v4 : Int32) (σ : M2), some rv = k21 v3 v4 σ → Bl X 16 21 [(0, .ref b), (1, .ref (adO X)), (2, .ref (adP X)), (3, .int (v3)), (4, .int (v4))] [] σ) : ∀ (v3 v4 v5 v6 v9 v10 s0 : Int32) (σ : M2), some rv = f_L_law_279 L xs k21 v3 v4 v5 v6 v9 v10 s0 σ → Bl X 16 279 [(0, .ref b), (1, .ref (adO X)), (2, .ref (adP X)), (3, .int (v3)), (4, .int (v4)), (5, .int (v5)), (6, .int (v6)), (9, .int (v9)), (10, .int (v10))] [.int (s0)] σ := by
  intro v3 v4 v5 v6 v9 v10 s0 σ hf
  unfold f_L_law_279 at hf
  refine l_istore (lv' := [(11, .int (s0)), (0, .ref b), (1, .ref (adO X)), (2, .ref (adP X)), (3, .int (v3)), (4, .int (v4)), (5, .int (v5)), (6, .int (v6)), (9, .int (v9)), (10, .int (v10))]) C dL_law_279 (by decide) rfl ?_
  refine l_iload C dL_law_281 0 rfl ?_
  refine l_if_eq C 314 dL_law_283 (by decide) hf (fun hf => ?_) (fun hf => ?_)
  · refine l_aload_n C dL_law_314 rfl 1 rfl ?_
    refine l_iload C dL_law_315 5 rfl ?_
    obtain ⟨hz, hf⟩ := gd_inv hf
    refine l_drawn C (of_decide_eq_true hz) gT_L_drawn (by decide) (by decide) (Nat.le_of_ble_eq_true rfl) dL_law_317 ?_
    refine l_iconst C (v := 3) dL_law_320 (by decide) ?_
    refine l_irem C dL_law_321 (by decide) ?_
    refine l_if_ne C 371 dL_law_322 (by decide) hf (fun hf => ?_) (fun hf => ?_)
    · refine l_sub [1, 2, 3, 4, 5, 6, 7, 8, 0] rfl ?_
      exact w_L_law_371 L xs C hR k21 h21 _ _ _ _ _ _ _ hf
    · refine l_iload_n C dL_law_325 rfl 4 rfl ?_
      refine l_if_eq C 369 dL_law_326 (by decide) hf (fun hf => ?_) (fun hf => ?_)
      · refine l_sub [1, 2, 3, 5, 6, 7, 8, 0] rfl ?_
        exact w_L_law_369 L xs C hR k21 h21 _ _ _ _ _ _ hf
      · refine l_aload_n C dL_law_329 rfl 2 rfl ?_
        refine l_iconst C (v := 1) dL_law_330 (by decide) ?_
        refine l_bipush C (v := 60) dL_law_331 (by decide) ?_
        refine l_iconst C (v := 0) dL_law_333 (by decide) ?_
        obtain ⟨y32, τ33, hqy32, hf⟩ := bd2_inv hf
        refine l_callO (n := 4) C (fun G => [.ref (G.1 5), .int (1), .int (60), .int (0)]) (c_L_does (1) (60) (0)) hqy32 gT_L_does rfl (by decide +kernel) rfl (by decide) (by decide) (Nat.le_of_ble_eq_true rfl) dL_law_334 ?_
        refine l_iload C dL_law_337 8 rfl ?_
        refine l_iconst C (v := 1) dL_law_339 (by decide) ?_
        refine l_iadd C dL_law_340 ?_
        refine l_icmp_ne C 369 dL_law_341 (by decide) hf (fun hf => ?_) (fun hf => ?_)
        · refine l_sub [1, 2, 3, 5, 6, 7, 8, 0] rfl ?_
          exact w_L_law_369 L xs C hR k21 h21 _ _ _ _ _ _ hf
        · refine l_aload_n C dL_law_344 rfl 2 rfl ?_
          refine l_iconst C (v := 1) dL_law_345 (by decide) ?_
          refine l_bipush C (v := 48) dL_law_346 (by decide) ?_
          refine l_iload C dL_law_348 9 rfl ?_
          refine l_bipush C (v := 10) dL_law_350 (by decide) ?_
          refine l_irem C dL_law_352 (by decide) ?_
          refine l_iadd C dL_law_353 ?_
          refine l_iconst C (v := 0) dL_law_354 (by decide) ?_
          obtain ⟨y34, τ35, hqy34, hf⟩ := bd2_inv hf
          refine l_callO (n := 4) C (fun G => [.ref (G.1 5), .int (1), .int ((48) + ((v10) - (v10) / (10) * (10))), .int (0)]) (c_L_does (1) ((48) + ((v10) - (v10) / (10) * (10))) (0)) hqy34 gT_L_does rfl (by decide +kernel) rfl (by decide) (by decide) (Nat.le_of_ble_eq_true rfl) dL_law_355 ?_
          refine l_iload C dL_law_358 8 rfl ?_
          refine l_iconst C (v := 2) dL_law_360 (by decide) ?_
          refine l_iadd C dL_law_361 ?_
          refine l_icmp_ne C 369 dL_law_362 (by decide) hf (fun hf => ?_) (fun hf => ?_)
          · refine l_sub [1, 2, 3, 5, 6, 7, 8, 0] rfl ?_
            exact w_L_law_369 L xs C hR k21 h21 _ _ _ _ _ _ hf
          · refine l_iconst C (v := 1) dL_law_365 (by decide) ?_
            refine l_goto C 370 dL_law_366 (by decide) ?_
            refine l_sub [1, 2, 3, 5, 6, 7, 8, 0] rfl ?_
            exact w_L_law_370 L xs C hR k21 h21 _ _ _ _ _ _ _ hf
  · refine l_iload_n C dL_law_286 rfl 4 rfl ?_
    refine l_if_eq C 309 dL_law_287 (by decide) hf (fun hf => ?_) (fun hf => ?_)
    · refine l_sub [1, 2, 3, 5, 6, 7, 8, 0] rfl ?_
      exact w_L_law_309 L xs C hR k21 h21 _ _ _ _ _ _ hf
    · refine l_aload_n C dL_law_290 rfl 2 rfl ?_
      refine l_iconst C (v := 1) dL_law_291 (by decide) ?_
      refine l_bipush C (v := 122) dL_law_292 (by decide) ?_
      refine l_iconst C (v := 0) dL_law_294 (by decide) ?_
      obtain ⟨y36, τ37, hqy36, hf⟩ := bd2_inv hf
      refine l_callO (n := 4) C (fun G => [.ref (G.1 5), .int (1), .int (122), .int (0)]) (c_L_does (1) (122) (0)) hqy36 gT_L_does rfl (by decide +kernel) rfl (by decide) (by decide) (Nat.le_of_ble_eq_true rfl) dL_law_295 ?_
      refine l_iload C dL_law_298 8 rfl ?_
      refine l_iconst C (v := 1) dL_law_300 (by decide) ?_
      refine l_iadd C dL_law_301 ?_
      refine l_icmp_ne C 309 dL_law_302 (by decide) hf (fun hf => ?_) (fun hf => ?_)
      · refine l_sub [1, 2, 3, 5, 6, 7, 8, 0] rfl ?_
        exact w_L_law_309 L xs C hR k21 h21 _ _ _ _ _ _ hf
      · refine l_iconst C (v := 1) dL_law_305 (by decide) ?_
        refine l_goto C 310 dL_law_306 (by decide) ?_
        refine l_sub [1, 2, 3, 5, 6, 7, 8, 0] rfl ?_
        exact w_L_law_310 L xs C hR k21 h21 _ _ _ _ _ _ _ hf
set_option maxHeartbeats 4000000 in
set_option maxRecDepth 100000 in
theorem w_L_law_66 {X : Ctl} {b : Nat} {rv : Int32 × M2} (L : Nat) (xs : Nat → Int32) (C : Cl X b L xs cL_law RL lw_tbl 16 10 380) (hR : Rl X cL_law 16 rv) (k21 : Int32 → Int32 → M2 → Option (Int32 × M2)) (h21 : ∀ (v3 v4 : Int32) (σ : M2), some rv = k21 v3 v4 σ → Bl X 16 21 [(0, .ref b), (1, .ref (adO X)), (2, .ref (adP X)), (3, .int (v3)), (4, .int (v4))] [] σ) : ∀ (n : Nat) (v3 v4 v5 v6 v7 v8 v9 v10 : Int32) (σ : M2), some rv = f_L_law_66 L xs k21 n v3 v4 v5 v6 v7 v8 v9 v10 σ → Bl X 16 66 [(0, .ref b), (1, .ref (adO X)), (2, .ref (adP X)), (3, .int (v3)), (4, .int (v4)), (5, .int (v5)), (6, .int (v6)), (7, .int (v7)), (8, .int (v8)), (9, .int (v9)), (10, .int (v10))] [] σ := by
  intro n
  induction n with
  | zero =>
    intro v3 v4 v5 v6 v7 v8 v9 v10 σ hf
    rw [f_L_law_66] at hf
    cases hf
  | succ n ih =>
    intro v3 v4 v5 v6 v7 v8 v9 v10 σ hf
    rw [f_L_law_66] at hf
    refine l_iload C dL_law_66 7 rfl ?_
    refine l_iconst C (v := 2) dL_law_68 (by decide) ?_
    refine l_icmp_ne C 83 dL_law_69 (by decide) hf (fun hf => ?_) (fun hf => ?_)
    · exact w_L_law_83 L xs C hR k21 h21 (f_L_law_66 L xs k21 n) ih _ _ _ _ _ _ _ _ _ hf
    · refine l_iload C dL_law_72 8 rfl ?_
      refine l_if_gt C 83 dL_law_74 (by decide) hf (fun hf => ?_) (fun hf => ?_)
      · exact w_L_law_83 L xs C hR k21 h21 (f_L_law_66 L xs k21 n) ih _ _ _ _ _ _ _ _ _ hf
      · refine l_iload C dL_law_77 9 rfl ?_
        refine l_iconst C (v := 4) dL_law_79 (by decide) ?_
        refine l_icmp_ge C 262 dL_law_80 (by decide) hf (fun hf => ?_) (fun hf => ?_)
        · refine l_aload_n C dL_law_262 rfl 0 rfl ?_
          refine l_iload C dL_law_263 4 rfl ?_
          obtain ⟨hz, hf⟩ := gd_inv hf
          refine l_drawn C (of_decide_eq_true hz) gT_L_drawn (by decide) (by decide) (Nat.le_of_ble_eq_true rfl) dL_law_265 ?_
          refine l_bipush C (v := 6) dL_law_268 (by decide) ?_
          refine l_irem C dL_law_270 (by decide) ?_
          refine l_if_ne C 278 dL_law_271 (by decide) hf (fun hf => ?_) (fun hf => ?_)
          · refine l_iconst C (v := 0) dL_law_278 (by decide) ?_
            refine l_sub [0, 1, 2, 3, 4, 5, 6, 9, 10] rfl ?_
            exact w_L_law_279 L xs C hR k21 h21 _ _ _ _ _ _ _ _ hf
          · refine l_iconst C (v := 1) dL_law_274 (by decide) ?_
            refine l_goto C 279 dL_law_275 (by decide) ?_
            refine l_sub [0, 1, 2, 3, 4, 5, 6, 9, 10] rfl ?_
            exact w_L_law_279 L xs C hR k21 h21 _ _ _ _ _ _ _ _ hf
        · exact w_L_law_83 L xs C hR k21 h21 (f_L_law_66 L xs k21 n) ih _ _ _ _ _ _ _ _ _ hf
set_option maxHeartbeats 4000000 in
set_option maxRecDepth 100000 in
theorem w_L_law_21 {X : Ctl} {b : Nat} {rv : Int32 × M2} (L : Nat) (xs : Nat → Int32) (C : Cl X b L xs cL_law RL lw_tbl 16 10 380) (hR : Rl X cL_law 16 rv) : ∀ (n : Nat) (v3 v4 : Int32) (σ : M2), some rv = f_L_law_21 L xs n v3 v4 σ → Bl X 16 21 [(0, .ref b), (1, .ref (adO X)), (2, .ref (adP X)), (3, .int (v3)), (4, .int (v4))] [] σ := by
  intro n
  induction n with
  | zero =>
    intro v3 v4 σ hf
    rw [f_L_law_21] at hf
    cases hf
  | succ n ih =>
    intro v3 v4 σ hf
    rw [f_L_law_21] at hf
    refine l_iload C dL_law_21 4 rfl ?_
    refine l_bipush C (v := 20) dL_law_23 (by decide) ?_
    refine l_icmp_ge C 667 dL_law_25 (by decide) hf (fun hf => ?_) (fun hf => ?_)
    · refine l_sub [3] rfl ?_
      exact w_L_law_667 L xs C hR _ _ hf
    · refine l_iload_n C dL_law_28 rfl 3 rfl ?_
      refine l_if_eq C 667 dL_law_29 (by decide) hf (fun hf => ?_) (fun hf => ?_)
      · refine l_sub [3] rfl ?_
        exact w_L_law_667 L xs C hR _ _ hf
      · refine l_iload C dL_law_32 4 rfl ?_
        refine l_iconst C (v := 4) dL_law_34 (by decide) ?_
        refine l_irem C dL_law_35 (by decide) ?_
        refine l_nv hf (fun y38 hf => ?_)
        refine l_istore (lv' := [(5, .int (y38)), (0, .ref b), (1, .ref (adO X)), (2, .ref (adP X)), (3, .int (v3)), (4, .int (v4))]) C dL_law_36 (by decide) rfl ?_
        refine l_aload_n C dL_law_38 rfl 2 rfl ?_
        refine l_bipush C (v := 9) dL_law_39 (by decide) ?_
        refine l_iload C dL_law_41 0 rfl ?_
        refine l_iconst C (v := 0) dL_law_43 (by decide) ?_
        obtain ⟨y39, τ40, hqy39, hf⟩ := bd2_inv hf
        refine l_callO (n := 4) C (fun G => [.ref (G.1 5), .int (9), .int (y38), .int (0)]) (c_L_does (9) (y38) (0)) hqy39 gT_L_does rfl (by decide +kernel) rfl (by decide) (by decide) (Nat.le_of_ble_eq_true rfl) dL_law_44 ?_
        refine l_istore (lv' := [(6, .int (y39)), (5, .int (y38)), (0, .ref b), (1, .ref (adO X)), (2, .ref (adP X)), (3, .int (v3)), (4, .int (v4))]) C dL_law_47 (by decide) rfl ?_
        refine l_iconst C (v := 0) dL_law_49 (by decide) ?_
        refine l_istore (lv' := [(7, .int (0)), (6, .int (y39)), (5, .int (y38)), (0, .ref b), (1, .ref (adO X)), (2, .ref (adP X)), (3, .int (v3)), (4, .int (v4))]) C dL_law_50 (by decide) rfl ?_
        refine l_iconst C (v := 0) dL_law_52 (by decide) ?_
        refine l_istore (lv' := [(8, .int (0)), (7, .int (0)), (6, .int (y39)), (5, .int (y38)), (0, .ref b), (1, .ref (adO X)), (2, .ref (adP X)), (3, .int (v3)), (4, .int (v4))]) C dL_law_53 (by decide) rfl ?_
        refine l_iconst C (v := 0) dL_law_55 (by decide) ?_
        refine l_istore (lv' := [(9, .int (0)), (8, .int (0)), (7, .int (0)), (6, .int (y39)), (5, .int (y38)), (0, .ref b), (1, .ref (adO X)), (2, .ref (adP X)), (3, .int (v3)), (4, .int (v4))]) C dL_law_56 (by decide) rfl ?_
        refine l_aload_n C dL_law_58 rfl 5 rfl ?_
        refine l_iload C dL_law_59 9 rfl ?_
        obtain ⟨hz, hf⟩ := gd_inv hf
        refine l_drawn C (of_decide_eq_true hz) gT_L_drawn (by decide) (by decide) (Nat.le_of_ble_eq_true rfl) dL_law_61 ?_
        refine l_nv hf (fun y41 hf => ?_)
        refine l_istore (lv' := [(10, .int (y41)), (9, .int (0)), (8, .int (0)), (7, .int (0)), (6, .int (y39)), (5, .int (y38)), (0, .ref b), (1, .ref (adO X)), (2, .ref (adP X)), (3, .int (v3)), (4, .int (v4))]) C dL_law_64 (by decide) rfl ?_
        refine l_sub [6, 7, 8, 9, 10, 5, 4, 3, 2, 1, 0] rfl ?_
        exact w_L_law_66 L xs C hR (f_L_law_21 L xs n) ih FUEL _ _ _ _ _ _ _ _ _ hf
set_option maxHeartbeats 4000000 in
set_option maxRecDepth 100000 in
theorem w_L_law {X : Ctl} {b : Nat} {rv : Int32 × M2} (L : Nat) (xs : Nat → Int32) (C : Cl X b L xs cL_law RL lw_tbl 16 10 380) (hR : Rl X cL_law 16 rv) : ∀ (σ : M2), some rv = f_L_law L xs σ → Bl X 16 16 [(2, .ref (adP X)), (1, .ref (adO X)), (0, .ref b)] [] σ := by
  intro σ hf
  unfold f_L_law at hf
  refine l_iconst C (v := 1) dL_law_16 (by decide) ?_
  refine l_istore_n (lv' := [(3, .int (1)), (2, .ref (adP X)), (1, .ref (adO X)), (0, .ref b)]) C dL_law_17 rfl (by decide) rfl ?_
  refine l_iconst C (v := 0) dL_law_18 (by decide) ?_
  refine l_istore (lv' := [(4, .int (0)), (3, .int (1)), (2, .ref (adP X)), (1, .ref (adO X)), (0, .ref b)]) C dL_law_19 (by decide) rfl ?_
  refine l_sub [4, 3, 2, 1, 0] rfl ?_
  exact w_L_law_21 L xs C hR FUEL _ _ _ hf
