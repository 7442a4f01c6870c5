/-! printed by wip/whole/gen/gen.py -/
def f_X10_thrown (σ : Mem) : Option (Int32 × Mem) := some (σ 76 22, σ)
def f_X10_asked_10  (v1 s0 : Int32) (σ : Mem) : Option (Int32 × Mem) := nw (wr σ 76 22 (s0)) (fun τ1 => gd (isZ (v1)) (some (v1, τ1)))
def f_X10_asked (x1 : Int32) (σ : Mem) : Option (Int32 × Mem) := (if (x1) = 0 then (f_X10_asked_10 (x1) (1) σ)
  else (f_X10_asked_10 (x1) (0) σ))
def f_X10_asked__33  (s0 : Int32) (σ : Mem) : Option (Int32 × Mem) := gd (isZ (s0)) (some (s0, σ))
def f_X10_asked__18  (s0 : Int32) (σ : Mem) : Option (Int32 × Mem) := nw (wr σ 76 22 (s0)) (fun τ1 => (if (τ1 76 22) = 0 then (f_X10_asked__33 (1) τ1)
  else (f_X10_asked__33 (0) τ1)))
def f_X10_asked_ (x1 x2 : Int32) (σ : Mem) : Option (Int32 × Mem) := (if (x1) = 0 then (f_X10_asked__18 (1) σ)
  else (if (x2) = 0 then (f_X10_asked__18 (2) σ)
    else (f_X10_asked__18 (0) σ)))
def f_X10_asked___41  (s0 : Int32) (σ : Mem) : Option (Int32 × Mem) := gd (isZ (s0)) (some (s0, σ))
def f_X10_asked___26  (s0 : Int32) (σ : Mem) : Option (Int32 × Mem) := nw (wr σ 76 22 (s0)) (fun τ1 => (if (τ1 76 22) = 0 then (f_X10_asked___41 (1) τ1)
  else (f_X10_asked___41 (0) τ1)))
def f_X10_asked__ (x1 x2 x3 : Int32) (σ : Mem) : Option (Int32 × Mem) := (if (x1) = 0 then (f_X10_asked___26 (1) σ)
  else (if (x2) = 0 then (f_X10_asked___26 (2) σ)
    else (if (x3) = 0 then (f_X10_asked___26 (3) σ)
      else (f_X10_asked___26 (0) σ))))
def f_X10_in_15  (s0 : Int32) (σ : Mem) : Option (Int32 × Mem) := gd (isZ (s0)) (some (s0, σ))
def f_X10_in_14  (σ : Mem) : Option (Int32 × Mem) := (f_X10_in_15 (0) σ)
def f_X10_in (x1 x2 x3 : Int32) (σ : Mem) : Option (Int32 × Mem) := (if (x1) < (x2) then (f_X10_in_14 σ)
  else (if (x3) < (x1) then (f_X10_in_14 σ)
    else (f_X10_in_15 (1) σ)))
def f_X10_isPupil (x1 : Int32) (σ : Mem) : Option (Int32 × Mem) := bd (f_X10_in (x1) (0) ((σ 76 25) - (1)) σ) (fun y1 τ2 => gd (isZ (y1)) (some (y1, τ2)))
def f_X10_isQuestion (x1 : Int32) (σ : Mem) : Option (Int32 × Mem) := bd (f_X10_in (x1) (0) (3) σ) (fun y1 τ2 => gd (isZ (y1)) (some (y1, τ2)))
def f_X10_isReader (x1 : Int32) (σ : Mem) : Option (Int32 × Mem) := bd (f_X10_in (x1) (0) ((σ 76 27) - (1)) σ) (fun y1 τ2 => gd (isZ (y1)) (some (y1, τ2)))
def f_X10_apart_14  (s0 : Int32) (σ : Mem) : Option (Int32 × Mem) := some (s0, σ)
def f_X10_apart (x1 x2 : Int32) (σ : Mem) : Option (Int32 × Mem) := (if (x1) ≤ (x2) then (f_X10_apart_14 ((x2) - (x1)) σ)
  else (f_X10_apart_14 ((x1) - (x2)) σ))
def f_X10_pupil_39  (v1 v2 v3 s0 s1 : Int32) (σ : Mem) : Option (Int32 × Mem) := bd (f_X10_asked_ (s1) (s0) σ) (fun y1 τ2 => (if (y1) = 0 then some (0, τ2)
  else gd (inb (τ2 76 25) (rlen 44)) (nw (wr τ2 44 (Int32.toNatClampNeg (τ2 76 25)) (v1)) (fun τ3 => gd (inb (τ3 76 25) (rlen 45)) (nw (wr τ3 45 (Int32.toNatClampNeg (τ3 76 25)) (v2)) (fun τ4 => gd (inb (τ4 76 25) (rlen 46)) (nw (wr τ4 46 (Int32.toNatClampNeg (τ4 76 25)) (vp_nar .boolean (v3))) (fun τ5 => nw (wr τ5 76 25 ((τ5 76 25) + (1))) (fun τ6 => some ((τ6 76 25) - (1), τ6))))))))))
def f_X10_pupil_25  (v1 v2 v3 s0 : Int32) (σ : Mem) : Option (Int32 × Mem) := (if (16) ≤ (σ 76 25) then (f_X10_pupil_39 (v1) (v2) (v3) (0) (s0) σ)
  else (f_X10_pupil_39 (v1) (v2) (v3) (1) (s0) σ))
def f_X10_pupil_24  (v1 v2 v3 : Int32) (σ : Mem) : Option (Int32 × Mem) := (f_X10_pupil_25 (v1) (v2) (v3) (0) σ)
def f_X10_pupil (x1 x2 x3 : Int32) (σ : Mem) : Option (Int32 × Mem) := bd (f_X10_in (x1) (0) (4) σ) (fun y7 τ8 => (if (y7) = 0 then (f_X10_pupil_24 (x1) (x2) (x3) τ8)
  else bd (f_X10_in (x2) (0) (15) τ8) (fun y9 τ10 => (if (y9) = 0 then (f_X10_pupil_24 (x1) (x2) (x3) τ10)
    else (f_X10_pupil_25 (x1) (x2) (x3) (1) τ10)))))
def f_X10_gift (x1 x2 : Int32) (σ : Mem) : Option (Int32 × Mem) := bd (f_X10_isPupil (x1) σ) (fun y1 τ2 => bd (f_X10_in (x2) (0) (9) τ2) (fun y3 τ4 => bd (f_X10_asked_ (y1) (y3) τ4) (fun y5 τ6 => (if (y5) = 0 then some (0, τ6)
  else gd (inb (x1) (rlen 47)) (nv (τ6 47 (Int32.toNatClampNeg (x1))) (fun y7 => gd (inb (x1) (rlen 47)) (nw (wr τ6 47 (Int32.toNatClampNeg (x1)) (x2)) (fun τ8 => some (y7, τ8)))))))))
def f_X10_type_23  (v1 s0 s1 : Int32) (σ : Mem) : Option (Int32 × Mem) := bd (f_X10_asked_ (s1) (s0) σ) (fun y1 τ2 => (if (y1) = 0 then some (0, τ2)
  else gd (inb (τ2 76 23) (rlen 43)) (nw (wr τ2 43 (Int32.toNatClampNeg (τ2 76 23)) (v1)) (fun τ3 => nw (wr τ3 76 23 ((τ3 76 23) + (1))) (fun τ4 => some (τ4 76 23, τ4))))))
def f_X10_type (x1 : Int32) (σ : Mem) : Option (Int32 × Mem) := bd (f_X10_in (x1) (32) (126) σ) (fun y5 τ6 => (if (40) ≤ (τ6 76 23) then (f_X10_type_23 (x1) (0) (y5) τ6)
  else (f_X10_type_23 (x1) (1) (y5) τ6)))
def f_X10_reads_362  (s0 : Int32) (σ : Mem) : Option (Int32 × Mem) := some (s0, σ)
def f_X10_reads_352  (v1 : Int32) (σ : Mem) : Option (Int32 × Mem) := (f_X10_reads_362 (v1) σ)
def f_X10_reads_347  (v1 v3 : Int32) (σ : Mem) : Option (Int32 × Mem) := (if (v3) ≤ (3) then (f_X10_reads_362 (((-1)) - (σ 76 23)) σ)
  else (f_X10_reads_352 (v1) σ))
def f_X10_reads_327  (v4 : Int32) (σ : Mem) : Option (Int32 × Mem) := some (((-1)) - (v4), σ)
def f_X10_reads_332  (k9 : Int32 → Int32 → Int32 → Int32 → Mem → Option (Int32 × Mem)) (v1 v2 v3 v4 : Int32) (σ : Mem) : Option (Int32 × Mem) := (k9 (v1) (v2) (v3) ((v4) + (1)) σ)
def f_X10_reads_308  (k9 : Int32 → Int32 → Int32 → Int32 → Mem → Option (Int32 × Mem)) (v2 v3 v4 v5 s0 s1 : Int32) (σ : Mem) : Option (Int32 × Mem) := nv ((s1) - (s0)) (fun y1 => gd (inb (y1) (rlen 75)) (nw (wr σ 75 (Int32.toNatClampNeg (y1)) (v5)) (fun τ2 => (f_X10_reads_332 k9 ((y1) + (1)) (v2) ((v3) + (1)) (v4) τ2))))
def f_X10_reads_307  (k9 : Int32 → Int32 → Int32 → Int32 → Mem → Option (Int32 × Mem)) (v2 v3 v4 v5 s0 : Int32) (σ : Mem) : Option (Int32 × Mem) := (f_X10_reads_308 k9 (v2) (v3) (v4) (v5) (0) (s0) σ)
def f_X10_reads_284  (k9 : Int32 → Int32 → Int32 → Int32 → Mem → Option (Int32 × Mem)) (v1 v2 v3 v4 v5 : Int32) (σ : Mem) : Option (Int32 × Mem) := (if (v3) = (4) then gd (inb ((v1) - (1)) (rlen 75)) ((if (σ 75 (Int32.toNatClampNeg ((v1) - (1)))) = (48) then (f_X10_reads_308 k9 (v2) (v3) (v4) (v5) (1) (v1) σ)
    else (f_X10_reads_307 k9 (v2) (v3) (v4) (v5) (v1) σ)))
  else (f_X10_reads_307 k9 (v2) (v3) (v4) (v5) (v1) σ))
def f_X10_reads_274  (k9 : Int32 → Int32 → Int32 → Int32 → Mem → Option (Int32 × Mem)) (v1 v2 v3 v4 v5 v7 : Int32) (σ : Mem) : Option (Int32 × Mem) := (if (v3) = (4) then (if (v7) = 0 then (f_X10_reads_327 (v4) σ)
    else (f_X10_reads_284 k9 (v1) (v2) (v3) (v4) (v5) σ))
  else (f_X10_reads_327 (v4) σ))
def f_X10_reads_264  (k9 : Int32 → Int32 → Int32 → Int32 → Mem → Option (Int32 × Mem)) (v1 v2 v3 v4 v5 v7 : Int32) (σ : Mem) : Option (Int32 × Mem) := (if (v3) = (3) then (if (v7) = 0 then (f_X10_reads_274 k9 (v1) (v2) (v3) (v4) (v5) (v7) σ)
    else (f_X10_reads_284 k9 (v1) (v2) (v3) (v4) (v5) σ))
  else (f_X10_reads_274 k9 (v1) (v2) (v3) (v4) (v5) (v7) σ))
def f_X10_reads_231  (k9 : Int32 → Int32 → Int32 → Int32 → Mem → Option (Int32 × Mem)) (v1 v2 v3 v4 v5 v7 : Int32) (σ : Mem) : Option (Int32 × Mem) := (if (v3) = (2) then (if (v2) ≤ 0 then (f_X10_reads_264 k9 (v1) (v2) (v3) (v4) (v5) (v7) σ)
    else (if (v5) = (41) then gd (inb (v1) (rlen 75)) (nw (wr σ 75 (Int32.toNatClampNeg (v1)) (v5)) (fun τ3 => (f_X10_reads_332 k9 ((v1) + (1)) ((v2) + (-1)) (v3) (v4) τ3)))
      else (f_X10_reads_264 k9 (v1) (v2) (v3) (v4) (v5) (v7) σ)))
  else (f_X10_reads_264 k9 (v1) (v2) (v3) (v4) (v5) (v7) σ))
def f_X10_reads_227  (k9 : Int32 → Int32 → Int32 → Int32 → Mem → Option (Int32 × Mem)) (v1 v2 v4 s0 : Int32) (σ : Mem) : Option (Int32 × Mem) := (f_X10_reads_332 k9 (v1) (v2) (s0) (v4) σ)
def f_X10_reads_204  (k9 : Int32 → Int32 → Int32 → Int32 → Mem → Option (Int32 × Mem)) (v1 v2 v4 v5 : Int32) (σ : Mem) : Option (Int32 × Mem) := gd (inb (v1) (rlen 75)) (nw (wr σ 75 (Int32.toNatClampNeg (v1)) (v5)) (fun τ4 => (if (v5) = (60) then (f_X10_reads_227 k9 ((v1) + (1)) (v2) (v4) (3) τ4)
  else (f_X10_reads_227 k9 ((v1) + (1)) (v2) (v4) (0) τ4))))
def f_X10_reads_193  (k9 : Int32 → Int32 → Int32 → Int32 → Mem → Option (Int32 × Mem)) (v1 v2 v3 v4 v5 v7 : Int32) (σ : Mem) : Option (Int32 × Mem) := (if (v2) = 0 then (if (v5) = (60) then (f_X10_reads_204 k9 (v1) (v2) (v4) (v5) σ)
    else (f_X10_reads_231 k9 (v1) (v2) (v3) (v4) (v5) (v7) σ))
  else (f_X10_reads_231 k9 (v1) (v2) (v3) (v4) (v5) (v7) σ))
def f_X10_reads_170  (k9 : Int32 → Int32 → Int32 → Int32 → Mem → Option (Int32 × Mem)) (v1 v2 v3 v4 v5 v7 : Int32) (σ : Mem) : Option (Int32 × Mem) := (if (v3) = (2) then (if (v5) = (43) then (f_X10_reads_204 k9 (v1) (v2) (v4) (v5) σ)
    else (if (v2) ≤ 0 then (f_X10_reads_193 k9 (v1) (v2) (v3) (v4) (v5) (v7) σ)
      else (if (v5) = (124) then (f_X10_reads_204 k9 (v1) (v2) (v4) (v5) σ)
        else (f_X10_reads_193 k9 (v1) (v2) (v3) (v4) (v5) (v7) σ))))
  else (f_X10_reads_231 k9 (v1) (v2) (v3) (v4) (v5) (v7) σ))
def f_X10_reads_138  (k9 : Int32 → Int32 → Int32 → Int32 → Mem → Option (Int32 × Mem)) (v1 v2 v3 v4 v5 v7 : Int32) (σ : Mem) : Option (Int32 × Mem) := (if (v3) = 0 then (if (v7) = 0 then (f_X10_reads_170 k9 (v1) (v2) (v3) (v4) (v5) (v7) σ)
    else (if (v5) = (48) then (f_X10_reads_170 k9 (v1) (v2) (v3) (v4) (v5) (v7) σ)
      else gd (inb (v1) (rlen 75)) (nw (wr σ 75 (Int32.toNatClampNeg (v1)) (v5)) (fun τ5 => (f_X10_reads_332 k9 ((v1) + (1)) (v2) (1) (v4) τ5)))))
  else (f_X10_reads_170 k9 (v1) (v2) (v3) (v4) (v5) (v7) σ))
def f_X10_reads_134  (k9 : Int32 → Int32 → Int32 → Int32 → Mem → Option (Int32 × Mem)) (v1 v2 v4 s0 : Int32) (σ : Mem) : Option (Int32 × Mem) := (f_X10_reads_332 k9 (v1) (v2) (s0) (v4) σ)
def f_X10_reads_120  (k9 : Int32 → Int32 → Int32 → Int32 → Mem → Option (Int32 × Mem)) (v1 v4 v5 s0 s1 : Int32) (σ : Mem) : Option (Int32 × Mem) := nv ((s1) + (s0)) (fun y6 => (if (v5) = (40) then (f_X10_reads_134 k9 (v1) (y6) (v4) (0) σ)
  else (f_X10_reads_134 k9 (v1) (y6) (v4) (2) σ)))
def f_X10_reads_94  (k9 : Int32 → Int32 → Int32 → Int32 → Mem → Option (Int32 × Mem)) (v2 v4 v5 s0 s1 : Int32) (σ : Mem) : Option (Int32 × Mem) := nv ((s1) + (s0)) (fun y7 => gd (inb (y7) (rlen 75)) (nw (wr σ 75 (Int32.toNatClampNeg (y7)) (v5)) (fun τ8 => (if (v5) = (40) then (f_X10_reads_120 k9 ((y7) + (1)) (v4) (v5) (1) (v2) τ8)
  else (f_X10_reads_120 k9 ((y7) + (1)) (v4) (v5) (0) (v2) τ8)))))
def f_X10_reads_76  (k9 : Int32 → Int32 → Int32 → Int32 → Mem → Option (Int32 × Mem)) (v1 v2 v3 v4 v5 : Int32) (σ : Mem) : Option (Int32 × Mem) := gd (inb (v1) (rlen 75)) (nw (wr σ 75 (Int32.toNatClampNeg (v1)) (49)) (fun τ9 => (if (v3) = 0 then (f_X10_reads_94 k9 (v2) (v4) (v5) (1) (v1) τ9)
  else (f_X10_reads_94 k9 (v2) (v4) (v5) (0) (v1) τ9))))
def f_X10_reads_59  (k9 : Int32 → Int32 → Int32 → Int32 → Mem → Option (Int32 × Mem)) (v1 v2 v3 v4 v5 v7 : Int32) (σ : Mem) : Option (Int32 × Mem) := (if (2) ≤ (v3) then (f_X10_reads_138 k9 (v1) (v2) (v3) (v4) (v5) (v7) σ)
  else (if (v5) = (40) then (if (4) ≤ (v2) then (f_X10_reads_138 k9 (v1) (v2) (v3) (v4) (v5) (v7) σ)
      else (f_X10_reads_76 k9 (v1) (v2) (v3) (v4) (v5) σ))
    else (f_X10_reads_138 k9 (v1) (v2) (v3) (v4) (v5) (v7) σ)))
def f_X10_reads_9  : Nat → Int32 → Int32 → Int32 → Int32 → Mem → Option (Int32 × Mem)
  | 0, _, _, _, _, _ => none
  | n + 1, v1, v2, v3, v4, σ => (if (σ 76 23) ≤ (v4) then (if (v3) = (2) then (if (v2) = 0 then (f_X10_reads_352 (v1) σ)
        else (f_X10_reads_347 (v1) (v3) σ))
      else (f_X10_reads_347 (v1) (v3) σ))
    else gd (inb (v4) (rlen 43)) (nv (σ 43 (Int32.toNatClampNeg (v4))) (fun y10 => bd (f_X10_in (y10) (97) (104) σ) (fun y11 τ12 => bd (f_X10_in (y10) (48) (57) τ12) (fun y13 τ14 => (if (2) ≤ (v3) then (f_X10_reads_59 (f_X10_reads_9 n) (v1) (v2) (v3) (v4) (y10) (y13) τ14)
      else (if (y11) = 0 then (f_X10_reads_59 (f_X10_reads_9 n) (v1) (v2) (v3) (v4) (y10) (y13) τ14)
        else (f_X10_reads_76 (f_X10_reads_9 n) (v1) (v2) (v3) (v4) (y10) τ14))))))))
def f_X10_reads (σ : Mem) : Option (Int32 × Mem) := (f_X10_reads_9 FUEL (0) (0) (0) (0) σ)
def f_X10_scheme_147  (k75 : Int32 → Int32 → Int32 → Int32 → Mem → Option (Int32 × Mem)) (v1 v3 v4 v5 s0 s1 s2 : Int32) (σ : Mem) : Option (Int32 × Mem) := gd (inb (s2) (rlen 53)) (nw (wr σ 53 (Int32.toNatClampNeg (s2)) ((s1) ||| (s0))) (fun τ1 => (k75 (v1) (v3) (v4) ((v5) + (1)) τ1)))
def f_X10_scheme_99  (k75 : Int32 → Int32 → Int32 → Int32 → Mem → Option (Int32 × Mem)) (v1 v3 v4 v5 s0 : Int32) (σ : Mem) : Option (Int32 × Mem) := gd (inb (((90) * (v4)) + (v5)) (rlen 52)) (nw (wr σ 52 (Int32.toNatClampNeg (((90) * (v4)) + (v5))) (s0)) (fun τ2 => gd (inb (v4) (rlen 53)) (bd (f_X10_in (s0) (97) (104) τ2) (fun y3 τ4 => (if (y3) = 0 then (f_X10_scheme_147 k75 (v1) (v3) (v4) (v5) (0) (τ2 53 (Int32.toNatClampNeg (v4))) (v4) τ4)
  else (f_X10_scheme_147 k75 (v1) (v3) (v4) (v5) ((1) <<< (((s0) - (97)) &&& 31)) (τ2 53 (Int32.toNatClampNeg (v4))) (v4) τ4))))))
def f_X10_scheme_75  : Nat → Int32 → Int32 → Int32 → Int32 → Mem → Option (Int32 × Mem)
  | 0, _, _, _, _, _ => none
  | n + 1, v1, v3, v4, v5, σ => (if (90) ≤ (v5) then gd (inb (v1) (rlen 51)) (gd (inb (v1) (rlen 51)) (nw (wr σ 51 (Int32.toNatClampNeg (v1)) ((σ 51 (Int32.toNatClampNeg (v1))) + (1))) (fun τ5 => gd (inb (v1) (rlen 51)) (some ((τ5 51 (Int32.toNatClampNeg (v1))) - (1), τ5)))))
    else (if (v3) ≤ (v5) then (f_X10_scheme_99 (f_X10_scheme_75 n) (v1) (v3) (v4) (v5) (0) σ)
      else gd (inb (v5) (rlen 75)) ((f_X10_scheme_99 (f_X10_scheme_75 n) (v1) (v3) (v4) (v5) (σ 75 (Int32.toNatClampNeg (v5))) σ))))
def f_X10_scheme_27  (v1 s0 s1 : Int32) (σ : Mem) : Option (Int32 × Mem) := bd (f_X10_asked_ (s1) (s0) σ) (fun y6 τ7 => (if (y6) = 0 then some (0, τ7)
  else bd (f_X10_reads  τ7) (fun y8 τ9 => nw (wr τ9 76 23 (0)) (fun τ10 => (if 0 ≤ (y8) then gd (inb (v1) (rlen 51)) (nv (((6) * (v1)) + (τ10 51 (Int32.toNatClampNeg (v1)))) (fun y11 => gd (inb (y11) (rlen 53)) (nw (wr τ10 53 (Int32.toNatClampNeg (y11)) (0)) (fun τ12 => (f_X10_scheme_75 FUEL (v1) (y8) (y11) (0) τ12)))))
    else some (y8, τ10))))))
def f_X10_scheme_26  (v1 s0 : Int32) (σ : Mem) : Option (Int32 × Mem) := (f_X10_scheme_27 (v1) (0) (s0) σ)
def f_X10_scheme (x1 : Int32) (σ : Mem) : Option (Int32 × Mem) := bd (f_X10_isQuestion (x1) σ) (fun y13 τ14 => (if (y13) = 0 then (f_X10_scheme_26 (x1) (y13) τ14)
  else gd (inb (x1) (rlen 51)) ((if (6) ≤ (τ14 51 (Int32.toNatClampNeg (x1))) then (f_X10_scheme_26 (x1) (y13) τ14)
    else (f_X10_scheme_27 (x1) (1) (y13) τ14)))))
def f_X10_value_325  (s0 : Int32) (σ : Mem) : Option (Int32 × Mem) := some (s0, σ)
def f_X10_value_303  (v5 : Int32) (σ : Mem) : Option (Int32 × Mem) := gd (inb (0) (rlen 72)) ((if (v5) ≤ (σ 72 (Int32.toNatClampNeg (0))) then (f_X10_value_325 (v5) σ)
  else gd (inb (0) (rlen 72)) ((f_X10_value_325 (σ 72 (Int32.toNatClampNeg (0))) σ))))
def f_X10_value_297  (k25 : Int32 → Int32 → Int32 → Int32 → Int32 → Int32 → Int32 → Mem → Option (Int32 × Mem)) (v1 v2 v3 v4 v5 v6 v7 : Int32) (σ : Mem) : Option (Int32 × Mem) := (k25 (v1) (v2) (v3) (v4) (v5) (v6) ((v7) + (1)) σ)
def f_X10_value_274  (k25 : Int32 → Int32 → Int32 → Int32 → Int32 → Int32 → Int32 → Mem → Option (Int32 × Mem)) (v1 v2 v3 v4 v5 v6 v7 s0 : Int32) (σ : Mem) : Option (Int32 × Mem) := gd (inb ((v3) + (-1)) (rlen 72)) (gd (inb ((v3) + (-1)) (rlen 74)) (gd (inb ((v3) + (-1)) (rlen 72)) (nw (wr σ 72 (Int32.toNatClampNeg ((v3) + (-1))) ((σ 72 (Int32.toNatClampNeg ((v3) + (-1)))) + ((σ 74 (Int32.toNatClampNeg ((v3) + (-1)))) * (s0)))) (fun τ1 => (f_X10_value_297 k25 (v1) (v2) ((v3) + (-1)) (v4) (v5) (v6) (v7) τ1)))))
def f_X10_value_226  (k25 : Int32 → Int32 → Int32 → Int32 → Int32 → Int32 → Int32 → Mem → Option (Int32 × Mem)) (v1 v2 v3 v4 v5 v6 v7 s0 s1 : Int32) (σ : Mem) : Option (Int32 × Mem) := gd (inb (s1) (rlen 73)) (nw (wr σ 73 (Int32.toNatClampNeg (s1)) (s0)) (fun τ2 => gd (inb (v3) (rlen 72)) (nw (wr τ2 72 (Int32.toNatClampNeg (v3)) (0)) (fun τ3 => (f_X10_value_297 k25 (v1) (v2) (v3) (v4) (v5) (v6) (v7) τ3)))))
def f_X10_value_108  (k25 : Int32 → Int32 → Int32 → Int32 → Int32 → Int32 → Int32 → Mem → Option (Int32 × Mem)) (v1 v2 v3 v4 v6 v7 s0 : Int32) (σ : Mem) : Option (Int32 × Mem) := (f_X10_value_297 k25 (v1) (v2) (v3) (v4) (s0) (v6) (v7) σ)
def f_X10_value_25  : Nat → Int32 → Int32 → Int32 → Int32 → Int32 → Int32 → Int32 → Mem → Option (Int32 × Mem)
  | 0, _, _, _, _, _, _, _, _ => none
  | n + 1, v1, v2, v3, v4, v5, v6, v7, σ => (if ((90) * ((v1) + (1))) ≤ (v7) then (f_X10_value_303 (v5) σ)
    else gd (inb (v7) (rlen 52)) ((if (σ 52 (Int32.toNatClampNeg (v7))) = 0 then (f_X10_value_303 (v5) σ)
      else gd (inb (v7) (rlen 52)) (nv (σ 52 (Int32.toNatClampNeg (v7))) (fun y4 => (if (y4) = (60) then (f_X10_value_297 (f_X10_value_25 n) (v1) (v2) (v3) (v4) (0) (1) (v7) σ)
        else bd (f_X10_in (y4) (48) (57) σ) (fun y5 τ6 => (if (y5) = 0 then bd (f_X10_in (y4) (97) (104) τ6) (fun y7 τ8 => (if (y7) = 0 then (if (y4) = (40) then gd (inb (v3) (rlen 74)) (nw (wr τ8 74 (Int32.toNatClampNeg (v3)) (v4)) (fun τ9 => gd (inb ((v3) + (1)) (rlen 72)) (nw (wr τ9 72 (Int32.toNatClampNeg ((v3) + (1))) (0)) (fun τ10 => gd (inb ((v3) + (1)) (rlen 73)) (nw (wr τ10 73 (Int32.toNatClampNeg ((v3) + (1))) (0)) (fun τ11 => (f_X10_value_297 (f_X10_value_25 n) (v1) (v2) ((v3) + (1)) (v4) (v5) (v6) (v7) τ11)))))))
              else (if (y4) = (124) then gd (inb (v3) (rlen 72)) (gd (inb (v3) (rlen 73)) ((if (τ8 72 (Int32.toNatClampNeg (v3))) ≤ (τ8 73 (Int32.toNatClampNeg (v3))) then gd (inb (v3) (rlen 73)) ((f_X10_value_226 (f_X10_value_25 n) (v1) (v2) (v3) (v4) (v5) (v6) (v7) (τ8 73 (Int32.toNatClampNeg (v3))) (v3) τ8))
                  else gd (inb (v3) (rlen 72)) ((f_X10_value_226 (f_X10_value_25 n) (v1) (v2) (v3) (v4) (v5) (v6) (v7) (τ8 72 (Int32.toNatClampNeg (v3))) (v3) τ8)))))
                else (if (y4) = (41) then gd (inb (v3) (rlen 72)) (gd (inb (v3) (rlen 73)) ((if (τ8 72 (Int32.toNatClampNeg (v3))) ≤ (τ8 73 (Int32.toNatClampNeg (v3))) then gd (inb (v3) (rlen 73)) ((f_X10_value_274 (f_X10_value_25 n) (v1) (v2) (v3) (v4) (v5) (v6) (v7) (τ8 73 (Int32.toNatClampNeg (v3))) τ8))
                    else gd (inb (v3) (rlen 72)) ((f_X10_value_274 (f_X10_value_25 n) (v1) (v2) (v3) (v4) (v5) (v6) (v7) (τ8 72 (Int32.toNatClampNeg (v3))) τ8)))))
                  else (f_X10_value_297 (f_X10_value_25 n) (v1) (v2) (v3) (v4) (v5) (v6) (v7) τ8))))
            else gd (inb (v3) (rlen 72)) (gd (inb (v3) (rlen 72)) (nw (wr τ8 72 (Int32.toNatClampNeg (v3)) ((τ8 72 (Int32.toNatClampNeg (v3))) + ((v4) * (((v2) >>> (((y4) - (97)) &&& 31)) &&& (1))))) (fun τ12 => (f_X10_value_297 (f_X10_value_25 n) (v1) (v2) (v3) (v4) (v5) (v6) (v7) τ12))))))
          else nv ((y4) - (48)) (fun y13 => (if (v6) = 0 then (f_X10_value_108 (f_X10_value_25 n) (v1) (v2) (v3) (y13) (v6) (v7) (v5) τ6)
            else (f_X10_value_108 (f_X10_value_25 n) (v1) (v2) (v3) (y13) (v6) (v7) (((10) * (v5)) + (y13)) τ6)))))))))))
def f_X10_value (x1 x2 : Int32) (σ : Mem) : Option (Int32 × Mem) := gd (inb (0) (rlen 72)) (nw (wr σ 72 (Int32.toNatClampNeg (0)) (0)) (fun τ14 => nv ((90) * (x1)) (fun y15 => (f_X10_value_25 FUEL (x1) (x2) (0) (1) (99) (0) (y15) τ14))))
def f_X10_held (x1 : Int32) (σ : Mem) : Option (Int32 × Mem) := gd (inb (x1) (rlen 51)) (some ((((6) * (x1)) + (σ 51 (Int32.toNatClampNeg (x1)))) - (1), σ))
def f_X10_twice (x1 x2 : Int32) (σ : Mem) : Option (Int32 × Mem) := bd (f_X10_isQuestion (x1) σ) (fun y1 τ2 => bd (f_X10_asked (y1) τ2) (fun y3 τ4 => (if (y3) = 0 then gd (isZ (0)) (some (0, τ4))
  else gd (inb (x1) (rlen 54)) (nv (τ4 54 (Int32.toNatClampNeg (x1))) (fun y5 => gd (inb (x1) (rlen 54)) (nw (wr τ4 54 (Int32.toNatClampNeg (x1)) (vp_nar .boolean (x2))) (fun τ6 => gd (isZ (y5)) (some (y5, τ6)))))))))
def f_X10_tolerance (x1 : Int32) (σ : Mem) : Option (Int32 × Mem) := bd (f_X10_in (x1) (0) (9) σ) (fun y1 τ2 => bd (f_X10_asked (y1) τ2) (fun y3 τ4 => (if (y3) = 0 then some (0, τ4)
  else nv (τ4 76 24) (fun y5 => nw (wr τ4 76 24 (x1)) (fun τ6 => some (y5, τ6))))))
def f_X10_reader_39  (v1 v2 v3 s0 s1 : Int32) (σ : Mem) : Option (Int32 × Mem) := bd (f_X10_asked_ (s1) (s0) σ) (fun y1 τ2 => (if (y1) = 0 then some (0, τ2)
  else gd (inb (τ2 76 27) (rlen 55)) (nw (wr τ2 55 (Int32.toNatClampNeg (τ2 76 27)) (v1)) (fun τ3 => gd (inb (τ3 76 27) (rlen 56)) (nw (wr τ3 56 (Int32.toNatClampNeg (τ3 76 27)) (v2)) (fun τ4 => gd (inb (τ4 76 27) (rlen 57)) (nw (wr τ4 57 (Int32.toNatClampNeg (τ4 76 27)) (vp_nar .boolean (v3))) (fun τ5 => gd (inb (τ5 76 27) (rlen 59)) (nw (wr τ5 59 (Int32.toNatClampNeg (τ5 76 27)) ((-1))) (fun τ6 => nw (wr τ6 76 27 ((τ6 76 27) + (1))) (fun τ7 => some ((τ7 76 27) - (1), τ7))))))))))))
def f_X10_reader_25  (v1 v2 v3 s0 : Int32) (σ : Mem) : Option (Int32 × Mem) := (if (6) ≤ (σ 76 27) then (f_X10_reader_39 (v1) (v2) (v3) (0) (s0) σ)
  else (f_X10_reader_39 (v1) (v2) (v3) (1) (s0) σ))
def f_X10_reader_24  (v1 v2 v3 : Int32) (σ : Mem) : Option (Int32 × Mem) := (f_X10_reader_25 (v1) (v2) (v3) (0) σ)
def f_X10_reader (x1 x2 x3 : Int32) (σ : Mem) : Option (Int32 × Mem) := bd (f_X10_in (x1) ((-1)) (4) σ) (fun y8 τ9 => (if (y8) = 0 then (f_X10_reader_24 (x1) (x2) (x3) τ9)
  else bd (f_X10_in (x2) (1) (15) τ9) (fun y10 τ11 => (if (y10) = 0 then (f_X10_reader_24 (x1) (x2) (x3) τ11)
    else (f_X10_reader_25 (x1) (x2) (x3) (1) τ11)))))
def f_X10_seed_42  (v1 v2 s0 s1 s2 : Int32) (σ : Mem) : Option (Int32 × Mem) := bd (f_X10_asked__ (s2) (s1) (s0) σ) (fun y1 τ2 => (if (y1) = 0 then some (0, τ2)
  else gd (inb (τ2 76 28) (rlen 64)) (nw (wr τ2 64 (Int32.toNatClampNeg (τ2 76 28)) (v1)) (fun τ3 => gd (inb (τ3 76 28) (rlen 65)) (nw (wr τ3 65 (Int32.toNatClampNeg (τ3 76 28)) (v2)) (fun τ4 => nw (wr τ4 76 28 ((τ4 76 28) + (1))) (fun τ5 => some ((τ5 76 28) - (1), τ5))))))))
def f_X10_seed_41  (v1 v2 s0 s1 : Int32) (σ : Mem) : Option (Int32 × Mem) := (f_X10_seed_42 (v1) (v2) (0) (s0) (s1) σ)
def f_X10_seed (x1 x2 : Int32) (σ : Mem) : Option (Int32 × Mem) := bd (f_X10_isQuestion (x1) σ) (fun y6 τ7 => bd (f_X10_in (x2) (0) (255) τ7) (fun y8 τ9 => (if (y6) = 0 then (f_X10_seed_41 (x1) (x2) (y8) (y6) τ9)
  else (if (8) ≤ (τ9 76 28) then (f_X10_seed_41 (x1) (x2) (y8) (y6) τ9)
    else gd (inb (x1) (rlen 51)) ((if (τ9 51 (Int32.toNatClampNeg (x1))) ≤ 0 then (f_X10_seed_41 (x1) (x2) (y8) (y6) τ9)
      else (f_X10_seed_42 (x1) (x2) (1) (y8) (y6) τ9)))))))
def f_X10_hasAnswer_22  (s0 : Int32) (σ : Mem) : Option (Int32 × Mem) := gd (isZ (s0)) (some (s0, σ))
def f_X10_hasAnswer (x1 : Int32) (σ : Mem) : Option (Int32 × Mem) := gd (inb ((x1) / (4)) (rlen 45)) ((if (((σ 45 (Int32.toNatClampNeg ((x1) / (4)))) >>> (((x1) - (x1) / (4) * (4)) &&& 31)) &&& (1)) = 0 then (f_X10_hasAnswer_22 (1) σ)
  else (f_X10_hasAnswer_22 (0) σ)))
def f_X10_counts_45  (s0 : Int32) (σ : Mem) : Option (Int32 × Mem) := gd (isZ (s0)) (some (s0, σ))
def f_X10_counts_44  (σ : Mem) : Option (Int32 × Mem) := (f_X10_counts_45 (0) σ)
def f_X10_counts (x1 : Int32) (σ : Mem) : Option (Int32 × Mem) := gd (inb (x1) (rlen 66)) (nv ((σ 66 (Int32.toNatClampNeg (x1))) - (σ 66 (Int32.toNatClampNeg (x1))) / (4) * (4)) (fun y1 => gd (inb (x1) (rlen 70)) ((if (σ 70 (Int32.toNatClampNeg (x1))) = 0 then bd (f_X10_held (y1) σ) (fun y2 τ3 => gd (inb (y2) (rlen 53)) (gd (inb (x1) (rlen 69)) ((if ((τ3 53 (Int32.toNatClampNeg (y2))) &&& ((τ3 69 (Int32.toNatClampNeg (x1))) ^^^ ((-1)))) = 0 then (f_X10_counts_45 (1) τ3)
    else (f_X10_counts_44 τ3)))))
  else (f_X10_counts_44 σ)))))
def f_X10_reading_58  (k6 : Int32 → Int32 → Int32 → Int32 → Int32 → Mem → Option (Int32 × Mem)) (v1 v2 v3 v4 v5 : Int32) (σ : Mem) : Option (Int32 × Mem) := (k6 (v1) (v2) (v3) (v4) ((v5) + (1)) σ)
def f_X10_reading_6  : Nat → Int32 → Int32 → Int32 → Int32 → Int32 → Mem → Option (Int32 × Mem)
  | 0, _, _, _, _, _, _ => none
  | n + 1, v1, v2, v3, v4, v5, σ => (if (σ 76 29) ≤ (v5) then some ((-1), σ)
    else gd (inb (v5) (rlen 66)) ((if (σ 66 (Int32.toNatClampNeg (v5))) = (v1) then gd (inb (v5) (rlen 71)) ((if (σ 71 (Int32.toNatClampNeg (v5))) = (v3) then bd (f_X10_counts (v5) σ) (fun y1 τ2 => (if (y1) = 0 then (f_X10_reading_58 (f_X10_reading_6 n) (v1) (v2) (v3) (v4) (v5) τ2)
          else (if (v4) = (v2) then some (v5, τ2)
            else (f_X10_reading_58 (f_X10_reading_6 n) (v1) (v2) (v3) ((v4) + (1)) (v5) τ2))))
        else (f_X10_reading_58 (f_X10_reading_6 n) (v1) (v2) (v3) (v4) (v5) σ)))
      else (f_X10_reading_58 (f_X10_reading_6 n) (v1) (v2) (v3) (v4) (v5) σ))))
def f_X10_reading (x1 x2 x3 : Int32) (σ : Mem) : Option (Int32 × Mem) := (f_X10_reading_6 FUEL (x1) (x2) (x3) (0) (0) σ)
def f_X10_markBy (x1 : Int32) (σ : Mem) : Option (Int32 × Mem) := gd (inb (x1) (rlen 66)) (bd (f_X10_held ((σ 66 (Int32.toNatClampNeg (x1))) - (σ 66 (Int32.toNatClampNeg (x1))) / (4) * (4)) σ) (fun y1 τ2 => gd (inb (x1) (rlen 68)) (bd (f_X10_value (y1) (τ2 68 (Int32.toNatClampNeg (x1))) τ2) (fun y3 τ4 => some (y3, τ4)))))
def f_X10_third_43  (v3 : Int32) (σ : Mem) : Option (Int32 × Mem) := some (v3, σ)
def f_X10_third_10  : Nat → Int32 → Int32 → Int32 → Mem → Option (Int32 × Mem)
  | 0, _, _, _, _ => none
  | n + 1, v1, v2, v3, σ => (if (v3) = ((-1)) then (f_X10_third_43 (v3) σ)
    else gd (inb (v3) (rlen 67)) (gd (inb (σ 67 (Int32.toNatClampNeg (v3))) (rlen 57)) ((if (σ 57 (Int32.toNatClampNeg (σ 67 (Int32.toNatClampNeg (v3))))) = 0 then bd (f_X10_reading (v1) ((v2) + (1)) (0) σ) (fun y1 τ2 => (f_X10_third_10 n (v1) ((v2) + (1)) (y1) τ2))
      else (f_X10_third_43 (v3) σ)))))
def f_X10_third (x1 : Int32) (σ : Mem) : Option (Int32 × Mem) := bd (f_X10_reading (x1) (2) (0) σ) (fun y3 τ4 => (f_X10_third_10 FUEL (x1) (2) (y3) τ4))
def f_X10_isApart_37  (s0 : Int32) (σ : Mem) : Option (Int32 × Mem) := gd (isZ (s0)) (some (s0, σ))
def f_X10_isApart (x1 : Int32) (σ : Mem) : Option (Int32 × Mem) := bd (f_X10_reading (x1) (0) (0) σ) (fun y1 τ2 => bd (f_X10_markBy (y1) τ2) (fun y3 τ4 => bd (f_X10_reading (x1) (1) (0) τ4) (fun y5 τ6 => bd (f_X10_markBy (y5) τ6) (fun y7 τ8 => bd (f_X10_apart (y3) (y7) τ8) (fun y9 τ10 => (if (y9) ≤ (τ10 76 24) then (f_X10_isApart_37 (0) τ10)
  else (f_X10_isApart_37 (1) τ10)))))))
def f_X10_wantsFirst_79  (s0 : Int32) (σ : Mem) : Option (Int32 × Mem) := some (s0, σ)
def f_X10_wantsFirst_78  (σ : Mem) : Option (Int32 × Mem) := (f_X10_wantsFirst_79 (0) σ)
def f_X10_wantsFirst_41  (v1 v2 v3 : Int32) (σ : Mem) : Option (Int32 × Mem) := (if (v2) ≤ (v3) then (if (v2) = (2) then bd (f_X10_isApart (v1) σ) (fun y1 τ2 => (if (y1) = 0 then (f_X10_wantsFirst_78 τ2)
      else bd (f_X10_third (v1) τ2) (fun y3 τ4 => (if (y3) = ((-1)) then (f_X10_wantsFirst_79 (1) τ4)
        else (f_X10_wantsFirst_78 τ4)))))
    else (f_X10_wantsFirst_78 σ))
  else (f_X10_wantsFirst_79 ((v2) - (v3)) σ))
def f_X10_wantsFirst_19  : Nat → Int32 → Int32 → Int32 → Mem → Option (Int32 × Mem)
  | 0, _, _, _, _ => none
  | n + 1, v1, v2, v3, σ => (if (v2) ≤ (v3) then (f_X10_wantsFirst_41 (v1) (v2) (v3) σ)
    else bd (f_X10_reading (v1) (v3) (0) σ) (fun y5 τ6 => (if (y5) = ((-1)) then (f_X10_wantsFirst_41 (v1) (v2) (v3) τ6)
      else (f_X10_wantsFirst_19 n (v1) (v2) ((v3) + (1)) τ6))))
def f_X10_wantsFirst_16  (v1 s0 : Int32) (σ : Mem) : Option (Int32 × Mem) := (f_X10_wantsFirst_19 FUEL (v1) (s0) (0) σ)
def f_X10_wantsFirst (x1 : Int32) (σ : Mem) : Option (Int32 × Mem) := gd (inb ((x1) - (x1) / (4) * (4)) (rlen 54)) ((if (σ 54 (Int32.toNatClampNeg ((x1) - (x1) / (4) * (4)))) = 0 then (f_X10_wantsFirst_16 (x1) (1) σ)
  else (f_X10_wantsFirst_16 (x1) (2) σ)))
def f_X10_wants_47  (s0 : Int32) (σ : Mem) : Option (Int32 × Mem) := some (s0, σ)
def f_X10_wants_46  (v2 : Int32) (σ : Mem) : Option (Int32 × Mem) := (f_X10_wants_47 (v2) σ)
def f_X10_wants_17  (v1 s0 : Int32) (σ : Mem) : Option (Int32 × Mem) := (if (s0) = 0 then gd (inb (v1) (rlen 48)) ((if (σ 48 (Int32.toNatClampNeg (v1))) = 0 then (f_X10_wants_46 (s0) σ)
    else bd (f_X10_reading (v1) (0) (1) σ) (fun y1 τ2 => (if (y1) = ((-1)) then (f_X10_wants_47 (1) τ2)
      else (f_X10_wants_46 (s0) τ2)))))
  else (f_X10_wants_46 (s0) σ))
def f_X10_wants (x1 : Int32) (σ : Mem) : Option (Int32 × Mem) := bd (f_X10_hasAnswer (x1) σ) (fun y3 τ4 => (if (y3) = 0 then (f_X10_wants_17 (x1) (0) τ4)
  else bd (f_X10_wantsFirst (x1) τ4) (fun y5 τ6 => (f_X10_wants_17 (x1) (y5) τ6))))
def f_X10_wantsAppeal_13  (s0 : Int32) (σ : Mem) : Option (Int32 × Mem) := gd (isZ (s0)) (some (s0, σ))
def f_X10_wantsAppeal (x1 : Int32) (σ : Mem) : Option (Int32 × Mem) := bd (f_X10_wantsFirst (x1) σ) (fun y1 τ2 => (if (y1) = 0 then (f_X10_wantsAppeal_13 (1) τ2)
  else (f_X10_wantsAppeal_13 (0) τ2)))
def f_X10_wantsSenior_35  (s0 : Int32) (σ : Mem) : Option (Int32 × Mem) := gd (isZ (s0)) (some (s0, σ))
def f_X10_wantsSenior_30  (σ : Mem) : Option (Int32 × Mem) := (f_X10_wantsSenior_35 (1) σ)
def f_X10_wantsSenior_34  (σ : Mem) : Option (Int32 × Mem) := (f_X10_wantsSenior_35 (0) σ)
def f_X10_wantsSenior (x1 : Int32) (σ : Mem) : Option (Int32 × Mem) := bd (f_X10_wantsAppeal (x1) σ) (fun y1 τ2 => (if (y1) = 0 then gd (inb ((x1) - (x1) / (4) * (4)) (rlen 54)) ((if (τ2 54 (Int32.toNatClampNeg ((x1) - (x1) / (4) * (4)))) = 0 then (f_X10_wantsSenior_34 τ2)
    else bd (f_X10_reading (x1) (1) (0) τ2) (fun y3 τ4 => (if (y3) = ((-1)) then (f_X10_wantsSenior_34 τ4)
      else (f_X10_wantsSenior_30 τ4)))))
  else (f_X10_wantsSenior_30 τ2)))
def f_X10_canGive_210  (s0 : Int32) (σ : Mem) : Option (Int32 × Mem) := gd (isZ (s0)) (some (s0, σ))
def f_X10_canGive_209  (σ : Mem) : Option (Int32 × Mem) := (f_X10_canGive_210 (0) σ)
def f_X10_canGive_205  (σ : Mem) : Option (Int32 × Mem) := (f_X10_canGive_210 (1) σ)
def f_X10_canGive_161  (k111 : Int32 → Int32 → Int32 → Int32 → Int32 → Mem → Option (Int32 × Mem)) (v1 v2 v5 v6 s0 : Int32) (σ : Mem) : Option (Int32 × Mem) := (k111 (v1) (v2) (s0) (v5) ((v6) + (1)) σ)
def f_X10_canGive_160  (k111 : Int32 → Int32 → Int32 → Int32 → Int32 → Mem → Option (Int32 × Mem)) (v1 v2 v5 v6 : Int32) (σ : Mem) : Option (Int32 × Mem) := (f_X10_canGive_161 k111 (v1) (v2) (v5) (v6) (0) σ)
def f_X10_canGive_156  (k111 : Int32 → Int32 → Int32 → Int32 → Int32 → Mem → Option (Int32 × Mem)) (v1 v2 v5 v6 : Int32) (σ : Mem) : Option (Int32 × Mem) := (f_X10_canGive_161 k111 (v1) (v2) (v5) (v6) (1) σ)
def f_X10_canGive_111  : Nat → Int32 → Int32 → Int32 → Int32 → Int32 → Mem → Option (Int32 × Mem)
  | 0, _, _, _, _, _, _ => none
  | n + 1, v1, v2, v4, v5, v6, σ => (if (σ 76 29) ≤ (v6) then bd (f_X10_wants (v2) σ) (fun y1 τ2 => (if (v4) = 0 then (f_X10_canGive_209 τ2)
      else (if (y1) ≤ (v5) then (f_X10_canGive_209 τ2)
        else gd (inb (v1) (rlen 57)) ((if (τ2 57 (Int32.toNatClampNeg (v1))) = 0 then bd (f_X10_wantsSenior (v2) τ2) (fun y3 τ4 => (if (y3) = 0 then (f_X10_canGive_205 τ4)
            else (f_X10_canGive_209 τ4)))
          else (f_X10_canGive_205 τ2))))))
    else (if (v4) = 0 then (f_X10_canGive_160 (f_X10_canGive_111 n) (v1) (v2) (v5) (v6) σ)
      else gd (inb (v6) (rlen 66)) ((if (σ 66 (Int32.toNatClampNeg (v6))) = (v2) then gd (inb (v6) (rlen 67)) ((if (σ 67 (Int32.toNatClampNeg (v6))) = (v1) then bd (f_X10_counts (v6) σ) (fun y5 τ6 => (if (y5) = 0 then (f_X10_canGive_156 (f_X10_canGive_111 n) (v1) (v2) (v5) (v6) τ6)
            else (f_X10_canGive_160 (f_X10_canGive_111 n) (v1) (v2) (v5) (v6) τ6)))
          else (f_X10_canGive_156 (f_X10_canGive_111 n) (v1) (v2) (v5) (v6) σ)))
        else (f_X10_canGive_156 (f_X10_canGive_111 n) (v1) (v2) (v5) (v6) σ)))))
def f_X10_canGive_99  (k72 : Int32 → Int32 → Int32 → Int32 → Int32 → Mem → Option (Int32 × Mem)) (v1 v2 v4 v6 s0 s1 : Int32) (σ : Mem) : Option (Int32 × Mem) := nv ((s1) + (s0)) (fun y7 => (k72 (v1) (v2) (v4) (y7) ((v6) + (1)) σ))
def f_X10_canGive_72  : Nat → Int32 → Int32 → Int32 → Int32 → Int32 → Mem → Option (Int32 × Mem)
  | 0, _, _, _, _, _, _ => none
  | n + 1, v1, v2, v4, v5, v6, σ => (if (σ 76 27) ≤ (v6) then (f_X10_canGive_111 FUEL (v1) (v2) (v4) (v5) (0) σ)
    else gd (inb (v6) (rlen 59)) ((if (σ 59 (Int32.toNatClampNeg (v6))) = (v2) then (f_X10_canGive_99 (f_X10_canGive_72 n) (v1) (v2) (v4) (v6) (1) (v5) σ)
      else (f_X10_canGive_99 (f_X10_canGive_72 n) (v1) (v2) (v4) (v6) (0) (v5) σ))))
def f_X10_canGive_57  (v1 v2 s0 : Int32) (σ : Mem) : Option (Int32 × Mem) := (if (s0) = 0 then gd (isZ (0)) (some (0, σ))
  else (f_X10_canGive_72 FUEL (v1) (v2) (s0) (0) (0) σ))
def f_X10_canGive_56  (v1 v2 : Int32) (σ : Mem) : Option (Int32 × Mem) := (f_X10_canGive_57 (v1) (v2) (0) σ)
def f_X10_canGive (x1 x2 : Int32) (σ : Mem) : Option (Int32 × Mem) := nv ((x2) - (x2) / (4) * (4)) (fun y8 => bd (f_X10_hasAnswer (x2) σ) (fun y9 τ10 => (if (y9) = 0 then (f_X10_canGive_56 (x1) (x2) τ10)
  else gd (inb ((x2) / (4)) (rlen 44)) (gd (inb (x1) (rlen 55)) ((if (τ10 44 (Int32.toNatClampNeg ((x2) / (4)))) = (τ10 55 (Int32.toNatClampNeg (x1))) then (f_X10_canGive_56 (x1) (x2) τ10)
    else gd (inb (x1) (rlen 56)) ((if (((τ10 56 (Int32.toNatClampNeg (x1))) >>> ((y8) &&& 31)) &&& (1)) = (1) then gd (inb (y8) (rlen 51)) ((if (τ10 51 (Int32.toNatClampNeg (y8))) ≤ 0 then (f_X10_canGive_56 (x1) (x2) τ10)
        else (f_X10_canGive_57 (x1) (x2) (1) τ10)))
      else (f_X10_canGive_56 (x1) (x2) τ10)))))))))
def f_X10_handed_66  (s0 : Int32) (σ : Mem) : Option (Int32 × Mem) := some (s0, σ)
def f_X10_handed (x1 : Int32) (σ : Mem) : Option (Int32 × Mem) := gd (inb (x1) (rlen 59)) ((if (σ 59 (Int32.toNatClampNeg (x1))) = ((-1)) then (f_X10_handed_66 ((-1)) σ)
  else gd (inb (x1) (rlen 59)) ((if (σ 59 (Int32.toNatClampNeg (x1))) < (100) then gd (inb (x1) (rlen 59)) (gd (inb (x1) (rlen 59)) ((f_X10_handed_66 ((((σ 59 (Int32.toNatClampNeg (x1))) / (4)) * (10)) + ((σ 59 (Int32.toNatClampNeg (x1))) - (σ 59 (Int32.toNatClampNeg (x1))) / (4) * (4))) σ)))
    else gd (inb (x1) (rlen 59)) (gd (inb ((σ 59 (Int32.toNatClampNeg (x1))) - (100)) (rlen 64)) ((f_X10_handed_66 ((1000) + (σ 64 (Int32.toNatClampNeg ((σ 59 (Int32.toNatClampNeg (x1))) - (100))))) σ)))))))
def f_X10_next_220  (v1 : Int32) (σ : Mem) : Option (Int32 × Mem) := bd (f_X10_handed (v1) σ) (fun y1 τ2 => some (y1, τ2))
def f_X10_next_214  (k126 : Int32 → Int32 → Mem → Option (Int32 × Mem)) (v1 v3 : Int32) (σ : Mem) : Option (Int32 × Mem) := (k126 (v1) ((v3) + (1)) σ)
def f_X10_next_181  (k126 : Int32 → Int32 → Mem → Option (Int32 × Mem)) (v1 v3 v4 s0 s1 : Int32) (σ : Mem) : Option (Int32 × Mem) := (if (s1) = (s0) then bd (f_X10_canGive (v1) (v4) σ) (fun y3 τ4 => (if (y3) = 0 then (f_X10_next_214 k126 (v1) (v3) τ4)
    else gd (inb (v1) (rlen 59)) (nw (wr τ4 59 (Int32.toNatClampNeg (v1)) (v4)) (fun τ5 => bd (f_X10_wantsAppeal (v4) τ5) (fun y6 τ7 => gd (inb (v1) (rlen 60)) (nw (wr τ7 60 (Int32.toNatClampNeg (v1)) (vp_nar .boolean (y6))) (fun τ8 => (f_X10_next_214 k126 (v1) (v3) τ8))))))))
  else (f_X10_next_214 k126 (v1) (v3) σ))
def f_X10_next_126  : Nat → Int32 → Int32 → Mem → Option (Int32 × Mem)
  | 0, _, _, _ => none
  | n + 1, v1, v3, σ => (if ((8) * (σ 76 25)) ≤ (v3) then (f_X10_next_220 (v1) σ)
    else gd (inb (v1) (rlen 59)) ((if (σ 59 (Int32.toNatClampNeg (v1))) = ((-1)) then gd (!decide (((4) * (σ 76 25)) = 0)) (nv ((v3) - (v3) / ((4) * (σ 76 25)) * ((4) * (σ 76 25))) (fun y9 => gd (inb ((y9) / (4)) (rlen 46)) ((if ((4) * (σ 76 25)) ≤ (v3) then (f_X10_next_181 (f_X10_next_126 n) (v1) (v3) (y9) (0) (σ 46 (Int32.toNatClampNeg ((y9) / (4)))) σ)
        else (f_X10_next_181 (f_X10_next_126 n) (v1) (v3) (y9) (1) (σ 46 (Int32.toNatClampNeg ((y9) / (4)))) σ)))))
      else (f_X10_next_220 (v1) σ))))
def f_X10_next_124  (v1 : Int32) (σ : Mem) : Option (Int32 × Mem) := (f_X10_next_126 FUEL (v1) (0) σ)
def f_X10_next_118  (k36 : Int32 → Int32 → Mem → Option (Int32 × Mem)) (v1 v3 : Int32) (σ : Mem) : Option (Int32 × Mem) := (k36 (v1) ((v3) + (1)) σ)
def f_X10_next_36  : Nat → Int32 → Int32 → Mem → Option (Int32 × Mem)
  | 0, _, _, _ => none
  | n + 1, v1, v3, σ => (if (σ 76 28) ≤ (v3) then (f_X10_next_124 (v1) σ)
    else gd (inb (v1) (rlen 59)) ((if (σ 59 (Int32.toNatClampNeg (v1))) = ((-1)) then gd (inb (v1) (rlen 61)) ((if (σ 61 (Int32.toNatClampNeg (v1))) < (3) then (f_X10_next_124 (v1) σ)
        else gd (inb (v1) (rlen 63)) ((if (((σ 63 (Int32.toNatClampNeg (v1))) >>> ((v3) &&& 31)) &&& (1)) = 0 then gd (inb (v1) (rlen 56)) (gd (inb (v3) (rlen 64)) ((if (((σ 56 (Int32.toNatClampNeg (v1))) >>> ((σ 64 (Int32.toNatClampNeg (v3))) &&& 31)) &&& (1)) = (1) then gd (inb (v1) (rlen 59)) (nw (wr σ 59 (Int32.toNatClampNeg (v1)) ((100) + (v3))) (fun τ10 => gd (inb (v1) (rlen 63)) (gd (inb (v1) (rlen 63)) (nw (wr τ10 63 (Int32.toNatClampNeg (v1)) ((τ10 63 (Int32.toNatClampNeg (v1))) ||| ((1) <<< ((v3) &&& 31)))) (fun τ11 => (f_X10_next_118 (f_X10_next_36 n) (v1) (v3) τ11))))))
            else (f_X10_next_118 (f_X10_next_36 n) (v1) (v3) σ))))
          else (f_X10_next_118 (f_X10_next_36 n) (v1) (v3) σ)))))
      else (f_X10_next_124 (v1) σ))))
def f_X10_next_26  (v1 s0 s1 : Int32) (σ : Mem) : Option (Int32 × Mem) := bd (f_X10_asked_ (s1) (s0) σ) (fun y12 τ13 => (if (y12) = 0 then some (0, τ13)
  else (f_X10_next_36 FUEL (v1) (0) τ13)))
def f_X10_next_25  (v1 s0 : Int32) (σ : Mem) : Option (Int32 × Mem) := (f_X10_next_26 (v1) (0) (s0) σ)
def f_X10_next (x1 : Int32) (σ : Mem) : Option (Int32 × Mem) := bd (f_X10_isReader (x1) σ) (fun y14 τ15 => (if (y14) = 0 then (f_X10_next_25 (x1) (y14) τ15)
  else gd (inb (x1) (rlen 58)) ((if (τ15 58 (Int32.toNatClampNeg (x1))) = 0 then (f_X10_next_26 (x1) (1) (y14) τ15)
    else (f_X10_next_25 (x1) (y14) τ15)))))
def f_X10_read_211  (k178 : Int32 → Int32 → Int32 → Mem → Option (Int32 × Mem)) (v1 v7 v8 s0 s1 s2 : Int32) (σ : Mem) : Option (Int32 × Mem) := gd (inb (s2) (rlen 70)) (nw (wr σ 70 (Int32.toNatClampNeg (s2)) (vp_nar .boolean ((s1) ||| (s0)))) (fun τ1 => (k178 (v1) (v7) ((v8) + (1)) τ1)))
def f_X10_read_178  : Nat → Int32 → Int32 → Int32 → Mem → Option (Int32 × Mem)
  | 0, _, _, _, _ => none
  | n + 1, v1, v7, v8, σ => (if (σ 76 29) ≤ (v8) then some (v7, σ)
    else gd (inb (v8) (rlen 70)) (gd (inb (v8) (rlen 67)) ((if (σ 67 (Int32.toNatClampNeg (v8))) = (v1) then (f_X10_read_211 (f_X10_read_178 n) (v1) (v7) (v8) (1) (σ 70 (Int32.toNatClampNeg (v8))) (v8) σ)
      else (f_X10_read_211 (f_X10_read_178 n) (v1) (v7) (v8) (0) (σ 70 (Int32.toNatClampNeg (v8))) (v8) σ)))))
def f_X10_read_46  (v1 v2 v3 s0 : Int32) (σ : Mem) : Option (Int32 × Mem) := bd (f_X10_in (v2) (0) (255) σ) (fun y2 τ3 => bd (f_X10_asked__ (v3) (y2) (s0) τ3) (fun y4 τ5 => (if (y4) = 0 then some (0, τ5)
  else gd (inb (v1) (rlen 59)) (nv (τ5 59 (Int32.toNatClampNeg (v1))) (fun y6 => gd (inb (v1) (rlen 59)) (nw (wr τ5 59 (Int32.toNatClampNeg (v1)) ((-1))) (fun τ7 => (if (y6) < (100) then bd (f_X10_held ((y6) - (y6) / (4) * (4)) τ7) (fun y8 τ9 => gd (inb (τ9 76 29) (rlen 66)) (nw (wr τ9 66 (Int32.toNatClampNeg (τ9 76 29)) (y6)) (fun τ10 => gd (inb (τ10 76 29) (rlen 67)) (nw (wr τ10 67 (Int32.toNatClampNeg (τ10 76 29)) (v1)) (fun τ11 => gd (inb (y8) (rlen 53)) (gd (inb (τ11 76 29) (rlen 68)) (nw (wr τ11 68 (Int32.toNatClampNeg (τ11 76 29)) ((v2) &&& (τ11 53 (Int32.toNatClampNeg (y8))))) (fun τ12 => gd (inb (y8) (rlen 53)) (gd (inb (τ12 76 29) (rlen 69)) (nw (wr τ12 69 (Int32.toNatClampNeg (τ12 76 29)) (τ12 53 (Int32.toNatClampNeg (y8)))) (fun τ13 => gd (inb (v1) (rlen 60)) (gd (inb (τ13 76 29) (rlen 71)) (nw (wr τ13 71 (Int32.toNatClampNeg (τ13 76 29)) (vp_nar .boolean (τ13 60 (Int32.toNatClampNeg (v1))))) (fun τ14 => nw (wr τ14 76 29 ((τ14 76 29) + (1))) (fun τ15 => gd (inb (v1) (rlen 61)) (gd (inb (v1) (rlen 61)) (nw (wr τ15 61 (Int32.toNatClampNeg (v1)) ((τ15 61 (Int32.toNatClampNeg (v1))) + (1))) (fun τ16 => bd (f_X10_value (y8) (v2) τ16) (fun y17 τ18 => some (y17, τ18))))))))))))))))))))
    else gd (inb ((y6) - (100)) (rlen 64)) (bd (f_X10_held (τ7 64 (Int32.toNatClampNeg ((y6) - (100)))) τ7) (fun y19 τ20 => bd (f_X10_value (y19) (v2) τ20) (fun y21 τ22 => gd (inb (v1) (rlen 61)) (nw (wr τ22 61 (Int32.toNatClampNeg (v1)) (0)) (fun τ23 => gd (inb ((y6) - (100)) (rlen 65)) (bd (f_X10_value (y19) (τ23 65 (Int32.toNatClampNeg ((y6) - (100)))) τ23) (fun y24 τ25 => bd (f_X10_apart (y21) (y24) τ25) (fun y26 τ27 => (if (τ27 76 24) < (y26) then gd (inb (v1) (rlen 58)) (nw (wr τ27 58 (Int32.toNatClampNeg (v1)) (vp_nar .boolean (1))) (fun τ28 => gd (inb (v1) (rlen 62)) (nv (τ28 62 (Int32.toNatClampNeg (v1))) (fun y29 => (f_X10_read_178 FUEL (v1) (y21) (y29) τ28)))))
      else gd (inb (v1) (rlen 62)) (nw (wr τ27 62 (Int32.toNatClampNeg (v1)) (τ27 76 29)) (fun τ30 => some (y21, τ30))))))))))))))))))))
def f_X10_read_41  (v1 v2 v3 : Int32) (σ : Mem) : Option (Int32 × Mem) := (f_X10_read_46 (v1) (v2) (v3) (1) σ)
def f_X10_read_45  (v1 v2 v3 : Int32) (σ : Mem) : Option (Int32 × Mem) := (f_X10_read_46 (v1) (v2) (v3) (0) σ)
def f_X10_read (x1 x2 : Int32) (σ : Mem) : Option (Int32 × Mem) := bd (f_X10_isReader (x1) σ) (fun y31 τ32 => (if (y31) = 0 then (f_X10_read_45 (x1) (x2) (y31) τ32)
  else gd (inb (x1) (rlen 59)) ((if (τ32 59 (Int32.toNatClampNeg (x1))) = ((-1)) then (f_X10_read_45 (x1) (x2) (y31) τ32)
    else gd (inb (x1) (rlen 59)) ((if (100) ≤ (τ32 59 (Int32.toNatClampNeg (x1))) then (f_X10_read_41 (x1) (x2) (y31) τ32)
      else (if (300) ≤ (τ32 76 29) then (f_X10_read_45 (x1) (x2) (y31) τ32)
        else (f_X10_read_41 (x1) (x2) (y31) τ32))))))))
def f_X10_voids_37  (k4 : Int32 → Int32 → Int32 → Mem → Option (Int32 × Mem)) (v1 v3 s0 s1 : Int32) (σ : Mem) : Option (Int32 × Mem) := nv ((s1) + (s0)) (fun y1 => (k4 (v1) (y1) ((v3) + (1)) σ))
def f_X10_voids_36  (k4 : Int32 → Int32 → Int32 → Mem → Option (Int32 × Mem)) (v1 v3 s0 : Int32) (σ : Mem) : Option (Int32 × Mem) := (f_X10_voids_37 k4 (v1) (v3) (0) (s0) σ)
def f_X10_voids_4  : Nat → Int32 → Int32 → Int32 → Mem → Option (Int32 × Mem)
  | 0, _, _, _, _ => none
  | n + 1, v1, v2, v3, σ => (if (σ 76 29) ≤ (v3) then some (v2, σ)
    else gd (inb (v3) (rlen 67)) ((if (σ 67 (Int32.toNatClampNeg (v3))) = (v1) then gd (inb (v3) (rlen 70)) ((if (σ 70 (Int32.toNatClampNeg (v3))) = 0 then (f_X10_voids_36 (f_X10_voids_4 n) (v1) (v3) (v2) σ)
        else (f_X10_voids_37 (f_X10_voids_4 n) (v1) (v3) (1) (v2) σ)))
      else (f_X10_voids_36 (f_X10_voids_4 n) (v1) (v3) (v2) σ))))
def f_X10_voids (x1 : Int32) (σ : Mem) : Option (Int32 × Mem) := (f_X10_voids_4 FUEL (x1) (0) (0) σ)
def f_X10_goOn_26  (v1 s0 s1 : Int32) (σ : Mem) : Option (Int32 × Mem) := bd (f_X10_asked_ (s1) (s0) σ) (fun y1 τ2 => (if (y1) = 0 then some (0, τ2)
  else gd (inb (v1) (rlen 58)) (nw (wr τ2 58 (Int32.toNatClampNeg (v1)) (vp_nar .boolean (0))) (fun τ3 => gd (inb (v1) (rlen 61)) (nw (wr τ3 61 (Int32.toNatClampNeg (v1)) (0)) (fun τ4 => gd (inb (v1) (rlen 62)) (nw (wr τ4 62 (Int32.toNatClampNeg (v1)) (τ4 76 29)) (fun τ5 => bd (f_X10_voids (v1) τ5) (fun y6 τ7 => some (y6, τ7))))))))))
def f_X10_goOn_25  (v1 s0 : Int32) (σ : Mem) : Option (Int32 × Mem) := (f_X10_goOn_26 (v1) (0) (s0) σ)
def f_X10_goOn (x1 : Int32) (σ : Mem) : Option (Int32 × Mem) := bd (f_X10_isReader (x1) σ) (fun y8 τ9 => (if (y8) = 0 then (f_X10_goOn_25 (x1) (y8) τ9)
  else gd (inb (x1) (rlen 58)) ((if (τ9 58 (Int32.toNatClampNeg (x1))) = 0 then (f_X10_goOn_25 (x1) (y8) τ9)
    else (f_X10_goOn_26 (x1) (1) (y8) τ9)))))
def f_X10_plain_82  (s0 : Int32) (σ : Mem) : Option (Int32 × Mem) := some (s0, σ)
def f_X10_plain (x1 : Int32) (σ : Mem) : Option (Int32 × Mem) := bd (f_X10_hasAnswer (x1) σ) (fun y1 τ2 => (if (y1) = 0 then some (0, τ2)
  else bd (f_X10_wantsFirst (x1) τ2) (fun y3 τ4 => (if (y3) ≤ 0 then bd (f_X10_reading (x1) (0) (0) τ4) (fun y5 τ6 => bd (f_X10_markBy (y5) τ6) (fun y7 τ8 => gd (inb ((x1) - (x1) / (4) * (4)) (rlen 54)) ((if (τ8 54 (Int32.toNatClampNeg ((x1) - (x1) / (4) * (4)))) = 0 then some (y7, τ8)
      else bd (f_X10_isApart (x1) τ8) (fun y9 τ10 => (if (y9) = 0 then bd (f_X10_reading (x1) (1) (0) τ10) (fun y11 τ12 => bd (f_X10_markBy (y11) τ12) (fun y13 τ14 => (f_X10_plain_82 ((((y7) + (y13)) + (1)) / (2)) τ14)))
        else bd (f_X10_third (x1) τ10) (fun y15 τ16 => bd (f_X10_markBy (y15) τ16) (fun y17 τ18 => (f_X10_plain_82 (y17) τ18)))))))))
    else some ((-1), τ4)))))
def f_X10_marked_67  (s0 : Int32) (σ : Mem) : Option (Int32 × Mem) := some (s0, σ)
def f_X10_marked_46  (v2 s0 : Int32) (σ : Mem) : Option (Int32 × Mem) := bd (f_X10_apart (v2) (s0) σ) (fun y1 τ2 => (if (y1) ≤ (τ2 76 24) then (f_X10_marked_67 (v2) τ2)
  else (f_X10_marked_67 (s0) τ2)))
def f_X10_marked_45  (v2 : Int32) (σ : Mem) : Option (Int32 × Mem) := (f_X10_marked_46 (v2) (v2) σ)
def f_X10_marked_26  (v2 s0 : Int32) (σ : Mem) : Option (Int32 × Mem) := (if (v2) = ((-1)) then (f_X10_marked_45 (v2) σ)
  else (if (s0) = ((-1)) then (f_X10_marked_45 (v2) σ)
    else bd (f_X10_markBy (s0) σ) (fun y3 τ4 => (f_X10_marked_46 (v2) (y3) τ4))))
def f_X10_marked (x1 : Int32) (σ : Mem) : Option (Int32 × Mem) := bd (f_X10_plain (x1) σ) (fun y5 τ6 => gd (inb (x1) (rlen 48)) ((if (τ6 48 (Int32.toNatClampNeg (x1))) = 0 then (f_X10_marked_26 (y5) ((-1)) τ6)
  else bd (f_X10_reading (x1) (0) (1) τ6) (fun y7 τ8 => (f_X10_marked_26 (y5) (y7) τ8)))))
def f_X10_totalOf_106  (s0 : Int32) (σ : Mem) : Option (Int32 × Mem) := some (s0, σ)
def f_X10_totalOf_79  (k10 : Int32 → Int32 → Int32 → Int32 → Int32 → Mem → Option (Int32 × Mem)) (v1 v2 v3 v5 s0 : Int32) (σ : Mem) : Option (Int32 × Mem) := (k10 (v1) (v2) (v3) (s0) ((v5) + (1)) σ)
def f_X10_totalOf_77  (k10 : Int32 → Int32 → Int32 → Int32 → Int32 → Mem → Option (Int32 × Mem)) (v1 v2 v3 v4 v5 : Int32) (σ : Mem) : Option (Int32 × Mem) := (f_X10_totalOf_79 k10 (v1) (v2) (v3) (v5) (v4) σ)
def f_X10_totalOf_57  (k10 : Int32 → Int32 → Int32 → Int32 → Int32 → Mem → Option (Int32 × Mem)) (v1 v3 v4 v5 v6 s0 s1 : Int32) (σ : Mem) : Option (Int32 × Mem) := nv ((s1) + (s0)) (fun y1 => (if (v5) < (2) then (f_X10_totalOf_77 k10 (v1) (y1) (v3) (v4) (v5) σ)
  else (if (v6) ≤ (v4) then (f_X10_totalOf_77 k10 (v1) (y1) (v3) (v4) (v5) σ)
    else (f_X10_totalOf_79 k10 (v1) (y1) (v3) (v5) (v6) σ))))
def f_X10_totalOf_43  (k10 : Int32 → Int32 → Int32 → Int32 → Int32 → Mem → Option (Int32 × Mem)) (v1 v2 v4 v5 v6 s0 : Int32) (σ : Mem) : Option (Int32 × Mem) := (if (2) ≤ (v5) then (f_X10_totalOf_57 k10 (v1) (s0) (v4) (v5) (v6) (0) (v2) σ)
  else (f_X10_totalOf_57 k10 (v1) (s0) (v4) (v5) (v6) (v6) (v2) σ))
def f_X10_totalOf_42  (k10 : Int32 → Int32 → Int32 → Int32 → Int32 → Mem → Option (Int32 × Mem)) (v1 v2 v4 v5 v6 : Int32) (σ : Mem) : Option (Int32 × Mem) := (f_X10_totalOf_43 k10 (v1) (v2) (v4) (v5) (v6) (0) σ)
def f_X10_totalOf_10  : Nat → Int32 → Int32 → Int32 → Int32 → Int32 → Mem → Option (Int32 × Mem)
  | 0, _, _, _, _, _, _ => none
  | n + 1, v1, v2, v3, v4, v5, σ => (if (4) ≤ (v5) then (if (v3) = 0 then (f_X10_totalOf_106 ((-1)) σ)
      else gd (inb (v1) (rlen 47)) ((f_X10_totalOf_106 (((v2) + (v4)) + (σ 47 (Int32.toNatClampNeg (v1)))) σ)))
    else bd (f_X10_marked (((4) * (v1)) + (v5)) σ) (fun y2 τ3 => (if (v3) = 0 then (f_X10_totalOf_42 (f_X10_totalOf_10 n) (v1) (v2) (v4) (v5) (y2) τ3)
      else (if (y2) = ((-1)) then (f_X10_totalOf_42 (f_X10_totalOf_10 n) (v1) (v2) (v4) (v5) (y2) τ3)
        else (f_X10_totalOf_43 (f_X10_totalOf_10 n) (v1) (v2) (v4) (v5) (y2) (1) τ3)))))
def f_X10_totalOf (x1 : Int32) (σ : Mem) : Option (Int32 × Mem) := (f_X10_totalOf_10 FUEL (x1) (0) (1) (0) (0) σ)
def f_X10_gradeOf_58  (s0 : Int32) (σ : Mem) : Option (Int32 × Mem) := some (s0, σ)
def f_X10_gradeOf (x1 : Int32) (σ : Mem) : Option (Int32 × Mem) := bd (f_X10_totalOf (x1) σ) (fun y1 τ2 => (if (y1) = ((-1)) then (f_X10_gradeOf_58 ((-1)) τ2)
  else gd (inb (0) (rlen 50)) ((if (y1) < (τ2 50 (Int32.toNatClampNeg (0))) then gd (inb (1) (rlen 50)) ((if (y1) < (τ2 50 (Int32.toNatClampNeg (1))) then gd (inb (2) (rlen 50)) ((if (y1) < (τ2 50 (Int32.toNatClampNeg (2))) then (f_X10_gradeOf_58 (0) τ2)
        else (f_X10_gradeOf_58 (1) τ2)))
      else (f_X10_gradeOf_58 (2) τ2)))
    else (f_X10_gradeOf_58 (3) τ2)))))
def f_X10_lines_112  (k86 : Int32 → Int32 → Mem → Option (Int32 × Mem)) (v6 s0 s1 : Int32) (σ : Mem) : Option (Int32 × Mem) := nv ((s1) + (s0)) (fun y1 => (k86 (y1) ((v6) + (1)) σ))
def f_X10_lines_86  : Nat → Int32 → Int32 → Mem → Option (Int32 × Mem)
  | 0, _, _, _ => none
  | n + 1, v5, v6, σ => (if (σ 76 25) ≤ (v6) then some (v5, σ)
    else bd (f_X10_gradeOf (v6) σ) (fun y2 τ3 => (if (y2) = (3) then (f_X10_lines_112 (f_X10_lines_86 n) (v6) (1) (v5) τ3)
      else (f_X10_lines_112 (f_X10_lines_86 n) (v6) (0) (v5) τ3))))
def f_X10_lines_51  (v1 v2 v3 s0 s1 : Int32) (σ : Mem) : Option (Int32 × Mem) := bd (f_X10_asked_ (s1) (s0) σ) (fun y4 τ5 => (if (y4) = 0 then some (0, τ5)
  else gd (inb (0) (rlen 50)) (nw (wr τ5 50 (Int32.toNatClampNeg (0)) (v1)) (fun τ6 => gd (inb (1) (rlen 50)) (nw (wr τ6 50 (Int32.toNatClampNeg (1)) (v2)) (fun τ7 => gd (inb (2) (rlen 50)) (nw (wr τ7 50 (Int32.toNatClampNeg (2)) (v3)) (fun τ8 => (f_X10_lines_86 FUEL (0) (0) τ8)))))))))
def f_X10_lines_34  (v1 v2 v3 s0 : Int32) (σ : Mem) : Option (Int32 × Mem) := (if (σ 76 26) = 0 then (f_X10_lines_51 (v1) (v2) (v3) (1) (s0) σ)
  else (f_X10_lines_51 (v1) (v2) (v3) (0) (s0) σ))
def f_X10_lines_33  (v1 v2 v3 : Int32) (σ : Mem) : Option (Int32 × Mem) := (f_X10_lines_34 (v1) (v2) (v3) (0) σ)
def f_X10_lines (x1 x2 x3 : Int32) (σ : Mem) : Option (Int32 × Mem) := bd (f_X10_in (x1) (0) (999) σ) (fun y9 τ10 => (if (y9) = 0 then (f_X10_lines_33 (x1) (x2) (x3) τ10)
  else bd (f_X10_in (x2) (0) (x1) τ10) (fun y11 τ12 => (if (y11) = 0 then (f_X10_lines_33 (x1) (x2) (x3) τ12)
    else bd (f_X10_in (x3) (0) (x2) τ12) (fun y13 τ14 => (if (y13) = 0 then (f_X10_lines_33 (x1) (x2) (x3) τ14)
      else (f_X10_lines_34 (x1) (x2) (x3) (1) τ14)))))))
def f_X10_release_108  (k74 : Int32 → Int32 → Mem → Option (Int32 × Mem)) (v3 s0 s1 : Int32) (σ : Mem) : Option (Int32 × Mem) := nv ((s1) + (s0)) (fun y1 => (k74 (y1) ((v3) + (1)) σ))
def f_X10_release_74  : Nat → Int32 → Int32 → Mem → Option (Int32 × Mem)
  | 0, _, _, _ => none
  | n + 1, v2, v3, σ => (if (σ 76 25) ≤ (v3) then some (v2, σ)
    else bd (f_X10_gradeOf (v3) σ) (fun y2 τ3 => gd (inb (v3) (rlen 49)) (nw (wr τ3 49 (Int32.toNatClampNeg (v3)) (y2)) (fun τ4 => gd (inb (v3) (rlen 49)) ((if (τ4 49 (Int32.toNatClampNeg (v3))) ≤ 0 then (f_X10_release_108 (f_X10_release_74 n) (v3) (0) (v2) τ4)
      else (f_X10_release_108 (f_X10_release_74 n) (v3) (1) (v2) τ4)))))))
def f_X10_release_55  (v1 : Int32) (σ : Mem) : Option (Int32 × Mem) := bd (f_X10_asked (v1) σ) (fun y5 τ6 => (if (y5) = 0 then some (0, τ6)
  else nw (wr τ6 76 26 (1)) (fun τ7 => (f_X10_release_74 FUEL (0) (0) τ7))))
def f_X10_release_48  (k22 : Int32 → Int32 → Mem → Option (Int32 × Mem)) (v2 s0 : Int32) (σ : Mem) : Option (Int32 × Mem) := (k22 (s0) ((v2) + (1)) σ)
def f_X10_release_22  : Nat → Int32 → Int32 → Mem → Option (Int32 × Mem)
  | 0, _, _, _ => none
  | n + 1, v1, v2, σ => (if (σ 76 25) ≤ (v2) then (f_X10_release_55 (v1) σ)
    else (if (v1) = 0 then (f_X10_release_55 (v1) σ)
      else bd (f_X10_totalOf (v2) σ) (fun y8 τ9 => (if (y8) = ((-1)) then (f_X10_release_48 (f_X10_release_22 n) (v2) (0) τ9)
        else (f_X10_release_48 (f_X10_release_22 n) (v2) (1) τ9)))))
def f_X10_release_19  (s0 : Int32) (σ : Mem) : Option (Int32 × Mem) := (f_X10_release_22 FUEL (s0) (0) σ)
def f_X10_release_18  (σ : Mem) : Option (Int32 × Mem) := (f_X10_release_19 (0) σ)
def f_X10_release (σ : Mem) : Option (Int32 × Mem) := (if (σ 76 26) = 0 then (if (σ 76 25) ≤ 0 then (f_X10_release_18 σ)
    else (f_X10_release_19 (1) σ))
  else (f_X10_release_18 σ))
def f_X10_appeal_83  (v4 s0 s1 : Int32) (σ : Mem) : Option (Int32 × Mem) := bd (f_X10_asked_ (s1) (s0) σ) (fun y1 τ2 => (if (y1) = 0 then some (0, τ2)
  else bd (f_X10_marked (v4) τ2) (fun y3 τ4 => gd (inb (v4) (rlen 48)) (nw (wr τ4 48 (Int32.toNatClampNeg (v4)) (vp_nar .boolean (1))) (fun τ5 => some (y3, τ5))))))
def f_X10_appeal_82  (v4 s0 : Int32) (σ : Mem) : Option (Int32 × Mem) := (f_X10_appeal_83 (v4) (0) (s0) σ)
def f_X10_appeal_34  (v3 s0 : Int32) (σ : Mem) : Option (Int32 × Mem) := (if (v3) = 0 then (f_X10_appeal_82 (s0) (v3) σ)
  else (if (σ 76 26) = 0 then (f_X10_appeal_82 (s0) (v3) σ)
    else bd (f_X10_hasAnswer (s0) σ) (fun y6 τ7 => (if (y6) = 0 then (f_X10_appeal_82 (s0) (v3) τ7)
      else gd (inb (s0) (rlen 48)) ((if (τ7 48 (Int32.toNatClampNeg (s0))) = 0 then bd (f_X10_marked (s0) τ7) (fun y8 τ9 => (if (y8) = ((-1)) then (f_X10_appeal_82 (s0) (v3) τ9)
          else (f_X10_appeal_83 (s0) (1) (v3) τ9)))
        else (f_X10_appeal_82 (s0) (v3) τ7)))))))
def f_X10_appeal_20  (v1 v2 s0 : Int32) (σ : Mem) : Option (Int32 × Mem) := (if (s0) = 0 then (f_X10_appeal_34 (s0) (0) σ)
  else (f_X10_appeal_34 (s0) (((4) * (v1)) + (v2)) σ))
def f_X10_appeal_19  (v1 v2 : Int32) (σ : Mem) : Option (Int32 × Mem) := (f_X10_appeal_20 (v1) (v2) (0) σ)
def f_X10_appeal (x1 x2 : Int32) (σ : Mem) : Option (Int32 × Mem) := bd (f_X10_isPupil (x1) σ) (fun y10 τ11 => (if (y10) = 0 then (f_X10_appeal_19 (x1) (x2) τ11)
  else bd (f_X10_isQuestion (x2) τ11) (fun y12 τ13 => (if (y12) = 0 then (f_X10_appeal_19 (x1) (x2) τ13)
    else (f_X10_appeal_20 (x1) (x2) (1) τ13)))))
def f_X10_versions_21  (s0 : Int32) (σ : Mem) : Option (Int32 × Mem) := some (s0, σ)
def f_X10_versions (x1 : Int32) (σ : Mem) : Option (Int32 × Mem) := bd (f_X10_isQuestion (x1) σ) (fun y1 τ2 => bd (f_X10_asked (y1) τ2) (fun y3 τ4 => (if (y3) = 0 then (f_X10_versions_21 (0) τ4)
  else gd (inb (x1) (rlen 51)) ((f_X10_versions_21 (τ4 51 (Int32.toNatClampNeg (x1))) τ4)))))
def f_X10_markOf_62  (s0 : Int32) (σ : Mem) : Option (Int32 × Mem) := some (s0, σ)
def f_X10_markOf_28  (v1 v2 v3 s0 : Int32) (σ : Mem) : Option (Int32 × Mem) := bd (f_X10_in (v3) (0) (255) σ) (fun y1 τ2 => bd (f_X10_asked_ (s0) (y1) τ2) (fun y3 τ4 => (if (y3) = 0 then (f_X10_markOf_62 (0) τ4)
  else bd (f_X10_value (((6) * (v1)) + (v2)) (v3) τ4) (fun y5 τ6 => (f_X10_markOf_62 (y5) τ6)))))
def f_X10_markOf_27  (v1 v2 v3 : Int32) (σ : Mem) : Option (Int32 × Mem) := (f_X10_markOf_28 (v1) (v2) (v3) (0) σ)
def f_X10_markOf (x1 x2 x3 : Int32) (σ : Mem) : Option (Int32 × Mem) := bd (f_X10_isQuestion (x1) σ) (fun y7 τ8 => (if (y7) = 0 then (f_X10_markOf_27 (x1) (x2) (x3) τ8)
  else gd (inb (x1) (rlen 51)) (bd (f_X10_in (x2) (0) ((τ8 51 (Int32.toNatClampNeg (x1))) - (1)) τ8) (fun y9 τ10 => (if (y9) = 0 then (f_X10_markOf_27 (x1) (x2) (x3) τ10)
    else (f_X10_markOf_28 (x1) (x2) (x3) (1) τ10))))))
def f_X10_written_68  (s0 : Int32) (σ : Mem) : Option (Int32 × Mem) := gd (isC (s0)) (some (s0, σ))
def f_X10_written_33  (v1 v2 v3 s0 : Int32) (σ : Mem) : Option (Int32 × Mem) := bd (f_X10_asked (s0) σ) (fun y1 τ2 => (if (y1) = 0 then gd (isC (0)) (some (0, τ2))
  else (if (90) ≤ (v3) then (f_X10_written_68 (0) τ2)
    else gd (inb (((90) * (((6) * (v1)) + (v2))) + (v3)) (rlen 52)) ((f_X10_written_68 (((τ2 52 (Int32.toNatClampNeg (((90) * (((6) * (v1)) + (v2))) + (v3))) : Int32).toUInt32 % 65536).toInt32) τ2)))))
def f_X10_written_32  (v1 v2 v3 : Int32) (σ : Mem) : Option (Int32 × Mem) := (f_X10_written_33 (v1) (v2) (v3) (0) σ)
def f_X10_written (x1 x2 x3 : Int32) (σ : Mem) : Option (Int32 × Mem) := bd (f_X10_isQuestion (x1) σ) (fun y3 τ4 => (if (y3) = 0 then (f_X10_written_32 (x1) (x2) (x3) τ4)
  else gd (inb (x1) (rlen 51)) (bd (f_X10_in (x2) (0) ((τ4 51 (Int32.toNatClampNeg (x1))) - (1)) τ4) (fun y5 τ6 => (if (y5) = 0 then (f_X10_written_32 (x1) (x2) (x3) τ6)
    else (if (x3) < 0 then (f_X10_written_32 (x1) (x2) (x3) τ6)
      else (f_X10_written_33 (x1) (x2) (x3) (1) τ6)))))))
def f_X10_mark_40  (s0 : Int32) (σ : Mem) : Option (Int32 × Mem) := some (s0, σ)
def f_X10_mark_21  (v1 v2 s0 : Int32) (σ : Mem) : Option (Int32 × Mem) := bd (f_X10_asked (s0) σ) (fun y1 τ2 => (if (y1) = 0 then (f_X10_mark_40 (0) τ2)
  else bd (f_X10_marked (((4) * (v1)) + (v2)) τ2) (fun y3 τ4 => (f_X10_mark_40 (y3) τ4))))
def f_X10_mark_20  (v1 v2 : Int32) (σ : Mem) : Option (Int32 × Mem) := (f_X10_mark_21 (v1) (v2) (0) σ)
def f_X10_mark (x1 x2 : Int32) (σ : Mem) : Option (Int32 × Mem) := bd (f_X10_isPupil (x1) σ) (fun y5 τ6 => (if (y5) = 0 then (f_X10_mark_20 (x1) (x2) τ6)
  else bd (f_X10_isQuestion (x2) τ6) (fun y7 τ8 => (if (y7) = 0 then (f_X10_mark_20 (x1) (x2) τ8)
    else (f_X10_mark_21 (x1) (x2) (1) τ8)))))
def f_X10_markAnew_40  (s0 : Int32) (σ : Mem) : Option (Int32 × Mem) := some (s0, σ)
def f_X10_markAnew_21  (v1 v2 s0 : Int32) (σ : Mem) : Option (Int32 × Mem) := bd (f_X10_asked (s0) σ) (fun y1 τ2 => (if (y1) = 0 then (f_X10_markAnew_40 (0) τ2)
  else bd (f_X10_marked (((4) * (v1)) + (v2)) τ2) (fun y3 τ4 => (f_X10_markAnew_40 (y3) τ4))))
def f_X10_markAnew_20  (v1 v2 : Int32) (σ : Mem) : Option (Int32 × Mem) := (f_X10_markAnew_21 (v1) (v2) (0) σ)
def f_X10_markAnew (x1 x2 : Int32) (σ : Mem) : Option (Int32 × Mem) := bd (f_X10_isPupil (x1) σ) (fun y5 τ6 => (if (y5) = 0 then (f_X10_markAnew_20 (x1) (x2) τ6)
  else bd (f_X10_isQuestion (x2) τ6) (fun y7 τ8 => (if (y7) = 0 then (f_X10_markAnew_20 (x1) (x2) τ8)
    else (f_X10_markAnew_21 (x1) (x2) (1) τ8)))))
def f_X10_answer_167  (s0 : Int32) (σ : Mem) : Option (Int32 × Mem) := some (s0, σ)
def f_X10_answer_110  (k51 : Int32 → Int32 → Int32 → Int32 → Int32 → Mem → Option (Int32 × Mem)) (v3 v4 v5 v7 s0 s1 : Int32) (σ : Mem) : Option (Int32 × Mem) := nv ((s1) + (s0)) (fun y1 => (k51 (v3) (v4) (v5) (y1) ((v7) + (1)) σ))
def f_X10_answer_88  (k51 : Int32 → Int32 → Int32 → Int32 → Int32 → Mem → Option (Int32 × Mem)) (v3 v4 v6 v7 s0 s1 : Int32) (σ : Mem) : Option (Int32 × Mem) := nv ((s1) + (s0)) (fun y2 => gd (inb (v7) (rlen 66)) ((if (σ 66 (Int32.toNatClampNeg (v7))) = (v4) then (f_X10_answer_110 k51 (v3) (v4) (y2) (v7) (1) (v6) σ)
  else (f_X10_answer_110 k51 (v3) (v4) (y2) (v7) (0) (v6) σ))))
def f_X10_answer_87  (k51 : Int32 → Int32 → Int32 → Int32 → Int32 → Mem → Option (Int32 × Mem)) (v3 v4 v6 v7 s0 : Int32) (σ : Mem) : Option (Int32 × Mem) := (f_X10_answer_88 k51 (v3) (v4) (v6) (v7) (0) (s0) σ)
def f_X10_answer_51  : Nat → Int32 → Int32 → Int32 → Int32 → Int32 → Mem → Option (Int32 × Mem)
  | 0, _, _, _, _, _, _ => none
  | n + 1, v3, v4, v5, v6, v7, σ => (if (σ 76 29) ≤ (v7) then (if (v3) = 0 then (f_X10_answer_167 (v5) σ)
      else (if (v3) = (1) then (f_X10_answer_167 (v6) σ)
        else (if (v3) = (2) then bd (f_X10_wants (v4) σ) (fun y3 τ4 => (f_X10_answer_167 (y3) τ4))
          else gd (inb (v4) (rlen 48)) ((if (σ 48 (Int32.toNatClampNeg (v4))) = 0 then (f_X10_answer_167 (0) σ)
            else (f_X10_answer_167 (1) σ))))))
    else gd (inb (v7) (rlen 66)) ((if (σ 66 (Int32.toNatClampNeg (v7))) = (v4) then bd (f_X10_counts (v7) σ) (fun y5 τ6 => (if (y5) = 0 then (f_X10_answer_87 (f_X10_answer_51 n) (v3) (v4) (v6) (v7) (v5) τ6)
        else (f_X10_answer_88 (f_X10_answer_51 n) (v3) (v4) (v6) (v7) (1) (v5) τ6)))
      else (f_X10_answer_87 (f_X10_answer_51 n) (v3) (v4) (v6) (v7) (v5) σ))))
def f_X10_answer_21  (v1 v2 v3 s0 : Int32) (σ : Mem) : Option (Int32 × Mem) := bd (f_X10_in (v3) (0) (3) σ) (fun y7 τ8 => bd (f_X10_asked_ (s0) (y7) τ8) (fun y9 τ10 => (if (y9) = 0 then some (0, τ10)
  else nv (((4) * (v1)) + (v2)) (fun y11 => (f_X10_answer_51 FUEL (v3) (y11) (0) (0) (0) τ10)))))
def f_X10_answer_20  (v1 v2 v3 : Int32) (σ : Mem) : Option (Int32 × Mem) := (f_X10_answer_21 (v1) (v2) (v3) (0) σ)
def f_X10_answer (x1 x2 x3 : Int32) (σ : Mem) : Option (Int32 × Mem) := bd (f_X10_isPupil (x1) σ) (fun y12 τ13 => (if (y12) = 0 then (f_X10_answer_20 (x1) (x2) (x3) τ13)
  else bd (f_X10_isQuestion (x2) τ13) (fun y14 τ15 => (if (y14) = 0 then (f_X10_answer_20 (x1) (x2) (x3) τ15)
    else (f_X10_answer_21 (x1) (x2) (x3) (1) τ15)))))
def f_X10_total_21  (s0 : Int32) (σ : Mem) : Option (Int32 × Mem) := some (s0, σ)
def f_X10_total (x1 : Int32) (σ : Mem) : Option (Int32 × Mem) := bd (f_X10_isPupil (x1) σ) (fun y1 τ2 => bd (f_X10_asked (y1) τ2) (fun y3 τ4 => (if (y3) = 0 then (f_X10_total_21 (0) τ4)
  else bd (f_X10_totalOf (x1) τ4) (fun y5 τ6 => (f_X10_total_21 (y5) τ6)))))
def f_X10_grade_34  (s0 : Int32) (σ : Mem) : Option (Int32 × Mem) := some (s0, σ)
def f_X10_grade (x1 x2 : Int32) (σ : Mem) : Option (Int32 × Mem) := bd (f_X10_isPupil (x1) σ) (fun y1 τ2 => bd (f_X10_asked (y1) τ2) (fun y3 τ4 => (if (y3) = 0 then (f_X10_grade_34 (0) τ4)
  else (if (x2) = 0 then bd (f_X10_gradeOf (x1) τ4) (fun y5 τ6 => (f_X10_grade_34 (y5) τ6))
    else gd (inb (x1) (rlen 49)) ((f_X10_grade_34 (τ4 49 (Int32.toNatClampNeg (x1))) τ4))))))
def f_X10_changed_47  (k9 : Int32 → Int32 → Mem → Option (Int32 × Mem)) (v2 s0 s1 : Int32) (σ : Mem) : Option (Int32 × Mem) := nv ((s1) + (s0)) (fun y1 => (k9 (y1) ((v2) + (1)) σ))
def f_X10_changed_46  (k9 : Int32 → Int32 → Mem → Option (Int32 × Mem)) (v2 s0 : Int32) (σ : Mem) : Option (Int32 × Mem) := (f_X10_changed_47 k9 (v2) (0) (s0) σ)
def f_X10_changed_9  : Nat → Int32 → Int32 → Mem → Option (Int32 × Mem)
  | 0, _, _, _ => none
  | n + 1, v1, v2, σ => (if (σ 76 25) ≤ (v2) then some (v1, σ)
    else gd (inb (v2) (rlen 49)) ((if (σ 49 (Int32.toNatClampNeg (v2))) = ((-1)) then (f_X10_changed_46 (f_X10_changed_9 n) (v2) (v1) σ)
      else bd (f_X10_gradeOf (v2) σ) (fun y2 τ3 => gd (inb (v2) (rlen 49)) ((if (y2) = (τ3 49 (Int32.toNatClampNeg (v2))) then (f_X10_changed_46 (f_X10_changed_9 n) (v2) (v1) τ3)
        else (f_X10_changed_47 (f_X10_changed_9 n) (v2) (1) (v1) τ3)))))))
def f_X10_changed (σ : Mem) : Option (Int32 × Mem) := nw (wr σ 76 22 (0)) (fun τ4 => (f_X10_changed_9 FUEL (0) (0) τ4))
def f_X10_lineAt_73  (k37 : Int32 → Int32 → Int32 → Mem → Option (Int32 × Mem)) (k47 : Int32 → Int32 → Int32 → Int32 → Int32 → Mem → Option (Int32 × Mem)) (v1 v2 v3 v5 s0 s1 : Int32) (σ : Mem) : Option (Int32 × Mem) := nv ((s1) + (s0)) (fun y1 => (k47 (v1) (v2) (v3) (y1) ((v5) + (1)) σ))
def f_X10_lineAt_47  (k37 : Int32 → Int32 → Int32 → Mem → Option (Int32 × Mem)) : Nat → Int32 → Int32 → Int32 → Int32 → Int32 → Mem → Option (Int32 × Mem)
  | 0, _, _, _, _, _, _ => none
  | n + 1, v1, v2, v3, v4, v5, σ => (if (σ 76 25) ≤ (v5) then (if ((v1) * (v2)) < ((100) * (v4)) then (k37 (v1) (v2) ((v3) + (1)) σ)
      else some (v3, σ))
    else bd (f_X10_totalOf (v5) σ) (fun y2 τ3 => (if (y2) < (v3) then (f_X10_lineAt_73 k37 (f_X10_lineAt_47 k37 n) (v1) (v2) (v3) (v5) (0) (v4) τ3)
      else (f_X10_lineAt_73 k37 (f_X10_lineAt_47 k37 n) (v1) (v2) (v3) (v5) (1) (v4) τ3))))
def f_X10_lineAt_37  : Nat → Int32 → Int32 → Int32 → Mem → Option (Int32 × Mem)
  | 0, _, _, _, _ => none
  | n + 1, v1, v2, v3, σ => (if (v2) ≤ 0 then some (0, σ)
    else (f_X10_lineAt_47 (f_X10_lineAt_37 n) FUEL (v1) (v2) (v3) (0) (0) σ))
def f_X10_lineAt_27  (k4 : Int32 → Int32 → Int32 → Mem → Option (Int32 × Mem)) (v1 v3 s0 s1 : Int32) (σ : Mem) : Option (Int32 × Mem) := nv ((s1) + (s0)) (fun y4 => (k4 (v1) (y4) ((v3) + (1)) σ))
def f_X10_lineAt_4  : Nat → Int32 → Int32 → Int32 → Mem → Option (Int32 × Mem)
  | 0, _, _, _, _ => none
  | n + 1, v1, v2, v3, σ => (if (σ 76 25) ≤ (v3) then (f_X10_lineAt_37 FUEL (v1) (v2) (0) σ)
    else bd (f_X10_totalOf (v3) σ) (fun y5 τ6 => (if (y5) = ((-1)) then (f_X10_lineAt_27 (f_X10_lineAt_4 n) (v1) (v3) (0) (v2) τ6)
      else (f_X10_lineAt_27 (f_X10_lineAt_4 n) (v1) (v3) (1) (v2) τ6))))
def f_X10_lineAt (x1 : Int32) (σ : Mem) : Option (Int32 × Mem) := (f_X10_lineAt_4 FUEL (x1) (0) (0) σ)
def f_X10_lineOf_23  (s0 : Int32) (σ : Mem) : Option (Int32 × Mem) := some (s0, σ)
def f_X10_lineOf (x1 : Int32) (σ : Mem) : Option (Int32 × Mem) := bd (f_X10_in (x1) (0) (100) σ) (fun y1 τ2 => bd (f_X10_asked (y1) τ2) (fun y3 τ4 => (if (y3) = 0 then (f_X10_lineOf_23 (0) τ4)
  else bd (f_X10_lineAt (x1) τ4) (fun y5 τ6 => (f_X10_lineOf_23 (y5) τ6)))))
def f_X10_lineAnew_23  (s0 : Int32) (σ : Mem) : Option (Int32 × Mem) := some (s0, σ)
def f_X10_lineAnew (x1 : Int32) (σ : Mem) : Option (Int32 × Mem) := bd (f_X10_in (x1) (0) (100) σ) (fun y1 τ2 => bd (f_X10_asked (y1) τ2) (fun y3 τ4 => (if (y3) = 0 then (f_X10_lineAnew_23 (0) τ4)
  else bd (f_X10_lineAt (x1) τ4) (fun y5 τ6 => (f_X10_lineAnew_23 (y5) τ6)))))
def f_X10_ofReader_166  (s0 : Int32) (σ : Mem) : Option (Int32 × Mem) := some (s0, σ)
def f_X10_ofReader_65  : Nat → Int32 → Int32 → Int32 → Int32 → Int32 → Mem → Option (Int32 × Mem)
  | 0, _, _, _, _, _, _ => none
  | n + 1, v1, v2, v3, v4, v5, σ => (if (8) ≤ (v5) then (if (v2) = 0 then gd (inb (v1) (rlen 58)) ((if (σ 58 (Int32.toNatClampNeg (v1))) = 0 then (f_X10_ofReader_166 (0) σ)
        else (f_X10_ofReader_166 (1) σ)))
      else (if (v2) = (1) then bd (f_X10_handed (v1) σ) (fun y3 τ4 => (f_X10_ofReader_166 (y3) τ4))
        else (if (v2) = (2) then (f_X10_ofReader_166 (v3) σ)
          else (if (v2) = (3) then bd (f_X10_voids (v1) σ) (fun y1 τ2 => (f_X10_ofReader_166 (y1) τ2))
            else (if (v2) = (4) then gd (inb (v1) (rlen 61)) ((f_X10_ofReader_166 (σ 61 (Int32.toNatClampNeg (v1))) σ))
              else (f_X10_ofReader_166 (v4) σ))))))
    else gd (inb (v1) (rlen 63)) (nv ((v4) + (((σ 63 (Int32.toNatClampNeg (v1))) >>> ((v5) &&& 31)) &&& (1))) (fun y5 => (f_X10_ofReader_65 n (v1) (v2) (v3) (y5) ((v5) + (1)) σ))))
def f_X10_ofReader_51  (k25 : Int32 → Int32 → Int32 → Int32 → Mem → Option (Int32 × Mem)) (v1 v2 v4 s0 s1 : Int32) (σ : Mem) : Option (Int32 × Mem) := nv ((s1) + (s0)) (fun y6 => (k25 (v1) (v2) (y6) ((v4) + (1)) σ))
def f_X10_ofReader_25  : Nat → Int32 → Int32 → Int32 → Int32 → Mem → Option (Int32 × Mem)
  | 0, _, _, _, _, _ => none
  | n + 1, v1, v2, v3, v4, σ => (if (σ 76 29) ≤ (v4) then (f_X10_ofReader_65 FUEL (v1) (v2) (v3) (0) (0) σ)
    else gd (inb (v4) (rlen 67)) ((if (σ 67 (Int32.toNatClampNeg (v4))) = (v1) then (f_X10_ofReader_51 (f_X10_ofReader_25 n) (v1) (v2) (v4) (1) (v3) σ)
      else (f_X10_ofReader_51 (f_X10_ofReader_25 n) (v1) (v2) (v4) (0) (v3) σ))))
def f_X10_ofReader (x1 x2 : Int32) (σ : Mem) : Option (Int32 × Mem) := bd (f_X10_isReader (x1) σ) (fun y7 τ8 => bd (f_X10_in (x2) (0) (5) τ8) (fun y9 τ10 => bd (f_X10_asked_ (y7) (y9) τ10) (fun y11 τ12 => (if (y11) = 0 then some (0, τ12)
  else (f_X10_ofReader_25 FUEL (x1) (x2) (0) (0) τ12)))))
def f_X10_wanted_9  : Nat → Int32 → Int32 → Mem → Option (Int32 × Mem)
  | 0, _, _, _ => none
  | n + 1, v1, v2, σ => (if ((4) * (σ 76 25)) ≤ (v2) then some (v1, σ)
    else bd (f_X10_wants (v2) σ) (fun y1 τ2 => nv ((v1) + (y1)) (fun y3 => (f_X10_wanted_9 n (y3) ((v2) + (1)) τ2))))
def f_X10_wanted (σ : Mem) : Option (Int32 × Mem) := nw (wr σ 76 22 (0)) (fun τ4 => (f_X10_wanted_9 FUEL (0) (0) τ4))
theorem hiX10_thrown_10 : ∀ w ∈ wsX100, w ∈ wsX10_thrown := by decide +kernel
theorem kX10_thrown_114 : Cond.fieldLink RX10 114 "ScriptRoomModel" "thrown" "I" ∈ wsX10_thrown := by decide +kernel
set_option maxHeartbeats 4000000 in
set_option maxRecDepth 100000 in
theorem c_X10_thrown (l : Launch) : Cti l yX10_thrown wsX10_thrown 0 0 (fun G => [.ref (G.1 (10))]) (f_X10_thrown ) := by
  refine mk_i (cc := cX10_thrown) (nL := 1) (own := RX10) (by decide) rfl rfl (fun _ => Nat.le_of_ble_eq_true rfl) (fun X o σ rv C hR hf => ?_)
  show Bk X 1 o 0 0 0 [(0, .ref (ad X (10)))] [] σ
  unfold f_X10_thrown at hf
  refine b_aload_n C dX10_thrown_0 rfl 0 rfl ?_
  refine b_getS C hiX10_thrown_10 10 0 22 (by decide) (by decide) rfl (by decide) kX10_thrown_114 rfl rfl dX10_thrown_1 ?_
  exact hR _ _ _ _ dX10_thrown_4 hf
theorem hiX10_asked_10 : ∀ w ∈ wsX100, w ∈ wsX10_asked := by decide +kernel
theorem kX10_asked_114 : Cond.fieldLink RX10 114 "ScriptRoomModel" "thrown" "I" ∈ wsX10_asked := by decide +kernel
set_option maxHeartbeats 4000000 in
set_option maxRecDepth 100000 in
theorem w_X10_asked_10 {X : Ctx} {o : Int64} {rv : Int32 × Mem} (C : Cx X cX10_asked RX10 wsX10_asked 2 0 0) (hR : Rz X cX10_asked 2 o rv) : ∀ (v1 s0 : Int32) (σ : Mem), some rv = f_X10_asked_10 v1 s0 σ → Bk X 2 o 0 0 10 [(1, .int (v1))] [.int (s0), .ref (ad X (10))] σ := by
  intro v1 s0 σ hf
  unfold f_X10_asked_10 at hf
  refine b_putS C (ty := .int) hiX10_asked_10 tyX10 tyX10_ok nmX10 10 0 22 (by decide) (by decide) rfl (by decide) kX10_asked_114 rfl rfl (by decide +kernel) rfl rfl rfl dX10_asked_10 ?_
  refine b_nw hf (fun τ1 hf => ?_)
  refine b_iload_n C dX10_asked_13 rfl 0 rfl ?_
  exact hR _ _ _ _ dX10_asked_14 hf
set_option maxHeartbeats 4000000 in
set_option maxRecDepth 100000 in
theorem c_X10_asked (x1 : Int32) (l : Launch) : Cti l yX10_asked wsX10_asked 0 0 (fun G => [.ref (G.1 (10)), .int (x1)]) (f_X10_asked x1) := by
  refine mk_z (cc := cX10_asked) (nL := 2) (own := RX10) (by decide) rfl rfl (fun _ => Nat.le_of_ble_eq_true rfl) (fun X o σ rv C hR hf => ?_)
  show Bk X 2 o 0 0 0 [(0, .ref (ad X (10))), (1, .int (x1))] [] σ
  unfold f_X10_asked at hf
  refine b_aload_n C dX10_asked_0 rfl 0 rfl ?_
  refine b_iload_n C dX10_asked_1 rfl 1 rfl ?_
  refine b_if_eq C 9 dX10_asked_2 (by decide) hf (fun hf => ?_) (fun hf => ?_)
  · refine b_iconst C (v := 1) dX10_asked_9 (by decide) ?_
    refine b_sub [1] rfl ?_
    exact w_X10_asked_10 C hR _ _ _ hf
  · refine b_iconst C (v := 0) dX10_asked_5 (by decide) ?_
    refine b_goto C 10 dX10_asked_6 (by decide) ?_
    refine b_sub [1] rfl ?_
    exact w_X10_asked_10 C hR _ _ _ hf
theorem hiX10_asked__10 : ∀ w ∈ wsX100, w ∈ wsX10_asked_ := by decide +kernel
theorem kX10_asked__114 : Cond.fieldLink RX10 114 "ScriptRoomModel" "thrown" "I" ∈ wsX10_asked_ := by decide +kernel
set_option maxHeartbeats 4000000 in
set_option maxRecDepth 100000 in
theorem w_X10_asked__33 {X : Ctx} {o : Int64} {rv : Int32 × Mem} (C : Cx X cX10_asked_ RX10 wsX10_asked_ 3 0 0) (hR : Rz X cX10_asked_ 3 o rv) : ∀ (s0 : Int32) (σ : Mem), some rv = f_X10_asked__33 s0 σ → Bk X 3 o 0 0 33 [] [.int (s0)] σ := by
  intro s0 σ hf
  unfold f_X10_asked__33 at hf
  exact hR _ _ _ _ dX10_asked__33 hf
set_option maxHeartbeats 4000000 in
set_option maxRecDepth 100000 in
theorem w_X10_asked__18 {X : Ctx} {o : Int64} {rv : Int32 × Mem} (C : Cx X cX10_asked_ RX10 wsX10_asked_ 3 0 0) (hR : Rz X cX10_asked_ 3 o rv) : ∀ (s0 : Int32) (σ : Mem), some rv = f_X10_asked__18 s0 σ → Bk X 3 o 0 0 18 [(0, .ref (ad X (10)))] [.int (s0), .ref (ad X (10))] σ := by
  intro s0 σ hf
  unfold f_X10_asked__18 at hf
  refine b_putS C (ty := .int) hiX10_asked__10 tyX10 tyX10_ok nmX10 10 0 22 (by decide) (by decide) rfl (by decide) kX10_asked__114 rfl rfl (by decide +kernel) rfl rfl rfl dX10_asked__18 ?_
  refine b_nw hf (fun τ1 hf => ?_)
  refine b_aload_n C dX10_asked__21 rfl 0 rfl ?_
  refine b_getS C hiX10_asked__10 10 0 22 (by decide) (by decide) rfl (by decide) kX10_asked__114 rfl rfl dX10_asked__22 ?_
  refine b_if_ne C 32 dX10_asked__25 (by decide) hf (fun hf => ?_) (fun hf => ?_)
  · refine b_iconst C (v := 0) dX10_asked__32 (by decide) ?_
    refine b_sub [] rfl ?_
    exact w_X10_asked__33 C hR _ _ hf
  · refine b_iconst C (v := 1) dX10_asked__28 (by decide) ?_
    refine b_goto C 33 dX10_asked__29 (by decide) ?_
    refine b_sub [] rfl ?_
    exact w_X10_asked__33 C hR _ _ hf
set_option maxHeartbeats 4000000 in
set_option maxRecDepth 100000 in
theorem c_X10_asked_ (x1 x2 : Int32) (l : Launch) : Cti l yX10_asked_ wsX10_asked_ 0 0 (fun G => [.ref (G.1 (10)), .int (x1), .int (x2)]) (f_X10_asked_ x1 x2) := by
  refine mk_z (cc := cX10_asked_) (nL := 3) (own := RX10) (by decide) rfl rfl (fun _ => Nat.le_of_ble_eq_true rfl) (fun X o σ rv C hR hf => ?_)
  show Bk X 3 o 0 0 0 [(0, .ref (ad X (10))), (1, .int (x1)), (2, .int (x2))] [] σ
  unfold f_X10_asked_ at hf
  refine b_aload_n C dX10_asked__0 rfl 0 rfl ?_
  refine b_iload_n C dX10_asked__1 rfl 1 rfl ?_
  refine b_if_ne C 9 dX10_asked__2 (by decide) hf (fun hf => ?_) (fun hf => ?_)
  · refine b_iload_n C dX10_asked__9 rfl 2 rfl ?_
    refine b_if_eq C 17 dX10_asked__10 (by decide) hf (fun hf => ?_) (fun hf => ?_)
    · refine b_iconst C (v := 2) dX10_asked__17 (by decide) ?_
      refine b_sub [0] rfl ?_
      exact w_X10_asked__18 C hR _ _ hf
    · refine b_iconst C (v := 0) dX10_asked__13 (by decide) ?_
      refine b_goto C 18 dX10_asked__14 (by decide) ?_
      refine b_sub [0] rfl ?_
      exact w_X10_asked__18 C hR _ _ hf
  · refine b_iconst C (v := 1) dX10_asked__5 (by decide) ?_
    refine b_goto C 18 dX10_asked__6 (by decide) ?_
    refine b_sub [0] rfl ?_
    exact w_X10_asked__18 C hR _ _ hf
theorem hiX10_asked___10 : ∀ w ∈ wsX100, w ∈ wsX10_asked__ := by decide +kernel
theorem kX10_asked___114 : Cond.fieldLink RX10 114 "ScriptRoomModel" "thrown" "I" ∈ wsX10_asked__ := by decide +kernel
set_option maxHeartbeats 4000000 in
set_option maxRecDepth 100000 in
theorem w_X10_asked___41 {X : Ctx} {o : Int64} {rv : Int32 × Mem} (C : Cx X cX10_asked__ RX10 wsX10_asked__ 4 0 0) (hR : Rz X cX10_asked__ 4 o rv) : ∀ (s0 : Int32) (σ : Mem), some rv = f_X10_asked___41 s0 σ → Bk X 4 o 0 0 41 [] [.int (s0)] σ := by
  intro s0 σ hf
  unfold f_X10_asked___41 at hf
  exact hR _ _ _ _ dX10_asked___41 hf
set_option maxHeartbeats 4000000 in
set_option maxRecDepth 100000 in
theorem w_X10_asked___26 {X : Ctx} {o : Int64} {rv : Int32 × Mem} (C : Cx X cX10_asked__ RX10 wsX10_asked__ 4 0 0) (hR : Rz X cX10_asked__ 4 o rv) : ∀ (s0 : Int32) (σ : Mem), some rv = f_X10_asked___26 s0 σ → Bk X 4 o 0 0 26 [(0, .ref (ad X (10)))] [.int (s0), .ref (ad X (10))] σ := by
  intro s0 σ hf
  unfold f_X10_asked___26 at hf
  refine b_putS C (ty := .int) hiX10_asked___10 tyX10 tyX10_ok nmX10 10 0 22 (by decide) (by decide) rfl (by decide) kX10_asked___114 rfl rfl (by decide +kernel) rfl rfl rfl dX10_asked___26 ?_
  refine b_nw hf (fun τ1 hf => ?_)
  refine b_aload_n C dX10_asked___29 rfl 0 rfl ?_
  refine b_getS C hiX10_asked___10 10 0 22 (by decide) (by decide) rfl (by decide) kX10_asked___114 rfl rfl dX10_asked___30 ?_
  refine b_if_ne C 40 dX10_asked___33 (by decide) hf (fun hf => ?_) (fun hf => ?_)
  · refine b_iconst C (v := 0) dX10_asked___40 (by decide) ?_
    refine b_sub [] rfl ?_
    exact w_X10_asked___41 C hR _ _ hf
  · refine b_iconst C (v := 1) dX10_asked___36 (by decide) ?_
    refine b_goto C 41 dX10_asked___37 (by decide) ?_
    refine b_sub [] rfl ?_
    exact w_X10_asked___41 C hR _ _ hf
set_option maxHeartbeats 4000000 in
set_option maxRecDepth 100000 in
theorem c_X10_asked__ (x1 x2 x3 : Int32) (l : Launch) : Cti l yX10_asked__ wsX10_asked__ 0 0 (fun G => [.ref (G.1 (10)), .int (x1), .int (x2), .int (x3)]) (f_X10_asked__ x1 x2 x3) := by
  refine mk_z (cc := cX10_asked__) (nL := 4) (own := RX10) (by decide) rfl rfl (fun _ => Nat.le_of_ble_eq_true rfl) (fun X o σ rv C hR hf => ?_)
  show Bk X 4 o 0 0 0 [(0, .ref (ad X (10))), (1, .int (x1)), (2, .int (x2)), (3, .int (x3))] [] σ
  unfold f_X10_asked__ at hf
  refine b_aload_n C dX10_asked___0 rfl 0 rfl ?_
  refine b_iload_n C dX10_asked___1 rfl 1 rfl ?_
  refine b_if_ne C 9 dX10_asked___2 (by decide) hf (fun hf => ?_) (fun hf => ?_)
  · refine b_iload_n C dX10_asked___9 rfl 2 rfl ?_
    refine b_if_ne C 17 dX10_asked___10 (by decide) hf (fun hf => ?_) (fun hf => ?_)
    · refine b_iload_n C dX10_asked___17 rfl 3 rfl ?_
      refine b_if_eq C 25 dX10_asked___18 (by decide) hf (fun hf => ?_) (fun hf => ?_)
      · refine b_iconst C (v := 3) dX10_asked___25 (by decide) ?_
        refine b_sub [0] rfl ?_
        exact w_X10_asked___26 C hR _ _ hf
      · refine b_iconst C (v := 0) dX10_asked___21 (by decide) ?_
        refine b_goto C 26 dX10_asked___22 (by decide) ?_
        refine b_sub [0] rfl ?_
        exact w_X10_asked___26 C hR _ _ hf
    · refine b_iconst C (v := 2) dX10_asked___13 (by decide) ?_
      refine b_goto C 26 dX10_asked___14 (by decide) ?_
      refine b_sub [0] rfl ?_
      exact w_X10_asked___26 C hR _ _ hf
  · refine b_iconst C (v := 1) dX10_asked___5 (by decide) ?_
    refine b_goto C 26 dX10_asked___6 (by decide) ?_
    refine b_sub [0] rfl ?_
    exact w_X10_asked___26 C hR _ _ hf
set_option maxHeartbeats 4000000 in
set_option maxRecDepth 100000 in
theorem w_X10_in_15 {X : Ctx} {o : Int64} {rv : Int32 × Mem} (C : Cx X cX10_in RX10 wsX10_in 3 0 0) (hR : Rz X cX10_in 3 o rv) : ∀ (s0 : Int32) (σ : Mem), some rv = f_X10_in_15 s0 σ → Bk X 3 o 0 0 15 [] [.int (s0)] σ := by
  intro s0 σ hf
  unfold f_X10_in_15 at hf
  exact hR _ _ _ _ dX10_in_15 hf
set_option maxHeartbeats 4000000 in
set_option maxRecDepth 100000 in
theorem w_X10_in_14 {X : Ctx} {o : Int64} {rv : Int32 × Mem} (C : Cx X cX10_in RX10 wsX10_in 3 0 0) (hR : Rz X cX10_in 3 o rv) : ∀ (σ : Mem), some rv = f_X10_in_14 σ → Bk X 3 o 0 0 14 [] [] σ := by
  intro σ hf
  unfold f_X10_in_14 at hf
  refine b_iconst C (v := 0) dX10_in_14 (by decide) ?_
  exact w_X10_in_15 C hR _ _ hf
set_option maxHeartbeats 4000000 in
set_option maxRecDepth 100000 in
theorem c_X10_in (x1 x2 x3 : Int32) (l : Launch) : Cti l yX10_in wsX10_in 0 0 (fun G => [.int (x1), .int (x2), .int (x3)]) (f_X10_in x1 x2 x3) := by
  refine mk_z (cc := cX10_in) (nL := 3) (own := RX10) (by decide) rfl rfl (fun _ => Nat.le_of_ble_eq_true rfl) (fun X o σ rv C hR hf => ?_)
  show Bk X 3 o 0 0 0 [(0, .int (x1)), (1, .int (x2)), (2, .int (x3))] [] σ
  unfold f_X10_in at hf
  refine b_iload_n C dX10_in_0 rfl 0 rfl ?_
  refine b_iload_n C dX10_in_1 rfl 1 rfl ?_
  refine b_icmp_lt C 14 dX10_in_2 (by decide) hf (fun hf => ?_) (fun hf => ?_)
  · refine b_sub [] rfl ?_
    exact w_X10_in_14 C hR _ hf
  · refine b_iload_n C dX10_in_5 rfl 0 rfl ?_
    refine b_iload_n C dX10_in_6 rfl 2 rfl ?_
    refine b_icmp_gt C 14 dX10_in_7 (by decide) hf (fun hf => ?_) (fun hf => ?_)
    · refine b_sub [] rfl ?_
      exact w_X10_in_14 C hR _ hf
    · refine b_iconst C (v := 1) dX10_in_10 (by decide) ?_
      refine b_goto C 15 dX10_in_11 (by decide) ?_
      refine b_sub [] rfl ?_
      exact w_X10_in_15 C hR _ _ hf
theorem hiX10_isPupil_10 : ∀ w ∈ wsX100, w ∈ wsX10_isPupil := by decide +kernel
theorem kX10_isPupil_117 : Cond.fieldLink RX10 117 "ScriptRoomModel" "pupils" "I" ∈ wsX10_isPupil := by decide +kernel
set_option maxHeartbeats 4000000 in
set_option maxRecDepth 100000 in
theorem c_X10_isPupil (x1 : Int32) (l : Launch) : Cti l yX10_isPupil wsX10_isPupil 1 22 (fun G => [.ref (G.1 (10)), .int (x1)]) (f_X10_isPupil x1) := by
  refine mk_z (cc := cX10_isPupil) (nL := 2) (own := RX10) (by decide) rfl rfl (fun _ => Nat.le_of_ble_eq_true rfl) (fun X o σ rv C hR hf => ?_)
  show Bk X 2 o 0 0 0 [(0, .ref (ad X (10))), (1, .int (x1))] [] σ
  unfold f_X10_isPupil at hf
  refine b_iload_n C dX10_isPupil_0 rfl 1 rfl ?_
  refine b_iconst C (v := 0) dX10_isPupil_1 (by decide) ?_
  refine b_aload_n C dX10_isPupil_2 rfl 0 rfl ?_
  refine b_getS C hiX10_isPupil_10 10 4 25 (by decide) (by decide) rfl (by decide) kX10_isPupil_117 rfl rfl dX10_isPupil_3 ?_
  refine b_iconst C (v := 1) dX10_isPupil_6 (by decide) ?_
  refine b_isub C dX10_isPupil_7 ?_
  obtain ⟨y1, τ2, hqy1, hf⟩ := bd_inv hf
  refine b_callSi (n := 3) C (fun _ => [.int (x1), .int (0), .int ((σ 76 25) - (1))]) (c_X10_in (x1) (0) ((σ 76 25) - (1))) hqy1 gX10_isPupil_X10_in rfl (by decide +kernel) rfl (by decide) (by decide) (Nat.le_of_ble_eq_true rfl) dX10_isPupil_8 ?_
  exact hR _ _ _ _ dX10_isPupil_11 hf
set_option maxHeartbeats 4000000 in
set_option maxRecDepth 100000 in
theorem c_X10_isQuestion (x1 : Int32) (l : Launch) : Cti l yX10_isQuestion wsX10_isQuestion 1 22 (fun G => [.int (x1)]) (f_X10_isQuestion x1) := by
  refine mk_z (cc := cX10_isQuestion) (nL := 1) (own := RX10) (by decide) rfl rfl (fun _ => Nat.le_of_ble_eq_true rfl) (fun X o σ rv C hR hf => ?_)
  show Bk X 1 o 0 0 0 [(0, .int (x1))] [] σ
  unfold f_X10_isQuestion at hf
  refine b_iload_n C dX10_isQuestion_0 rfl 0 rfl ?_
  refine b_iconst C (v := 0) dX10_isQuestion_1 (by decide) ?_
  refine b_iconst C (v := 3) dX10_isQuestion_2 (by decide) ?_
  obtain ⟨y1, τ2, hqy1, hf⟩ := bd_inv hf
  refine b_callSi (n := 3) C (fun _ => [.int (x1), .int (0), .int (3)]) (c_X10_in (x1) (0) (3)) hqy1 gX10_isQuestion_X10_in rfl (by decide +kernel) rfl (by decide) (by decide) (Nat.le_of_ble_eq_true rfl) dX10_isQuestion_3 ?_
  exact hR _ _ _ _ dX10_isQuestion_6 hf
theorem hiX10_isReader_10 : ∀ w ∈ wsX100, w ∈ wsX10_isReader := by decide +kernel
theorem kX10_isReader_124 : Cond.fieldLink RX10 124 "ScriptRoomModel" "readers" "I" ∈ wsX10_isReader := by decide +kernel
set_option maxHeartbeats 4000000 in
set_option maxRecDepth 100000 in
theorem c_X10_isReader (x1 : Int32) (l : Launch) : Cti l yX10_isReader wsX10_isReader 1 22 (fun G => [.ref (G.1 (10)), .int (x1)]) (f_X10_isReader x1) := by
  refine mk_z (cc := cX10_isReader) (nL := 2) (own := RX10) (by decide) rfl rfl (fun _ => Nat.le_of_ble_eq_true rfl) (fun X o σ rv C hR hf => ?_)
  show Bk X 2 o 0 0 0 [(0, .ref (ad X (10))), (1, .int (x1))] [] σ
  unfold f_X10_isReader at hf
  refine b_iload_n C dX10_isReader_0 rfl 1 rfl ?_
  refine b_iconst C (v := 0) dX10_isReader_1 (by decide) ?_
  refine b_aload_n C dX10_isReader_2 rfl 0 rfl ?_
  refine b_getS C hiX10_isReader_10 10 17 27 (by decide) (by decide) rfl (by decide) kX10_isReader_124 rfl rfl dX10_isReader_3 ?_
  refine b_iconst C (v := 1) dX10_isReader_6 (by decide) ?_
  refine b_isub C dX10_isReader_7 ?_
  obtain ⟨y1, τ2, hqy1, hf⟩ := bd_inv hf
  refine b_callSi (n := 3) C (fun _ => [.int (x1), .int (0), .int ((σ 76 27) - (1))]) (c_X10_in (x1) (0) ((σ 76 27) - (1))) hqy1 gX10_isReader_X10_in rfl (by decide +kernel) rfl (by decide) (by decide) (Nat.le_of_ble_eq_true rfl) dX10_isReader_8 ?_
  exact hR _ _ _ _ dX10_isReader_11 hf
set_option maxHeartbeats 4000000 in
set_option maxRecDepth 100000 in
theorem w_X10_apart_14 {X : Ctx} {o : Int64} {rv : Int32 × Mem} (C : Cx X cX10_apart RX10 wsX10_apart 2 0 0) (hR : Rt X cX10_apart 2 o rv) : ∀ (s0 : Int32) (σ : Mem), some rv = f_X10_apart_14 s0 σ → Bk X 2 o 0 0 14 [] [.int (s0)] σ := by
  intro s0 σ hf
  unfold f_X10_apart_14 at hf
  exact hR _ _ _ _ dX10_apart_14 hf
set_option maxHeartbeats 4000000 in
set_option maxRecDepth 100000 in
theorem c_X10_apart (x1 x2 : Int32) (l : Launch) : Cti l yX10_apart wsX10_apart 0 0 (fun G => [.int (x1), .int (x2)]) (f_X10_apart x1 x2) := by
  refine mk_i (cc := cX10_apart) (nL := 2) (own := RX10) (by decide) rfl rfl (fun _ => Nat.le_of_ble_eq_true rfl) (fun X o σ rv C hR hf => ?_)
  show Bk X 2 o 0 0 0 [(0, .int (x1)), (1, .int (x2))] [] σ
  unfold f_X10_apart at hf
  refine b_iload_n C dX10_apart_0 rfl 0 rfl ?_
  refine b_iload_n C dX10_apart_1 rfl 1 rfl ?_
  refine b_icmp_le C 11 dX10_apart_2 (by decide) hf (fun hf => ?_) (fun hf => ?_)
  · refine b_iload_n C dX10_apart_11 rfl 1 rfl ?_
    refine b_iload_n C dX10_apart_12 rfl 0 rfl ?_
    refine b_isub C dX10_apart_13 ?_
    refine b_sub [] rfl ?_
    exact w_X10_apart_14 C hR _ _ hf
  · refine b_iload_n C dX10_apart_5 rfl 0 rfl ?_
    refine b_iload_n C dX10_apart_6 rfl 1 rfl ?_
    refine b_isub C dX10_apart_7 ?_
    refine b_goto C 14 dX10_apart_8 (by decide) ?_
    refine b_sub [] rfl ?_
    exact w_X10_apart_14 C hR _ _ hf
theorem hiX10_pupil_10 : ∀ w ∈ wsX100, w ∈ wsX10_pupil := by decide +kernel
theorem kX10_pupil_17 : Cond.fieldLink RX10 17 "ScriptRoomModel" "school" "[I" ∈ wsX10_pupil := by decide +kernel
theorem kX10_pupil_117 : Cond.fieldLink RX10 117 "ScriptRoomModel" "pupils" "I" ∈ wsX10_pupil := by decide +kernel
theorem kX10_pupil_20 : Cond.fieldLink RX10 20 "ScriptRoomModel" "lacks" "[I" ∈ wsX10_pupil := by decide +kernel
theorem kX10_pupil_23 : Cond.fieldLink RX10 23 "ScriptRoomModel" "urgent" "[Z" ∈ wsX10_pupil := by decide +kernel
set_option maxHeartbeats 4000000 in
set_option maxRecDepth 100000 in
theorem w_X10_pupil_39 {X : Ctx} {o : Int64} {rv : Int32 × Mem} (C : Cx X cX10_pupil RX10 wsX10_pupil 4 1 22) (hR : Rt X cX10_pupil 4 o rv) : ∀ (v1 v2 v3 s0 s1 : Int32) (σ : Mem), some rv = f_X10_pupil_39 v1 v2 v3 s0 s1 σ → Bk X 4 o 0 0 39 [(0, .ref (ad X (10))), (1, .int (v1)), (2, .int (v2)), (3, .int (v3))] [.int (s0), .int (s1), .ref (ad X (10))] σ := by
  intro v1 v2 v3 s0 s1 σ hf
  unfold f_X10_pupil_39 at hf
  obtain ⟨y1, τ2, hqy1, hf⟩ := bd_inv hf
  refine b_callVi (n := 2) C (10) 10 (isObj_s (by decide) (by decide)) rfl (fun _ => [.int (s1), .int (s0)]) (c_X10_asked_ (s1) (s0)) hqy1 gX10_pupil_X10_asked_ rfl (by decide +kernel) rfl (by decide) (by decide) (Nat.le_of_ble_eq_true rfl) dX10_pupil_39 ?_
  refine b_if_ne C 47 dX10_pupil_42 (by decide) hf (fun hf => ?_) (fun hf => ?_)
  · refine b_aload_n C dX10_pupil_47 rfl 0 rfl ?_
    refine b_getR C hiX10_pupil_10 10 5 (54 + 44) (by decide) (by decide) rfl (by decide) kX10_pupil_17 rfl rfl dX10_pupil_48 ?_
    refine b_aload_n C dX10_pupil_51 rfl 0 rfl ?_
    refine b_getS C hiX10_pupil_10 10 4 25 (by decide) (by decide) rfl (by decide) kX10_pupil_117 rfl rfl dX10_pupil_52 ?_
    refine b_iload_n C dX10_pupil_55 rfl 1 rfl ?_
    refine b_iast C 44 (by decide) rfl dX10_pupil_56 hf (fun hf => ?_)
    refine b_nw hf (fun τ3 hf => ?_)
    refine b_aload_n C dX10_pupil_57 rfl 0 rfl ?_
    refine b_getR C hiX10_pupil_10 10 6 (54 + 45) (by decide) (by decide) rfl (by decide) kX10_pupil_20 rfl rfl dX10_pupil_58 ?_
    refine b_aload_n C dX10_pupil_61 rfl 0 rfl ?_
    refine b_getS C hiX10_pupil_10 10 4 25 (by decide) (by decide) rfl (by decide) kX10_pupil_117 rfl rfl dX10_pupil_62 ?_
    refine b_iload_n C dX10_pupil_65 rfl 2 rfl ?_
    refine b_iast C 45 (by decide) rfl dX10_pupil_66 hf (fun hf => ?_)
    refine b_nw hf (fun τ4 hf => ?_)
    refine b_aload_n C dX10_pupil_67 rfl 0 rfl ?_
    refine b_getR C hiX10_pupil_10 10 7 (54 + 46) (by decide) (by decide) rfl (by decide) kX10_pupil_23 rfl rfl dX10_pupil_68 ?_
    refine b_aload_n C dX10_pupil_71 rfl 0 rfl ?_
    refine b_getS C hiX10_pupil_10 10 4 25 (by decide) (by decide) rfl (by decide) kX10_pupil_117 rfl rfl dX10_pupil_72 ?_
    refine b_iload_n C dX10_pupil_75 rfl 3 rfl ?_
    refine b_zast C 46 (by decide) rfl dX10_pupil_76 hf (fun hf => ?_)
    refine b_nw hf (fun τ5 hf => ?_)
    refine b_aload_n C dX10_pupil_77 rfl 0 rfl ?_
    refine b_dup C dX10_pupil_78 rfl ?_
    refine b_getS C hiX10_pupil_10 10 4 25 (by decide) (by decide) rfl (by decide) kX10_pupil_117 rfl rfl dX10_pupil_79 ?_
    refine b_iconst C (v := 1) dX10_pupil_82 (by decide) ?_
    refine b_iadd C dX10_pupil_83 ?_
    refine b_putS C (ty := .int) hiX10_pupil_10 tyX10 tyX10_ok nmX10 10 4 25 (by decide) (by decide) rfl (by decide) kX10_pupil_117 rfl rfl (by decide +kernel) rfl rfl rfl dX10_pupil_84 ?_
    refine b_nw hf (fun τ6 hf => ?_)
    refine b_aload_n C dX10_pupil_87 rfl 0 rfl ?_
    refine b_getS C hiX10_pupil_10 10 4 25 (by decide) (by decide) rfl (by decide) kX10_pupil_117 rfl rfl dX10_pupil_88 ?_
    refine b_iconst C (v := 1) dX10_pupil_91 (by decide) ?_
    refine b_isub C dX10_pupil_92 ?_
    exact hR _ _ _ _ dX10_pupil_93 hf
  · refine b_iconst C (v := 0) dX10_pupil_45 (by decide) ?_
    exact hR _ _ _ _ dX10_pupil_46 hf
set_option maxHeartbeats 4000000 in
set_option maxRecDepth 100000 in
theorem w_X10_pupil_25 {X : Ctx} {o : Int64} {rv : Int32 × Mem} (C : Cx X cX10_pupil RX10 wsX10_pupil 4 1 22) (hR : Rt X cX10_pupil 4 o rv) : ∀ (v1 v2 v3 s0 : Int32) (σ : Mem), some rv = f_X10_pupil_25 v1 v2 v3 s0 σ → Bk X 4 o 0 0 25 [(0, .ref (ad X (10))), (1, .int (v1)), (2, .int (v2)), (3, .int (v3))] [.int (s0), .ref (ad X (10))] σ := by
  intro v1 v2 v3 s0 σ hf
  unfold f_X10_pupil_25 at hf
  refine b_aload_n C dX10_pupil_25 rfl 0 rfl ?_
  refine b_getS C hiX10_pupil_10 10 4 25 (by decide) (by decide) rfl (by decide) kX10_pupil_117 rfl rfl dX10_pupil_26 ?_
  refine b_bipush C (v := 16) dX10_pupil_29 (by decide) ?_
  refine b_icmp_ge C 38 dX10_pupil_31 (by decide) hf (fun hf => ?_) (fun hf => ?_)
  · refine b_iconst C (v := 0) dX10_pupil_38 (by decide) ?_
    exact w_X10_pupil_39 C hR _ _ _ _ _ _ hf
  · refine b_iconst C (v := 1) dX10_pupil_34 (by decide) ?_
    refine b_goto C 39 dX10_pupil_35 (by decide) ?_
    exact w_X10_pupil_39 C hR _ _ _ _ _ _ hf
set_option maxHeartbeats 4000000 in
set_option maxRecDepth 100000 in
theorem w_X10_pupil_24 {X : Ctx} {o : Int64} {rv : Int32 × Mem} (C : Cx X cX10_pupil RX10 wsX10_pupil 4 1 22) (hR : Rt X cX10_pupil 4 o rv) : ∀ (v1 v2 v3 : Int32) (σ : Mem), some rv = f_X10_pupil_24 v1 v2 v3 σ → Bk X 4 o 0 0 24 [(0, .ref (ad X (10))), (1, .int (v1)), (2, .int (v2)), (3, .int (v3))] [.ref (ad X (10))] σ := by
  intro v1 v2 v3 σ hf
  unfold f_X10_pupil_24 at hf
  refine b_iconst C (v := 0) dX10_pupil_24 (by decide) ?_
  exact w_X10_pupil_25 C hR _ _ _ _ _ hf
set_option maxHeartbeats 4000000 in
set_option maxRecDepth 100000 in
theorem c_X10_pupil (x1 x2 x3 : Int32) (l : Launch) : Cti l yX10_pupil wsX10_pupil 1 22 (fun G => [.ref (G.1 (10)), .int (x1), .int (x2), .int (x3)]) (f_X10_pupil x1 x2 x3) := by
  refine mk_i (cc := cX10_pupil) (nL := 4) (own := RX10) (by decide) rfl rfl (fun _ => Nat.le_of_ble_eq_true rfl) (fun X o σ rv C hR hf => ?_)
  show Bk X 4 o 0 0 0 [(0, .ref (ad X (10))), (1, .int (x1)), (2, .int (x2)), (3, .int (x3))] [] σ
  unfold f_X10_pupil at hf
  refine b_aload_n C dX10_pupil_0 rfl 0 rfl ?_
  refine b_iload_n C dX10_pupil_1 rfl 1 rfl ?_
  refine b_iconst C (v := 0) dX10_pupil_2 (by decide) ?_
  refine b_iconst C (v := 4) dX10_pupil_3 (by decide) ?_
  obtain ⟨y7, τ8, hqy7, hf⟩ := bd_inv hf
  refine b_callSi (n := 3) C (fun _ => [.int (x1), .int (0), .int (4)]) (c_X10_in (x1) (0) (4)) hqy7 gX10_pupil_X10_in rfl (by decide +kernel) rfl (by decide) (by decide) (Nat.le_of_ble_eq_true rfl) dX10_pupil_4 ?_
  refine b_if_eq C 24 dX10_pupil_7 (by decide) hf (fun hf => ?_) (fun hf => ?_)
  · exact w_X10_pupil_24 C hR _ _ _ _ hf
  · refine b_iload_n C dX10_pupil_10 rfl 2 rfl ?_
    refine b_iconst C (v := 0) dX10_pupil_11 (by decide) ?_
    refine b_bipush C (v := 15) dX10_pupil_12 (by decide) ?_
    obtain ⟨y9, τ10, hqy9, hf⟩ := bd_inv hf
    refine b_callSi (n := 3) C (fun _ => [.int (x2), .int (0), .int (15)]) (c_X10_in (x2) (0) (15)) hqy9 gX10_pupil_X10_in rfl (by decide +kernel) rfl (by decide) (by decide) (Nat.le_of_ble_eq_true rfl) dX10_pupil_14 ?_
    refine b_if_eq C 24 dX10_pupil_17 (by decide) hf (fun hf => ?_) (fun hf => ?_)
    · exact w_X10_pupil_24 C hR _ _ _ _ hf
    · refine b_iconst C (v := 1) dX10_pupil_20 (by decide) ?_
      refine b_goto C 25 dX10_pupil_21 (by decide) ?_
      exact w_X10_pupil_25 C hR _ _ _ _ _ hf
theorem hiX10_gift_10 : ∀ w ∈ wsX100, w ∈ wsX10_gift := by decide +kernel
theorem kX10_gift_27 : Cond.fieldLink RX10 27 "ScriptRoomModel" "gift" "[I" ∈ wsX10_gift := by decide +kernel
set_option maxHeartbeats 4000000 in
set_option maxRecDepth 100000 in
theorem c_X10_gift (x1 x2 : Int32) (l : Launch) : Cti l yX10_gift wsX10_gift 2 43 (fun G => [.ref (G.1 (10)), .int (x1), .int (x2)]) (f_X10_gift x1 x2) := by
  refine mk_i (cc := cX10_gift) (nL := 4) (own := RX10) (by decide) rfl rfl (fun _ => Nat.le_of_ble_eq_true rfl) (fun X o σ rv C hR hf => ?_)
  show Bk X 4 o 0 0 0 [(0, .ref (ad X (10))), (1, .int (x1)), (2, .int (x2))] [] σ
  unfold f_X10_gift at hf
  refine b_aload_n C dX10_gift_0 rfl 0 rfl ?_
  refine b_aload_n C dX10_gift_1 rfl 0 rfl ?_
  refine b_iload_n C dX10_gift_2 rfl 1 rfl ?_
  obtain ⟨y1, τ2, hqy1, hf⟩ := bd_inv hf
  refine b_callVi (n := 1) C (10) 10 (isObj_s (by decide) (by decide)) rfl (fun _ => [.int (x1)]) (c_X10_isPupil (x1)) hqy1 gX10_gift_X10_isPupil rfl (by decide +kernel) rfl (by decide) (by decide) (Nat.le_of_ble_eq_true rfl) dX10_gift_3 ?_
  refine b_iload_n C dX10_gift_6 rfl 2 rfl ?_
  refine b_iconst C (v := 0) dX10_gift_7 (by decide) ?_
  refine b_bipush C (v := 9) dX10_gift_8 (by decide) ?_
  obtain ⟨y3, τ4, hqy3, hf⟩ := bd_inv hf
  refine b_callSi (n := 3) C (fun _ => [.int (x2), .int (0), .int (9)]) (c_X10_in (x2) (0) (9)) hqy3 gX10_gift_X10_in rfl (by decide +kernel) rfl (by decide) (by decide) (Nat.le_of_ble_eq_true rfl) dX10_gift_10 ?_
  obtain ⟨y5, τ6, hqy5, hf⟩ := bd_inv hf
  refine b_callVi (n := 2) C (10) 10 (isObj_s (by decide) (by decide)) rfl (fun _ => [.int (y1), .int (y3)]) (c_X10_asked_ (y1) (y3)) hqy5 gX10_gift_X10_asked_ rfl (by decide +kernel) rfl (by decide) (by decide) (Nat.le_of_ble_eq_true rfl) dX10_gift_13 ?_
  refine b_if_ne C 21 dX10_gift_16 (by decide) hf (fun hf => ?_) (fun hf => ?_)
  · refine b_aload_n C dX10_gift_21 rfl 0 rfl ?_
    refine b_getR C hiX10_gift_10 10 8 (54 + 47) (by decide) (by decide) rfl (by decide) kX10_gift_27 rfl rfl dX10_gift_22 ?_
    refine b_iload_n C dX10_gift_25 rfl 1 rfl ?_
    refine b_iald C 47 (by decide) rfl dX10_gift_26 hf (fun hf => ?_)
    refine b_nv hf (fun y7 hf => ?_)
    refine b_istore_n (lv' := [(3, .int (y7)), (0, .ref (ad X (10))), (1, .int (x1)), (2, .int (x2))]) C dX10_gift_27 rfl (by decide) rfl ?_
    refine b_aload_n C dX10_gift_28 rfl 1 rfl ?_
    refine b_getR C hiX10_gift_10 10 8 (54 + 47) (by decide) (by decide) rfl (by decide) kX10_gift_27 rfl rfl dX10_gift_29 ?_
    refine b_iload_n C dX10_gift_32 rfl 2 rfl ?_
    refine b_iload_n C dX10_gift_33 rfl 3 rfl ?_
    refine b_iast C 47 (by decide) rfl dX10_gift_34 hf (fun hf => ?_)
    refine b_nw hf (fun τ8 hf => ?_)
    refine b_iload_n C dX10_gift_35 rfl 0 rfl ?_
    exact hR _ _ _ _ dX10_gift_36 hf
  · refine b_iconst C (v := 0) dX10_gift_19 (by decide) ?_
    exact hR _ _ _ _ dX10_gift_20 hf
theorem hiX10_type_10 : ∀ w ∈ wsX100, w ∈ wsX10_type := by decide +kernel
theorem kX10_type_7 : Cond.fieldLink RX10 7 "ScriptRoomModel" "line" "[I" ∈ wsX10_type := by decide +kernel
theorem kX10_type_135 : Cond.fieldLink RX10 135 "ScriptRoomModel" "signs" "I" ∈ wsX10_type := by decide +kernel
set_option maxHeartbeats 4000000 in
set_option maxRecDepth 100000 in
theorem w_X10_type_23 {X : Ctx} {o : Int64} {rv : Int32 × Mem} (C : Cx X cX10_type RX10 wsX10_type 2 1 22) (hR : Rt X cX10_type 2 o rv) : ∀ (v1 s0 s1 : Int32) (σ : Mem), some rv = f_X10_type_23 v1 s0 s1 σ → Bk X 2 o 0 0 23 [(0, .ref (ad X (10))), (1, .int (v1))] [.int (s0), .int (s1), .ref (ad X (10))] σ := by
  intro v1 s0 s1 σ hf
  unfold f_X10_type_23 at hf
  obtain ⟨y1, τ2, hqy1, hf⟩ := bd_inv hf
  refine b_callVi (n := 2) C (10) 10 (isObj_s (by decide) (by decide)) rfl (fun _ => [.int (s1), .int (s0)]) (c_X10_asked_ (s1) (s0)) hqy1 gX10_type_X10_asked_ rfl (by decide +kernel) rfl (by decide) (by decide) (Nat.le_of_ble_eq_true rfl) dX10_type_23 ?_
  refine b_if_ne C 31 dX10_type_26 (by decide) hf (fun hf => ?_) (fun hf => ?_)
  · refine b_aload_n C dX10_type_31 rfl 0 rfl ?_
    refine b_getR C hiX10_type_10 10 2 (54 + 43) (by decide) (by decide) rfl (by decide) kX10_type_7 rfl rfl dX10_type_32 ?_
    refine b_aload_n C dX10_type_35 rfl 0 rfl ?_
    refine b_getS C hiX10_type_10 10 1 23 (by decide) (by decide) rfl (by decide) kX10_type_135 rfl rfl dX10_type_36 ?_
    refine b_iload_n C dX10_type_39 rfl 1 rfl ?_
    refine b_iast C 43 (by decide) rfl dX10_type_40 hf (fun hf => ?_)
    refine b_nw hf (fun τ3 hf => ?_)
    refine b_aload_n C dX10_type_41 rfl 0 rfl ?_
    refine b_dup C dX10_type_42 rfl ?_
    refine b_getS C hiX10_type_10 10 1 23 (by decide) (by decide) rfl (by decide) kX10_type_135 rfl rfl dX10_type_43 ?_
    refine b_iconst C (v := 1) dX10_type_46 (by decide) ?_
    refine b_iadd C dX10_type_47 ?_
    refine b_putS C (ty := .int) hiX10_type_10 tyX10 tyX10_ok nmX10 10 1 23 (by decide) (by decide) rfl (by decide) kX10_type_135 rfl rfl (by decide +kernel) rfl rfl rfl dX10_type_48 ?_
    refine b_nw hf (fun τ4 hf => ?_)
    refine b_aload_n C dX10_type_51 rfl 0 rfl ?_
    refine b_getS C hiX10_type_10 10 1 23 (by decide) (by decide) rfl (by decide) kX10_type_135 rfl rfl dX10_type_52 ?_
    exact hR _ _ _ _ dX10_type_55 hf
  · refine b_iconst C (v := 0) dX10_type_29 (by decide) ?_
    exact hR _ _ _ _ dX10_type_30 hf
set_option maxHeartbeats 4000000 in
set_option maxRecDepth 100000 in
theorem c_X10_type (x1 : Int32) (l : Launch) : Cti l yX10_type wsX10_type 1 22 (fun G => [.ref (G.1 (10)), .int (x1)]) (f_X10_type x1) := by
  refine mk_i (cc := cX10_type) (nL := 2) (own := RX10) (by decide) rfl rfl (fun _ => Nat.le_of_ble_eq_true rfl) (fun X o σ rv C hR hf => ?_)
  show Bk X 2 o 0 0 0 [(0, .ref (ad X (10))), (1, .int (x1))] [] σ
  unfold f_X10_type at hf
  refine b_aload_n C dX10_type_0 rfl 0 rfl ?_
  refine b_iload_n C dX10_type_1 rfl 1 rfl ?_
  refine b_bipush C (v := 32) dX10_type_2 (by decide) ?_
  refine b_bipush C (v := 126) dX10_type_4 (by decide) ?_
  obtain ⟨y5, τ6, hqy5, hf⟩ := bd_inv hf
  refine b_callSi (n := 3) C (fun _ => [.int (x1), .int (32), .int (126)]) (c_X10_in (x1) (32) (126)) hqy5 gX10_type_X10_in rfl (by decide +kernel) rfl (by decide) (by decide) (Nat.le_of_ble_eq_true rfl) dX10_type_6 ?_
  refine b_aload_n C dX10_type_9 rfl 0 rfl ?_
  refine b_getS C hiX10_type_10 10 1 23 (by decide) (by decide) rfl (by decide) kX10_type_135 rfl rfl dX10_type_10 ?_
  refine b_bipush C (v := 40) dX10_type_13 (by decide) ?_
  refine b_icmp_ge C 22 dX10_type_15 (by decide) hf (fun hf => ?_) (fun hf => ?_)
  · refine b_iconst C (v := 0) dX10_type_22 (by decide) ?_
    exact w_X10_type_23 C hR _ _ _ _ hf
  · refine b_iconst C (v := 1) dX10_type_18 (by decide) ?_
    refine b_goto C 23 dX10_type_19 (by decide) ?_
    exact w_X10_type_23 C hR _ _ _ _ hf
theorem hiX10_reads_10 : ∀ w ∈ wsX100, w ∈ wsX10_reads := by decide +kernel
theorem kX10_reads_135 : Cond.fieldLink RX10 135 "ScriptRoomModel" "signs" "I" ∈ wsX10_reads := by decide +kernel
theorem kX10_reads_111 : Cond.fieldLink RX10 111 "ScriptRoomModel" "made" "[I" ∈ wsX10_reads := by decide +kernel
theorem kX10_reads_7 : Cond.fieldLink RX10 7 "ScriptRoomModel" "line" "[I" ∈ wsX10_reads := by decide +kernel
set_option maxHeartbeats 4000000 in
set_option maxRecDepth 100000 in
theorem w_X10_reads_362 {X : Ctx} {o : Int64} {rv : Int32 × Mem} (C : Cx X cX10_reads RX10 wsX10_reads 8 1 22) (hR : Rt X cX10_reads 8 o rv) : ∀ (s0 : Int32) (σ : Mem), some rv = f_X10_reads_362 s0 σ → Bk X 8 o 0 0 362 [] [.int (s0)] σ := by
  intro s0 σ hf
  unfold f_X10_reads_362 at hf
  exact hR _ _ _ _ dX10_reads_362 hf
set_option maxHeartbeats 4000000 in
set_option maxRecDepth 100000 in
theorem w_X10_reads_352 {X : Ctx} {o : Int64} {rv : Int32 × Mem} (C : Cx X cX10_reads RX10 wsX10_reads 8 1 22) (hR : Rt X cX10_reads 8 o rv) : ∀ (v1 : Int32) (σ : Mem), some rv = f_X10_reads_352 v1 σ → Bk X 8 o 0 0 352 [(1, .int (v1))] [] σ := by
  intro v1 σ hf
  unfold f_X10_reads_352 at hf
  refine b_iload_n C dX10_reads_352 rfl 0 rfl ?_
  refine b_goto C 362 dX10_reads_353 (by decide) ?_
  refine b_sub [] rfl ?_
  exact w_X10_reads_362 C hR _ _ hf
set_option maxHeartbeats 4000000 in
set_option maxRecDepth 100000 in
theorem w_X10_reads_347 {X : Ctx} {o : Int64} {rv : Int32 × Mem} (C : Cx X cX10_reads RX10 wsX10_reads 8 1 22) (hR : Rt X cX10_reads 8 o rv) : ∀ (v1 v3 : Int32) (σ : Mem), some rv = f_X10_reads_347 v1 v3 σ → Bk X 8 o 0 0 347 [(0, .ref (ad X (10))), (1, .int (v1)), (3, .int (v3))] [] σ := by
  intro v1 v3 σ hf
  unfold f_X10_reads_347 at hf
  refine b_iload_n C dX10_reads_347 rfl 2 rfl ?_
  refine b_iconst C (v := 3) dX10_reads_348 (by decide) ?_
  refine b_icmp_le C 356 dX10_reads_349 (by decide) hf (fun hf => ?_) (fun hf => ?_)
  · refine b_iconst C (v := (-1)) dX10_reads_356 (by decide) ?_
    refine b_aload_n C dX10_reads_357 rfl 0 rfl ?_
    refine b_getS C hiX10_reads_10 10 1 23 (by decide) (by decide) rfl (by decide) kX10_reads_135 rfl rfl dX10_reads_358 ?_
    refine b_isub C dX10_reads_361 ?_
    refine b_sub [] rfl ?_
    exact w_X10_reads_362 C hR _ _ hf
  · refine b_sub [1] rfl ?_
    exact w_X10_reads_352 C hR _ _ hf
set_option maxHeartbeats 4000000 in
set_option maxRecDepth 100000 in
theorem w_X10_reads_327 {X : Ctx} {o : Int64} {rv : Int32 × Mem} (C : Cx X cX10_reads RX10 wsX10_reads 8 1 22) (hR : Rt X cX10_reads 8 o rv) : ∀ (v4 : Int32) (σ : Mem), some rv = f_X10_reads_327 v4 σ → Bk X 8 o 0 0 327 [(4, .int (v4))] [] σ := by
  intro v4 σ hf
  unfold f_X10_reads_327 at hf
  refine b_iconst C (v := (-1)) dX10_reads_327 (by decide) ?_
  refine b_iload C dX10_reads_328 0 rfl ?_
  refine b_isub C dX10_reads_330 ?_
  exact hR _ _ _ _ dX10_reads_331 hf
set_option maxHeartbeats 4000000 in
set_option maxRecDepth 100000 in
theorem w_X10_reads_332 {X : Ctx} {o : Int64} {rv : Int32 × Mem} (C : Cx X cX10_reads RX10 wsX10_reads 8 1 22) (hR : Rt X cX10_reads 8 o rv) (k9 : Int32 → Int32 → Int32 → Int32 → Mem → Option (Int32 × Mem)) (h9 : ∀ (v1 v2 v3 v4 : Int32) (σ : Mem), some rv = k9 v1 v2 v3 v4 σ → Bk X 8 o 0 0 9 [(0, .ref (ad X (10))), (1, .int (v1)), (2, .int (v2)), (3, .int (v3)), (4, .int (v4))] [] σ) : ∀ (v1 v2 v3 v4 : Int32) (σ : Mem), some rv = f_X10_reads_332 k9 v1 v2 v3 v4 σ → Bk X 8 o 0 0 332 [(0, .ref (ad X (10))), (1, .int (v1)), (2, .int (v2)), (3, .int (v3)), (4, .int (v4))] [] σ := by
  intro v1 v2 v3 v4 σ hf
  unfold f_X10_reads_332 at hf
  refine b_iinc (v := (v4) + (1)) (lv' := [(4, .int ((v4) + (1))), (0, .ref (ad X (10))), (1, .int (v1)), (2, .int (v2)), (3, .int (v3))]) C dX10_reads_332 4 rfl rfl (by decide) rfl ?_
  refine b_goto C 9 dX10_reads_335 (by decide) ?_
  refine b_sub [1, 2, 3, 4, 0] rfl ?_
  exact h9 _ _ _ _ _ hf
set_option maxHeartbeats 4000000 in
set_option maxRecDepth 100000 in
theorem w_X10_reads_308 {X : Ctx} {o : Int64} {rv : Int32 × Mem} (C : Cx X cX10_reads RX10 wsX10_reads 8 1 22) (hR : Rt X cX10_reads 8 o rv) (k9 : Int32 → Int32 → Int32 → Int32 → Mem → Option (Int32 × Mem)) (h9 : ∀ (v1 v2 v3 v4 : Int32) (σ : Mem), some rv = k9 v1 v2 v3 v4 σ → Bk X 8 o 0 0 9 [(0, .ref (ad X (10))), (1, .int (v1)), (2, .int (v2)), (3, .int (v3)), (4, .int (v4))] [] σ) : ∀ (v2 v3 v4 v5 s0 s1 : Int32) (σ : Mem), some rv = f_X10_reads_308 k9 v2 v3 v4 v5 s0 s1 σ → Bk X 8 o 0 0 308 [(0, .ref (ad X (10))), (2, .int (v2)), (3, .int (v3)), (4, .int (v4)), (5, .int (v5))] [.int (s0), .int (s1)] σ := by
  intro v2 v3 v4 v5 s0 s1 σ hf
  unfold f_X10_reads_308 at hf
  refine b_isub C dX10_reads_308 ?_
  refine b_nv hf (fun y1 hf => ?_)
  refine b_istore_n (lv' := [(1, .int (y1)), (0, .ref (ad X (10))), (2, .int (v2)), (3, .int (v3)), (4, .int (v4)), (5, .int (v5))]) C dX10_reads_309 rfl (by decide) rfl ?_
  refine b_aload_n C dX10_reads_310 rfl 1 rfl ?_
  refine b_getR C hiX10_reads_10 10 40 (54 + 75) (by decide) (by decide) rfl (by decide) kX10_reads_111 rfl rfl dX10_reads_311 ?_
  refine b_iload_n C dX10_reads_314 rfl 0 rfl ?_
  refine b_iload C dX10_reads_315 5 rfl ?_
  refine b_iast C 75 (by decide) rfl dX10_reads_317 hf (fun hf => ?_)
  refine b_nw hf (fun τ2 hf => ?_)
  refine b_iinc (v := (y1) + (1)) (lv' := [(1, .int ((y1) + (1))), (0, .ref (ad X (10))), (2, .int (v2)), (3, .int (v3)), (4, .int (v4)), (5, .int (v5))]) C dX10_reads_318 0 rfl rfl (by decide) rfl ?_
  refine b_iinc (v := (v3) + (1)) (lv' := [(3, .int ((v3) + (1))), (1, .int ((y1) + (1))), (0, .ref (ad X (10))), (2, .int (v2)), (4, .int (v4)), (5, .int (v5))]) C dX10_reads_321 3 rfl rfl (by decide) rfl ?_
  refine b_goto C 332 dX10_reads_324 (by decide) ?_
  refine b_sub [2, 1, 3, 0, 4] rfl ?_
  exact w_X10_reads_332 C hR k9 h9 _ _ _ _ _ hf
set_option maxHeartbeats 4000000 in
set_option maxRecDepth 100000 in
theorem w_X10_reads_307 {X : Ctx} {o : Int64} {rv : Int32 × Mem} (C : Cx X cX10_reads RX10 wsX10_reads 8 1 22) (hR : Rt X cX10_reads 8 o rv) (k9 : Int32 → Int32 → Int32 → Int32 → Mem → Option (Int32 × Mem)) (h9 : ∀ (v1 v2 v3 v4 : Int32) (σ : Mem), some rv = k9 v1 v2 v3 v4 σ → Bk X 8 o 0 0 9 [(0, .ref (ad X (10))), (1, .int (v1)), (2, .int (v2)), (3, .int (v3)), (4, .int (v4))] [] σ) : ∀ (v2 v3 v4 v5 s0 : Int32) (σ : Mem), some rv = f_X10_reads_307 k9 v2 v3 v4 v5 s0 σ → Bk X 8 o 0 0 307 [(0, .ref (ad X (10))), (2, .int (v2)), (3, .int (v3)), (4, .int (v4)), (5, .int (v5))] [.int (s0)] σ := by
  intro v2 v3 v4 v5 s0 σ hf
  unfold f_X10_reads_307 at hf
  refine b_iconst C (v := 0) dX10_reads_307 (by decide) ?_
  exact w_X10_reads_308 C hR k9 h9 _ _ _ _ _ _ _ hf
set_option maxHeartbeats 4000000 in
set_option maxRecDepth 100000 in
theorem w_X10_reads_284 {X : Ctx} {o : Int64} {rv : Int32 × Mem} (C : Cx X cX10_reads RX10 wsX10_reads 8 1 22) (hR : Rt X cX10_reads 8 o rv) (k9 : Int32 → Int32 → Int32 → Int32 → Mem → Option (Int32 × Mem)) (h9 : ∀ (v1 v2 v3 v4 : Int32) (σ : Mem), some rv = k9 v1 v2 v3 v4 σ → Bk X 8 o 0 0 9 [(0, .ref (ad X (10))), (1, .int (v1)), (2, .int (v2)), (3, .int (v3)), (4, .int (v4))] [] σ) : ∀ (v1 v2 v3 v4 v5 : Int32) (σ : Mem), some rv = f_X10_reads_284 k9 v1 v2 v3 v4 v5 σ → Bk X 8 o 0 0 284 [(0, .ref (ad X (10))), (1, .int (v1)), (2, .int (v2)), (3, .int (v3)), (4, .int (v4)), (5, .int (v5))] [] σ := by
  intro v1 v2 v3 v4 v5 σ hf
  unfold f_X10_reads_284 at hf
  refine b_iload_n C dX10_reads_284 rfl 1 rfl ?_
  refine b_iload_n C dX10_reads_285 rfl 3 rfl ?_
  refine b_iconst C (v := 4) dX10_reads_286 (by decide) ?_
  refine b_icmp_ne C 307 dX10_reads_287 (by decide) hf (fun hf => ?_) (fun hf => ?_)
  · refine b_sub [0, 2, 3, 4, 5] rfl ?_
    exact w_X10_reads_307 C hR k9 h9 _ _ _ _ _ _ hf
  · refine b_aload_n C dX10_reads_290 rfl 0 rfl ?_
    refine b_getR C hiX10_reads_10 10 40 (54 + 75) (by decide) (by decide) rfl (by decide) kX10_reads_111 rfl rfl dX10_reads_291 ?_
    refine b_iload_n C dX10_reads_294 rfl 1 rfl ?_
    refine b_iconst C (v := 1) dX10_reads_295 (by decide) ?_
    refine b_isub C dX10_reads_296 ?_
    refine b_iald C 75 (by decide) rfl dX10_reads_297 hf (fun hf => ?_)
    refine b_bipush C (v := 48) dX10_reads_298 (by decide) ?_
    refine b_icmp_ne C 307 dX10_reads_300 (by decide) hf (fun hf => ?_) (fun hf => ?_)
    · refine b_sub [0, 2, 3, 4, 5] rfl ?_
      exact w_X10_reads_307 C hR k9 h9 _ _ _ _ _ _ hf
    · refine b_iconst C (v := 1) dX10_reads_303 (by decide) ?_
      refine b_goto C 308 dX10_reads_304 (by decide) ?_
      refine b_sub [0, 2, 3, 4, 5] rfl ?_
      exact w_X10_reads_308 C hR k9 h9 _ _ _ _ _ _ _ hf
set_option maxHeartbeats 4000000 in
set_option maxRecDepth 100000 in
theorem w_X10_reads_274 {X : Ctx} {o : Int64} {rv : Int32 × Mem} (C : Cx X cX10_reads RX10 wsX10_reads 8 1 22) (hR : Rt X cX10_reads 8 o rv) (k9 : Int32 → Int32 → Int32 → Int32 → Mem → Option (Int32 × Mem)) (h9 : ∀ (v1 v2 v3 v4 : Int32) (σ : Mem), some rv = k9 v1 v2 v3 v4 σ → Bk X 8 o 0 0 9 [(0, .ref (ad X (10))), (1, .int (v1)), (2, .int (v2)), (3, .int (v3)), (4, .int (v4))] [] σ) : ∀ (v1 v2 v3 v4 v5 v7 : Int32) (σ : Mem), some rv = f_X10_reads_274 k9 v1 v2 v3 v4 v5 v7 σ → Bk X 8 o 0 0 274 [(0, .ref (ad X (10))), (1, .int (v1)), (2, .int (v2)), (3, .int (v3)), (4, .int (v4)), (5, .int (v5)), (7, .int (v7))] [] σ := by
  intro v1 v2 v3 v4 v5 v7 σ hf
  unfold f_X10_reads_274 at hf
  refine b_iload_n C dX10_reads_274 rfl 3 rfl ?_
  refine b_iconst C (v := 4) dX10_reads_275 (by decide) ?_
  refine b_icmp_ne C 327 dX10_reads_276 (by decide) hf (fun hf => ?_) (fun hf => ?_)
  · refine b_sub [4] rfl ?_
    exact w_X10_reads_327 C hR _ _ hf
  · refine b_iload C dX10_reads_279 6 rfl ?_
    refine b_if_eq C 327 dX10_reads_281 (by decide) hf (fun hf => ?_) (fun hf => ?_)
    · refine b_sub [4] rfl ?_
      exact w_X10_reads_327 C hR _ _ hf
    · refine b_sub [0, 1, 2, 3, 4, 5] rfl ?_
      exact w_X10_reads_284 C hR k9 h9 _ _ _ _ _ _ hf
set_option maxHeartbeats 4000000 in
set_option maxRecDepth 100000 in
theorem w_X10_reads_264 {X : Ctx} {o : Int64} {rv : Int32 × Mem} (C : Cx X cX10_reads RX10 wsX10_reads 8 1 22) (hR : Rt X cX10_reads 8 o rv) (k9 : Int32 → Int32 → Int32 → Int32 → Mem → Option (Int32 × Mem)) (h9 : ∀ (v1 v2 v3 v4 : Int32) (σ : Mem), some rv = k9 v1 v2 v3 v4 σ → Bk X 8 o 0 0 9 [(0, .ref (ad X (10))), (1, .int (v1)), (2, .int (v2)), (3, .int (v3)), (4, .int (v4))] [] σ) : ∀ (v1 v2 v3 v4 v5 v7 : Int32) (σ : Mem), some rv = f_X10_reads_264 k9 v1 v2 v3 v4 v5 v7 σ → Bk X 8 o 0 0 264 [(0, .ref (ad X (10))), (1, .int (v1)), (2, .int (v2)), (3, .int (v3)), (4, .int (v4)), (5, .int (v5)), (7, .int (v7))] [] σ := by
  intro v1 v2 v3 v4 v5 v7 σ hf
  unfold f_X10_reads_264 at hf
  refine b_iload_n C dX10_reads_264 rfl 3 rfl ?_
  refine b_iconst C (v := 3) dX10_reads_265 (by decide) ?_
  refine b_icmp_ne C 274 dX10_reads_266 (by decide) hf (fun hf => ?_) (fun hf => ?_)
  · exact w_X10_reads_274 C hR k9 h9 _ _ _ _ _ _ _ hf
  · refine b_iload C dX10_reads_269 6 rfl ?_
    refine b_if_ne C 284 dX10_reads_271 (by decide) hf (fun hf => ?_) (fun hf => ?_)
    · refine b_sub [0, 1, 2, 3, 4, 5] rfl ?_
      exact w_X10_reads_284 C hR k9 h9 _ _ _ _ _ _ hf
    · exact w_X10_reads_274 C hR k9 h9 _ _ _ _ _ _ _ hf
set_option maxHeartbeats 4000000 in
set_option maxRecDepth 100000 in
theorem w_X10_reads_231 {X : Ctx} {o : Int64} {rv : Int32 × Mem} (C : Cx X cX10_reads RX10 wsX10_reads 8 1 22) (hR : Rt X cX10_reads 8 o rv) (k9 : Int32 → Int32 → Int32 → Int32 → Mem → Option (Int32 × Mem)) (h9 : ∀ (v1 v2 v3 v4 : Int32) (σ : Mem), some rv = k9 v1 v2 v3 v4 σ → Bk X 8 o 0 0 9 [(0, .ref (ad X (10))), (1, .int (v1)), (2, .int (v2)), (3, .int (v3)), (4, .int (v4))] [] σ) : ∀ (v1 v2 v3 v4 v5 v7 : Int32) (σ : Mem), some rv = f_X10_reads_231 k9 v1 v2 v3 v4 v5 v7 σ → Bk X 8 o 0 0 231 [(0, .ref (ad X (10))), (1, .int (v1)), (2, .int (v2)), (3, .int (v3)), (4, .int (v4)), (5, .int (v5)), (7, .int (v7))] [] σ := by
  intro v1 v2 v3 v4 v5 v7 σ hf
  unfold f_X10_reads_231 at hf
  refine b_iload_n C dX10_reads_231 rfl 3 rfl ?_
  refine b_iconst C (v := 2) dX10_reads_232 (by decide) ?_
  refine b_icmp_ne C 264 dX10_reads_233 (by decide) hf (fun hf => ?_) (fun hf => ?_)
  · exact w_X10_reads_264 C hR k9 h9 _ _ _ _ _ _ _ hf
  · refine b_iload_n C dX10_reads_236 rfl 2 rfl ?_
    refine b_if_le C 264 dX10_reads_237 (by decide) hf (fun hf => ?_) (fun hf => ?_)
    · exact w_X10_reads_264 C hR k9 h9 _ _ _ _ _ _ _ hf
    · refine b_iload C dX10_reads_240 5 rfl ?_
      refine b_bipush C (v := 41) dX10_reads_242 (by decide) ?_
      refine b_icmp_ne C 264 dX10_reads_244 (by decide) hf (fun hf => ?_) (fun hf => ?_)
      · exact w_X10_reads_264 C hR k9 h9 _ _ _ _ _ _ _ hf
      · refine b_aload_n C dX10_reads_247 rfl 0 rfl ?_
        refine b_getR C hiX10_reads_10 10 40 (54 + 75) (by decide) (by decide) rfl (by decide) kX10_reads_111 rfl rfl dX10_reads_248 ?_
        refine b_iload_n C dX10_reads_251 rfl 1 rfl ?_
        refine b_iload C dX10_reads_252 5 rfl ?_
        refine b_iast C 75 (by decide) rfl dX10_reads_254 hf (fun hf => ?_)
        refine b_nw hf (fun τ3 hf => ?_)
        refine b_iinc (v := (v1) + (1)) (lv' := [(1, .int ((v1) + (1))), (0, .ref (ad X (10))), (2, .int (v2)), (3, .int (v3)), (4, .int (v4)), (5, .int (v5)), (7, .int (v7))]) C dX10_reads_255 1 rfl rfl (by decide) rfl ?_
        refine b_iinc (v := (v2) + (-1)) (lv' := [(2, .int ((v2) + (-1))), (1, .int ((v1) + (1))), (0, .ref (ad X (10))), (3, .int (v3)), (4, .int (v4)), (5, .int (v5)), (7, .int (v7))]) C dX10_reads_258 2 rfl rfl (by decide) rfl ?_
        refine b_goto C 332 dX10_reads_261 (by decide) ?_
        refine b_sub [2, 1, 0, 3, 4] rfl ?_
        exact w_X10_reads_332 C hR k9 h9 _ _ _ _ _ hf
set_option maxHeartbeats 4000000 in
set_option maxRecDepth 100000 in
theorem w_X10_reads_227 {X : Ctx} {o : Int64} {rv : Int32 × Mem} (C : Cx X cX10_reads RX10 wsX10_reads 8 1 22) (hR : Rt X cX10_reads 8 o rv) (k9 : Int32 → Int32 → Int32 → Int32 → Mem → Option (Int32 × Mem)) (h9 : ∀ (v1 v2 v3 v4 : Int32) (σ : Mem), some rv = k9 v1 v2 v3 v4 σ → Bk X 8 o 0 0 9 [(0, .ref (ad X (10))), (1, .int (v1)), (2, .int (v2)), (3, .int (v3)), (4, .int (v4))] [] σ) : ∀ (v1 v2 v4 s0 : Int32) (σ : Mem), some rv = f_X10_reads_227 k9 v1 v2 v4 s0 σ → Bk X 8 o 0 0 227 [(0, .ref (ad X (10))), (1, .int (v1)), (2, .int (v2)), (4, .int (v4))] [.int (s0)] σ := by
  intro v1 v2 v4 s0 σ hf
  unfold f_X10_reads_227 at hf
  refine b_istore_n (lv' := [(3, .int (s0)), (0, .ref (ad X (10))), (1, .int (v1)), (2, .int (v2)), (4, .int (v4))]) C dX10_reads_227 rfl (by decide) rfl ?_
  refine b_goto C 332 dX10_reads_228 (by decide) ?_
  refine b_sub [1, 2, 3, 0, 4] rfl ?_
  exact w_X10_reads_332 C hR k9 h9 _ _ _ _ _ hf
set_option maxHeartbeats 4000000 in
set_option maxRecDepth 100000 in
theorem w_X10_reads_204 {X : Ctx} {o : Int64} {rv : Int32 × Mem} (C : Cx X cX10_reads RX10 wsX10_reads 8 1 22) (hR : Rt X cX10_reads 8 o rv) (k9 : Int32 → Int32 → Int32 → Int32 → Mem → Option (Int32 × Mem)) (h9 : ∀ (v1 v2 v3 v4 : Int32) (σ : Mem), some rv = k9 v1 v2 v3 v4 σ → Bk X 8 o 0 0 9 [(0, .ref (ad X (10))), (1, .int (v1)), (2, .int (v2)), (3, .int (v3)), (4, .int (v4))] [] σ) : ∀ (v1 v2 v4 v5 : Int32) (σ : Mem), some rv = f_X10_reads_204 k9 v1 v2 v4 v5 σ → Bk X 8 o 0 0 204 [(0, .ref (ad X (10))), (1, .int (v1)), (2, .int (v2)), (4, .int (v4)), (5, .int (v5))] [] σ := by
  intro v1 v2 v4 v5 σ hf
  unfold f_X10_reads_204 at hf
  refine b_aload_n C dX10_reads_204 rfl 0 rfl ?_
  refine b_getR C hiX10_reads_10 10 40 (54 + 75) (by decide) (by decide) rfl (by decide) kX10_reads_111 rfl rfl dX10_reads_205 ?_
  refine b_iload_n C dX10_reads_208 rfl 1 rfl ?_
  refine b_iload C dX10_reads_209 4 rfl ?_
  refine b_iast C 75 (by decide) rfl dX10_reads_211 hf (fun hf => ?_)
  refine b_nw hf (fun τ4 hf => ?_)
  refine b_iinc (v := (v1) + (1)) (lv' := [(1, .int ((v1) + (1))), (0, .ref (ad X (10))), (2, .int (v2)), (4, .int (v4)), (5, .int (v5))]) C dX10_reads_212 1 rfl rfl (by decide) rfl ?_
  refine b_iload C dX10_reads_215 4 rfl ?_
  refine b_bipush C (v := 60) dX10_reads_217 (by decide) ?_
  refine b_icmp_ne C 226 dX10_reads_219 (by decide) hf (fun hf => ?_) (fun hf => ?_)
  · refine b_iconst C (v := 0) dX10_reads_226 (by decide) ?_
    refine b_sub [1, 0, 2, 3] rfl ?_
    exact w_X10_reads_227 C hR k9 h9 _ _ _ _ _ hf
  · refine b_iconst C (v := 3) dX10_reads_222 (by decide) ?_
    refine b_goto C 227 dX10_reads_223 (by decide) ?_
    refine b_sub [1, 0, 2, 3] rfl ?_
    exact w_X10_reads_227 C hR k9 h9 _ _ _ _ _ hf
set_option maxHeartbeats 4000000 in
set_option maxRecDepth 100000 in
theorem w_X10_reads_193 {X : Ctx} {o : Int64} {rv : Int32 × Mem} (C : Cx X cX10_reads RX10 wsX10_reads 8 1 22) (hR : Rt X cX10_reads 8 o rv) (k9 : Int32 → Int32 → Int32 → Int32 → Mem → Option (Int32 × Mem)) (h9 : ∀ (v1 v2 v3 v4 : Int32) (σ : Mem), some rv = k9 v1 v2 v3 v4 σ → Bk X 8 o 0 0 9 [(0, .ref (ad X (10))), (1, .int (v1)), (2, .int (v2)), (3, .int (v3)), (4, .int (v4))] [] σ) : ∀ (v1 v2 v3 v4 v5 v7 : Int32) (σ : Mem), some rv = f_X10_reads_193 k9 v1 v2 v3 v4 v5 v7 σ → Bk X 8 o 0 0 193 [(0, .ref (ad X (10))), (1, .int (v1)), (2, .int (v2)), (3, .int (v3)), (4, .int (v4)), (5, .int (v5)), (7, .int (v7))] [] σ := by
  intro v1 v2 v3 v4 v5 v7 σ hf
  unfold f_X10_reads_193 at hf
  refine b_iload_n C dX10_reads_193 rfl 2 rfl ?_
  refine b_if_ne C 231 dX10_reads_194 (by decide) hf (fun hf => ?_) (fun hf => ?_)
  · exact w_X10_reads_231 C hR k9 h9 _ _ _ _ _ _ _ hf
  · refine b_iload C dX10_reads_197 5 rfl ?_
    refine b_bipush C (v := 60) dX10_reads_199 (by decide) ?_
    refine b_icmp_ne C 231 dX10_reads_201 (by decide) hf (fun hf => ?_) (fun hf => ?_)
    · exact w_X10_reads_231 C hR k9 h9 _ _ _ _ _ _ _ hf
    · refine b_sub [0, 1, 2, 4, 5] rfl ?_
      exact w_X10_reads_204 C hR k9 h9 _ _ _ _ _ hf
set_option maxHeartbeats 4000000 in
set_option maxRecDepth 100000 in
theorem w_X10_reads_170 {X : Ctx} {o : Int64} {rv : Int32 × Mem} (C : Cx X cX10_reads RX10 wsX10_reads 8 1 22) (hR : Rt X cX10_reads 8 o rv) (k9 : Int32 → Int32 → Int32 → Int32 → Mem → Option (Int32 × Mem)) (h9 : ∀ (v1 v2 v3 v4 : Int32) (σ : Mem), some rv = k9 v1 v2 v3 v4 σ → Bk X 8 o 0 0 9 [(0, .ref (ad X (10))), (1, .int (v1)), (2, .int (v2)), (3, .int (v3)), (4, .int (v4))] [] σ) : ∀ (v1 v2 v3 v4 v5 v7 : Int32) (σ : Mem), some rv = f_X10_reads_170 k9 v1 v2 v3 v4 v5 v7 σ → Bk X 8 o 0 0 170 [(0, .ref (ad X (10))), (1, .int (v1)), (2, .int (v2)), (3, .int (v3)), (4, .int (v4)), (5, .int (v5)), (7, .int (v7))] [] σ := by
  intro v1 v2 v3 v4 v5 v7 σ hf
  unfold f_X10_reads_170 at hf
  refine b_iload_n C dX10_reads_170 rfl 3 rfl ?_
  refine b_iconst C (v := 2) dX10_reads_171 (by decide) ?_
  refine b_icmp_ne C 231 dX10_reads_172 (by decide) hf (fun hf => ?_) (fun hf => ?_)
  · exact w_X10_reads_231 C hR k9 h9 _ _ _ _ _ _ _ hf
  · refine b_iload C dX10_reads_175 5 rfl ?_
    refine b_bipush C (v := 43) dX10_reads_177 (by decide) ?_
    refine b_icmp_eq C 204 dX10_reads_179 (by decide) hf (fun hf => ?_) (fun hf => ?_)
    · refine b_sub [0, 1, 2, 4, 5] rfl ?_
      exact w_X10_reads_204 C hR k9 h9 _ _ _ _ _ hf
    · refine b_iload_n C dX10_reads_182 rfl 2 rfl ?_
      refine b_if_le C 193 dX10_reads_183 (by decide) hf (fun hf => ?_) (fun hf => ?_)
      · exact w_X10_reads_193 C hR k9 h9 _ _ _ _ _ _ _ hf
      · refine b_iload C dX10_reads_186 5 rfl ?_
        refine b_bipush C (v := 124) dX10_reads_188 (by decide) ?_
        refine b_icmp_eq C 204 dX10_reads_190 (by decide) hf (fun hf => ?_) (fun hf => ?_)
        · refine b_sub [0, 1, 2, 4, 5] rfl ?_
          exact w_X10_reads_204 C hR k9 h9 _ _ _ _ _ hf
        · exact w_X10_reads_193 C hR k9 h9 _ _ _ _ _ _ _ hf
set_option maxHeartbeats 4000000 in
set_option maxRecDepth 100000 in
theorem w_X10_reads_138 {X : Ctx} {o : Int64} {rv : Int32 × Mem} (C : Cx X cX10_reads RX10 wsX10_reads 8 1 22) (hR : Rt X cX10_reads 8 o rv) (k9 : Int32 → Int32 → Int32 → Int32 → Mem → Option (Int32 × Mem)) (h9 : ∀ (v1 v2 v3 v4 : Int32) (σ : Mem), some rv = k9 v1 v2 v3 v4 σ → Bk X 8 o 0 0 9 [(0, .ref (ad X (10))), (1, .int (v1)), (2, .int (v2)), (3, .int (v3)), (4, .int (v4))] [] σ) : ∀ (v1 v2 v3 v4 v5 v7 : Int32) (σ : Mem), some rv = f_X10_reads_138 k9 v1 v2 v3 v4 v5 v7 σ → Bk X 8 o 0 0 138 [(0, .ref (ad X (10))), (1, .int (v1)), (2, .int (v2)), (3, .int (v3)), (4, .int (v4)), (5, .int (v5)), (7, .int (v7))] [] σ := by
  intro v1 v2 v3 v4 v5 v7 σ hf
  unfold f_X10_reads_138 at hf
  refine b_iload_n C dX10_reads_138 rfl 3 rfl ?_
  refine b_if_ne C 170 dX10_reads_139 (by decide) hf (fun hf => ?_) (fun hf => ?_)
  · exact w_X10_reads_170 C hR k9 h9 _ _ _ _ _ _ _ hf
  · refine b_iload C dX10_reads_142 6 rfl ?_
    refine b_if_eq C 170 dX10_reads_144 (by decide) hf (fun hf => ?_) (fun hf => ?_)
    · exact w_X10_reads_170 C hR k9 h9 _ _ _ _ _ _ _ hf
    · refine b_iload C dX10_reads_147 5 rfl ?_
      refine b_bipush C (v := 48) dX10_reads_149 (by decide) ?_
      refine b_icmp_eq C 170 dX10_reads_151 (by decide) hf (fun hf => ?_) (fun hf => ?_)
      · exact w_X10_reads_170 C hR k9 h9 _ _ _ _ _ _ _ hf
      · refine b_aload_n C dX10_reads_154 rfl 0 rfl ?_
        refine b_getR C hiX10_reads_10 10 40 (54 + 75) (by decide) (by decide) rfl (by decide) kX10_reads_111 rfl rfl dX10_reads_155 ?_
        refine b_iload_n C dX10_reads_158 rfl 1 rfl ?_
        refine b_iload C dX10_reads_159 5 rfl ?_
        refine b_iast C 75 (by decide) rfl dX10_reads_161 hf (fun hf => ?_)
        refine b_nw hf (fun τ5 hf => ?_)
        refine b_iinc (v := (v1) + (1)) (lv' := [(1, .int ((v1) + (1))), (0, .ref (ad X (10))), (2, .int (v2)), (3, .int (v3)), (4, .int (v4)), (5, .int (v5)), (7, .int (v7))]) C dX10_reads_162 1 rfl rfl (by decide) rfl ?_
        refine b_iconst C (v := 1) dX10_reads_165 (by decide) ?_
        refine b_istore_n (lv' := [(3, .int (1)), (1, .int ((v1) + (1))), (0, .ref (ad X (10))), (2, .int (v2)), (4, .int (v4)), (5, .int (v5)), (7, .int (v7))]) C dX10_reads_166 rfl (by decide) rfl ?_
        refine b_goto C 332 dX10_reads_167 (by decide) ?_
        refine b_sub [2, 1, 3, 0, 4] rfl ?_
        exact w_X10_reads_332 C hR k9 h9 _ _ _ _ _ hf
set_option maxHeartbeats 4000000 in
set_option maxRecDepth 100000 in
theorem w_X10_reads_134 {X : Ctx} {o : Int64} {rv : Int32 × Mem} (C : Cx X cX10_reads RX10 wsX10_reads 8 1 22) (hR : Rt X cX10_reads 8 o rv) (k9 : Int32 → Int32 → Int32 → Int32 → Mem → Option (Int32 × Mem)) (h9 : ∀ (v1 v2 v3 v4 : Int32) (σ : Mem), some rv = k9 v1 v2 v3 v4 σ → Bk X 8 o 0 0 9 [(0, .ref (ad X (10))), (1, .int (v1)), (2, .int (v2)), (3, .int (v3)), (4, .int (v4))] [] σ) : ∀ (v1 v2 v4 s0 : Int32) (σ : Mem), some rv = f_X10_reads_134 k9 v1 v2 v4 s0 σ → Bk X 8 o 0 0 134 [(0, .ref (ad X (10))), (1, .int (v1)), (2, .int (v2)), (4, .int (v4))] [.int (s0)] σ := by
  intro v1 v2 v4 s0 σ hf
  unfold f_X10_reads_134 at hf
  refine b_istore_n (lv' := [(3, .int (s0)), (0, .ref (ad X (10))), (1, .int (v1)), (2, .int (v2)), (4, .int (v4))]) C dX10_reads_134 rfl (by decide) rfl ?_
  refine b_goto C 332 dX10_reads_135 (by decide) ?_
  refine b_sub [1, 2, 3, 0, 4] rfl ?_
  exact w_X10_reads_332 C hR k9 h9 _ _ _ _ _ hf
set_option maxHeartbeats 4000000 in
set_option maxRecDepth 100000 in
theorem w_X10_reads_120 {X : Ctx} {o : Int64} {rv : Int32 × Mem} (C : Cx X cX10_reads RX10 wsX10_reads 8 1 22) (hR : Rt X cX10_reads 8 o rv) (k9 : Int32 → Int32 → Int32 → Int32 → Mem → Option (Int32 × Mem)) (h9 : ∀ (v1 v2 v3 v4 : Int32) (σ : Mem), some rv = k9 v1 v2 v3 v4 σ → Bk X 8 o 0 0 9 [(0, .ref (ad X (10))), (1, .int (v1)), (2, .int (v2)), (3, .int (v3)), (4, .int (v4))] [] σ) : ∀ (v1 v4 v5 s0 s1 : Int32) (σ : Mem), some rv = f_X10_reads_120 k9 v1 v4 v5 s0 s1 σ → Bk X 8 o 0 0 120 [(0, .ref (ad X (10))), (1, .int (v1)), (4, .int (v4)), (5, .int (v5))] [.int (s0), .int (s1)] σ := by
  intro v1 v4 v5 s0 s1 σ hf
  unfold f_X10_reads_120 at hf
  refine b_iadd C dX10_reads_120 ?_
  refine b_nv hf (fun y6 hf => ?_)
  refine b_istore_n (lv' := [(2, .int (y6)), (0, .ref (ad X (10))), (1, .int (v1)), (4, .int (v4)), (5, .int (v5))]) C dX10_reads_121 rfl (by decide) rfl ?_
  refine b_iload C dX10_reads_122 4 rfl ?_
  refine b_bipush C (v := 40) dX10_reads_124 (by decide) ?_
  refine b_icmp_ne C 133 dX10_reads_126 (by decide) hf (fun hf => ?_) (fun hf => ?_)
  · refine b_iconst C (v := 2) dX10_reads_133 (by decide) ?_
    refine b_sub [1, 2, 0, 3] rfl ?_
    exact w_X10_reads_134 C hR k9 h9 _ _ _ _ _ hf
  · refine b_iconst C (v := 0) dX10_reads_129 (by decide) ?_
    refine b_goto C 134 dX10_reads_130 (by decide) ?_
    refine b_sub [1, 2, 0, 3] rfl ?_
    exact w_X10_reads_134 C hR k9 h9 _ _ _ _ _ hf
set_option maxHeartbeats 4000000 in
set_option maxRecDepth 100000 in
theorem w_X10_reads_94 {X : Ctx} {o : Int64} {rv : Int32 × Mem} (C : Cx X cX10_reads RX10 wsX10_reads 8 1 22) (hR : Rt X cX10_reads 8 o rv) (k9 : Int32 → Int32 → Int32 → Int32 → Mem → Option (Int32 × Mem)) (h9 : ∀ (v1 v2 v3 v4 : Int32) (σ : Mem), some rv = k9 v1 v2 v3 v4 σ → Bk X 8 o 0 0 9 [(0, .ref (ad X (10))), (1, .int (v1)), (2, .int (v2)), (3, .int (v3)), (4, .int (v4))] [] σ) : ∀ (v2 v4 v5 s0 s1 : Int32) (σ : Mem), some rv = f_X10_reads_94 k9 v2 v4 v5 s0 s1 σ → Bk X 8 o 0 0 94 [(0, .ref (ad X (10))), (2, .int (v2)), (4, .int (v4)), (5, .int (v5))] [.int (s0), .int (s1)] σ := by
  intro v2 v4 v5 s0 s1 σ hf
  unfold f_X10_reads_94 at hf
  refine b_iadd C dX10_reads_94 ?_
  refine b_nv hf (fun y7 hf => ?_)
  refine b_istore_n (lv' := [(1, .int (y7)), (0, .ref (ad X (10))), (2, .int (v2)), (4, .int (v4)), (5, .int (v5))]) C dX10_reads_95 rfl (by decide) rfl ?_
  refine b_aload_n C dX10_reads_96 rfl 1 rfl ?_
  refine b_getR C hiX10_reads_10 10 40 (54 + 75) (by decide) (by decide) rfl (by decide) kX10_reads_111 rfl rfl dX10_reads_97 ?_
  refine b_iload_n C dX10_reads_100 rfl 0 rfl ?_
  refine b_iload C dX10_reads_101 4 rfl ?_
  refine b_iast C 75 (by decide) rfl dX10_reads_103 hf (fun hf => ?_)
  refine b_nw hf (fun τ8 hf => ?_)
  refine b_iinc (v := (y7) + (1)) (lv' := [(1, .int ((y7) + (1))), (0, .ref (ad X (10))), (2, .int (v2)), (4, .int (v4)), (5, .int (v5))]) C dX10_reads_104 0 rfl rfl (by decide) rfl ?_
  refine b_iload_n C dX10_reads_107 rfl 2 rfl ?_
  refine b_iload C dX10_reads_108 4 rfl ?_
  refine b_bipush C (v := 40) dX10_reads_110 (by decide) ?_
  refine b_icmp_ne C 119 dX10_reads_112 (by decide) hf (fun hf => ?_) (fun hf => ?_)
  · refine b_iconst C (v := 0) dX10_reads_119 (by decide) ?_
    refine b_sub [1, 0, 3, 4] rfl ?_
    exact w_X10_reads_120 C hR k9 h9 _ _ _ _ _ _ hf
  · refine b_iconst C (v := 1) dX10_reads_115 (by decide) ?_
    refine b_goto C 120 dX10_reads_116 (by decide) ?_
    refine b_sub [1, 0, 3, 4] rfl ?_
    exact w_X10_reads_120 C hR k9 h9 _ _ _ _ _ _ hf
set_option maxHeartbeats 4000000 in
set_option maxRecDepth 100000 in
theorem w_X10_reads_76 {X : Ctx} {o : Int64} {rv : Int32 × Mem} (C : Cx X cX10_reads RX10 wsX10_reads 8 1 22) (hR : Rt X cX10_reads 8 o rv) (k9 : Int32 → Int32 → Int32 → Int32 → Mem → Option (Int32 × Mem)) (h9 : ∀ (v1 v2 v3 v4 : Int32) (σ : Mem), some rv = k9 v1 v2 v3 v4 σ → Bk X 8 o 0 0 9 [(0, .ref (ad X (10))), (1, .int (v1)), (2, .int (v2)), (3, .int (v3)), (4, .int (v4))] [] σ) : ∀ (v1 v2 v3 v4 v5 : Int32) (σ : Mem), some rv = f_X10_reads_76 k9 v1 v2 v3 v4 v5 σ → Bk X 8 o 0 0 76 [(0, .ref (ad X (10))), (1, .int (v1)), (2, .int (v2)), (3, .int (v3)), (4, .int (v4)), (5, .int (v5))] [] σ := by
  intro v1 v2 v3 v4 v5 σ hf
  unfold f_X10_reads_76 at hf
  refine b_aload_n C dX10_reads_76 rfl 0 rfl ?_
  refine b_getR C hiX10_reads_10 10 40 (54 + 75) (by decide) (by decide) rfl (by decide) kX10_reads_111 rfl rfl dX10_reads_77 ?_
  refine b_iload_n C dX10_reads_80 rfl 1 rfl ?_
  refine b_bipush C (v := 49) dX10_reads_81 (by decide) ?_
  refine b_iast C 75 (by decide) rfl dX10_reads_83 hf (fun hf => ?_)
  refine b_nw hf (fun τ9 hf => ?_)
  refine b_iload_n C dX10_reads_84 rfl 1 rfl ?_
  refine b_iload_n C dX10_reads_85 rfl 3 rfl ?_
  refine b_if_ne C 93 dX10_reads_86 (by decide) hf (fun hf => ?_) (fun hf => ?_)
  · refine b_iconst C (v := 0) dX10_reads_93 (by decide) ?_
    refine b_sub [0, 2, 4, 5] rfl ?_
    exact w_X10_reads_94 C hR k9 h9 _ _ _ _ _ _ hf
  · refine b_iconst C (v := 1) dX10_reads_89 (by decide) ?_
    refine b_goto C 94 dX10_reads_90 (by decide) ?_
    refine b_sub [0, 2, 4, 5] rfl ?_
    exact w_X10_reads_94 C hR k9 h9 _ _ _ _ _ _ hf
set_option maxHeartbeats 4000000 in
set_option maxRecDepth 100000 in
theorem w_X10_reads_59 {X : Ctx} {o : Int64} {rv : Int32 × Mem} (C : Cx X cX10_reads RX10 wsX10_reads 8 1 22) (hR : Rt X cX10_reads 8 o rv) (k9 : Int32 → Int32 → Int32 → Int32 → Mem → Option (Int32 × Mem)) (h9 : ∀ (v1 v2 v3 v4 : Int32) (σ : Mem), some rv = k9 v1 v2 v3 v4 σ → Bk X 8 o 0 0 9 [(0, .ref (ad X (10))), (1, .int (v1)), (2, .int (v2)), (3, .int (v3)), (4, .int (v4))] [] σ) : ∀ (v1 v2 v3 v4 v5 v7 : Int32) (σ : Mem), some rv = f_X10_reads_59 k9 v1 v2 v3 v4 v5 v7 σ → Bk X 8 o 0 0 59 [(0, .ref (ad X (10))), (1, .int (v1)), (2, .int (v2)), (3, .int (v3)), (4, .int (v4)), (5, .int (v5)), (7, .int (v7))] [] σ := by
  intro v1 v2 v3 v4 v5 v7 σ hf
  unfold f_X10_reads_59 at hf
  refine b_iload_n C dX10_reads_59 rfl 3 rfl ?_
  refine b_iconst C (v := 2) dX10_reads_60 (by decide) ?_
  refine b_icmp_ge C 138 dX10_reads_61 (by decide) hf (fun hf => ?_) (fun hf => ?_)
  · exact w_X10_reads_138 C hR k9 h9 _ _ _ _ _ _ _ hf
  · refine b_iload C dX10_reads_64 5 rfl ?_
    refine b_bipush C (v := 40) dX10_reads_66 (by decide) ?_
    refine b_icmp_ne C 138 dX10_reads_68 (by decide) hf (fun hf => ?_) (fun hf => ?_)
    · exact w_X10_reads_138 C hR k9 h9 _ _ _ _ _ _ _ hf
    · refine b_iload_n C dX10_reads_71 rfl 2 rfl ?_
      refine b_iconst C (v := 4) dX10_reads_72 (by decide) ?_
      refine b_icmp_ge C 138 dX10_reads_73 (by decide) hf (fun hf => ?_) (fun hf => ?_)
      · exact w_X10_reads_138 C hR k9 h9 _ _ _ _ _ _ _ hf
      · refine b_sub [0, 1, 2, 3, 4, 5] rfl ?_
        exact w_X10_reads_76 C hR k9 h9 _ _ _ _ _ _ hf
set_option maxHeartbeats 4000000 in
set_option maxRecDepth 100000 in
theorem w_X10_reads_9 {X : Ctx} {o : Int64} {rv : Int32 × Mem} (C : Cx X cX10_reads RX10 wsX10_reads 8 1 22) (hR : Rt X cX10_reads 8 o rv) : ∀ (n : Nat) (v1 v2 v3 v4 : Int32) (σ : Mem), some rv = f_X10_reads_9 n v1 v2 v3 v4 σ → Bk X 8 o 0 0 9 [(0, .ref (ad X (10))), (1, .int (v1)), (2, .int (v2)), (3, .int (v3)), (4, .int (v4))] [] σ := by
  intro n
  induction n with
  | zero =>
    intro v1 v2 v3 v4 σ hf
    rw [f_X10_reads_9] at hf
    cases hf
  | succ n ih =>
    intro v1 v2 v3 v4 σ hf
    rw [f_X10_reads_9] at hf
    refine b_iload C dX10_reads_9 4 rfl ?_
    refine b_aload_n C dX10_reads_11 rfl 0 rfl ?_
    refine b_getS C hiX10_reads_10 10 1 23 (by decide) (by decide) rfl (by decide) kX10_reads_135 rfl rfl dX10_reads_12 ?_
    refine b_icmp_ge C 338 dX10_reads_15 (by decide) hf (fun hf => ?_) (fun hf => ?_)
    · refine b_iload_n C dX10_reads_338 rfl 3 rfl ?_
      refine b_iconst C (v := 2) dX10_reads_339 (by decide) ?_
      refine b_icmp_ne C 347 dX10_reads_340 (by decide) hf (fun hf => ?_) (fun hf => ?_)
      · refine b_sub [0, 1, 3] rfl ?_
        exact w_X10_reads_347 C hR _ _ _ hf
      · refine b_iload_n C dX10_reads_343 rfl 2 rfl ?_
        refine b_if_eq C 352 dX10_reads_344 (by decide) hf (fun hf => ?_) (fun hf => ?_)
        · refine b_sub [1] rfl ?_
          exact w_X10_reads_352 C hR _ _ hf
        · refine b_sub [0, 1, 3] rfl ?_
          exact w_X10_reads_347 C hR _ _ _ hf
    · refine b_aload_n C dX10_reads_18 rfl 0 rfl ?_
      refine b_getR C hiX10_reads_10 10 2 (54 + 43) (by decide) (by decide) rfl (by decide) kX10_reads_7 rfl rfl dX10_reads_19 ?_
      refine b_iload C dX10_reads_22 4 rfl ?_
      refine b_iald C 43 (by decide) rfl dX10_reads_24 hf (fun hf => ?_)
      refine b_nv hf (fun y10 hf => ?_)
      refine b_istore (lv' := [(5, .int (y10)), (0, .ref (ad X (10))), (1, .int (v1)), (2, .int (v2)), (3, .int (v3)), (4, .int (v4))]) C dX10_reads_25 (by decide) rfl ?_
      refine b_iload C dX10_reads_27 0 rfl ?_
      refine b_bipush C (v := 97) dX10_reads_29 (by decide) ?_
      refine b_bipush C (v := 104) dX10_reads_31 (by decide) ?_
      obtain ⟨y11, τ12, hqy11, hf⟩ := bd_inv hf
      refine b_callSi (n := 3) C (fun _ => [.int (y10), .int (97), .int (104)]) (c_X10_in (y10) (97) (104)) hqy11 gX10_reads_X10_in rfl (by decide +kernel) rfl (by decide) (by decide) (Nat.le_of_ble_eq_true rfl) dX10_reads_33 ?_
      refine b_istore (lv' := [(6, .int (y11)), (5, .int (y10)), (0, .ref (ad X (10))), (1, .int (v1)), (2, .int (v2)), (3, .int (v3)), (4, .int (v4))]) C dX10_reads_36 (by decide) rfl ?_
      refine b_iload C dX10_reads_38 1 rfl ?_
      refine b_bipush C (v := 48) dX10_reads_40 (by decide) ?_
      refine b_bipush C (v := 57) dX10_reads_42 (by decide) ?_
      obtain ⟨y13, τ14, hqy13, hf⟩ := bd_inv hf
      refine b_callSi (n := 3) C (fun _ => [.int (y10), .int (48), .int (57)]) (c_X10_in (y10) (48) (57)) hqy13 gX10_reads_X10_in rfl (by decide +kernel) rfl (by decide) (by decide) (Nat.le_of_ble_eq_true rfl) dX10_reads_44 ?_
      refine b_istore (lv' := [(7, .int (y13)), (6, .int (y11)), (5, .int (y10)), (0, .ref (ad X (10))), (1, .int (v1)), (2, .int (v2)), (3, .int (v3)), (4, .int (v4))]) C dX10_reads_47 (by decide) rfl ?_
      refine b_iload_n C dX10_reads_49 rfl 6 rfl ?_
      refine b_iconst C (v := 2) dX10_reads_50 (by decide) ?_
      refine b_icmp_ge C 59 dX10_reads_51 (by decide) hf (fun hf => ?_) (fun hf => ?_)
      · refine b_sub [3, 4, 5, 6, 7, 2, 0] rfl ?_
        exact w_X10_reads_59 C hR (f_X10_reads_9 n) ih _ _ _ _ _ _ _ hf
      · refine b_iload C dX10_reads_54 1 rfl ?_
        refine b_if_ne C 76 dX10_reads_56 (by decide) hf (fun hf => ?_) (fun hf => ?_)
        · refine b_sub [3, 4, 5, 6, 7, 2] rfl ?_
          exact w_X10_reads_76 C hR (f_X10_reads_9 n) ih _ _ _ _ _ _ hf
        · refine b_sub [3, 4, 5, 6, 7, 2, 0] rfl ?_
          exact w_X10_reads_59 C hR (f_X10_reads_9 n) ih _ _ _ _ _ _ _ hf
set_option maxHeartbeats 4000000 in
set_option maxRecDepth 100000 in
theorem c_X10_reads (l : Launch) : Cti l yX10_reads wsX10_reads 1 22 (fun G => [.ref (G.1 (10))]) (f_X10_reads ) := by
  refine mk_i (cc := cX10_reads) (nL := 8) (own := RX10) (by decide) rfl rfl (fun _ => Nat.le_of_ble_eq_true rfl) (fun X o σ rv C hR hf => ?_)
  show Bk X 8 o 0 0 0 [(0, .ref (ad X (10)))] [] σ
  unfold f_X10_reads at hf
  refine b_iconst C (v := 0) dX10_reads_0 (by decide) ?_
  refine b_istore_n (lv' := [(1, .int (0)), (0, .ref (ad X (10)))]) C dX10_reads_1 rfl (by decide) rfl ?_
  refine b_iconst C (v := 0) dX10_reads_2 (by decide) ?_
  refine b_istore_n (lv' := [(2, .int (0)), (1, .int (0)), (0, .ref (ad X (10)))]) C dX10_reads_3 rfl (by decide) rfl ?_
  refine b_iconst C (v := 0) dX10_reads_4 (by decide) ?_
  refine b_istore_n (lv' := [(3, .int (0)), (2, .int (0)), (1, .int (0)), (0, .ref (ad X (10)))]) C dX10_reads_5 rfl (by decide) rfl ?_
  refine b_iconst C (v := 0) dX10_reads_6 (by decide) ?_
  refine b_istore (lv' := [(4, .int (0)), (3, .int (0)), (2, .int (0)), (1, .int (0)), (0, .ref (ad X (10)))]) C dX10_reads_7 (by decide) rfl ?_
  refine b_sub [4, 3, 2, 1, 0] rfl ?_
  exact w_X10_reads_9 C hR FUEL _ _ _ _ _ hf
theorem hiX10_scheme_10 : ∀ w ∈ wsX100, w ∈ wsX10_scheme := by decide +kernel
theorem kX10_scheme_42 : Cond.fieldLink RX10 42 "ScriptRoomModel" "text" "[I" ∈ wsX10_scheme := by decide +kernel
theorem kX10_scheme_45 : Cond.fieldLink RX10 45 "ScriptRoomModel" "letters" "[I" ∈ wsX10_scheme := by decide +kernel
theorem kX10_scheme_39 : Cond.fieldLink RX10 39 "ScriptRoomModel" "versions" "[I" ∈ wsX10_scheme := by decide +kernel
theorem kX10_scheme_111 : Cond.fieldLink RX10 111 "ScriptRoomModel" "made" "[I" ∈ wsX10_scheme := by decide +kernel
theorem kX10_scheme_135 : Cond.fieldLink RX10 135 "ScriptRoomModel" "signs" "I" ∈ wsX10_scheme := by decide +kernel
set_option maxHeartbeats 4000000 in
set_option maxRecDepth 100000 in
theorem w_X10_scheme_147 {X : Ctx} {o : Int64} {rv : Int32 × Mem} (C : Cx X cX10_scheme RX10 wsX10_scheme 7 2 49) (hR : Rt X cX10_scheme 7 o rv) (k75 : Int32 → Int32 → Int32 → Int32 → Mem → Option (Int32 × Mem)) (h75 : ∀ (v1 v3 v4 v5 : Int32) (σ : Mem), some rv = k75 v1 v3 v4 v5 σ → Bk X 7 o 0 0 75 [(0, .ref (ad X (10))), (1, .int (v1)), (3, .int (v3)), (4, .int (v4)), (5, .int (v5))] [] σ) : ∀ (v1 v3 v4 v5 s0 s1 s2 : Int32) (σ : Mem), some rv = f_X10_scheme_147 k75 v1 v3 v4 v5 s0 s1 s2 σ → Bk X 7 o 0 0 147 [(0, .ref (ad X (10))), (1, .int (v1)), (3, .int (v3)), (4, .int (v4)), (5, .int (v5))] [.int (s0), .int (s1), .int (s2), .ref (ad X (54 + 53))] σ := by
  intro v1 v3 v4 v5 s0 s1 s2 σ hf
  unfold f_X10_scheme_147 at hf
  refine b_ior C dX10_scheme_147 ?_
  refine b_iast C 53 (by decide) rfl dX10_scheme_148 hf (fun hf => ?_)
  refine b_nw hf (fun τ1 hf => ?_)
  refine b_iinc (v := (v5) + (1)) (lv' := [(5, .int ((v5) + (1))), (0, .ref (ad X (10))), (1, .int (v1)), (3, .int (v3)), (4, .int (v4))]) C dX10_scheme_149 4 rfl rfl (by decide) rfl ?_
  refine b_goto C 75 dX10_scheme_152 (by decide) ?_
  refine b_sub [1, 2, 3, 4, 0] rfl ?_
  exact h75 _ _ _ _ _ hf
set_option maxHeartbeats 4000000 in
set_option maxRecDepth 100000 in
theorem w_X10_scheme_99 {X : Ctx} {o : Int64} {rv : Int32 × Mem} (C : Cx X cX10_scheme RX10 wsX10_scheme 7 2 49) (hR : Rt X cX10_scheme 7 o rv) (k75 : Int32 → Int32 → Int32 → Int32 → Mem → Option (Int32 × Mem)) (h75 : ∀ (v1 v3 v4 v5 : Int32) (σ : Mem), some rv = k75 v1 v3 v4 v5 σ → Bk X 7 o 0 0 75 [(0, .ref (ad X (10))), (1, .int (v1)), (3, .int (v3)), (4, .int (v4)), (5, .int (v5))] [] σ) : ∀ (v1 v3 v4 v5 s0 : Int32) (σ : Mem), some rv = f_X10_scheme_99 k75 v1 v3 v4 v5 s0 σ → Bk X 7 o 0 0 99 [(0, .ref (ad X (10))), (1, .int (v1)), (3, .int (v3)), (4, .int (v4)), (5, .int (v5))] [.int (s0)] σ := by
  intro v1 v3 v4 v5 s0 σ hf
  unfold f_X10_scheme_99 at hf
  refine b_istore (lv' := [(6, .int (s0)), (0, .ref (ad X (10))), (1, .int (v1)), (3, .int (v3)), (4, .int (v4)), (5, .int (v5))]) C dX10_scheme_99 (by decide) rfl ?_
  refine b_aload_n C dX10_scheme_101 rfl 1 rfl ?_
  refine b_getR C hiX10_scheme_10 10 14 (54 + 52) (by decide) (by decide) rfl (by decide) kX10_scheme_42 rfl rfl dX10_scheme_102 ?_
  refine b_bipush C (v := 90) dX10_scheme_105 (by decide) ?_
  refine b_iload C dX10_scheme_107 4 rfl ?_
  refine b_imul C dX10_scheme_109 ?_
  refine b_iload C dX10_scheme_110 5 rfl ?_
  refine b_iadd C dX10_scheme_112 ?_
  refine b_iload C dX10_scheme_113 0 rfl ?_
  refine b_iast C 52 (by decide) rfl dX10_scheme_115 hf (fun hf => ?_)
  refine b_nw hf (fun τ2 hf => ?_)
  refine b_aload_n C dX10_scheme_116 rfl 1 rfl ?_
  refine b_getR C hiX10_scheme_10 10 15 (54 + 53) (by decide) (by decide) rfl (by decide) kX10_scheme_45 rfl rfl dX10_scheme_117 ?_
  refine b_iload C dX10_scheme_120 4 rfl ?_
  refine b_dup2 C dX10_scheme_122 rfl rfl ?_
  refine b_iald C 53 (by decide) rfl dX10_scheme_123 hf (fun hf => ?_)
  refine b_iload C dX10_scheme_124 0 rfl ?_
  refine b_bipush C (v := 97) dX10_scheme_126 (by decide) ?_
  refine b_bipush C (v := 104) dX10_scheme_128 (by decide) ?_
  obtain ⟨y3, τ4, hqy3, hf⟩ := bd_inv hf
  refine b_callSi (n := 3) C (fun _ => [.int (s0), .int (97), .int (104)]) (c_X10_in (s0) (97) (104)) hqy3 gX10_scheme_X10_in rfl (by decide +kernel) rfl (by decide) (by decide) (Nat.le_of_ble_eq_true rfl) dX10_scheme_130 ?_
  refine b_if_eq C 146 dX10_scheme_133 (by decide) hf (fun hf => ?_) (fun hf => ?_)
  · refine b_iconst C (v := 0) dX10_scheme_146 (by decide) ?_
    refine b_sub [1, 2, 3, 4, 5] rfl ?_
    exact w_X10_scheme_147 C hR k75 h75 _ _ _ _ _ _ _ _ hf
  · refine b_iconst C (v := 1) dX10_scheme_136 (by decide) ?_
    refine b_iload C dX10_scheme_137 0 rfl ?_
    refine b_bipush C (v := 97) dX10_scheme_139 (by decide) ?_
    refine b_isub C dX10_scheme_141 ?_
    refine b_ishl C dX10_scheme_142 ?_
    refine b_goto C 147 dX10_scheme_143 (by decide) ?_
    refine b_sub [1, 2, 3, 4, 5] rfl ?_
    exact w_X10_scheme_147 C hR k75 h75 _ _ _ _ _ _ _ _ hf
set_option maxHeartbeats 4000000 in
set_option maxRecDepth 100000 in
theorem w_X10_scheme_75 {X : Ctx} {o : Int64} {rv : Int32 × Mem} (C : Cx X cX10_scheme RX10 wsX10_scheme 7 2 49) (hR : Rt X cX10_scheme 7 o rv) : ∀ (n : Nat) (v1 v3 v4 v5 : Int32) (σ : Mem), some rv = f_X10_scheme_75 n v1 v3 v4 v5 σ → Bk X 7 o 0 0 75 [(0, .ref (ad X (10))), (1, .int (v1)), (3, .int (v3)), (4, .int (v4)), (5, .int (v5))] [] σ := by
  intro n
  induction n with
  | zero =>
    intro v1 v3 v4 v5 σ hf
    rw [f_X10_scheme_75] at hf
    cases hf
  | succ n ih =>
    intro v1 v3 v4 v5 σ hf
    rw [f_X10_scheme_75] at hf
    refine b_iload C dX10_scheme_75 4 rfl ?_
    refine b_bipush C (v := 90) dX10_scheme_77 (by decide) ?_
    refine b_icmp_ge C 155 dX10_scheme_79 (by decide) hf (fun hf => ?_) (fun hf => ?_)
    · refine b_aload_n C dX10_scheme_155 rfl 0 rfl ?_
      refine b_getR C hiX10_scheme_10 10 13 (54 + 51) (by decide) (by decide) rfl (by decide) kX10_scheme_39 rfl rfl dX10_scheme_156 ?_
      refine b_iload_n C dX10_scheme_159 rfl 1 rfl ?_
      refine b_dup2 C dX10_scheme_160 rfl rfl ?_
      refine b_iald C 51 (by decide) rfl dX10_scheme_161 hf (fun hf => ?_)
      refine b_iconst C (v := 1) dX10_scheme_162 (by decide) ?_
      refine b_iadd C dX10_scheme_163 ?_
      refine b_iast C 51 (by decide) rfl dX10_scheme_164 hf (fun hf => ?_)
      refine b_nw hf (fun τ5 hf => ?_)
      refine b_aload_n C dX10_scheme_165 rfl 0 rfl ?_
      refine b_getR C hiX10_scheme_10 10 13 (54 + 51) (by decide) (by decide) rfl (by decide) kX10_scheme_39 rfl rfl dX10_scheme_166 ?_
      refine b_iload_n C dX10_scheme_169 rfl 1 rfl ?_
      refine b_iald C 51 (by decide) rfl dX10_scheme_170 hf (fun hf => ?_)
      refine b_iconst C (v := 1) dX10_scheme_171 (by decide) ?_
      refine b_isub C dX10_scheme_172 ?_
      exact hR _ _ _ _ dX10_scheme_173 hf
    · refine b_iload C dX10_scheme_82 4 rfl ?_
      refine b_iload_n C dX10_scheme_84 rfl 2 rfl ?_
      refine b_icmp_ge C 98 dX10_scheme_85 (by decide) hf (fun hf => ?_) (fun hf => ?_)
      · refine b_iconst C (v := 0) dX10_scheme_98 (by decide) ?_
        exact w_X10_scheme_99 C hR (f_X10_scheme_75 n) ih _ _ _ _ _ _ hf
      · refine b_aload_n C dX10_scheme_88 rfl 0 rfl ?_
        refine b_getR C hiX10_scheme_10 10 40 (54 + 75) (by decide) (by decide) rfl (by decide) kX10_scheme_111 rfl rfl dX10_scheme_89 ?_
        refine b_iload C dX10_scheme_92 4 rfl ?_
        refine b_iald C 75 (by decide) rfl dX10_scheme_94 hf (fun hf => ?_)
        refine b_goto C 99 dX10_scheme_95 (by decide) ?_
        exact w_X10_scheme_99 C hR (f_X10_scheme_75 n) ih _ _ _ _ _ _ hf
set_option maxHeartbeats 4000000 in
set_option maxRecDepth 100000 in
theorem w_X10_scheme_27 {X : Ctx} {o : Int64} {rv : Int32 × Mem} (C : Cx X cX10_scheme RX10 wsX10_scheme 7 2 49) (hR : Rt X cX10_scheme 7 o rv) : ∀ (v1 s0 s1 : Int32) (σ : Mem), some rv = f_X10_scheme_27 v1 s0 s1 σ → Bk X 7 o 0 0 27 [(0, .ref (ad X (10))), (1, .int (v1))] [.int (s0), .int (s1), .ref (ad X (10))] σ := by
  intro v1 s0 s1 σ hf
  unfold f_X10_scheme_27 at hf
  obtain ⟨y6, τ7, hqy6, hf⟩ := bd_inv hf
  refine b_callVi (n := 2) C (10) 10 (isObj_s (by decide) (by decide)) rfl (fun _ => [.int (s1), .int (s0)]) (c_X10_asked_ (s1) (s0)) hqy6 gX10_scheme_X10_asked_ rfl (by decide +kernel) rfl (by decide) (by decide) (Nat.le_of_ble_eq_true rfl) dX10_scheme_27 ?_
  refine b_if_ne C 35 dX10_scheme_30 (by decide) hf (fun hf => ?_) (fun hf => ?_)
  · refine b_aload_n C dX10_scheme_35 rfl 0 rfl ?_
    obtain ⟨y8, τ9, hqy8, hf⟩ := bd_inv hf
    refine b_callVi (n := 0) C (10) 10 (isObj_s (by decide) (by decide)) rfl (fun _ => []) (c_X10_reads ) hqy8 gX10_scheme_X10_reads rfl (by decide +kernel) rfl (by decide) (by decide) (Nat.le_of_ble_eq_true rfl) dX10_scheme_36 ?_
    refine b_istore_n (lv' := [(3, .int (y8)), (0, .ref (ad X (10))), (1, .int (v1))]) C dX10_scheme_39 rfl (by decide) rfl ?_
    refine b_aload_n C dX10_scheme_40 rfl 1 rfl ?_
    refine b_iconst C (v := 0) dX10_scheme_41 (by decide) ?_
    refine b_putS C (ty := .int) hiX10_scheme_10 tyX10 tyX10_ok nmX10 10 1 23 (by decide) (by decide) rfl (by decide) kX10_scheme_135 rfl rfl (by decide +kernel) rfl rfl rfl dX10_scheme_42 ?_
    refine b_nw hf (fun τ10 hf => ?_)
    refine b_iload_n C dX10_scheme_45 rfl 0 rfl ?_
    refine b_if_ge C 51 dX10_scheme_46 (by decide) hf (fun hf => ?_) (fun hf => ?_)
    · refine b_bipush C (v := 6) dX10_scheme_51 (by decide) ?_
      refine b_iload_n C dX10_scheme_53 rfl 2 rfl ?_
      refine b_imul C dX10_scheme_54 ?_
      refine b_aload_n C dX10_scheme_55 rfl 1 rfl ?_
      refine b_getR C hiX10_scheme_10 10 13 (54 + 51) (by decide) (by decide) rfl (by decide) kX10_scheme_39 rfl rfl dX10_scheme_56 ?_
      refine b_iload_n C dX10_scheme_59 rfl 2 rfl ?_
      refine b_iald C 51 (by decide) rfl dX10_scheme_60 hf (fun hf => ?_)
      refine b_iadd C dX10_scheme_61 ?_
      refine b_nv hf (fun y11 hf => ?_)
      refine b_istore (lv' := [(4, .int (y11)), (3, .int (y8)), (0, .ref (ad X (10))), (1, .int (v1))]) C dX10_scheme_62 (by decide) rfl ?_
      refine b_aload_n C dX10_scheme_64 rfl 2 rfl ?_
      refine b_getR C hiX10_scheme_10 10 15 (54 + 53) (by decide) (by decide) rfl (by decide) kX10_scheme_45 rfl rfl dX10_scheme_65 ?_
      refine b_iload C dX10_scheme_68 0 rfl ?_
      refine b_iconst C (v := 0) dX10_scheme_70 (by decide) ?_
      refine b_iast C 53 (by decide) rfl dX10_scheme_71 hf (fun hf => ?_)
      refine b_nw hf (fun τ12 hf => ?_)
      refine b_iconst C (v := 0) dX10_scheme_72 (by decide) ?_
      refine b_istore (lv' := [(5, .int (0)), (4, .int (y11)), (3, .int (y8)), (0, .ref (ad X (10))), (1, .int (v1))]) C dX10_scheme_73 (by decide) rfl ?_
      refine b_sub [3, 4, 2, 1, 0] rfl ?_
      exact w_X10_scheme_75 C hR FUEL _ _ _ _ _ hf
    · refine b_iload_n C dX10_scheme_49 rfl 0 rfl ?_
      exact hR _ _ _ _ dX10_scheme_50 hf
  · refine b_iconst C (v := 0) dX10_scheme_33 (by decide) ?_
    exact hR _ _ _ _ dX10_scheme_34 hf
set_option maxHeartbeats 4000000 in
set_option maxRecDepth 100000 in
theorem w_X10_scheme_26 {X : Ctx} {o : Int64} {rv : Int32 × Mem} (C : Cx X cX10_scheme RX10 wsX10_scheme 7 2 49) (hR : Rt X cX10_scheme 7 o rv) : ∀ (v1 s0 : Int32) (σ : Mem), some rv = f_X10_scheme_26 v1 s0 σ → Bk X 7 o 0 0 26 [(0, .ref (ad X (10))), (1, .int (v1))] [.int (s0), .ref (ad X (10))] σ := by
  intro v1 s0 σ hf
  unfold f_X10_scheme_26 at hf
  refine b_iconst C (v := 0) dX10_scheme_26 (by decide) ?_
  exact w_X10_scheme_27 C hR _ _ _ _ hf
set_option maxHeartbeats 4000000 in
set_option maxRecDepth 100000 in
theorem c_X10_scheme (x1 : Int32) (l : Launch) : Cti l yX10_scheme wsX10_scheme 2 49 (fun G => [.ref (G.1 (10)), .int (x1)]) (f_X10_scheme x1) := by
  refine mk_i (cc := cX10_scheme) (nL := 7) (own := RX10) (by decide) rfl rfl (fun _ => Nat.le_of_ble_eq_true rfl) (fun X o σ rv C hR hf => ?_)
  show Bk X 7 o 0 0 0 [(0, .ref (ad X (10))), (1, .int (x1))] [] σ
  unfold f_X10_scheme at hf
  refine b_iload_n C dX10_scheme_0 rfl 1 rfl ?_
  obtain ⟨y13, τ14, hqy13, hf⟩ := bd_inv hf
  refine b_callSi (n := 1) C (fun _ => [.int (x1)]) (c_X10_isQuestion (x1)) hqy13 gX10_scheme_X10_isQuestion rfl (by decide +kernel) rfl (by decide) (by decide) (Nat.le_of_ble_eq_true rfl) dX10_scheme_1 ?_
  refine b_istore_n (lv' := [(2, .int (y13)), (0, .ref (ad X (10))), (1, .int (x1))]) C dX10_scheme_4 rfl (by decide) rfl ?_
  refine b_aload_n C dX10_scheme_5 rfl 1 rfl ?_
  refine b_iload_n C dX10_scheme_6 rfl 0 rfl ?_
  refine b_iload_n C dX10_scheme_7 rfl 0 rfl ?_
  refine b_if_eq C 26 dX10_scheme_8 (by decide) hf (fun hf => ?_) (fun hf => ?_)
  · refine b_sub [1, 2] rfl ?_
    exact w_X10_scheme_26 C hR _ _ _ hf
  · refine b_aload_n C dX10_scheme_11 rfl 1 rfl ?_
    refine b_getR C hiX10_scheme_10 10 13 (54 + 51) (by decide) (by decide) rfl (by decide) kX10_scheme_39 rfl rfl dX10_scheme_12 ?_
    refine b_iload_n C dX10_scheme_15 rfl 2 rfl ?_
    refine b_iald C 51 (by decide) rfl dX10_scheme_16 hf (fun hf => ?_)
    refine b_bipush C (v := 6) dX10_scheme_17 (by decide) ?_
    refine b_icmp_ge C 26 dX10_scheme_19 (by decide) hf (fun hf => ?_) (fun hf => ?_)
    · refine b_sub [1, 2] rfl ?_
      exact w_X10_scheme_26 C hR _ _ _ hf
    · refine b_iconst C (v := 1) dX10_scheme_22 (by decide) ?_
      refine b_goto C 27 dX10_scheme_23 (by decide) ?_
      refine b_sub [1, 2] rfl ?_
      exact w_X10_scheme_27 C hR _ _ _ _ hf
theorem hiX10_value_10 : ∀ w ∈ wsX100, w ∈ wsX10_value := by decide +kernel
theorem kX10_value_102 : Cond.fieldLink RX10 102 "ScriptRoomModel" "sum" "[I" ∈ wsX10_value := by decide +kernel
theorem kX10_value_108 : Cond.fieldLink RX10 108 "ScriptRoomModel" "times" "[I" ∈ wsX10_value := by decide +kernel
theorem kX10_value_42 : Cond.fieldLink RX10 42 "ScriptRoomModel" "text" "[I" ∈ wsX10_value := by decide +kernel
theorem kX10_value_105 : Cond.fieldLink RX10 105 "ScriptRoomModel" "best" "[I" ∈ wsX10_value := by decide +kernel
set_option maxHeartbeats 4000000 in
set_option maxRecDepth 100000 in
theorem w_X10_value_325 {X : Ctx} {o : Int64} {rv : Int32 × Mem} (C : Cx X cX10_value RX10 wsX10_value 10 1 22) (hR : Rt X cX10_value 10 o rv) : ∀ (s0 : Int32) (σ : Mem), some rv = f_X10_value_325 s0 σ → Bk X 10 o 0 0 325 [] [.int (s0)] σ := by
  intro s0 σ hf
  unfold f_X10_value_325 at hf
  exact hR _ _ _ _ dX10_value_325 hf
set_option maxHeartbeats 4000000 in
set_option maxRecDepth 100000 in
theorem w_X10_value_303 {X : Ctx} {o : Int64} {rv : Int32 × Mem} (C : Cx X cX10_value RX10 wsX10_value 10 1 22) (hR : Rt X cX10_value 10 o rv) : ∀ (v5 : Int32) (σ : Mem), some rv = f_X10_value_303 v5 σ → Bk X 10 o 0 0 303 [(0, .ref (ad X (10))), (5, .int (v5))] [] σ := by
  intro v5 σ hf
  unfold f_X10_value_303 at hf
  refine b_aload_n C dX10_value_303 rfl 0 rfl ?_
  refine b_getR C hiX10_value_10 10 37 (54 + 72) (by decide) (by decide) rfl (by decide) kX10_value_102 rfl rfl dX10_value_304 ?_
  refine b_iconst C (v := 0) dX10_value_307 (by decide) ?_
  refine b_iald C 72 (by decide) rfl dX10_value_308 hf (fun hf => ?_)
  refine b_iload C dX10_value_309 1 rfl ?_
  refine b_icmp_ge C 323 dX10_value_311 (by decide) hf (fun hf => ?_) (fun hf => ?_)
  · refine b_iload C dX10_value_323 1 rfl ?_
    refine b_sub [] rfl ?_
    exact w_X10_value_325 C hR _ _ hf
  · refine b_aload_n C dX10_value_314 rfl 0 rfl ?_
    refine b_getR C hiX10_value_10 10 37 (54 + 72) (by decide) (by decide) rfl (by decide) kX10_value_102 rfl rfl dX10_value_315 ?_
    refine b_iconst C (v := 0) dX10_value_318 (by decide) ?_
    refine b_iald C 72 (by decide) rfl dX10_value_319 hf (fun hf => ?_)
    refine b_goto C 325 dX10_value_320 (by decide) ?_
    refine b_sub [] rfl ?_
    exact w_X10_value_325 C hR _ _ hf
set_option maxHeartbeats 4000000 in
set_option maxRecDepth 100000 in
theorem w_X10_value_297 {X : Ctx} {o : Int64} {rv : Int32 × Mem} (C : Cx X cX10_value RX10 wsX10_value 10 1 22) (hR : Rt X cX10_value 10 o rv) (k25 : Int32 → Int32 → Int32 → Int32 → Int32 → Int32 → Int32 → Mem → Option (Int32 × Mem)) (h25 : ∀ (v1 v2 v3 v4 v5 v6 v7 : Int32) (σ : Mem), some rv = k25 v1 v2 v3 v4 v5 v6 v7 σ → Bk X 10 o 0 0 25 [(0, .ref (ad X (10))), (1, .int (v1)), (2, .int (v2)), (3, .int (v3)), (4, .int (v4)), (5, .int (v5)), (6, .int (v6)), (7, .int (v7))] [] σ) : ∀ (v1 v2 v3 v4 v5 v6 v7 : Int32) (σ : Mem), some rv = f_X10_value_297 k25 v1 v2 v3 v4 v5 v6 v7 σ → Bk X 10 o 0 0 297 [(0, .ref (ad X (10))), (1, .int (v1)), (2, .int (v2)), (3, .int (v3)), (4, .int (v4)), (5, .int (v5)), (6, .int (v6)), (7, .int (v7))] [] σ := by
  intro v1 v2 v3 v4 v5 v6 v7 σ hf
  unfold f_X10_value_297 at hf
  refine b_iinc (v := (v7) + (1)) (lv' := [(7, .int ((v7) + (1))), (0, .ref (ad X (10))), (1, .int (v1)), (2, .int (v2)), (3, .int (v3)), (4, .int (v4)), (5, .int (v5)), (6, .int (v6))]) C dX10_value_297 7 rfl rfl (by decide) rfl ?_
  refine b_goto C 25 dX10_value_300 (by decide) ?_
  refine b_sub [1, 2, 3, 4, 5, 6, 7, 0] rfl ?_
  exact h25 _ _ _ _ _ _ _ _ hf
set_option maxHeartbeats 4000000 in
set_option maxRecDepth 100000 in
theorem w_X10_value_274 {X : Ctx} {o : Int64} {rv : Int32 × Mem} (C : Cx X cX10_value RX10 wsX10_value 10 1 22) (hR : Rt X cX10_value 10 o rv) (k25 : Int32 → Int32 → Int32 → Int32 → Int32 → Int32 → Int32 → Mem → Option (Int32 × Mem)) (h25 : ∀ (v1 v2 v3 v4 v5 v6 v7 : Int32) (σ : Mem), some rv = k25 v1 v2 v3 v4 v5 v6 v7 σ → Bk X 10 o 0 0 25 [(0, .ref (ad X (10))), (1, .int (v1)), (2, .int (v2)), (3, .int (v3)), (4, .int (v4)), (5, .int (v5)), (6, .int (v6)), (7, .int (v7))] [] σ) : ∀ (v1 v2 v3 v4 v5 v6 v7 s0 : Int32) (σ : Mem), some rv = f_X10_value_274 k25 v1 v2 v3 v4 v5 v6 v7 s0 σ → Bk X 10 o 0 0 274 [(0, .ref (ad X (10))), (1, .int (v1)), (2, .int (v2)), (3, .int (v3)), (4, .int (v4)), (5, .int (v5)), (6, .int (v6)), (7, .int (v7))] [.int (s0)] σ := by
  intro v1 v2 v3 v4 v5 v6 v7 s0 σ hf
  unfold f_X10_value_274 at hf
  refine b_istore (lv' := [(9, .int (s0)), (0, .ref (ad X (10))), (1, .int (v1)), (2, .int (v2)), (3, .int (v3)), (4, .int (v4)), (5, .int (v5)), (6, .int (v6)), (7, .int (v7))]) C dX10_value_274 (by decide) rfl ?_
  refine b_iinc (v := (v3) + (-1)) (lv' := [(3, .int ((v3) + (-1))), (9, .int (s0)), (0, .ref (ad X (10))), (1, .int (v1)), (2, .int (v2)), (4, .int (v4)), (5, .int (v5)), (6, .int (v6)), (7, .int (v7))]) C dX10_value_276 4 rfl rfl (by decide) rfl ?_
  refine b_aload_n C dX10_value_279 rfl 2 rfl ?_
  refine b_getR C hiX10_value_10 10 37 (54 + 72) (by decide) (by decide) rfl (by decide) kX10_value_102 rfl rfl dX10_value_280 ?_
  refine b_iload_n C dX10_value_283 rfl 0 rfl ?_
  refine b_dup2 C dX10_value_284 rfl rfl ?_
  refine b_iald C 72 (by decide) rfl dX10_value_285 hf (fun hf => ?_)
  refine b_aload_n C dX10_value_286 rfl 2 rfl ?_
  refine b_getR C hiX10_value_10 10 39 (54 + 74) (by decide) (by decide) rfl (by decide) kX10_value_108 rfl rfl dX10_value_287 ?_
  refine b_iload_n C dX10_value_290 rfl 0 rfl ?_
  refine b_iald C 74 (by decide) rfl dX10_value_291 hf (fun hf => ?_)
  refine b_iload C dX10_value_292 1 rfl ?_
  refine b_imul C dX10_value_294 ?_
  refine b_iadd C dX10_value_295 ?_
  refine b_iast C 72 (by decide) rfl dX10_value_296 hf (fun hf => ?_)
  refine b_nw hf (fun τ1 hf => ?_)
  refine b_sub [2, 3, 4, 0, 5, 6, 7, 8] rfl ?_
  exact w_X10_value_297 C hR k25 h25 _ _ _ _ _ _ _ _ hf
set_option maxHeartbeats 4000000 in
set_option maxRecDepth 100000 in
theorem w_X10_value_226 {X : Ctx} {o : Int64} {rv : Int32 × Mem} (C : Cx X cX10_value RX10 wsX10_value 10 1 22) (hR : Rt X cX10_value 10 o rv) (k25 : Int32 → Int32 → Int32 → Int32 → Int32 → Int32 → Int32 → Mem → Option (Int32 × Mem)) (h25 : ∀ (v1 v2 v3 v4 v5 v6 v7 : Int32) (σ : Mem), some rv = k25 v1 v2 v3 v4 v5 v6 v7 σ → Bk X 10 o 0 0 25 [(0, .ref (ad X (10))), (1, .int (v1)), (2, .int (v2)), (3, .int (v3)), (4, .int (v4)), (5, .int (v5)), (6, .int (v6)), (7, .int (v7))] [] σ) : ∀ (v1 v2 v3 v4 v5 v6 v7 s0 s1 : Int32) (σ : Mem), some rv = f_X10_value_226 k25 v1 v2 v3 v4 v5 v6 v7 s0 s1 σ → Bk X 10 o 0 0 226 [(0, .ref (ad X (10))), (1, .int (v1)), (2, .int (v2)), (3, .int (v3)), (4, .int (v4)), (5, .int (v5)), (6, .int (v6)), (7, .int (v7))] [.int (s0), .int (s1), .ref (ad X (54 + 73))] σ := by
  intro v1 v2 v3 v4 v5 v6 v7 s0 s1 σ hf
  unfold f_X10_value_226 at hf
  refine b_iast C 73 (by decide) rfl dX10_value_226 hf (fun hf => ?_)
  refine b_nw hf (fun τ2 hf => ?_)
  refine b_aload_n C dX10_value_227 rfl 0 rfl ?_
  refine b_getR C hiX10_value_10 10 37 (54 + 72) (by decide) (by decide) rfl (by decide) kX10_value_102 rfl rfl dX10_value_228 ?_
  refine b_iload_n C dX10_value_231 rfl 3 rfl ?_
  refine b_iconst C (v := 0) dX10_value_232 (by decide) ?_
  refine b_iast C 72 (by decide) rfl dX10_value_233 hf (fun hf => ?_)
  refine b_nw hf (fun τ3 hf => ?_)
  refine b_goto C 297 dX10_value_234 (by decide) ?_
  exact w_X10_value_297 C hR k25 h25 _ _ _ _ _ _ _ _ hf
set_option maxHeartbeats 4000000 in
set_option maxRecDepth 100000 in
theorem w_X10_value_108 {X : Ctx} {o : Int64} {rv : Int32 × Mem} (C : Cx X cX10_value RX10 wsX10_value 10 1 22) (hR : Rt X cX10_value 10 o rv) (k25 : Int32 → Int32 → Int32 → Int32 → Int32 → Int32 → Int32 → Mem → Option (Int32 × Mem)) (h25 : ∀ (v1 v2 v3 v4 v5 v6 v7 : Int32) (σ : Mem), some rv = k25 v1 v2 v3 v4 v5 v6 v7 σ → Bk X 10 o 0 0 25 [(0, .ref (ad X (10))), (1, .int (v1)), (2, .int (v2)), (3, .int (v3)), (4, .int (v4)), (5, .int (v5)), (6, .int (v6)), (7, .int (v7))] [] σ) : ∀ (v1 v2 v3 v4 v6 v7 s0 : Int32) (σ : Mem), some rv = f_X10_value_108 k25 v1 v2 v3 v4 v6 v7 s0 σ → Bk X 10 o 0 0 108 [(0, .ref (ad X (10))), (1, .int (v1)), (2, .int (v2)), (3, .int (v3)), (4, .int (v4)), (6, .int (v6)), (7, .int (v7))] [.int (s0)] σ := by
  intro v1 v2 v3 v4 v6 v7 s0 σ hf
  unfold f_X10_value_108 at hf
  refine b_istore (lv' := [(5, .int (s0)), (0, .ref (ad X (10))), (1, .int (v1)), (2, .int (v2)), (3, .int (v3)), (4, .int (v4)), (6, .int (v6)), (7, .int (v7))]) C dX10_value_108 (by decide) rfl ?_
  refine b_goto C 297 dX10_value_110 (by decide) ?_
  refine b_sub [1, 2, 3, 4, 5, 0, 6, 7] rfl ?_
  exact w_X10_value_297 C hR k25 h25 _ _ _ _ _ _ _ _ hf
set_option maxHeartbeats 4000000 in
set_option maxRecDepth 100000 in
theorem w_X10_value_25 {X : Ctx} {o : Int64} {rv : Int32 × Mem} (C : Cx X cX10_value RX10 wsX10_value 10 1 22) (hR : Rt X cX10_value 10 o rv) : ∀ (n : Nat) (v1 v2 v3 v4 v5 v6 v7 : Int32) (σ : Mem), some rv = f_X10_value_25 n v1 v2 v3 v4 v5 v6 v7 σ → Bk X 10 o 0 0 25 [(0, .ref (ad X (10))), (1, .int (v1)), (2, .int (v2)), (3, .int (v3)), (4, .int (v4)), (5, .int (v5)), (6, .int (v6)), (7, .int (v7))] [] σ := by
  intro n
  induction n with
  | zero =>
    intro v1 v2 v3 v4 v5 v6 v7 σ hf
    rw [f_X10_value_25] at hf
    cases hf
  | succ n ih =>
    intro v1 v2 v3 v4 v5 v6 v7 σ hf
    rw [f_X10_value_25] at hf
    refine b_iload C dX10_value_25 7 rfl ?_
    refine b_bipush C (v := 90) dX10_value_27 (by decide) ?_
    refine b_iload_n C dX10_value_29 rfl 1 rfl ?_
    refine b_iconst C (v := 1) dX10_value_30 (by decide) ?_
    refine b_iadd C dX10_value_31 ?_
    refine b_imul C dX10_value_32 ?_
    refine b_icmp_ge C 303 dX10_value_33 (by decide) hf (fun hf => ?_) (fun hf => ?_)
    · refine b_sub [0, 5] rfl ?_
      exact w_X10_value_303 C hR _ _ hf
    · refine b_aload_n C dX10_value_36 rfl 0 rfl ?_
      refine b_getR C hiX10_value_10 10 14 (54 + 52) (by decide) (by decide) rfl (by decide) kX10_value_42 rfl rfl dX10_value_37 ?_
      refine b_iload C dX10_value_40 7 rfl ?_
      refine b_iald C 52 (by decide) rfl dX10_value_42 hf (fun hf => ?_)
      refine b_if_eq C 303 dX10_value_43 (by decide) hf (fun hf => ?_) (fun hf => ?_)
      · refine b_sub [0, 5] rfl ?_
        exact w_X10_value_303 C hR _ _ hf
      · refine b_aload_n C dX10_value_46 rfl 0 rfl ?_
        refine b_getR C hiX10_value_10 10 14 (54 + 52) (by decide) (by decide) rfl (by decide) kX10_value_42 rfl rfl dX10_value_47 ?_
        refine b_iload C dX10_value_50 7 rfl ?_
        refine b_iald C 52 (by decide) rfl dX10_value_52 hf (fun hf => ?_)
        refine b_nv hf (fun y4 hf => ?_)
        refine b_istore (lv' := [(8, .int (y4)), (0, .ref (ad X (10))), (1, .int (v1)), (2, .int (v2)), (3, .int (v3)), (4, .int (v4)), (5, .int (v5)), (6, .int (v6)), (7, .int (v7))]) C dX10_value_53 (by decide) rfl ?_
        refine b_iload C dX10_value_55 0 rfl ?_
        refine b_bipush C (v := 60) dX10_value_57 (by decide) ?_
        refine b_icmp_ne C 71 dX10_value_59 (by decide) hf (fun hf => ?_) (fun hf => ?_)
        · refine b_iload C dX10_value_71 0 rfl ?_
          refine b_bipush C (v := 48) dX10_value_73 (by decide) ?_
          refine b_bipush C (v := 57) dX10_value_75 (by decide) ?_
          obtain ⟨y5, τ6, hqy5, hf⟩ := bd_inv hf
          refine b_callSi (n := 3) C (fun _ => [.int (y4), .int (48), .int (57)]) (c_X10_in (y4) (48) (57)) hqy5 gX10_value_X10_in rfl (by decide +kernel) rfl (by decide) (by decide) (Nat.le_of_ble_eq_true rfl) dX10_value_77 ?_
          refine b_if_eq C 113 dX10_value_80 (by decide) hf (fun hf => ?_) (fun hf => ?_)
          · refine b_iload C dX10_value_113 0 rfl ?_
            refine b_bipush C (v := 97) dX10_value_115 (by decide) ?_
            refine b_bipush C (v := 104) dX10_value_117 (by decide) ?_
            obtain ⟨y7, τ8, hqy7, hf⟩ := bd_inv hf
            refine b_callSi (n := 3) C (fun _ => [.int (y4), .int (97), .int (104)]) (c_X10_in (y4) (97) (104)) hqy7 gX10_value_X10_in rfl (by decide +kernel) rfl (by decide) (by decide) (Nat.le_of_ble_eq_true rfl) dX10_value_119 ?_
            refine b_if_eq C 149 dX10_value_122 (by decide) hf (fun hf => ?_) (fun hf => ?_)
            · refine b_iload C dX10_value_149 0 rfl ?_
              refine b_bipush C (v := 40) dX10_value_151 (by decide) ?_
              refine b_icmp_ne C 184 dX10_value_153 (by decide) hf (fun hf => ?_) (fun hf => ?_)
              · refine b_iload C dX10_value_184 0 rfl ?_
                refine b_bipush C (v := 124) dX10_value_186 (by decide) ?_
                refine b_icmp_ne C 237 dX10_value_188 (by decide) hf (fun hf => ?_) (fun hf => ?_)
                · refine b_iload C dX10_value_237 0 rfl ?_
                  refine b_bipush C (v := 41) dX10_value_239 (by decide) ?_
                  refine b_icmp_ne C 297 dX10_value_241 (by decide) hf (fun hf => ?_) (fun hf => ?_)
                  · refine b_sub [1, 2, 3, 4, 5, 6, 7, 8] rfl ?_
                    exact w_X10_value_297 C hR (f_X10_value_25 n) ih _ _ _ _ _ _ _ _ hf
                  · refine b_aload_n C dX10_value_244 rfl 1 rfl ?_
                    refine b_getR C hiX10_value_10 10 37 (54 + 72) (by decide) (by decide) rfl (by decide) kX10_value_102 rfl rfl dX10_value_245 ?_
                    refine b_iload_n C dX10_value_248 rfl 4 rfl ?_
                    refine b_iald C 72 (by decide) rfl dX10_value_249 hf (fun hf => ?_)
                    refine b_aload_n C dX10_value_250 rfl 1 rfl ?_
                    refine b_getR C hiX10_value_10 10 38 (54 + 73) (by decide) (by decide) rfl (by decide) kX10_value_105 rfl rfl dX10_value_251 ?_
                    refine b_iload_n C dX10_value_254 rfl 4 rfl ?_
                    refine b_iald C 73 (by decide) rfl dX10_value_255 hf (fun hf => ?_)
                    refine b_icmp_le C 268 dX10_value_256 (by decide) hf (fun hf => ?_) (fun hf => ?_)
                    · refine b_aload_n C dX10_value_268 rfl 1 rfl ?_
                      refine b_getR C hiX10_value_10 10 38 (54 + 73) (by decide) (by decide) rfl (by decide) kX10_value_105 rfl rfl dX10_value_269 ?_
                      refine b_iload_n C dX10_value_272 rfl 4 rfl ?_
                      refine b_iald C 73 (by decide) rfl dX10_value_273 hf (fun hf => ?_)
                      refine b_sub [1, 2, 3, 4, 5, 6, 7, 8] rfl ?_
                      exact w_X10_value_274 C hR (f_X10_value_25 n) ih _ _ _ _ _ _ _ _ _ hf
                    · refine b_aload_n C dX10_value_259 rfl 1 rfl ?_
                      refine b_getR C hiX10_value_10 10 37 (54 + 72) (by decide) (by decide) rfl (by decide) kX10_value_102 rfl rfl dX10_value_260 ?_
                      refine b_iload_n C dX10_value_263 rfl 4 rfl ?_
                      refine b_iald C 72 (by decide) rfl dX10_value_264 hf (fun hf => ?_)
                      refine b_goto C 274 dX10_value_265 (by decide) ?_
                      refine b_sub [1, 2, 3, 4, 5, 6, 7, 8] rfl ?_
                      exact w_X10_value_274 C hR (f_X10_value_25 n) ih _ _ _ _ _ _ _ _ _ hf
                · refine b_aload_n C dX10_value_191 rfl 1 rfl ?_
                  refine b_getR C hiX10_value_10 10 38 (54 + 73) (by decide) (by decide) rfl (by decide) kX10_value_105 rfl rfl dX10_value_192 ?_
                  refine b_iload_n C dX10_value_195 rfl 4 rfl ?_
                  refine b_aload_n C dX10_value_196 rfl 1 rfl ?_
                  refine b_getR C hiX10_value_10 10 37 (54 + 72) (by decide) (by decide) rfl (by decide) kX10_value_102 rfl rfl dX10_value_197 ?_
                  refine b_iload_n C dX10_value_200 rfl 4 rfl ?_
                  refine b_iald C 72 (by decide) rfl dX10_value_201 hf (fun hf => ?_)
                  refine b_aload_n C dX10_value_202 rfl 1 rfl ?_
                  refine b_getR C hiX10_value_10 10 38 (54 + 73) (by decide) (by decide) rfl (by decide) kX10_value_105 rfl rfl dX10_value_203 ?_
                  refine b_iload_n C dX10_value_206 rfl 4 rfl ?_
                  refine b_iald C 73 (by decide) rfl dX10_value_207 hf (fun hf => ?_)
                  refine b_icmp_le C 220 dX10_value_208 (by decide) hf (fun hf => ?_) (fun hf => ?_)
                  · refine b_aload_n C dX10_value_220 rfl 1 rfl ?_
                    refine b_getR C hiX10_value_10 10 38 (54 + 73) (by decide) (by decide) rfl (by decide) kX10_value_105 rfl rfl dX10_value_221 ?_
                    refine b_iload_n C dX10_value_224 rfl 4 rfl ?_
                    refine b_iald C 73 (by decide) rfl dX10_value_225 hf (fun hf => ?_)
                    refine b_sub [1, 2, 3, 4, 5, 6, 7, 8] rfl ?_
                    exact w_X10_value_226 C hR (f_X10_value_25 n) ih _ _ _ _ _ _ _ _ _ _ hf
                  · refine b_aload_n C dX10_value_211 rfl 1 rfl ?_
                    refine b_getR C hiX10_value_10 10 37 (54 + 72) (by decide) (by decide) rfl (by decide) kX10_value_102 rfl rfl dX10_value_212 ?_
                    refine b_iload_n C dX10_value_215 rfl 4 rfl ?_
                    refine b_iald C 72 (by decide) rfl dX10_value_216 hf (fun hf => ?_)
                    refine b_goto C 226 dX10_value_217 (by decide) ?_
                    refine b_sub [1, 2, 3, 4, 5, 6, 7, 8] rfl ?_
                    exact w_X10_value_226 C hR (f_X10_value_25 n) ih _ _ _ _ _ _ _ _ _ _ hf
              · refine b_aload_n C dX10_value_156 rfl 1 rfl ?_
                refine b_getR C hiX10_value_10 10 39 (54 + 74) (by decide) (by decide) rfl (by decide) kX10_value_108 rfl rfl dX10_value_157 ?_
                refine b_iload_n C dX10_value_160 rfl 4 rfl ?_
                refine b_iload C dX10_value_161 5 rfl ?_
                refine b_iast C 74 (by decide) rfl dX10_value_163 hf (fun hf => ?_)
                refine b_nw hf (fun τ9 hf => ?_)
                refine b_iinc (v := (v3) + (1)) (lv' := [(3, .int ((v3) + (1))), (8, .int (y4)), (0, .ref (ad X (10))), (1, .int (v1)), (2, .int (v2)), (4, .int (v4)), (5, .int (v5)), (6, .int (v6)), (7, .int (v7))]) C dX10_value_164 4 rfl rfl (by decide) rfl ?_
                refine b_aload_n C dX10_value_167 rfl 2 rfl ?_
                refine b_getR C hiX10_value_10 10 37 (54 + 72) (by decide) (by decide) rfl (by decide) kX10_value_102 rfl rfl dX10_value_168 ?_
                refine b_iload_n C dX10_value_171 rfl 0 rfl ?_
                refine b_iconst C (v := 0) dX10_value_172 (by decide) ?_
                refine b_iast C 72 (by decide) rfl dX10_value_173 hf (fun hf => ?_)
                refine b_nw hf (fun τ10 hf => ?_)
                refine b_aload_n C dX10_value_174 rfl 2 rfl ?_
                refine b_getR C hiX10_value_10 10 38 (54 + 73) (by decide) (by decide) rfl (by decide) kX10_value_105 rfl rfl dX10_value_175 ?_
                refine b_iload_n C dX10_value_178 rfl 0 rfl ?_
                refine b_iconst C (v := 0) dX10_value_179 (by decide) ?_
                refine b_iast C 73 (by decide) rfl dX10_value_180 hf (fun hf => ?_)
                refine b_nw hf (fun τ11 hf => ?_)
                refine b_goto C 297 dX10_value_181 (by decide) ?_
                refine b_sub [2, 3, 4, 0, 5, 6, 7, 8] rfl ?_
                exact w_X10_value_297 C hR (f_X10_value_25 n) ih _ _ _ _ _ _ _ _ hf
            · refine b_aload_n C dX10_value_125 rfl 1 rfl ?_
              refine b_getR C hiX10_value_10 10 37 (54 + 72) (by decide) (by decide) rfl (by decide) kX10_value_102 rfl rfl dX10_value_126 ?_
              refine b_iload_n C dX10_value_129 rfl 4 rfl ?_
              refine b_dup2 C dX10_value_130 rfl rfl ?_
              refine b_iald C 72 (by decide) rfl dX10_value_131 hf (fun hf => ?_)
              refine b_iload C dX10_value_132 5 rfl ?_
              refine b_iload_n C dX10_value_134 rfl 3 rfl ?_
              refine b_iload C dX10_value_135 0 rfl ?_
              refine b_bipush C (v := 97) dX10_value_137 (by decide) ?_
              refine b_isub C dX10_value_139 ?_
              refine b_ishr C dX10_value_140 ?_
              refine b_iconst C (v := 1) dX10_value_141 (by decide) ?_
              refine b_iand C dX10_value_142 ?_
              refine b_imul C dX10_value_143 ?_
              refine b_iadd C dX10_value_144 ?_
              refine b_iast C 72 (by decide) rfl dX10_value_145 hf (fun hf => ?_)
              refine b_nw hf (fun τ12 hf => ?_)
              refine b_goto C 297 dX10_value_146 (by decide) ?_
              refine b_sub [1, 2, 3, 4, 5, 6, 7, 8] rfl ?_
              exact w_X10_value_297 C hR (f_X10_value_25 n) ih _ _ _ _ _ _ _ _ hf
          · refine b_iload C dX10_value_83 0 rfl ?_
            refine b_bipush C (v := 48) dX10_value_85 (by decide) ?_
            refine b_isub C dX10_value_87 ?_
            refine b_nv hf (fun y13 hf => ?_)
            refine b_istore (lv' := [(4, .int (y13)), (8, .int (y4)), (0, .ref (ad X (10))), (1, .int (v1)), (2, .int (v2)), (3, .int (v3)), (5, .int (v5)), (6, .int (v6)), (7, .int (v7))]) C dX10_value_88 (by decide) rfl ?_
            refine b_iload C dX10_value_90 7 rfl ?_
            refine b_if_eq C 106 dX10_value_92 (by decide) hf (fun hf => ?_) (fun hf => ?_)
            · refine b_iload C dX10_value_106 6 rfl ?_
              refine b_sub [2, 3, 4, 5, 0, 7, 8] rfl ?_
              exact w_X10_value_108 C hR (f_X10_value_25 n) ih _ _ _ _ _ _ _ _ hf
            · refine b_bipush C (v := 10) dX10_value_95 (by decide) ?_
              refine b_iload C dX10_value_97 6 rfl ?_
              refine b_imul C dX10_value_99 ?_
              refine b_iload C dX10_value_100 0 rfl ?_
              refine b_iadd C dX10_value_102 ?_
              refine b_goto C 108 dX10_value_103 (by decide) ?_
              refine b_sub [2, 3, 4, 5, 0, 7, 8] rfl ?_
              exact w_X10_value_108 C hR (f_X10_value_25 n) ih _ _ _ _ _ _ _ _ hf
        · refine b_iconst C (v := 1) dX10_value_62 (by decide) ?_
          refine b_istore (lv' := [(6, .int (1)), (8, .int (y4)), (0, .ref (ad X (10))), (1, .int (v1)), (2, .int (v2)), (3, .int (v3)), (4, .int (v4)), (5, .int (v5)), (7, .int (v7))]) C dX10_value_63 (by decide) rfl ?_
          refine b_iconst C (v := 0) dX10_value_65 (by decide) ?_
          refine b_istore (lv' := [(5, .int (0)), (6, .int (1)), (8, .int (y4)), (0, .ref (ad X (10))), (1, .int (v1)), (2, .int (v2)), (3, .int (v3)), (4, .int (v4)), (7, .int (v7))]) C dX10_value_66 (by decide) rfl ?_
          refine b_goto C 297 dX10_value_68 (by decide) ?_
          refine b_sub [3, 4, 5, 6, 7, 0, 1, 8] rfl ?_
          exact w_X10_value_297 C hR (f_X10_value_25 n) ih _ _ _ _ _ _ _ _ hf
set_option maxHeartbeats 4000000 in
set_option maxRecDepth 100000 in
theorem c_X10_value (x1 x2 : Int32) (l : Launch) : Cti l yX10_value wsX10_value 1 22 (fun G => [.ref (G.1 (10)), .int (x1), .int (x2)]) (f_X10_value x1 x2) := by
  refine mk_i (cc := cX10_value) (nL := 10) (own := RX10) (by decide) rfl rfl (fun _ => Nat.le_of_ble_eq_true rfl) (fun X o σ rv C hR hf => ?_)
  show Bk X 10 o 0 0 0 [(0, .ref (ad X (10))), (1, .int (x1)), (2, .int (x2))] [] σ
  unfold f_X10_value at hf
  refine b_iconst C (v := 0) dX10_value_0 (by decide) ?_
  refine b_istore_n (lv' := [(3, .int (0)), (0, .ref (ad X (10))), (1, .int (x1)), (2, .int (x2))]) C dX10_value_1 rfl (by decide) rfl ?_
  refine b_iconst C (v := 1) dX10_value_2 (by decide) ?_
  refine b_istore (lv' := [(4, .int (1)), (3, .int (0)), (0, .ref (ad X (10))), (1, .int (x1)), (2, .int (x2))]) C dX10_value_3 (by decide) rfl ?_
  refine b_bipush C (v := 99) dX10_value_5 (by decide) ?_
  refine b_istore (lv' := [(5, .int (99)), (4, .int (1)), (3, .int (0)), (0, .ref (ad X (10))), (1, .int (x1)), (2, .int (x2))]) C dX10_value_7 (by decide) rfl ?_
  refine b_iconst C (v := 0) dX10_value_9 (by decide) ?_
  refine b_istore (lv' := [(6, .int (0)), (5, .int (99)), (4, .int (1)), (3, .int (0)), (0, .ref (ad X (10))), (1, .int (x1)), (2, .int (x2))]) C dX10_value_10 (by decide) rfl ?_
  refine b_aload_n C dX10_value_12 rfl 4 rfl ?_
  refine b_getR C hiX10_value_10 10 37 (54 + 72) (by decide) (by decide) rfl (by decide) kX10_value_102 rfl rfl dX10_value_13 ?_
  refine b_iconst C (v := 0) dX10_value_16 (by decide) ?_
  refine b_iconst C (v := 0) dX10_value_17 (by decide) ?_
  refine b_iast C 72 (by decide) rfl dX10_value_18 hf (fun hf => ?_)
  refine b_nw hf (fun τ14 hf => ?_)
  refine b_bipush C (v := 90) dX10_value_19 (by decide) ?_
  refine b_iload_n C dX10_value_21 rfl 5 rfl ?_
  refine b_imul C dX10_value_22 ?_
  refine b_nv hf (fun y15 hf => ?_)
  refine b_istore (lv' := [(7, .int (y15)), (6, .int (0)), (5, .int (99)), (4, .int (1)), (3, .int (0)), (0, .ref (ad X (10))), (1, .int (x1)), (2, .int (x2))]) C dX10_value_23 (by decide) rfl ?_
  refine b_sub [5, 6, 7, 4, 3, 2, 1, 0] rfl ?_
  exact w_X10_value_25 C hR FUEL _ _ _ _ _ _ _ _ hf
theorem hiX10_held_10 : ∀ w ∈ wsX100, w ∈ wsX10_held := by decide +kernel
theorem kX10_held_39 : Cond.fieldLink RX10 39 "ScriptRoomModel" "versions" "[I" ∈ wsX10_held := by decide +kernel
set_option maxHeartbeats 4000000 in
set_option maxRecDepth 100000 in
theorem c_X10_held (x1 : Int32) (l : Launch) : Cti l yX10_held wsX10_held 0 0 (fun G => [.ref (G.1 (10)), .int (x1)]) (f_X10_held x1) := by
  refine mk_i (cc := cX10_held) (nL := 2) (own := RX10) (by decide) rfl rfl (fun _ => Nat.le_of_ble_eq_true rfl) (fun X o σ rv C hR hf => ?_)
  show Bk X 2 o 0 0 0 [(0, .ref (ad X (10))), (1, .int (x1))] [] σ
  unfold f_X10_held at hf
  refine b_bipush C (v := 6) dX10_held_0 (by decide) ?_
  refine b_iload_n C dX10_held_2 rfl 1 rfl ?_
  refine b_imul C dX10_held_3 ?_
  refine b_aload_n C dX10_held_4 rfl 0 rfl ?_
  refine b_getR C hiX10_held_10 10 13 (54 + 51) (by decide) (by decide) rfl (by decide) kX10_held_39 rfl rfl dX10_held_5 ?_
  refine b_iload_n C dX10_held_8 rfl 1 rfl ?_
  refine b_iald C 51 (by decide) rfl dX10_held_9 hf (fun hf => ?_)
  refine b_iadd C dX10_held_10 ?_
  refine b_iconst C (v := 1) dX10_held_11 (by decide) ?_
  refine b_isub C dX10_held_12 ?_
  exact hR _ _ _ _ dX10_held_13 hf
theorem hiX10_twice_10 : ∀ w ∈ wsX100, w ∈ wsX10_twice := by decide +kernel
theorem kX10_twice_48 : Cond.fieldLink RX10 48 "ScriptRoomModel" "twice" "[Z" ∈ wsX10_twice := by decide +kernel
set_option maxHeartbeats 4000000 in
set_option maxRecDepth 100000 in
theorem c_X10_twice (x1 x2 : Int32) (l : Launch) : Cti l yX10_twice wsX10_twice 2 42 (fun G => [.ref (G.1 (10)), .int (x1), .int (x2)]) (f_X10_twice x1 x2) := by
  refine mk_z (cc := cX10_twice) (nL := 4) (own := RX10) (by decide) rfl rfl (fun _ => Nat.le_of_ble_eq_true rfl) (fun X o σ rv C hR hf => ?_)
  show Bk X 4 o 0 0 0 [(0, .ref (ad X (10))), (1, .int (x1)), (2, .int (x2))] [] σ
  unfold f_X10_twice at hf
  refine b_aload_n C dX10_twice_0 rfl 0 rfl ?_
  refine b_iload_n C dX10_twice_1 rfl 1 rfl ?_
  obtain ⟨y1, τ2, hqy1, hf⟩ := bd_inv hf
  refine b_callSi (n := 1) C (fun _ => [.int (x1)]) (c_X10_isQuestion (x1)) hqy1 gX10_twice_X10_isQuestion rfl (by decide +kernel) rfl (by decide) (by decide) (Nat.le_of_ble_eq_true rfl) dX10_twice_2 ?_
  obtain ⟨y3, τ4, hqy3, hf⟩ := bd_inv hf
  refine b_callVi (n := 1) C (10) 10 (isObj_s (by decide) (by decide)) rfl (fun _ => [.int (y1)]) (c_X10_asked (y1)) hqy3 gX10_twice_X10_asked rfl (by decide +kernel) rfl (by decide) (by decide) (Nat.le_of_ble_eq_true rfl) dX10_twice_5 ?_
  refine b_if_ne C 13 dX10_twice_8 (by decide) hf (fun hf => ?_) (fun hf => ?_)
  · refine b_aload_n C dX10_twice_13 rfl 0 rfl ?_
    refine b_getR C hiX10_twice_10 10 16 (54 + 54) (by decide) (by decide) rfl (by decide) kX10_twice_48 rfl rfl dX10_twice_14 ?_
    refine b_iload_n C dX10_twice_17 rfl 1 rfl ?_
    refine b_zald C 54 (by decide) rfl dX10_twice_18 hf (fun hf => ?_)
    refine b_nv hf (fun y5 hf => ?_)
    refine b_istore_n (lv' := [(3, .int (y5)), (0, .ref (ad X (10))), (1, .int (x1)), (2, .int (x2))]) C dX10_twice_19 rfl (by decide) rfl ?_
    refine b_aload_n C dX10_twice_20 rfl 1 rfl ?_
    refine b_getR C hiX10_twice_10 10 16 (54 + 54) (by decide) (by decide) rfl (by decide) kX10_twice_48 rfl rfl dX10_twice_21 ?_
    refine b_iload_n C dX10_twice_24 rfl 2 rfl ?_
    refine b_iload_n C dX10_twice_25 rfl 3 rfl ?_
    refine b_zast C 54 (by decide) rfl dX10_twice_26 hf (fun hf => ?_)
    refine b_nw hf (fun τ6 hf => ?_)
    refine b_iload_n C dX10_twice_27 rfl 0 rfl ?_
    exact hR _ _ _ _ dX10_twice_28 hf
  · refine b_iconst C (v := 0) dX10_twice_11 (by decide) ?_
    exact hR _ _ _ _ dX10_twice_12 hf
theorem hiX10_tolerance_10 : ∀ w ∈ wsX100, w ∈ wsX10_tolerance := by decide +kernel
theorem kX10_tolerance_13 : Cond.fieldLink RX10 13 "ScriptRoomModel" "tolerance" "I" ∈ wsX10_tolerance := by decide +kernel
set_option maxHeartbeats 4000000 in
set_option maxRecDepth 100000 in
theorem c_X10_tolerance (x1 : Int32) (l : Launch) : Cti l yX10_tolerance wsX10_tolerance 1 22 (fun G => [.ref (G.1 (10)), .int (x1)]) (f_X10_tolerance x1) := by
  refine mk_i (cc := cX10_tolerance) (nL := 3) (own := RX10) (by decide) rfl rfl (fun _ => Nat.le_of_ble_eq_true rfl) (fun X o σ rv C hR hf => ?_)
  show Bk X 3 o 0 0 0 [(0, .ref (ad X (10))), (1, .int (x1))] [] σ
  unfold f_X10_tolerance at hf
  refine b_aload_n C dX10_tolerance_0 rfl 0 rfl ?_
  refine b_iload_n C dX10_tolerance_1 rfl 1 rfl ?_
  refine b_iconst C (v := 0) dX10_tolerance_2 (by decide) ?_
  refine b_bipush C (v := 9) dX10_tolerance_3 (by decide) ?_
  obtain ⟨y1, τ2, hqy1, hf⟩ := bd_inv hf
  refine b_callSi (n := 3) C (fun _ => [.int (x1), .int (0), .int (9)]) (c_X10_in (x1) (0) (9)) hqy1 gX10_tolerance_X10_in rfl (by decide +kernel) rfl (by decide) (by decide) (Nat.le_of_ble_eq_true rfl) dX10_tolerance_5 ?_
  obtain ⟨y3, τ4, hqy3, hf⟩ := bd_inv hf
  refine b_callVi (n := 1) C (10) 10 (isObj_s (by decide) (by decide)) rfl (fun _ => [.int (y1)]) (c_X10_asked (y1)) hqy3 gX10_tolerance_X10_asked rfl (by decide +kernel) rfl (by decide) (by decide) (Nat.le_of_ble_eq_true rfl) dX10_tolerance_8 ?_
  refine b_if_ne C 16 dX10_tolerance_11 (by decide) hf (fun hf => ?_) (fun hf => ?_)
  · refine b_aload_n C dX10_tolerance_16 rfl 0 rfl ?_
    refine b_getS C hiX10_tolerance_10 10 3 24 (by decide) (by decide) rfl (by decide) kX10_tolerance_13 rfl rfl dX10_tolerance_17 ?_
    refine b_nv hf (fun y5 hf => ?_)
    refine b_istore_n (lv' := [(2, .int (y5)), (0, .ref (ad X (10))), (1, .int (x1))]) C dX10_tolerance_20 rfl (by decide) rfl ?_
    refine b_aload_n C dX10_tolerance_21 rfl 1 rfl ?_
    refine b_iload_n C dX10_tolerance_22 rfl 2 rfl ?_
    refine b_putS C (ty := .int) hiX10_tolerance_10 tyX10 tyX10_ok nmX10 10 3 24 (by decide) (by decide) rfl (by decide) kX10_tolerance_13 rfl rfl (by decide +kernel) rfl rfl rfl dX10_tolerance_23 ?_
    refine b_nw hf (fun τ6 hf => ?_)
    refine b_iload_n C dX10_tolerance_26 rfl 0 rfl ?_
    exact hR _ _ _ _ dX10_tolerance_27 hf
  · refine b_iconst C (v := 0) dX10_tolerance_14 (by decide) ?_
    exact hR _ _ _ _ dX10_tolerance_15 hf
theorem hiX10_reader_10 : ∀ w ∈ wsX100, w ∈ wsX10_reader := by decide +kernel
theorem kX10_reader_51 : Cond.fieldLink RX10 51 "ScriptRoomModel" "from" "[I" ∈ wsX10_reader := by decide +kernel
theorem kX10_reader_124 : Cond.fieldLink RX10 124 "ScriptRoomModel" "readers" "I" ∈ wsX10_reader := by decide +kernel
theorem kX10_reader_54 : Cond.fieldLink RX10 54 "ScriptRoomModel" "questions" "[I" ∈ wsX10_reader := by decide +kernel
theorem kX10_reader_57 : Cond.fieldLink RX10 57 "ScriptRoomModel" "senior" "[Z" ∈ wsX10_reader := by decide +kernel
theorem kX10_reader_63 : Cond.fieldLink RX10 63 "ScriptRoomModel" "hand" "[I" ∈ wsX10_reader := by decide +kernel
set_option maxHeartbeats 4000000 in
set_option maxRecDepth 100000 in
theorem w_X10_reader_39 {X : Ctx} {o : Int64} {rv : Int32 × Mem} (C : Cx X cX10_reader RX10 wsX10_reader 4 1 22) (hR : Rt X cX10_reader 4 o rv) : ∀ (v1 v2 v3 s0 s1 : Int32) (σ : Mem), some rv = f_X10_reader_39 v1 v2 v3 s0 s1 σ → Bk X 4 o 0 0 39 [(0, .ref (ad X (10))), (1, .int (v1)), (2, .int (v2)), (3, .int (v3))] [.int (s0), .int (s1), .ref (ad X (10))] σ := by
  intro v1 v2 v3 s0 s1 σ hf
  unfold f_X10_reader_39 at hf
  obtain ⟨y1, τ2, hqy1, hf⟩ := bd_inv hf
  refine b_callVi (n := 2) C (10) 10 (isObj_s (by decide) (by decide)) rfl (fun _ => [.int (s1), .int (s0)]) (c_X10_asked_ (s1) (s0)) hqy1 gX10_reader_X10_asked_ rfl (by decide +kernel) rfl (by decide) (by decide) (Nat.le_of_ble_eq_true rfl) dX10_reader_39 ?_
  refine b_if_ne C 47 dX10_reader_42 (by decide) hf (fun hf => ?_) (fun hf => ?_)
  · refine b_aload_n C dX10_reader_47 rfl 0 rfl ?_
    refine b_getR C hiX10_reader_10 10 18 (54 + 55) (by decide) (by decide) rfl (by decide) kX10_reader_51 rfl rfl dX10_reader_48 ?_
    refine b_aload_n C dX10_reader_51 rfl 0 rfl ?_
    refine b_getS C hiX10_reader_10 10 17 27 (by decide) (by decide) rfl (by decide) kX10_reader_124 rfl rfl dX10_reader_52 ?_
    refine b_iload_n C dX10_reader_55 rfl 1 rfl ?_
    refine b_iast C 55 (by decide) rfl dX10_reader_56 hf (fun hf => ?_)
    refine b_nw hf (fun τ3 hf => ?_)
    refine b_aload_n C dX10_reader_57 rfl 0 rfl ?_
    refine b_getR C hiX10_reader_10 10 19 (54 + 56) (by decide) (by decide) rfl (by decide) kX10_reader_54 rfl rfl dX10_reader_58 ?_
    refine b_aload_n C dX10_reader_61 rfl 0 rfl ?_
    refine b_getS C hiX10_reader_10 10 17 27 (by decide) (by decide) rfl (by decide) kX10_reader_124 rfl rfl dX10_reader_62 ?_
    refine b_iload_n C dX10_reader_65 rfl 2 rfl ?_
    refine b_iast C 56 (by decide) rfl dX10_reader_66 hf (fun hf => ?_)
    refine b_nw hf (fun τ4 hf => ?_)
    refine b_aload_n C dX10_reader_67 rfl 0 rfl ?_
    refine b_getR C hiX10_reader_10 10 20 (54 + 57) (by decide) (by decide) rfl (by decide) kX10_reader_57 rfl rfl dX10_reader_68 ?_
    refine b_aload_n C dX10_reader_71 rfl 0 rfl ?_
    refine b_getS C hiX10_reader_10 10 17 27 (by decide) (by decide) rfl (by decide) kX10_reader_124 rfl rfl dX10_reader_72 ?_
    refine b_iload_n C dX10_reader_75 rfl 3 rfl ?_
    refine b_zast C 57 (by decide) rfl dX10_reader_76 hf (fun hf => ?_)
    refine b_nw hf (fun τ5 hf => ?_)
    refine b_aload_n C dX10_reader_77 rfl 0 rfl ?_
    refine b_getR C hiX10_reader_10 10 22 (54 + 59) (by decide) (by decide) rfl (by decide) kX10_reader_63 rfl rfl dX10_reader_78 ?_
    refine b_aload_n C dX10_reader_81 rfl 0 rfl ?_
    refine b_getS C hiX10_reader_10 10 17 27 (by decide) (by decide) rfl (by decide) kX10_reader_124 rfl rfl dX10_reader_82 ?_
    refine b_iconst C (v := (-1)) dX10_reader_85 (by decide) ?_
    refine b_iast C 59 (by decide) rfl dX10_reader_86 hf (fun hf => ?_)
    refine b_nw hf (fun τ6 hf => ?_)
    refine b_aload_n C dX10_reader_87 rfl 0 rfl ?_
    refine b_dup C dX10_reader_88 rfl ?_
    refine b_getS C hiX10_reader_10 10 17 27 (by decide) (by decide) rfl (by decide) kX10_reader_124 rfl rfl dX10_reader_89 ?_
    refine b_iconst C (v := 1) dX10_reader_92 (by decide) ?_
    refine b_iadd C dX10_reader_93 ?_
    refine b_putS C (ty := .int) hiX10_reader_10 tyX10 tyX10_ok nmX10 10 17 27 (by decide) (by decide) rfl (by decide) kX10_reader_124 rfl rfl (by decide +kernel) rfl rfl rfl dX10_reader_94 ?_
    refine b_nw hf (fun τ7 hf => ?_)
    refine b_aload_n C dX10_reader_97 rfl 0 rfl ?_
    refine b_getS C hiX10_reader_10 10 17 27 (by decide) (by decide) rfl (by decide) kX10_reader_124 rfl rfl dX10_reader_98 ?_
    refine b_iconst C (v := 1) dX10_reader_101 (by decide) ?_
    refine b_isub C dX10_reader_102 ?_
    exact hR _ _ _ _ dX10_reader_103 hf
  · refine b_iconst C (v := 0) dX10_reader_45 (by decide) ?_
    exact hR _ _ _ _ dX10_reader_46 hf
set_option maxHeartbeats 4000000 in
set_option maxRecDepth 100000 in
theorem w_X10_reader_25 {X : Ctx} {o : Int64} {rv : Int32 × Mem} (C : Cx X cX10_reader RX10 wsX10_reader 4 1 22) (hR : Rt X cX10_reader 4 o rv) : ∀ (v1 v2 v3 s0 : Int32) (σ : Mem), some rv = f_X10_reader_25 v1 v2 v3 s0 σ → Bk X 4 o 0 0 25 [(0, .ref (ad X (10))), (1, .int (v1)), (2, .int (v2)), (3, .int (v3))] [.int (s0), .ref (ad X (10))] σ := by
  intro v1 v2 v3 s0 σ hf
  unfold f_X10_reader_25 at hf
  refine b_aload_n C dX10_reader_25 rfl 0 rfl ?_
  refine b_getS C hiX10_reader_10 10 17 27 (by decide) (by decide) rfl (by decide) kX10_reader_124 rfl rfl dX10_reader_26 ?_
  refine b_bipush C (v := 6) dX10_reader_29 (by decide) ?_
  refine b_icmp_ge C 38 dX10_reader_31 (by decide) hf (fun hf => ?_) (fun hf => ?_)
  · refine b_iconst C (v := 0) dX10_reader_38 (by decide) ?_
    exact w_X10_reader_39 C hR _ _ _ _ _ _ hf
  · refine b_iconst C (v := 1) dX10_reader_34 (by decide) ?_
    refine b_goto C 39 dX10_reader_35 (by decide) ?_
    exact w_X10_reader_39 C hR _ _ _ _ _ _ hf
set_option maxHeartbeats 4000000 in
set_option maxRecDepth 100000 in
theorem w_X10_reader_24 {X : Ctx} {o : Int64} {rv : Int32 × Mem} (C : Cx X cX10_reader RX10 wsX10_reader 4 1 22) (hR : Rt X cX10_reader 4 o rv) : ∀ (v1 v2 v3 : Int32) (σ : Mem), some rv = f_X10_reader_24 v1 v2 v3 σ → Bk X 4 o 0 0 24 [(0, .ref (ad X (10))), (1, .int (v1)), (2, .int (v2)), (3, .int (v3))] [.ref (ad X (10))] σ := by
  intro v1 v2 v3 σ hf
  unfold f_X10_reader_24 at hf
  refine b_iconst C (v := 0) dX10_reader_24 (by decide) ?_
  exact w_X10_reader_25 C hR _ _ _ _ _ hf
set_option maxHeartbeats 4000000 in
set_option maxRecDepth 100000 in
theorem c_X10_reader (x1 x2 x3 : Int32) (l : Launch) : Cti l yX10_reader wsX10_reader 1 22 (fun G => [.ref (G.1 (10)), .int (x1), .int (x2), .int (x3)]) (f_X10_reader x1 x2 x3) := by
  refine mk_i (cc := cX10_reader) (nL := 4) (own := RX10) (by decide) rfl rfl (fun _ => Nat.le_of_ble_eq_true rfl) (fun X o σ rv C hR hf => ?_)
  show Bk X 4 o 0 0 0 [(0, .ref (ad X (10))), (1, .int (x1)), (2, .int (x2)), (3, .int (x3))] [] σ
  unfold f_X10_reader at hf
  refine b_aload_n C dX10_reader_0 rfl 0 rfl ?_
  refine b_iload_n C dX10_reader_1 rfl 1 rfl ?_
  refine b_iconst C (v := (-1)) dX10_reader_2 (by decide) ?_
  refine b_iconst C (v := 4) dX10_reader_3 (by decide) ?_
  obtain ⟨y8, τ9, hqy8, hf⟩ := bd_inv hf
  refine b_callSi (n := 3) C (fun _ => [.int (x1), .int ((-1)), .int (4)]) (c_X10_in (x1) ((-1)) (4)) hqy8 gX10_reader_X10_in rfl (by decide +kernel) rfl (by decide) (by decide) (Nat.le_of_ble_eq_true rfl) dX10_reader_4 ?_
  refine b_if_eq C 24 dX10_reader_7 (by decide) hf (fun hf => ?_) (fun hf => ?_)
  · exact w_X10_reader_24 C hR _ _ _ _ hf
  · refine b_iload_n C dX10_reader_10 rfl 2 rfl ?_
    refine b_iconst C (v := 1) dX10_reader_11 (by decide) ?_
    refine b_bipush C (v := 15) dX10_reader_12 (by decide) ?_
    obtain ⟨y10, τ11, hqy10, hf⟩ := bd_inv hf
    refine b_callSi (n := 3) C (fun _ => [.int (x2), .int (1), .int (15)]) (c_X10_in (x2) (1) (15)) hqy10 gX10_reader_X10_in rfl (by decide +kernel) rfl (by decide) (by decide) (Nat.le_of_ble_eq_true rfl) dX10_reader_14 ?_
    refine b_if_eq C 24 dX10_reader_17 (by decide) hf (fun hf => ?_) (fun hf => ?_)
    · exact w_X10_reader_24 C hR _ _ _ _ hf
    · refine b_iconst C (v := 1) dX10_reader_20 (by decide) ?_
      refine b_goto C 25 dX10_reader_21 (by decide) ?_
      exact w_X10_reader_25 C hR _ _ _ _ _ hf
theorem hiX10_seed_10 : ∀ w ∈ wsX100, w ∈ wsX10_seed := by decide +kernel
theorem kX10_seed_78 : Cond.fieldLink RX10 78 "ScriptRoomModel" "seedOf" "[I" ∈ wsX10_seed := by decide +kernel
theorem kX10_seed_148 : Cond.fieldLink RX10 148 "ScriptRoomModel" "seeds" "I" ∈ wsX10_seed := by decide +kernel
theorem kX10_seed_81 : Cond.fieldLink RX10 81 "ScriptRoomModel" "known" "[I" ∈ wsX10_seed := by decide +kernel
theorem kX10_seed_39 : Cond.fieldLink RX10 39 "ScriptRoomModel" "versions" "[I" ∈ wsX10_seed := by decide +kernel
set_option maxHeartbeats 4000000 in
set_option maxRecDepth 100000 in
theorem w_X10_seed_42 {X : Ctx} {o : Int64} {rv : Int32 × Mem} (C : Cx X cX10_seed RX10 wsX10_seed 4 2 42) (hR : Rt X cX10_seed 4 o rv) : ∀ (v1 v2 s0 s1 s2 : Int32) (σ : Mem), some rv = f_X10_seed_42 v1 v2 s0 s1 s2 σ → Bk X 4 o 0 0 42 [(0, .ref (ad X (10))), (1, .int (v1)), (2, .int (v2))] [.int (s0), .int (s1), .int (s2), .ref (ad X (10))] σ := by
  intro v1 v2 s0 s1 s2 σ hf
  unfold f_X10_seed_42 at hf
  obtain ⟨y1, τ2, hqy1, hf⟩ := bd_inv hf
  refine b_callVi (n := 3) C (10) 10 (isObj_s (by decide) (by decide)) rfl (fun _ => [.int (s2), .int (s1), .int (s0)]) (c_X10_asked__ (s2) (s1) (s0)) hqy1 gX10_seed_X10_asked__ rfl (by decide +kernel) rfl (by decide) (by decide) (Nat.le_of_ble_eq_true rfl) dX10_seed_42 ?_
  refine b_if_ne C 50 dX10_seed_45 (by decide) hf (fun hf => ?_) (fun hf => ?_)
  · refine b_aload_n C dX10_seed_50 rfl 0 rfl ?_
    refine b_getR C hiX10_seed_10 10 28 (54 + 64) (by decide) (by decide) rfl (by decide) kX10_seed_78 rfl rfl dX10_seed_51 ?_
    refine b_aload_n C dX10_seed_54 rfl 0 rfl ?_
    refine b_getS C hiX10_seed_10 10 27 28 (by decide) (by decide) rfl (by decide) kX10_seed_148 rfl rfl dX10_seed_55 ?_
    refine b_iload_n C dX10_seed_58 rfl 1 rfl ?_
    refine b_iast C 64 (by decide) rfl dX10_seed_59 hf (fun hf => ?_)
    refine b_nw hf (fun τ3 hf => ?_)
    refine b_aload_n C dX10_seed_60 rfl 0 rfl ?_
    refine b_getR C hiX10_seed_10 10 29 (54 + 65) (by decide) (by decide) rfl (by decide) kX10_seed_81 rfl rfl dX10_seed_61 ?_
    refine b_aload_n C dX10_seed_64 rfl 0 rfl ?_
    refine b_getS C hiX10_seed_10 10 27 28 (by decide) (by decide) rfl (by decide) kX10_seed_148 rfl rfl dX10_seed_65 ?_
    refine b_iload_n C dX10_seed_68 rfl 2 rfl ?_
    refine b_iast C 65 (by decide) rfl dX10_seed_69 hf (fun hf => ?_)
    refine b_nw hf (fun τ4 hf => ?_)
    refine b_aload_n C dX10_seed_70 rfl 0 rfl ?_
    refine b_dup C dX10_seed_71 rfl ?_
    refine b_getS C hiX10_seed_10 10 27 28 (by decide) (by decide) rfl (by decide) kX10_seed_148 rfl rfl dX10_seed_72 ?_
    refine b_iconst C (v := 1) dX10_seed_75 (by decide) ?_
    refine b_iadd C dX10_seed_76 ?_
    refine b_putS C (ty := .int) hiX10_seed_10 tyX10 tyX10_ok nmX10 10 27 28 (by decide) (by decide) rfl (by decide) kX10_seed_148 rfl rfl (by decide +kernel) rfl rfl rfl dX10_seed_77 ?_
    refine b_nw hf (fun τ5 hf => ?_)
    refine b_aload_n C dX10_seed_80 rfl 0 rfl ?_
    refine b_getS C hiX10_seed_10 10 27 28 (by decide) (by decide) rfl (by decide) kX10_seed_148 rfl rfl dX10_seed_81 ?_
    refine b_iconst C (v := 1) dX10_seed_84 (by decide) ?_
    refine b_isub C dX10_seed_85 ?_
    exact hR _ _ _ _ dX10_seed_86 hf
  · refine b_iconst C (v := 0) dX10_seed_48 (by decide) ?_
    exact hR _ _ _ _ dX10_seed_49 hf
set_option maxHeartbeats 4000000 in
set_option maxRecDepth 100000 in
theorem w_X10_seed_41 {X : Ctx} {o : Int64} {rv : Int32 × Mem} (C : Cx X cX10_seed RX10 wsX10_seed 4 2 42) (hR : Rt X cX10_seed 4 o rv) : ∀ (v1 v2 s0 s1 : Int32) (σ : Mem), some rv = f_X10_seed_41 v1 v2 s0 s1 σ → Bk X 4 o 0 0 41 [(0, .ref (ad X (10))), (1, .int (v1)), (2, .int (v2))] [.int (s0), .int (s1), .ref (ad X (10))] σ := by
  intro v1 v2 s0 s1 σ hf
  unfold f_X10_seed_41 at hf
  refine b_iconst C (v := 0) dX10_seed_41 (by decide) ?_
  exact w_X10_seed_42 C hR _ _ _ _ _ _ hf
set_option maxHeartbeats 4000000 in
set_option maxRecDepth 100000 in
theorem c_X10_seed (x1 x2 : Int32) (l : Launch) : Cti l yX10_seed wsX10_seed 2 42 (fun G => [.ref (G.1 (10)), .int (x1), .int (x2)]) (f_X10_seed x1 x2) := by
  refine mk_i (cc := cX10_seed) (nL := 4) (own := RX10) (by decide) rfl rfl (fun _ => Nat.le_of_ble_eq_true rfl) (fun X o σ rv C hR hf => ?_)
  show Bk X 4 o 0 0 0 [(0, .ref (ad X (10))), (1, .int (x1)), (2, .int (x2))] [] σ
  unfold f_X10_seed at hf
  refine b_iload_n C dX10_seed_0 rfl 1 rfl ?_
  obtain ⟨y6, τ7, hqy6, hf⟩ := bd_inv hf
  refine b_callSi (n := 1) C (fun _ => [.int (x1)]) (c_X10_isQuestion (x1)) hqy6 gX10_seed_X10_isQuestion rfl (by decide +kernel) rfl (by decide) (by decide) (Nat.le_of_ble_eq_true rfl) dX10_seed_1 ?_
  refine b_istore_n (lv' := [(3, .int (y6)), (0, .ref (ad X (10))), (1, .int (x1)), (2, .int (x2))]) C dX10_seed_4 rfl (by decide) rfl ?_
  refine b_aload_n C dX10_seed_5 rfl 1 rfl ?_
  refine b_iload_n C dX10_seed_6 rfl 0 rfl ?_
  refine b_iload_n C dX10_seed_7 rfl 3 rfl ?_
  refine b_iconst C (v := 0) dX10_seed_8 (by decide) ?_
  refine b_sipush C (v := 255) dX10_seed_9 (by decide) ?_
  obtain ⟨y8, τ9, hqy8, hf⟩ := bd_inv hf
  refine b_callSi (n := 3) C (fun _ => [.int (x2), .int (0), .int (255)]) (c_X10_in (x2) (0) (255)) hqy8 gX10_seed_X10_in rfl (by decide +kernel) rfl (by decide) (by decide) (Nat.le_of_ble_eq_true rfl) dX10_seed_12 ?_
  refine b_iload_n C dX10_seed_15 rfl 0 rfl ?_
  refine b_if_eq C 41 dX10_seed_16 (by decide) hf (fun hf => ?_) (fun hf => ?_)
  · refine b_sub [1, 2, 3] rfl ?_
    exact w_X10_seed_41 C hR _ _ _ _ _ hf
  · refine b_aload_n C dX10_seed_19 rfl 1 rfl ?_
    refine b_getS C hiX10_seed_10 10 27 28 (by decide) (by decide) rfl (by decide) kX10_seed_148 rfl rfl dX10_seed_20 ?_
    refine b_bipush C (v := 8) dX10_seed_23 (by decide) ?_
    refine b_icmp_ge C 41 dX10_seed_25 (by decide) hf (fun hf => ?_) (fun hf => ?_)
    · refine b_sub [1, 2, 3] rfl ?_
      exact w_X10_seed_41 C hR _ _ _ _ _ hf
    · refine b_aload_n C dX10_seed_28 rfl 1 rfl ?_
      refine b_getR C hiX10_seed_10 10 13 (54 + 51) (by decide) (by decide) rfl (by decide) kX10_seed_39 rfl rfl dX10_seed_29 ?_
      refine b_iload_n C dX10_seed_32 rfl 2 rfl ?_
      refine b_iald C 51 (by decide) rfl dX10_seed_33 hf (fun hf => ?_)
      refine b_if_le C 41 dX10_seed_34 (by decide) hf (fun hf => ?_) (fun hf => ?_)
      · refine b_sub [1, 2, 3] rfl ?_
        exact w_X10_seed_41 C hR _ _ _ _ _ hf
      · refine b_iconst C (v := 1) dX10_seed_37 (by decide) ?_
        refine b_goto C 42 dX10_seed_38 (by decide) ?_
        refine b_sub [1, 2, 3] rfl ?_
        exact w_X10_seed_42 C hR _ _ _ _ _ _ hf
theorem hiX10_hasAnswer_10 : ∀ w ∈ wsX100, w ∈ wsX10_hasAnswer := by decide +kernel
theorem kX10_hasAnswer_20 : Cond.fieldLink RX10 20 "ScriptRoomModel" "lacks" "[I" ∈ wsX10_hasAnswer := by decide +kernel
set_option maxHeartbeats 4000000 in
set_option maxRecDepth 100000 in
theorem w_X10_hasAnswer_22 {X : Ctx} {o : Int64} {rv : Int32 × Mem} (C : Cx X cX10_hasAnswer RX10 wsX10_hasAnswer 2 0 0) (hR : Rz X cX10_hasAnswer 2 o rv) : ∀ (s0 : Int32) (σ : Mem), some rv = f_X10_hasAnswer_22 s0 σ → Bk X 2 o 0 0 22 [] [.int (s0)] σ := by
  intro s0 σ hf
  unfold f_X10_hasAnswer_22 at hf
  exact hR _ _ _ _ dX10_hasAnswer_22 hf
set_option maxHeartbeats 4000000 in
set_option maxRecDepth 100000 in
theorem c_X10_hasAnswer (x1 : Int32) (l : Launch) : Cti l yX10_hasAnswer wsX10_hasAnswer 0 0 (fun G => [.ref (G.1 (10)), .int (x1)]) (f_X10_hasAnswer x1) := by
  refine mk_z (cc := cX10_hasAnswer) (nL := 2) (own := RX10) (by decide) rfl rfl (fun _ => Nat.le_of_ble_eq_true rfl) (fun X o σ rv C hR hf => ?_)
  show Bk X 2 o 0 0 0 [(0, .ref (ad X (10))), (1, .int (x1))] [] σ
  unfold f_X10_hasAnswer at hf
  refine b_aload_n C dX10_hasAnswer_0 rfl 0 rfl ?_
  refine b_getR C hiX10_hasAnswer_10 10 6 (54 + 45) (by decide) (by decide) rfl (by decide) kX10_hasAnswer_20 rfl rfl dX10_hasAnswer_1 ?_
  refine b_iload_n C dX10_hasAnswer_4 rfl 1 rfl ?_
  refine b_iconst C (v := 4) dX10_hasAnswer_5 (by decide) ?_
  refine b_idiv C dX10_hasAnswer_6 (by decide) ?_
  refine b_iald C 45 (by decide) rfl dX10_hasAnswer_7 hf (fun hf => ?_)
  refine b_iload_n C dX10_hasAnswer_8 rfl 1 rfl ?_
  refine b_iconst C (v := 4) dX10_hasAnswer_9 (by decide) ?_
  refine b_irem C dX10_hasAnswer_10 (by decide) ?_
  refine b_ishr C dX10_hasAnswer_11 ?_
  refine b_iconst C (v := 1) dX10_hasAnswer_12 (by decide) ?_
  refine b_iand C dX10_hasAnswer_13 ?_
  refine b_if_ne C 21 dX10_hasAnswer_14 (by decide) hf (fun hf => ?_) (fun hf => ?_)
  · refine b_iconst C (v := 0) dX10_hasAnswer_21 (by decide) ?_
    refine b_sub [] rfl ?_
    exact w_X10_hasAnswer_22 C hR _ _ hf
  · refine b_iconst C (v := 1) dX10_hasAnswer_17 (by decide) ?_
    refine b_goto C 22 dX10_hasAnswer_18 (by decide) ?_
    refine b_sub [] rfl ?_
    exact w_X10_hasAnswer_22 C hR _ _ hf
theorem hiX10_counts_10 : ∀ w ∈ wsX100, w ∈ wsX10_counts := by decide +kernel
theorem kX10_counts_84 : Cond.fieldLink RX10 84 "ScriptRoomModel" "answerOf" "[I" ∈ wsX10_counts := by decide +kernel
theorem kX10_counts_96 : Cond.fieldLink RX10 96 "ScriptRoomModel" "isVoid" "[Z" ∈ wsX10_counts := by decide +kernel
theorem kX10_counts_45 : Cond.fieldLink RX10 45 "ScriptRoomModel" "letters" "[I" ∈ wsX10_counts := by decide +kernel
theorem kX10_counts_93 : Cond.fieldLink RX10 93 "ScriptRoomModel" "had" "[I" ∈ wsX10_counts := by decide +kernel
set_option maxHeartbeats 4000000 in
set_option maxRecDepth 100000 in
theorem w_X10_counts_45 {X : Ctx} {o : Int64} {rv : Int32 × Mem} (C : Cx X cX10_counts RX10 wsX10_counts 3 1 21) (hR : Rz X cX10_counts 3 o rv) : ∀ (s0 : Int32) (σ : Mem), some rv = f_X10_counts_45 s0 σ → Bk X 3 o 0 0 45 [] [.int (s0)] σ := by
  intro s0 σ hf
  unfold f_X10_counts_45 at hf
  exact hR _ _ _ _ dX10_counts_45 hf
set_option maxHeartbeats 4000000 in
set_option maxRecDepth 100000 in
theorem w_X10_counts_44 {X : Ctx} {o : Int64} {rv : Int32 × Mem} (C : Cx X cX10_counts RX10 wsX10_counts 3 1 21) (hR : Rz X cX10_counts 3 o rv) : ∀ (σ : Mem), some rv = f_X10_counts_44 σ → Bk X 3 o 0 0 44 [] [] σ := by
  intro σ hf
  unfold f_X10_counts_44 at hf
  refine b_iconst C (v := 0) dX10_counts_44 (by decide) ?_
  exact w_X10_counts_45 C hR _ _ hf
set_option maxHeartbeats 4000000 in
set_option maxRecDepth 100000 in
theorem c_X10_counts (x1 : Int32) (l : Launch) : Cti l yX10_counts wsX10_counts 1 21 (fun G => [.ref (G.1 (10)), .int (x1)]) (f_X10_counts x1) := by
  refine mk_z (cc := cX10_counts) (nL := 3) (own := RX10) (by decide) rfl rfl (fun _ => Nat.le_of_ble_eq_true rfl) (fun X o σ rv C hR hf => ?_)
  show Bk X 3 o 0 0 0 [(0, .ref (ad X (10))), (1, .int (x1))] [] σ
  unfold f_X10_counts at hf
  refine b_aload_n C dX10_counts_0 rfl 0 rfl ?_
  refine b_getR C hiX10_counts_10 10 31 (54 + 66) (by decide) (by decide) rfl (by decide) kX10_counts_84 rfl rfl dX10_counts_1 ?_
  refine b_iload_n C dX10_counts_4 rfl 1 rfl ?_
  refine b_iald C 66 (by decide) rfl dX10_counts_5 hf (fun hf => ?_)
  refine b_iconst C (v := 4) dX10_counts_6 (by decide) ?_
  refine b_irem C dX10_counts_7 (by decide) ?_
  refine b_nv hf (fun y1 hf => ?_)
  refine b_istore_n (lv' := [(2, .int (y1)), (0, .ref (ad X (10))), (1, .int (x1))]) C dX10_counts_8 rfl (by decide) rfl ?_
  refine b_aload_n C dX10_counts_9 rfl 1 rfl ?_
  refine b_getR C hiX10_counts_10 10 35 (54 + 70) (by decide) (by decide) rfl (by decide) kX10_counts_96 rfl rfl dX10_counts_10 ?_
  refine b_iload_n C dX10_counts_13 rfl 2 rfl ?_
  refine b_zald C 70 (by decide) rfl dX10_counts_14 hf (fun hf => ?_)
  refine b_if_ne C 44 dX10_counts_15 (by decide) hf (fun hf => ?_) (fun hf => ?_)
  · refine b_sub [] rfl ?_
    exact w_X10_counts_44 C hR _ hf
  · refine b_aload_n C dX10_counts_18 rfl 1 rfl ?_
    refine b_getR C hiX10_counts_10 10 15 (54 + 53) (by decide) (by decide) rfl (by decide) kX10_counts_45 rfl rfl dX10_counts_19 ?_
    refine b_aload_n C dX10_counts_22 rfl 1 rfl ?_
    refine b_iload_n C dX10_counts_23 rfl 0 rfl ?_
    obtain ⟨y2, τ3, hqy2, hf⟩ := bd_inv hf
    refine b_callVi (n := 1) C (10) 10 (isObj_s (by decide) (by decide)) rfl (fun _ => [.int (y1)]) (c_X10_held (y1)) hqy2 gX10_counts_X10_held rfl (by decide +kernel) rfl (by decide) (by decide) (Nat.le_of_ble_eq_true rfl) dX10_counts_24 ?_
    refine b_iald C 53 (by decide) rfl dX10_counts_27 hf (fun hf => ?_)
    refine b_aload_n C dX10_counts_28 rfl 1 rfl ?_
    refine b_getR C hiX10_counts_10 10 34 (54 + 69) (by decide) (by decide) rfl (by decide) kX10_counts_93 rfl rfl dX10_counts_29 ?_
    refine b_iload_n C dX10_counts_32 rfl 2 rfl ?_
    refine b_iald C 69 (by decide) rfl dX10_counts_33 hf (fun hf => ?_)
    refine b_iconst C (v := (-1)) dX10_counts_34 (by decide) ?_
    refine b_ixor C dX10_counts_35 ?_
    refine b_iand C dX10_counts_36 ?_
    refine b_if_ne C 44 dX10_counts_37 (by decide) hf (fun hf => ?_) (fun hf => ?_)
    · refine b_sub [] rfl ?_
      exact w_X10_counts_44 C hR _ hf
    · refine b_iconst C (v := 1) dX10_counts_40 (by decide) ?_
      refine b_goto C 45 dX10_counts_41 (by decide) ?_
      refine b_sub [] rfl ?_
      exact w_X10_counts_45 C hR _ _ hf
theorem hiX10_reading_10 : ∀ w ∈ wsX100, w ∈ wsX10_reading := by decide +kernel
theorem kX10_reading_158 : Cond.fieldLink RX10 158 "ScriptRoomModel" "readings" "I" ∈ wsX10_reading := by decide +kernel
theorem kX10_reading_84 : Cond.fieldLink RX10 84 "ScriptRoomModel" "answerOf" "[I" ∈ wsX10_reading := by decide +kernel
theorem kX10_reading_99 : Cond.fieldLink RX10 99 "ScriptRoomModel" "forAppeal" "[Z" ∈ wsX10_reading := by decide +kernel
set_option maxHeartbeats 4000000 in
set_option maxRecDepth 100000 in
theorem w_X10_reading_58 {X : Ctx} {o : Int64} {rv : Int32 × Mem} (C : Cx X cX10_reading RX10 wsX10_reading 6 2 43) (hR : Rt X cX10_reading 6 o rv) (k6 : Int32 → Int32 → Int32 → Int32 → Int32 → Mem → Option (Int32 × Mem)) (h6 : ∀ (v1 v2 v3 v4 v5 : Int32) (σ : Mem), some rv = k6 v1 v2 v3 v4 v5 σ → Bk X 6 o 0 0 6 [(0, .ref (ad X (10))), (1, .int (v1)), (2, .int (v2)), (3, .int (v3)), (4, .int (v4)), (5, .int (v5))] [] σ) : ∀ (v1 v2 v3 v4 v5 : Int32) (σ : Mem), some rv = f_X10_reading_58 k6 v1 v2 v3 v4 v5 σ → Bk X 6 o 0 0 58 [(0, .ref (ad X (10))), (1, .int (v1)), (2, .int (v2)), (3, .int (v3)), (4, .int (v4)), (5, .int (v5))] [] σ := by
  intro v1 v2 v3 v4 v5 σ hf
  unfold f_X10_reading_58 at hf
  refine b_iinc (v := (v5) + (1)) (lv' := [(5, .int ((v5) + (1))), (0, .ref (ad X (10))), (1, .int (v1)), (2, .int (v2)), (3, .int (v3)), (4, .int (v4))]) C dX10_reading_58 5 rfl rfl (by decide) rfl ?_
  refine b_goto C 6 dX10_reading_61 (by decide) ?_
  refine b_sub [1, 2, 3, 4, 5, 0] rfl ?_
  exact h6 _ _ _ _ _ _ hf
set_option maxHeartbeats 4000000 in
set_option maxRecDepth 100000 in
theorem w_X10_reading_6 {X : Ctx} {o : Int64} {rv : Int32 × Mem} (C : Cx X cX10_reading RX10 wsX10_reading 6 2 43) (hR : Rt X cX10_reading 6 o rv) : ∀ (n : Nat) (v1 v2 v3 v4 v5 : Int32) (σ : Mem), some rv = f_X10_reading_6 n v1 v2 v3 v4 v5 σ → Bk X 6 o 0 0 6 [(0, .ref (ad X (10))), (1, .int (v1)), (2, .int (v2)), (3, .int (v3)), (4, .int (v4)), (5, .int (v5))] [] σ := by
  intro n
  induction n with
  | zero =>
    intro v1 v2 v3 v4 v5 σ hf
    rw [f_X10_reading_6] at hf
    cases hf
  | succ n ih =>
    intro v1 v2 v3 v4 v5 σ hf
    rw [f_X10_reading_6] at hf
    refine b_iload C dX10_reading_6 5 rfl ?_
    refine b_aload_n C dX10_reading_8 rfl 0 rfl ?_
    refine b_getS C hiX10_reading_10 10 30 29 (by decide) (by decide) rfl (by decide) kX10_reading_158 rfl rfl dX10_reading_9 ?_
    refine b_icmp_ge C 64 dX10_reading_12 (by decide) hf (fun hf => ?_) (fun hf => ?_)
    · refine b_iconst C (v := (-1)) dX10_reading_64 (by decide) ?_
      exact hR _ _ _ _ dX10_reading_65 hf
    · refine b_aload_n C dX10_reading_15 rfl 0 rfl ?_
      refine b_getR C hiX10_reading_10 10 31 (54 + 66) (by decide) (by decide) rfl (by decide) kX10_reading_84 rfl rfl dX10_reading_16 ?_
      refine b_iload C dX10_reading_19 5 rfl ?_
      refine b_iald C 66 (by decide) rfl dX10_reading_21 hf (fun hf => ?_)
      refine b_iload_n C dX10_reading_22 rfl 1 rfl ?_
      refine b_icmp_ne C 58 dX10_reading_23 (by decide) hf (fun hf => ?_) (fun hf => ?_)
      · exact w_X10_reading_58 C hR (f_X10_reading_6 n) ih _ _ _ _ _ _ hf
      · refine b_aload_n C dX10_reading_26 rfl 0 rfl ?_
        refine b_getR C hiX10_reading_10 10 36 (54 + 71) (by decide) (by decide) rfl (by decide) kX10_reading_99 rfl rfl dX10_reading_27 ?_
        refine b_iload C dX10_reading_30 5 rfl ?_
        refine b_zald C 71 (by decide) rfl dX10_reading_32 hf (fun hf => ?_)
        refine b_iload_n C dX10_reading_33 rfl 3 rfl ?_
        refine b_icmp_ne C 58 dX10_reading_34 (by decide) hf (fun hf => ?_) (fun hf => ?_)
        · exact w_X10_reading_58 C hR (f_X10_reading_6 n) ih _ _ _ _ _ _ hf
        · refine b_aload_n C dX10_reading_37 rfl 0 rfl ?_
          refine b_iload C dX10_reading_38 5 rfl ?_
          obtain ⟨y1, τ2, hqy1, hf⟩ := bd_inv hf
          refine b_callVi (n := 1) C (10) 10 (isObj_s (by decide) (by decide)) rfl (fun _ => [.int (v5)]) (c_X10_counts (v5)) hqy1 gX10_reading_X10_counts rfl (by decide +kernel) rfl (by decide) (by decide) (Nat.le_of_ble_eq_true rfl) dX10_reading_40 ?_
          refine b_if_eq C 58 dX10_reading_43 (by decide) hf (fun hf => ?_) (fun hf => ?_)
          · exact w_X10_reading_58 C hR (f_X10_reading_6 n) ih _ _ _ _ _ _ hf
          · refine b_iload C dX10_reading_46 4 rfl ?_
            refine b_iload_n C dX10_reading_48 rfl 2 rfl ?_
            refine b_icmp_ne C 55 dX10_reading_49 (by decide) hf (fun hf => ?_) (fun hf => ?_)
            · refine b_iinc (v := (v4) + (1)) (lv' := [(4, .int ((v4) + (1))), (0, .ref (ad X (10))), (1, .int (v1)), (2, .int (v2)), (3, .int (v3)), (5, .int (v5))]) C dX10_reading_55 4 rfl rfl (by decide) rfl ?_
              refine b_sub [1, 2, 3, 4, 0, 5] rfl ?_
              exact w_X10_reading_58 C hR (f_X10_reading_6 n) ih _ _ _ _ _ _ hf
            · refine b_iload C dX10_reading_52 5 rfl ?_
              exact hR _ _ _ _ dX10_reading_54 hf
set_option maxHeartbeats 4000000 in
set_option maxRecDepth 100000 in
theorem c_X10_reading (x1 x2 x3 : Int32) (l : Launch) : Cti l yX10_reading wsX10_reading 2 43 (fun G => [.ref (G.1 (10)), .int (x1), .int (x2), .int (x3)]) (f_X10_reading x1 x2 x3) := by
  refine mk_i (cc := cX10_reading) (nL := 6) (own := RX10) (by decide) rfl rfl (fun _ => Nat.le_of_ble_eq_true rfl) (fun X o σ rv C hR hf => ?_)
  show Bk X 6 o 0 0 0 [(0, .ref (ad X (10))), (1, .int (x1)), (2, .int (x2)), (3, .int (x3))] [] σ
  unfold f_X10_reading at hf
  refine b_iconst C (v := 0) dX10_reading_0 (by decide) ?_
  refine b_istore (lv' := [(4, .int (0)), (0, .ref (ad X (10))), (1, .int (x1)), (2, .int (x2)), (3, .int (x3))]) C dX10_reading_1 (by decide) rfl ?_
  refine b_iconst C (v := 0) dX10_reading_3 (by decide) ?_
  refine b_istore (lv' := [(5, .int (0)), (4, .int (0)), (0, .ref (ad X (10))), (1, .int (x1)), (2, .int (x2)), (3, .int (x3))]) C dX10_reading_4 (by decide) rfl ?_
  refine b_sub [2, 3, 4, 5, 1, 0] rfl ?_
  exact w_X10_reading_6 C hR FUEL _ _ _ _ _ _ hf
theorem hiX10_markBy_10 : ∀ w ∈ wsX100, w ∈ wsX10_markBy := by decide +kernel
theorem kX10_markBy_84 : Cond.fieldLink RX10 84 "ScriptRoomModel" "answerOf" "[I" ∈ wsX10_markBy := by decide +kernel
theorem kX10_markBy_90 : Cond.fieldLink RX10 90 "ScriptRoomModel" "points" "[I" ∈ wsX10_markBy := by decide +kernel
set_option maxHeartbeats 4000000 in
set_option maxRecDepth 100000 in
theorem c_X10_markBy (x1 : Int32) (l : Launch) : Cti l yX10_markBy wsX10_markBy 2 51 (fun G => [.ref (G.1 (10)), .int (x1)]) (f_X10_markBy x1) := by
  refine mk_i (cc := cX10_markBy) (nL := 2) (own := RX10) (by decide) rfl rfl (fun _ => Nat.le_of_ble_eq_true rfl) (fun X o σ rv C hR hf => ?_)
  show Bk X 2 o 0 0 0 [(0, .ref (ad X (10))), (1, .int (x1))] [] σ
  unfold f_X10_markBy at hf
  refine b_aload_n C dX10_markBy_0 rfl 0 rfl ?_
  refine b_aload_n C dX10_markBy_1 rfl 0 rfl ?_
  refine b_aload_n C dX10_markBy_2 rfl 0 rfl ?_
  refine b_getR C hiX10_markBy_10 10 31 (54 + 66) (by decide) (by decide) rfl (by decide) kX10_markBy_84 rfl rfl dX10_markBy_3 ?_
  refine b_iload_n C dX10_markBy_6 rfl 1 rfl ?_
  refine b_iald C 66 (by decide) rfl dX10_markBy_7 hf (fun hf => ?_)
  refine b_iconst C (v := 4) dX10_markBy_8 (by decide) ?_
  refine b_irem C dX10_markBy_9 (by decide) ?_
  obtain ⟨y1, τ2, hqy1, hf⟩ := bd_inv hf
  refine b_callVi (n := 1) C (10) 10 (isObj_s (by decide) (by decide)) rfl (fun _ => [.int ((σ 66 (Int32.toNatClampNeg (x1))) - (σ 66 (Int32.toNatClampNeg (x1))) / (4) * (4))]) (c_X10_held ((σ 66 (Int32.toNatClampNeg (x1))) - (σ 66 (Int32.toNatClampNeg (x1))) / (4) * (4))) hqy1 gX10_markBy_X10_held rfl (by decide +kernel) rfl (by decide) (by decide) (Nat.le_of_ble_eq_true rfl) dX10_markBy_10 ?_
  refine b_aload_n C dX10_markBy_13 rfl 0 rfl ?_
  refine b_getR C hiX10_markBy_10 10 33 (54 + 68) (by decide) (by decide) rfl (by decide) kX10_markBy_90 rfl rfl dX10_markBy_14 ?_
  refine b_iload_n C dX10_markBy_17 rfl 1 rfl ?_
  refine b_iald C 68 (by decide) rfl dX10_markBy_18 hf (fun hf => ?_)
  obtain ⟨y3, τ4, hqy3, hf⟩ := bd_inv hf
  refine b_callVi (n := 2) C (10) 10 (isObj_s (by decide) (by decide)) rfl (fun _ => [.int (y1), .int (τ2 68 (Int32.toNatClampNeg (x1)))]) (c_X10_value (y1) (τ2 68 (Int32.toNatClampNeg (x1)))) hqy3 gX10_markBy_X10_value rfl (by decide +kernel) rfl (by decide) (by decide) (Nat.le_of_ble_eq_true rfl) dX10_markBy_19 ?_
  exact hR _ _ _ _ dX10_markBy_22 hf
theorem hiX10_third_10 : ∀ w ∈ wsX100, w ∈ wsX10_third := by decide +kernel
theorem kX10_third_57 : Cond.fieldLink RX10 57 "ScriptRoomModel" "senior" "[Z" ∈ wsX10_third := by decide +kernel
theorem kX10_third_87 : Cond.fieldLink RX10 87 "ScriptRoomModel" "by" "[I" ∈ wsX10_third := by decide +kernel
set_option maxHeartbeats 4000000 in
set_option maxRecDepth 100000 in
theorem w_X10_third_43 {X : Ctx} {o : Int64} {rv : Int32 × Mem} (C : Cx X cX10_third RX10 wsX10_third 4 3 68) (hR : Rt X cX10_third 4 o rv) : ∀ (v3 : Int32) (σ : Mem), some rv = f_X10_third_43 v3 σ → Bk X 4 o 0 0 43 [(3, .int (v3))] [] σ := by
  intro v3 σ hf
  unfold f_X10_third_43 at hf
  refine b_iload_n C dX10_third_43 rfl 0 rfl ?_
  exact hR _ _ _ _ dX10_third_44 hf
set_option maxHeartbeats 4000000 in
set_option maxRecDepth 100000 in
theorem w_X10_third_10 {X : Ctx} {o : Int64} {rv : Int32 × Mem} (C : Cx X cX10_third RX10 wsX10_third 4 3 68) (hR : Rt X cX10_third 4 o rv) : ∀ (n : Nat) (v1 v2 v3 : Int32) (σ : Mem), some rv = f_X10_third_10 n v1 v2 v3 σ → Bk X 4 o 0 0 10 [(0, .ref (ad X (10))), (1, .int (v1)), (2, .int (v2)), (3, .int (v3))] [] σ := by
  intro n
  induction n with
  | zero =>
    intro v1 v2 v3 σ hf
    rw [f_X10_third_10] at hf
    cases hf
  | succ n ih =>
    intro v1 v2 v3 σ hf
    rw [f_X10_third_10] at hf
    refine b_iload_n C dX10_third_10 rfl 3 rfl ?_
    refine b_iconst C (v := (-1)) dX10_third_11 (by decide) ?_
    refine b_icmp_eq C 43 dX10_third_12 (by decide) hf (fun hf => ?_) (fun hf => ?_)
    · refine b_sub [3] rfl ?_
      exact w_X10_third_43 C hR _ _ hf
    · refine b_aload_n C dX10_third_15 rfl 0 rfl ?_
      refine b_getR C hiX10_third_10 10 20 (54 + 57) (by decide) (by decide) rfl (by decide) kX10_third_57 rfl rfl dX10_third_16 ?_
      refine b_aload_n C dX10_third_19 rfl 0 rfl ?_
      refine b_getR C hiX10_third_10 10 32 (54 + 67) (by decide) (by decide) rfl (by decide) kX10_third_87 rfl rfl dX10_third_20 ?_
      refine b_iload_n C dX10_third_23 rfl 3 rfl ?_
      refine b_iald C 67 (by decide) rfl dX10_third_24 hf (fun hf => ?_)
      refine b_zald C 57 (by decide) rfl dX10_third_25 hf (fun hf => ?_)
      refine b_if_ne C 43 dX10_third_26 (by decide) hf (fun hf => ?_) (fun hf => ?_)
      · refine b_sub [3] rfl ?_
        exact w_X10_third_43 C hR _ _ hf
      · refine b_iinc (v := (v2) + (1)) (lv' := [(2, .int ((v2) + (1))), (0, .ref (ad X (10))), (1, .int (v1)), (3, .int (v3))]) C dX10_third_29 2 rfl rfl (by decide) rfl ?_
        refine b_aload_n C dX10_third_32 rfl 1 rfl ?_
        refine b_iload_n C dX10_third_33 rfl 2 rfl ?_
        refine b_iload_n C dX10_third_34 rfl 0 rfl ?_
        refine b_iconst C (v := 0) dX10_third_35 (by decide) ?_
        obtain ⟨y1, τ2, hqy1, hf⟩ := bd_inv hf
        refine b_callVi (n := 3) C (10) 10 (isObj_s (by decide) (by decide)) rfl (fun _ => [.int (v1), .int ((v2) + (1)), .int (0)]) (c_X10_reading (v1) ((v2) + (1)) (0)) hqy1 gX10_third_X10_reading rfl (by decide +kernel) rfl (by decide) (by decide) (Nat.le_of_ble_eq_true rfl) dX10_third_36 ?_
        refine b_istore_n (lv' := [(3, .int (y1)), (2, .int ((v2) + (1))), (0, .ref (ad X (10))), (1, .int (v1))]) C dX10_third_39 rfl (by decide) rfl ?_
        refine b_goto C 10 dX10_third_40 (by decide) ?_
        refine b_sub [2, 3, 1, 0] rfl ?_
        exact ih _ _ _ _ hf
set_option maxHeartbeats 4000000 in
set_option maxRecDepth 100000 in
theorem c_X10_third (x1 : Int32) (l : Launch) : Cti l yX10_third wsX10_third 3 68 (fun G => [.ref (G.1 (10)), .int (x1)]) (f_X10_third x1) := by
  refine mk_i (cc := cX10_third) (nL := 4) (own := RX10) (by decide) rfl rfl (fun _ => Nat.le_of_ble_eq_true rfl) (fun X o σ rv C hR hf => ?_)
  show Bk X 4 o 0 0 0 [(0, .ref (ad X (10))), (1, .int (x1))] [] σ
  unfold f_X10_third at hf
  refine b_iconst C (v := 2) dX10_third_0 (by decide) ?_
  refine b_istore_n (lv' := [(2, .int (2)), (0, .ref (ad X (10))), (1, .int (x1))]) C dX10_third_1 rfl (by decide) rfl ?_
  refine b_aload_n C dX10_third_2 rfl 1 rfl ?_
  refine b_iload_n C dX10_third_3 rfl 2 rfl ?_
  refine b_iload_n C dX10_third_4 rfl 0 rfl ?_
  refine b_iconst C (v := 0) dX10_third_5 (by decide) ?_
  obtain ⟨y3, τ4, hqy3, hf⟩ := bd_inv hf
  refine b_callVi (n := 3) C (10) 10 (isObj_s (by decide) (by decide)) rfl (fun _ => [.int (x1), .int (2), .int (0)]) (c_X10_reading (x1) (2) (0)) hqy3 gX10_third_X10_reading rfl (by decide +kernel) rfl (by decide) (by decide) (Nat.le_of_ble_eq_true rfl) dX10_third_6 ?_
  refine b_istore_n (lv' := [(3, .int (y3)), (2, .int (2)), (0, .ref (ad X (10))), (1, .int (x1))]) C dX10_third_9 rfl (by decide) rfl ?_
  refine b_sub [2, 3, 1, 0] rfl ?_
  exact w_X10_third_10 C hR FUEL _ _ _ _ hf
theorem hiX10_isApart_10 : ∀ w ∈ wsX100, w ∈ wsX10_isApart := by decide +kernel
theorem kX10_isApart_13 : Cond.fieldLink RX10 13 "ScriptRoomModel" "tolerance" "I" ∈ wsX10_isApart := by decide +kernel
set_option maxHeartbeats 4000000 in
set_option maxRecDepth 100000 in
theorem w_X10_isApart_37 {X : Ctx} {o : Int64} {rv : Int32 × Mem} (C : Cx X cX10_isApart RX10 wsX10_isApart 2 3 72) (hR : Rz X cX10_isApart 2 o rv) : ∀ (s0 : Int32) (σ : Mem), some rv = f_X10_isApart_37 s0 σ → Bk X 2 o 0 0 37 [] [.int (s0)] σ := by
  intro s0 σ hf
  unfold f_X10_isApart_37 at hf
  exact hR _ _ _ _ dX10_isApart_37 hf
set_option maxHeartbeats 4000000 in
set_option maxRecDepth 100000 in
theorem c_X10_isApart (x1 : Int32) (l : Launch) : Cti l yX10_isApart wsX10_isApart 3 72 (fun G => [.ref (G.1 (10)), .int (x1)]) (f_X10_isApart x1) := by
  refine mk_z (cc := cX10_isApart) (nL := 2) (own := RX10) (by decide) rfl rfl (fun _ => Nat.le_of_ble_eq_true rfl) (fun X o σ rv C hR hf => ?_)
  show Bk X 2 o 0 0 0 [(0, .ref (ad X (10))), (1, .int (x1))] [] σ
  unfold f_X10_isApart at hf
  refine b_aload_n C dX10_isApart_0 rfl 0 rfl ?_
  refine b_aload_n C dX10_isApart_1 rfl 0 rfl ?_
  refine b_iload_n C dX10_isApart_2 rfl 1 rfl ?_
  refine b_iconst C (v := 0) dX10_isApart_3 (by decide) ?_
  refine b_iconst C (v := 0) dX10_isApart_4 (by decide) ?_
  obtain ⟨y1, τ2, hqy1, hf⟩ := bd_inv hf
  refine b_callVi (n := 3) C (10) 10 (isObj_s (by decide) (by decide)) rfl (fun _ => [.int (x1), .int (0), .int (0)]) (c_X10_reading (x1) (0) (0)) hqy1 gX10_isApart_X10_reading rfl (by decide +kernel) rfl (by decide) (by decide) (Nat.le_of_ble_eq_true rfl) dX10_isApart_5 ?_
  obtain ⟨y3, τ4, hqy3, hf⟩ := bd_inv hf
  refine b_callVi (n := 1) C (10) 10 (isObj_s (by decide) (by decide)) rfl (fun _ => [.int (y1)]) (c_X10_markBy (y1)) hqy3 gX10_isApart_X10_markBy rfl (by decide +kernel) rfl (by decide) (by decide) (Nat.le_of_ble_eq_true rfl) dX10_isApart_8 ?_
  refine b_aload_n C dX10_isApart_11 rfl 0 rfl ?_
  refine b_aload_n C dX10_isApart_12 rfl 0 rfl ?_
  refine b_iload_n C dX10_isApart_13 rfl 1 rfl ?_
  refine b_iconst C (v := 1) dX10_isApart_14 (by decide) ?_
  refine b_iconst C (v := 0) dX10_isApart_15 (by decide) ?_
  obtain ⟨y5, τ6, hqy5, hf⟩ := bd_inv hf
  refine b_callVi (n := 3) C (10) 10 (isObj_s (by decide) (by decide)) rfl (fun _ => [.int (x1), .int (1), .int (0)]) (c_X10_reading (x1) (1) (0)) hqy5 gX10_isApart_X10_reading rfl (by decide +kernel) rfl (by decide) (by decide) (Nat.le_of_ble_eq_true rfl) dX10_isApart_16 ?_
  obtain ⟨y7, τ8, hqy7, hf⟩ := bd_inv hf
  refine b_callVi (n := 1) C (10) 10 (isObj_s (by decide) (by decide)) rfl (fun _ => [.int (y5)]) (c_X10_markBy (y5)) hqy7 gX10_isApart_X10_markBy rfl (by decide +kernel) rfl (by decide) (by decide) (Nat.le_of_ble_eq_true rfl) dX10_isApart_19 ?_
  obtain ⟨y9, τ10, hqy9, hf⟩ := bd_inv hf
  refine b_callSi (n := 2) C (fun _ => [.int (y3), .int (y7)]) (c_X10_apart (y3) (y7)) hqy9 gX10_isApart_X10_apart rfl (by decide +kernel) rfl (by decide) (by decide) (Nat.le_of_ble_eq_true rfl) dX10_isApart_22 ?_
  refine b_aload_n C dX10_isApart_25 rfl 0 rfl ?_
  refine b_getS C hiX10_isApart_10 10 3 24 (by decide) (by decide) rfl (by decide) kX10_isApart_13 rfl rfl dX10_isApart_26 ?_
  refine b_icmp_le C 36 dX10_isApart_29 (by decide) hf (fun hf => ?_) (fun hf => ?_)
  · refine b_iconst C (v := 0) dX10_isApart_36 (by decide) ?_
    refine b_sub [] rfl ?_
    exact w_X10_isApart_37 C hR _ _ hf
  · refine b_iconst C (v := 1) dX10_isApart_32 (by decide) ?_
    refine b_goto C 37 dX10_isApart_33 (by decide) ?_
    refine b_sub [] rfl ?_
    exact w_X10_isApart_37 C hR _ _ hf
theorem hiX10_wantsFirst_10 : ∀ w ∈ wsX100, w ∈ wsX10_wantsFirst := by decide +kernel
theorem kX10_wantsFirst_48 : Cond.fieldLink RX10 48 "ScriptRoomModel" "twice" "[Z" ∈ wsX10_wantsFirst := by decide +kernel
set_option maxHeartbeats 4000000 in
set_option maxRecDepth 100000 in
theorem w_X10_wantsFirst_79 {X : Ctx} {o : Int64} {rv : Int32 × Mem} (C : Cx X cX10_wantsFirst RX10 wsX10_wantsFirst 4 4 93) (hR : Rt X cX10_wantsFirst 4 o rv) : ∀ (s0 : Int32) (σ : Mem), some rv = f_X10_wantsFirst_79 s0 σ → Bk X 4 o 0 0 79 [] [.int (s0)] σ := by
  intro s0 σ hf
  unfold f_X10_wantsFirst_79 at hf
  exact hR _ _ _ _ dX10_wantsFirst_79 hf
set_option maxHeartbeats 4000000 in
set_option maxRecDepth 100000 in
theorem w_X10_wantsFirst_78 {X : Ctx} {o : Int64} {rv : Int32 × Mem} (C : Cx X cX10_wantsFirst RX10 wsX10_wantsFirst 4 4 93) (hR : Rt X cX10_wantsFirst 4 o rv) : ∀ (σ : Mem), some rv = f_X10_wantsFirst_78 σ → Bk X 4 o 0 0 78 [] [] σ := by
  intro σ hf
  unfold f_X10_wantsFirst_78 at hf
  refine b_iconst C (v := 0) dX10_wantsFirst_78 (by decide) ?_
  exact w_X10_wantsFirst_79 C hR _ _ hf
set_option maxHeartbeats 4000000 in
set_option maxRecDepth 100000 in
theorem w_X10_wantsFirst_41 {X : Ctx} {o : Int64} {rv : Int32 × Mem} (C : Cx X cX10_wantsFirst RX10 wsX10_wantsFirst 4 4 93) (hR : Rt X cX10_wantsFirst 4 o rv) : ∀ (v1 v2 v3 : Int32) (σ : Mem), some rv = f_X10_wantsFirst_41 v1 v2 v3 σ → Bk X 4 o 0 0 41 [(0, .ref (ad X (10))), (1, .int (v1)), (2, .int (v2)), (3, .int (v3))] [] σ := by
  intro v1 v2 v3 σ hf
  unfold f_X10_wantsFirst_41 at hf
  refine b_iload_n C dX10_wantsFirst_41 rfl 3 rfl ?_
  refine b_iload_n C dX10_wantsFirst_42 rfl 2 rfl ?_
  refine b_icmp_ge C 52 dX10_wantsFirst_43 (by decide) hf (fun hf => ?_) (fun hf => ?_)
  · refine b_iload_n C dX10_wantsFirst_52 rfl 2 rfl ?_
    refine b_iconst C (v := 2) dX10_wantsFirst_53 (by decide) ?_
    refine b_icmp_ne C 78 dX10_wantsFirst_54 (by decide) hf (fun hf => ?_) (fun hf => ?_)
    · refine b_sub [] rfl ?_
      exact w_X10_wantsFirst_78 C hR _ hf
    · refine b_aload_n C dX10_wantsFirst_57 rfl 0 rfl ?_
      refine b_iload_n C dX10_wantsFirst_58 rfl 1 rfl ?_
      obtain ⟨y1, τ2, hqy1, hf⟩ := bd_inv hf
      refine b_callVi (n := 1) C (10) 10 (isObj_s (by decide) (by decide)) rfl (fun _ => [.int (v1)]) (c_X10_isApart (v1)) hqy1 gX10_wantsFirst_X10_isApart rfl (by decide +kernel) rfl (by decide) (by decide) (Nat.le_of_ble_eq_true rfl) dX10_wantsFirst_59 ?_
      refine b_if_eq C 78 dX10_wantsFirst_62 (by decide) hf (fun hf => ?_) (fun hf => ?_)
      · refine b_sub [] rfl ?_
        exact w_X10_wantsFirst_78 C hR _ hf
      · refine b_aload_n C dX10_wantsFirst_65 rfl 0 rfl ?_
        refine b_iload_n C dX10_wantsFirst_66 rfl 1 rfl ?_
        obtain ⟨y3, τ4, hqy3, hf⟩ := bd_inv hf
        refine b_callVi (n := 1) C (10) 10 (isObj_s (by decide) (by decide)) rfl (fun _ => [.int (v1)]) (c_X10_third (v1)) hqy3 gX10_wantsFirst_X10_third rfl (by decide +kernel) rfl (by decide) (by decide) (Nat.le_of_ble_eq_true rfl) dX10_wantsFirst_67 ?_
        refine b_iconst C (v := (-1)) dX10_wantsFirst_70 (by decide) ?_
        refine b_icmp_ne C 78 dX10_wantsFirst_71 (by decide) hf (fun hf => ?_) (fun hf => ?_)
        · refine b_sub [] rfl ?_
          exact w_X10_wantsFirst_78 C hR _ hf
        · refine b_iconst C (v := 1) dX10_wantsFirst_74 (by decide) ?_
          refine b_goto C 79 dX10_wantsFirst_75 (by decide) ?_
          refine b_sub [] rfl ?_
          exact w_X10_wantsFirst_79 C hR _ _ hf
  · refine b_iload_n C dX10_wantsFirst_46 rfl 2 rfl ?_
    refine b_iload_n C dX10_wantsFirst_47 rfl 3 rfl ?_
    refine b_isub C dX10_wantsFirst_48 ?_
    refine b_goto C 79 dX10_wantsFirst_49 (by decide) ?_
    refine b_sub [] rfl ?_
    exact w_X10_wantsFirst_79 C hR _ _ hf
set_option maxHeartbeats 4000000 in
set_option maxRecDepth 100000 in
theorem w_X10_wantsFirst_19 {X : Ctx} {o : Int64} {rv : Int32 × Mem} (C : Cx X cX10_wantsFirst RX10 wsX10_wantsFirst 4 4 93) (hR : Rt X cX10_wantsFirst 4 o rv) : ∀ (n : Nat) (v1 v2 v3 : Int32) (σ : Mem), some rv = f_X10_wantsFirst_19 n v1 v2 v3 σ → Bk X 4 o 0 0 19 [(0, .ref (ad X (10))), (1, .int (v1)), (2, .int (v2)), (3, .int (v3))] [] σ := by
  intro n
  induction n with
  | zero =>
    intro v1 v2 v3 σ hf
    rw [f_X10_wantsFirst_19] at hf
    cases hf
  | succ n ih =>
    intro v1 v2 v3 σ hf
    rw [f_X10_wantsFirst_19] at hf
    refine b_iload_n C dX10_wantsFirst_19 rfl 3 rfl ?_
    refine b_iload_n C dX10_wantsFirst_20 rfl 2 rfl ?_
    refine b_icmp_ge C 41 dX10_wantsFirst_21 (by decide) hf (fun hf => ?_) (fun hf => ?_)
    · exact w_X10_wantsFirst_41 C hR _ _ _ _ hf
    · refine b_aload_n C dX10_wantsFirst_24 rfl 0 rfl ?_
      refine b_iload_n C dX10_wantsFirst_25 rfl 1 rfl ?_
      refine b_iload_n C dX10_wantsFirst_26 rfl 3 rfl ?_
      refine b_iconst C (v := 0) dX10_wantsFirst_27 (by decide) ?_
      obtain ⟨y5, τ6, hqy5, hf⟩ := bd_inv hf
      refine b_callVi (n := 3) C (10) 10 (isObj_s (by decide) (by decide)) rfl (fun _ => [.int (v1), .int (v3), .int (0)]) (c_X10_reading (v1) (v3) (0)) hqy5 gX10_wantsFirst_X10_reading rfl (by decide +kernel) rfl (by decide) (by decide) (Nat.le_of_ble_eq_true rfl) dX10_wantsFirst_28 ?_
      refine b_iconst C (v := (-1)) dX10_wantsFirst_31 (by decide) ?_
      refine b_icmp_eq C 41 dX10_wantsFirst_32 (by decide) hf (fun hf => ?_) (fun hf => ?_)
      · exact w_X10_wantsFirst_41 C hR _ _ _ _ hf
      · refine b_iinc (v := (v3) + (1)) (lv' := [(3, .int ((v3) + (1))), (0, .ref (ad X (10))), (1, .int (v1)), (2, .int (v2))]) C dX10_wantsFirst_35 3 rfl rfl (by decide) rfl ?_
        refine b_goto C 19 dX10_wantsFirst_38 (by decide) ?_
        refine b_sub [1, 2, 3, 0] rfl ?_
        exact ih _ _ _ _ hf
set_option maxHeartbeats 4000000 in
set_option maxRecDepth 100000 in
theorem w_X10_wantsFirst_16 {X : Ctx} {o : Int64} {rv : Int32 × Mem} (C : Cx X cX10_wantsFirst RX10 wsX10_wantsFirst 4 4 93) (hR : Rt X cX10_wantsFirst 4 o rv) : ∀ (v1 s0 : Int32) (σ : Mem), some rv = f_X10_wantsFirst_16 v1 s0 σ → Bk X 4 o 0 0 16 [(0, .ref (ad X (10))), (1, .int (v1))] [.int (s0)] σ := by
  intro v1 s0 σ hf
  unfold f_X10_wantsFirst_16 at hf
  refine b_istore_n (lv' := [(2, .int (s0)), (0, .ref (ad X (10))), (1, .int (v1))]) C dX10_wantsFirst_16 rfl (by decide) rfl ?_
  refine b_iconst C (v := 0) dX10_wantsFirst_17 (by decide) ?_
  refine b_istore_n (lv' := [(3, .int (0)), (2, .int (s0)), (0, .ref (ad X (10))), (1, .int (v1))]) C dX10_wantsFirst_18 rfl (by decide) rfl ?_
  refine b_sub [2, 3, 1, 0] rfl ?_
  exact w_X10_wantsFirst_19 C hR FUEL _ _ _ _ hf
set_option maxHeartbeats 4000000 in
set_option maxRecDepth 100000 in
theorem c_X10_wantsFirst (x1 : Int32) (l : Launch) : Cti l yX10_wantsFirst wsX10_wantsFirst 4 93 (fun G => [.ref (G.1 (10)), .int (x1)]) (f_X10_wantsFirst x1) := by
  refine mk_i (cc := cX10_wantsFirst) (nL := 4) (own := RX10) (by decide) rfl rfl (fun _ => Nat.le_of_ble_eq_true rfl) (fun X o σ rv C hR hf => ?_)
  show Bk X 4 o 0 0 0 [(0, .ref (ad X (10))), (1, .int (x1))] [] σ
  unfold f_X10_wantsFirst at hf
  refine b_aload_n C dX10_wantsFirst_0 rfl 0 rfl ?_
  refine b_getR C hiX10_wantsFirst_10 10 16 (54 + 54) (by decide) (by decide) rfl (by decide) kX10_wantsFirst_48 rfl rfl dX10_wantsFirst_1 ?_
  refine b_iload_n C dX10_wantsFirst_4 rfl 1 rfl ?_
  refine b_iconst C (v := 4) dX10_wantsFirst_5 (by decide) ?_
  refine b_irem C dX10_wantsFirst_6 (by decide) ?_
  refine b_zald C 54 (by decide) rfl dX10_wantsFirst_7 hf (fun hf => ?_)
  refine b_if_eq C 15 dX10_wantsFirst_8 (by decide) hf (fun hf => ?_) (fun hf => ?_)
  · refine b_iconst C (v := 1) dX10_wantsFirst_15 (by decide) ?_
    exact w_X10_wantsFirst_16 C hR _ _ _ hf
  · refine b_iconst C (v := 2) dX10_wantsFirst_11 (by decide) ?_
    refine b_goto C 16 dX10_wantsFirst_12 (by decide) ?_
    exact w_X10_wantsFirst_16 C hR _ _ _ hf
theorem hiX10_wants_10 : ∀ w ∈ wsX100, w ∈ wsX10_wants := by decide +kernel
theorem kX10_wants_30 : Cond.fieldLink RX10 30 "ScriptRoomModel" "appealed" "[Z" ∈ wsX10_wants := by decide +kernel
set_option maxHeartbeats 4000000 in
set_option maxRecDepth 100000 in
theorem w_X10_wants_47 {X : Ctx} {o : Int64} {rv : Int32 × Mem} (C : Cx X cX10_wants RX10 wsX10_wants 3 5 116) (hR : Rt X cX10_wants 3 o rv) : ∀ (s0 : Int32) (σ : Mem), some rv = f_X10_wants_47 s0 σ → Bk X 3 o 0 0 47 [] [.int (s0)] σ := by
  intro s0 σ hf
  unfold f_X10_wants_47 at hf
  exact hR _ _ _ _ dX10_wants_47 hf
set_option maxHeartbeats 4000000 in
set_option maxRecDepth 100000 in
theorem w_X10_wants_46 {X : Ctx} {o : Int64} {rv : Int32 × Mem} (C : Cx X cX10_wants RX10 wsX10_wants 3 5 116) (hR : Rt X cX10_wants 3 o rv) : ∀ (v2 : Int32) (σ : Mem), some rv = f_X10_wants_46 v2 σ → Bk X 3 o 0 0 46 [(2, .int (v2))] [] σ := by
  intro v2 σ hf
  unfold f_X10_wants_46 at hf
  refine b_iload_n C dX10_wants_46 rfl 0 rfl ?_
  refine b_sub [] rfl ?_
  exact w_X10_wants_47 C hR _ _ hf
set_option maxHeartbeats 4000000 in
set_option maxRecDepth 100000 in
theorem w_X10_wants_17 {X : Ctx} {o : Int64} {rv : Int32 × Mem} (C : Cx X cX10_wants RX10 wsX10_wants 3 5 116) (hR : Rt X cX10_wants 3 o rv) : ∀ (v1 s0 : Int32) (σ : Mem), some rv = f_X10_wants_17 v1 s0 σ → Bk X 3 o 0 0 17 [(0, .ref (ad X (10))), (1, .int (v1))] [.int (s0)] σ := by
  intro v1 s0 σ hf
  unfold f_X10_wants_17 at hf
  refine b_istore_n (lv' := [(2, .int (s0)), (0, .ref (ad X (10))), (1, .int (v1))]) C dX10_wants_17 rfl (by decide) rfl ?_
  refine b_iload_n C dX10_wants_18 rfl 0 rfl ?_
  refine b_if_ne C 46 dX10_wants_19 (by decide) hf (fun hf => ?_) (fun hf => ?_)
  · refine b_sub [0] rfl ?_
    exact w_X10_wants_46 C hR _ _ hf
  · refine b_aload_n C dX10_wants_22 rfl 1 rfl ?_
    refine b_getR C hiX10_wants_10 10 9 (54 + 48) (by decide) (by decide) rfl (by decide) kX10_wants_30 rfl rfl dX10_wants_23 ?_
    refine b_iload_n C dX10_wants_26 rfl 2 rfl ?_
    refine b_zald C 48 (by decide) rfl dX10_wants_27 hf (fun hf => ?_)
    refine b_if_eq C 46 dX10_wants_28 (by decide) hf (fun hf => ?_) (fun hf => ?_)
    · refine b_sub [0] rfl ?_
      exact w_X10_wants_46 C hR _ _ hf
    · refine b_aload_n C dX10_wants_31 rfl 1 rfl ?_
      refine b_iload_n C dX10_wants_32 rfl 2 rfl ?_
      refine b_iconst C (v := 0) dX10_wants_33 (by decide) ?_
      refine b_iconst C (v := 1) dX10_wants_34 (by decide) ?_
      obtain ⟨y1, τ2, hqy1, hf⟩ := bd_inv hf
      refine b_callVi (n := 3) C (10) 10 (isObj_s (by decide) (by decide)) rfl (fun _ => [.int (v1), .int (0), .int (1)]) (c_X10_reading (v1) (0) (1)) hqy1 gX10_wants_X10_reading rfl (by decide +kernel) rfl (by decide) (by decide) (Nat.le_of_ble_eq_true rfl) dX10_wants_35 ?_
      refine b_iconst C (v := (-1)) dX10_wants_38 (by decide) ?_
      refine b_icmp_ne C 46 dX10_wants_39 (by decide) hf (fun hf => ?_) (fun hf => ?_)
      · refine b_sub [0] rfl ?_
        exact w_X10_wants_46 C hR _ _ hf
      · refine b_iconst C (v := 1) dX10_wants_42 (by decide) ?_
        refine b_goto C 47 dX10_wants_43 (by decide) ?_
        refine b_sub [] rfl ?_
        exact w_X10_wants_47 C hR _ _ hf
set_option maxHeartbeats 4000000 in
set_option maxRecDepth 100000 in
theorem c_X10_wants (x1 : Int32) (l : Launch) : Cti l yX10_wants wsX10_wants 5 116 (fun G => [.ref (G.1 (10)), .int (x1)]) (f_X10_wants x1) := by
  refine mk_i (cc := cX10_wants) (nL := 3) (own := RX10) (by decide) rfl rfl (fun _ => Nat.le_of_ble_eq_true rfl) (fun X o σ rv C hR hf => ?_)
  show Bk X 3 o 0 0 0 [(0, .ref (ad X (10))), (1, .int (x1))] [] σ
  unfold f_X10_wants at hf
  refine b_aload_n C dX10_wants_0 rfl 0 rfl ?_
  refine b_iload_n C dX10_wants_1 rfl 1 rfl ?_
  obtain ⟨y3, τ4, hqy3, hf⟩ := bd_inv hf
  refine b_callVi (n := 1) C (10) 10 (isObj_s (by decide) (by decide)) rfl (fun _ => [.int (x1)]) (c_X10_hasAnswer (x1)) hqy3 gX10_wants_X10_hasAnswer rfl (by decide +kernel) rfl (by decide) (by decide) (Nat.le_of_ble_eq_true rfl) dX10_wants_2 ?_
  refine b_if_eq C 16 dX10_wants_5 (by decide) hf (fun hf => ?_) (fun hf => ?_)
  · refine b_iconst C (v := 0) dX10_wants_16 (by decide) ?_
    exact w_X10_wants_17 C hR _ _ _ hf
  · refine b_aload_n C dX10_wants_8 rfl 0 rfl ?_
    refine b_iload_n C dX10_wants_9 rfl 1 rfl ?_
    obtain ⟨y5, τ6, hqy5, hf⟩ := bd_inv hf
    refine b_callVi (n := 1) C (10) 10 (isObj_s (by decide) (by decide)) rfl (fun _ => [.int (x1)]) (c_X10_wantsFirst (x1)) hqy5 gX10_wants_X10_wantsFirst rfl (by decide +kernel) rfl (by decide) (by decide) (Nat.le_of_ble_eq_true rfl) dX10_wants_10 ?_
    refine b_goto C 17 dX10_wants_13 (by decide) ?_
    exact w_X10_wants_17 C hR _ _ _ hf
set_option maxHeartbeats 4000000 in
set_option maxRecDepth 100000 in
theorem w_X10_wantsAppeal_13 {X : Ctx} {o : Int64} {rv : Int32 × Mem} (C : Cx X cX10_wantsAppeal RX10 wsX10_wantsAppeal 2 5 116) (hR : Rz X cX10_wantsAppeal 2 o rv) : ∀ (s0 : Int32) (σ : Mem), some rv = f_X10_wantsAppeal_13 s0 σ → Bk X 2 o 0 0 13 [] [.int (s0)] σ := by
  intro s0 σ hf
  unfold f_X10_wantsAppeal_13 at hf
  exact hR _ _ _ _ dX10_wantsAppeal_13 hf
set_option maxHeartbeats 4000000 in
set_option maxRecDepth 100000 in
theorem c_X10_wantsAppeal (x1 : Int32) (l : Launch) : Cti l yX10_wantsAppeal wsX10_wantsAppeal 5 116 (fun G => [.ref (G.1 (10)), .int (x1)]) (f_X10_wantsAppeal x1) := by
  refine mk_z (cc := cX10_wantsAppeal) (nL := 2) (own := RX10) (by decide) rfl rfl (fun _ => Nat.le_of_ble_eq_true rfl) (fun X o σ rv C hR hf => ?_)
  show Bk X 2 o 0 0 0 [(0, .ref (ad X (10))), (1, .int (x1))] [] σ
  unfold f_X10_wantsAppeal at hf
  refine b_aload_n C dX10_wantsAppeal_0 rfl 0 rfl ?_
  refine b_iload_n C dX10_wantsAppeal_1 rfl 1 rfl ?_
  obtain ⟨y1, τ2, hqy1, hf⟩ := bd_inv hf
  refine b_callVi (n := 1) C (10) 10 (isObj_s (by decide) (by decide)) rfl (fun _ => [.int (x1)]) (c_X10_wantsFirst (x1)) hqy1 gX10_wantsAppeal_X10_wantsFirst rfl (by decide +kernel) rfl (by decide) (by decide) (Nat.le_of_ble_eq_true rfl) dX10_wantsAppeal_2 ?_
  refine b_if_ne C 12 dX10_wantsAppeal_5 (by decide) hf (fun hf => ?_) (fun hf => ?_)
  · refine b_iconst C (v := 0) dX10_wantsAppeal_12 (by decide) ?_
    refine b_sub [] rfl ?_
    exact w_X10_wantsAppeal_13 C hR _ _ hf
  · refine b_iconst C (v := 1) dX10_wantsAppeal_8 (by decide) ?_
    refine b_goto C 13 dX10_wantsAppeal_9 (by decide) ?_
    refine b_sub [] rfl ?_
    exact w_X10_wantsAppeal_13 C hR _ _ hf
theorem hiX10_wantsSenior_10 : ∀ w ∈ wsX100, w ∈ wsX10_wantsSenior := by decide +kernel
theorem kX10_wantsSenior_48 : Cond.fieldLink RX10 48 "ScriptRoomModel" "twice" "[Z" ∈ wsX10_wantsSenior := by decide +kernel
set_option maxHeartbeats 4000000 in
set_option maxRecDepth 100000 in
theorem w_X10_wantsSenior_35 {X : Ctx} {o : Int64} {rv : Int32 × Mem} (C : Cx X cX10_wantsSenior RX10 wsX10_wantsSenior 2 6 137) (hR : Rz X cX10_wantsSenior 2 o rv) : ∀ (s0 : Int32) (σ : Mem), some rv = f_X10_wantsSenior_35 s0 σ → Bk X 2 o 0 0 35 [] [.int (s0)] σ := by
  intro s0 σ hf
  unfold f_X10_wantsSenior_35 at hf
  exact hR _ _ _ _ dX10_wantsSenior_35 hf
set_option maxHeartbeats 4000000 in
set_option maxRecDepth 100000 in
theorem w_X10_wantsSenior_30 {X : Ctx} {o : Int64} {rv : Int32 × Mem} (C : Cx X cX10_wantsSenior RX10 wsX10_wantsSenior 2 6 137) (hR : Rz X cX10_wantsSenior 2 o rv) : ∀ (σ : Mem), some rv = f_X10_wantsSenior_30 σ → Bk X 2 o 0 0 30 [] [] σ := by
  intro σ hf
  unfold f_X10_wantsSenior_30 at hf
  refine b_iconst C (v := 1) dX10_wantsSenior_30 (by decide) ?_
  refine b_goto C 35 dX10_wantsSenior_31 (by decide) ?_
  exact w_X10_wantsSenior_35 C hR _ _ hf
set_option maxHeartbeats 4000000 in
set_option maxRecDepth 100000 in
theorem w_X10_wantsSenior_34 {X : Ctx} {o : Int64} {rv : Int32 × Mem} (C : Cx X cX10_wantsSenior RX10 wsX10_wantsSenior 2 6 137) (hR : Rz X cX10_wantsSenior 2 o rv) : ∀ (σ : Mem), some rv = f_X10_wantsSenior_34 σ → Bk X 2 o 0 0 34 [] [] σ := by
  intro σ hf
  unfold f_X10_wantsSenior_34 at hf
  refine b_iconst C (v := 0) dX10_wantsSenior_34 (by decide) ?_
  exact w_X10_wantsSenior_35 C hR _ _ hf
set_option maxHeartbeats 4000000 in
set_option maxRecDepth 100000 in
theorem c_X10_wantsSenior (x1 : Int32) (l : Launch) : Cti l yX10_wantsSenior wsX10_wantsSenior 6 137 (fun G => [.ref (G.1 (10)), .int (x1)]) (f_X10_wantsSenior x1) := by
  refine mk_z (cc := cX10_wantsSenior) (nL := 2) (own := RX10) (by decide) rfl rfl (fun _ => Nat.le_of_ble_eq_true rfl) (fun X o σ rv C hR hf => ?_)
  show Bk X 2 o 0 0 0 [(0, .ref (ad X (10))), (1, .int (x1))] [] σ
  unfold f_X10_wantsSenior at hf
  refine b_aload_n C dX10_wantsSenior_0 rfl 0 rfl ?_
  refine b_iload_n C dX10_wantsSenior_1 rfl 1 rfl ?_
  obtain ⟨y1, τ2, hqy1, hf⟩ := bd_inv hf
  refine b_callVi (n := 1) C (10) 10 (isObj_s (by decide) (by decide)) rfl (fun _ => [.int (x1)]) (c_X10_wantsAppeal (x1)) hqy1 gX10_wantsSenior_X10_wantsAppeal rfl (by decide +kernel) rfl (by decide) (by decide) (Nat.le_of_ble_eq_true rfl) dX10_wantsSenior_2 ?_
  refine b_if_ne C 30 dX10_wantsSenior_5 (by decide) hf (fun hf => ?_) (fun hf => ?_)
  · refine b_sub [] rfl ?_
    exact w_X10_wantsSenior_30 C hR _ hf
  · refine b_aload_n C dX10_wantsSenior_8 rfl 0 rfl ?_
    refine b_getR C hiX10_wantsSenior_10 10 16 (54 + 54) (by decide) (by decide) rfl (by decide) kX10_wantsSenior_48 rfl rfl dX10_wantsSenior_9 ?_
    refine b_iload_n C dX10_wantsSenior_12 rfl 1 rfl ?_
    refine b_iconst C (v := 4) dX10_wantsSenior_13 (by decide) ?_
    refine b_irem C dX10_wantsSenior_14 (by decide) ?_
    refine b_zald C 54 (by decide) rfl dX10_wantsSenior_15 hf (fun hf => ?_)
    refine b_if_eq C 34 dX10_wantsSenior_16 (by decide) hf (fun hf => ?_) (fun hf => ?_)
    · refine b_sub [] rfl ?_
      exact w_X10_wantsSenior_34 C hR _ hf
    · refine b_aload_n C dX10_wantsSenior_19 rfl 0 rfl ?_
      refine b_iload_n C dX10_wantsSenior_20 rfl 1 rfl ?_
      refine b_iconst C (v := 1) dX10_wantsSenior_21 (by decide) ?_
      refine b_iconst C (v := 0) dX10_wantsSenior_22 (by decide) ?_
      obtain ⟨y3, τ4, hqy3, hf⟩ := bd_inv hf
      refine b_callVi (n := 3) C (10) 10 (isObj_s (by decide) (by decide)) rfl (fun _ => [.int (x1), .int (1), .int (0)]) (c_X10_reading (x1) (1) (0)) hqy3 gX10_wantsSenior_X10_reading rfl (by decide +kernel) rfl (by decide) (by decide) (Nat.le_of_ble_eq_true rfl) dX10_wantsSenior_23 ?_
      refine b_iconst C (v := (-1)) dX10_wantsSenior_26 (by decide) ?_
      refine b_icmp_eq C 34 dX10_wantsSenior_27 (by decide) hf (fun hf => ?_) (fun hf => ?_)
      · refine b_sub [] rfl ?_
        exact w_X10_wantsSenior_34 C hR _ hf
      · refine b_sub [] rfl ?_
        exact w_X10_wantsSenior_30 C hR _ hf
theorem hiX10_canGive_10 : ∀ w ∈ wsX100, w ∈ wsX10_canGive := by decide +kernel
theorem kX10_canGive_158 : Cond.fieldLink RX10 158 "ScriptRoomModel" "readings" "I" ∈ wsX10_canGive := by decide +kernel
theorem kX10_canGive_57 : Cond.fieldLink RX10 57 "ScriptRoomModel" "senior" "[Z" ∈ wsX10_canGive := by decide +kernel
theorem kX10_canGive_84 : Cond.fieldLink RX10 84 "ScriptRoomModel" "answerOf" "[I" ∈ wsX10_canGive := by decide +kernel
theorem kX10_canGive_87 : Cond.fieldLink RX10 87 "ScriptRoomModel" "by" "[I" ∈ wsX10_canGive := by decide +kernel
theorem kX10_canGive_124 : Cond.fieldLink RX10 124 "ScriptRoomModel" "readers" "I" ∈ wsX10_canGive := by decide +kernel
theorem kX10_canGive_63 : Cond.fieldLink RX10 63 "ScriptRoomModel" "hand" "[I" ∈ wsX10_canGive := by decide +kernel
theorem kX10_canGive_17 : Cond.fieldLink RX10 17 "ScriptRoomModel" "school" "[I" ∈ wsX10_canGive := by decide +kernel
theorem kX10_canGive_51 : Cond.fieldLink RX10 51 "ScriptRoomModel" "from" "[I" ∈ wsX10_canGive := by decide +kernel
theorem kX10_canGive_54 : Cond.fieldLink RX10 54 "ScriptRoomModel" "questions" "[I" ∈ wsX10_canGive := by decide +kernel
theorem kX10_canGive_39 : Cond.fieldLink RX10 39 "ScriptRoomModel" "versions" "[I" ∈ wsX10_canGive := by decide +kernel
set_option maxHeartbeats 4000000 in
set_option maxRecDepth 100000 in
theorem w_X10_canGive_210 {X : Ctx} {o : Int64} {rv : Int32 × Mem} (C : Cx X cX10_canGive RX10 wsX10_canGive 7 7 158) (hR : Rz X cX10_canGive 7 o rv) : ∀ (s0 : Int32) (σ : Mem), some rv = f_X10_canGive_210 s0 σ → Bk X 7 o 0 0 210 [] [.int (s0)] σ := by
  intro s0 σ hf
  unfold f_X10_canGive_210 at hf
  exact hR _ _ _ _ dX10_canGive_210 hf
set_option maxHeartbeats 4000000 in
set_option maxRecDepth 100000 in
theorem w_X10_canGive_209 {X : Ctx} {o : Int64} {rv : Int32 × Mem} (C : Cx X cX10_canGive RX10 wsX10_canGive 7 7 158) (hR : Rz X cX10_canGive 7 o rv) : ∀ (σ : Mem), some rv = f_X10_canGive_209 σ → Bk X 7 o 0 0 209 [] [] σ := by
  intro σ hf
  unfold f_X10_canGive_209 at hf
  refine b_iconst C (v := 0) dX10_canGive_209 (by decide) ?_
  exact w_X10_canGive_210 C hR _ _ hf
set_option maxHeartbeats 4000000 in
set_option maxRecDepth 100000 in
theorem w_X10_canGive_205 {X : Ctx} {o : Int64} {rv : Int32 × Mem} (C : Cx X cX10_canGive RX10 wsX10_canGive 7 7 158) (hR : Rz X cX10_canGive 7 o rv) : ∀ (σ : Mem), some rv = f_X10_canGive_205 σ → Bk X 7 o 0 0 205 [] [] σ := by
  intro σ hf
  unfold f_X10_canGive_205 at hf
  refine b_iconst C (v := 1) dX10_canGive_205 (by decide) ?_
  refine b_goto C 210 dX10_canGive_206 (by decide) ?_
  exact w_X10_canGive_210 C hR _ _ hf
set_option maxHeartbeats 4000000 in
set_option maxRecDepth 100000 in
theorem w_X10_canGive_161 {X : Ctx} {o : Int64} {rv : Int32 × Mem} (C : Cx X cX10_canGive RX10 wsX10_canGive 7 7 158) (hR : Rz X cX10_canGive 7 o rv) (k111 : Int32 → Int32 → Int32 → Int32 → Int32 → Mem → Option (Int32 × Mem)) (h111 : ∀ (v1 v2 v4 v5 v6 : Int32) (σ : Mem), some rv = k111 v1 v2 v4 v5 v6 σ → Bk X 7 o 0 0 111 [(0, .ref (ad X (10))), (1, .int (v1)), (2, .int (v2)), (4, .int (v4)), (5, .int (v5)), (6, .int (v6))] [] σ) : ∀ (v1 v2 v5 v6 s0 : Int32) (σ : Mem), some rv = f_X10_canGive_161 k111 v1 v2 v5 v6 s0 σ → Bk X 7 o 0 0 161 [(0, .ref (ad X (10))), (1, .int (v1)), (2, .int (v2)), (5, .int (v5)), (6, .int (v6))] [.int (s0)] σ := by
  intro v1 v2 v5 v6 s0 σ hf
  unfold f_X10_canGive_161 at hf
  refine b_istore (lv' := [(4, .int (s0)), (0, .ref (ad X (10))), (1, .int (v1)), (2, .int (v2)), (5, .int (v5)), (6, .int (v6))]) C dX10_canGive_161 (by decide) rfl ?_
  refine b_iinc (v := (v6) + (1)) (lv' := [(6, .int ((v6) + (1))), (4, .int (s0)), (0, .ref (ad X (10))), (1, .int (v1)), (2, .int (v2)), (5, .int (v5))]) C dX10_canGive_163 5 rfl rfl (by decide) rfl ?_
  refine b_goto C 111 dX10_canGive_166 (by decide) ?_
  refine b_sub [2, 3, 4, 1, 5, 0] rfl ?_
  exact h111 _ _ _ _ _ _ hf
set_option maxHeartbeats 4000000 in
set_option maxRecDepth 100000 in
theorem w_X10_canGive_160 {X : Ctx} {o : Int64} {rv : Int32 × Mem} (C : Cx X cX10_canGive RX10 wsX10_canGive 7 7 158) (hR : Rz X cX10_canGive 7 o rv) (k111 : Int32 → Int32 → Int32 → Int32 → Int32 → Mem → Option (Int32 × Mem)) (h111 : ∀ (v1 v2 v4 v5 v6 : Int32) (σ : Mem), some rv = k111 v1 v2 v4 v5 v6 σ → Bk X 7 o 0 0 111 [(0, .ref (ad X (10))), (1, .int (v1)), (2, .int (v2)), (4, .int (v4)), (5, .int (v5)), (6, .int (v6))] [] σ) : ∀ (v1 v2 v5 v6 : Int32) (σ : Mem), some rv = f_X10_canGive_160 k111 v1 v2 v5 v6 σ → Bk X 7 o 0 0 160 [(0, .ref (ad X (10))), (1, .int (v1)), (2, .int (v2)), (5, .int (v5)), (6, .int (v6))] [] σ := by
  intro v1 v2 v5 v6 σ hf
  unfold f_X10_canGive_160 at hf
  refine b_iconst C (v := 0) dX10_canGive_160 (by decide) ?_
  exact w_X10_canGive_161 C hR k111 h111 _ _ _ _ _ _ hf
set_option maxHeartbeats 4000000 in
set_option maxRecDepth 100000 in
theorem w_X10_canGive_156 {X : Ctx} {o : Int64} {rv : Int32 × Mem} (C : Cx X cX10_canGive RX10 wsX10_canGive 7 7 158) (hR : Rz X cX10_canGive 7 o rv) (k111 : Int32 → Int32 → Int32 → Int32 → Int32 → Mem → Option (Int32 × Mem)) (h111 : ∀ (v1 v2 v4 v5 v6 : Int32) (σ : Mem), some rv = k111 v1 v2 v4 v5 v6 σ → Bk X 7 o 0 0 111 [(0, .ref (ad X (10))), (1, .int (v1)), (2, .int (v2)), (4, .int (v4)), (5, .int (v5)), (6, .int (v6))] [] σ) : ∀ (v1 v2 v5 v6 : Int32) (σ : Mem), some rv = f_X10_canGive_156 k111 v1 v2 v5 v6 σ → Bk X 7 o 0 0 156 [(0, .ref (ad X (10))), (1, .int (v1)), (2, .int (v2)), (5, .int (v5)), (6, .int (v6))] [] σ := by
  intro v1 v2 v5 v6 σ hf
  unfold f_X10_canGive_156 at hf
  refine b_iconst C (v := 1) dX10_canGive_156 (by decide) ?_
  refine b_goto C 161 dX10_canGive_157 (by decide) ?_
  exact w_X10_canGive_161 C hR k111 h111 _ _ _ _ _ _ hf
set_option maxHeartbeats 4000000 in
set_option maxRecDepth 100000 in
theorem w_X10_canGive_111 {X : Ctx} {o : Int64} {rv : Int32 × Mem} (C : Cx X cX10_canGive RX10 wsX10_canGive 7 7 158) (hR : Rz X cX10_canGive 7 o rv) : ∀ (n : Nat) (v1 v2 v4 v5 v6 : Int32) (σ : Mem), some rv = f_X10_canGive_111 n v1 v2 v4 v5 v6 σ → Bk X 7 o 0 0 111 [(0, .ref (ad X (10))), (1, .int (v1)), (2, .int (v2)), (4, .int (v4)), (5, .int (v5)), (6, .int (v6))] [] σ := by
  intro n
  induction n with
  | zero =>
    intro v1 v2 v4 v5 v6 σ hf
    rw [f_X10_canGive_111] at hf
    cases hf
  | succ n ih =>
    intro v1 v2 v4 v5 v6 σ hf
    rw [f_X10_canGive_111] at hf
    refine b_iload C dX10_canGive_111 5 rfl ?_
    refine b_aload_n C dX10_canGive_113 rfl 0 rfl ?_
    refine b_getS C hiX10_canGive_10 10 30 29 (by decide) (by decide) rfl (by decide) kX10_canGive_158 rfl rfl dX10_canGive_114 ?_
    refine b_icmp_ge C 169 dX10_canGive_117 (by decide) hf (fun hf => ?_) (fun hf => ?_)
    · refine b_aload_n C dX10_canGive_169 rfl 0 rfl ?_
      refine b_iload_n C dX10_canGive_170 rfl 2 rfl ?_
      obtain ⟨y1, τ2, hqy1, hf⟩ := bd_inv hf
      refine b_callVi (n := 1) C (10) 10 (isObj_s (by decide) (by decide)) rfl (fun _ => [.int (v2)]) (c_X10_wants (v2)) hqy1 gX10_canGive_X10_wants rfl (by decide +kernel) rfl (by decide) (by decide) (Nat.le_of_ble_eq_true rfl) dX10_canGive_171 ?_
      refine b_istore (lv' := [(6, .int (y1)), (0, .ref (ad X (10))), (1, .int (v1)), (2, .int (v2)), (4, .int (v4)), (5, .int (v5))]) C dX10_canGive_174 (by decide) rfl ?_
      refine b_iload C dX10_canGive_176 4 rfl ?_
      refine b_if_eq C 209 dX10_canGive_178 (by decide) hf (fun hf => ?_) (fun hf => ?_)
      · refine b_sub [] rfl ?_
        exact w_X10_canGive_209 C hR _ hf
      · refine b_iload C dX10_canGive_181 0 rfl ?_
        refine b_iload C dX10_canGive_183 5 rfl ?_
        refine b_icmp_le C 209 dX10_canGive_185 (by decide) hf (fun hf => ?_) (fun hf => ?_)
        · refine b_sub [] rfl ?_
          exact w_X10_canGive_209 C hR _ hf
        · refine b_aload_n C dX10_canGive_188 rfl 1 rfl ?_
          refine b_getR C hiX10_canGive_10 10 20 (54 + 57) (by decide) (by decide) rfl (by decide) kX10_canGive_57 rfl rfl dX10_canGive_189 ?_
          refine b_iload_n C dX10_canGive_192 rfl 2 rfl ?_
          refine b_zald C 57 (by decide) rfl dX10_canGive_193 hf (fun hf => ?_)
          refine b_if_ne C 205 dX10_canGive_194 (by decide) hf (fun hf => ?_) (fun hf => ?_)
          · refine b_sub [] rfl ?_
            exact w_X10_canGive_205 C hR _ hf
          · refine b_aload_n C dX10_canGive_197 rfl 1 rfl ?_
            refine b_iload_n C dX10_canGive_198 rfl 3 rfl ?_
            obtain ⟨y3, τ4, hqy3, hf⟩ := bd_inv hf
            refine b_callVi (n := 1) C (10) 10 (isObj_s (by decide) (by decide)) rfl (fun _ => [.int (v2)]) (c_X10_wantsSenior (v2)) hqy3 gX10_canGive_X10_wantsSenior rfl (by decide +kernel) rfl (by decide) (by decide) (Nat.le_of_ble_eq_true rfl) dX10_canGive_199 ?_
            refine b_if_ne C 209 dX10_canGive_202 (by decide) hf (fun hf => ?_) (fun hf => ?_)
            · refine b_sub [] rfl ?_
              exact w_X10_canGive_209 C hR _ hf
            · refine b_sub [] rfl ?_
              exact w_X10_canGive_205 C hR _ hf
    · refine b_iload C dX10_canGive_120 3 rfl ?_
      refine b_if_eq C 160 dX10_canGive_122 (by decide) hf (fun hf => ?_) (fun hf => ?_)
      · refine b_sub [0, 1, 2, 4, 5] rfl ?_
        exact w_X10_canGive_160 C hR (f_X10_canGive_111 n) ih _ _ _ _ _ hf
      · refine b_aload_n C dX10_canGive_125 rfl 0 rfl ?_
        refine b_getR C hiX10_canGive_10 10 31 (54 + 66) (by decide) (by decide) rfl (by decide) kX10_canGive_84 rfl rfl dX10_canGive_126 ?_
        refine b_iload C dX10_canGive_129 5 rfl ?_
        refine b_iald C 66 (by decide) rfl dX10_canGive_131 hf (fun hf => ?_)
        refine b_iload_n C dX10_canGive_132 rfl 2 rfl ?_
        refine b_icmp_ne C 156 dX10_canGive_133 (by decide) hf (fun hf => ?_) (fun hf => ?_)
        · refine b_sub [0, 1, 2, 4, 5] rfl ?_
          exact w_X10_canGive_156 C hR (f_X10_canGive_111 n) ih _ _ _ _ _ hf
        · refine b_aload_n C dX10_canGive_136 rfl 0 rfl ?_
          refine b_getR C hiX10_canGive_10 10 32 (54 + 67) (by decide) (by decide) rfl (by decide) kX10_canGive_87 rfl rfl dX10_canGive_137 ?_
          refine b_iload C dX10_canGive_140 5 rfl ?_
          refine b_iald C 67 (by decide) rfl dX10_canGive_142 hf (fun hf => ?_)
          refine b_iload_n C dX10_canGive_143 rfl 1 rfl ?_
          refine b_icmp_ne C 156 dX10_canGive_144 (by decide) hf (fun hf => ?_) (fun hf => ?_)
          · refine b_sub [0, 1, 2, 4, 5] rfl ?_
            exact w_X10_canGive_156 C hR (f_X10_canGive_111 n) ih _ _ _ _ _ hf
          · refine b_aload_n C dX10_canGive_147 rfl 0 rfl ?_
            refine b_iload C dX10_canGive_148 5 rfl ?_
            obtain ⟨y5, τ6, hqy5, hf⟩ := bd_inv hf
            refine b_callVi (n := 1) C (10) 10 (isObj_s (by decide) (by decide)) rfl (fun _ => [.int (v6)]) (c_X10_counts (v6)) hqy5 gX10_canGive_X10_counts rfl (by decide +kernel) rfl (by decide) (by decide) (Nat.le_of_ble_eq_true rfl) dX10_canGive_150 ?_
            refine b_if_ne C 160 dX10_canGive_153 (by decide) hf (fun hf => ?_) (fun hf => ?_)
            · refine b_sub [0, 1, 2, 4, 5] rfl ?_
              exact w_X10_canGive_160 C hR (f_X10_canGive_111 n) ih _ _ _ _ _ hf
            · refine b_sub [0, 1, 2, 4, 5] rfl ?_
              exact w_X10_canGive_156 C hR (f_X10_canGive_111 n) ih _ _ _ _ _ hf
set_option maxHeartbeats 4000000 in
set_option maxRecDepth 100000 in
theorem w_X10_canGive_99 {X : Ctx} {o : Int64} {rv : Int32 × Mem} (C : Cx X cX10_canGive RX10 wsX10_canGive 7 7 158) (hR : Rz X cX10_canGive 7 o rv) (k72 : Int32 → Int32 → Int32 → Int32 → Int32 → Mem → Option (Int32 × Mem)) (h72 : ∀ (v1 v2 v4 v5 v6 : Int32) (σ : Mem), some rv = k72 v1 v2 v4 v5 v6 σ → Bk X 7 o 0 0 72 [(0, .ref (ad X (10))), (1, .int (v1)), (2, .int (v2)), (4, .int (v4)), (5, .int (v5)), (6, .int (v6))] [] σ) : ∀ (v1 v2 v4 v6 s0 s1 : Int32) (σ : Mem), some rv = f_X10_canGive_99 k72 v1 v2 v4 v6 s0 s1 σ → Bk X 7 o 0 0 99 [(0, .ref (ad X (10))), (1, .int (v1)), (2, .int (v2)), (4, .int (v4)), (6, .int (v6))] [.int (s0), .int (s1)] σ := by
  intro v1 v2 v4 v6 s0 s1 σ hf
  unfold f_X10_canGive_99 at hf
  refine b_iadd C dX10_canGive_99 ?_
  refine b_nv hf (fun y7 hf => ?_)
  refine b_istore (lv' := [(5, .int (y7)), (0, .ref (ad X (10))), (1, .int (v1)), (2, .int (v2)), (4, .int (v4)), (6, .int (v6))]) C dX10_canGive_100 (by decide) rfl ?_
  refine b_iinc (v := (v6) + (1)) (lv' := [(6, .int ((v6) + (1))), (5, .int (y7)), (0, .ref (ad X (10))), (1, .int (v1)), (2, .int (v2)), (4, .int (v4))]) C dX10_canGive_102 5 rfl rfl (by decide) rfl ?_
  refine b_goto C 72 dX10_canGive_105 (by decide) ?_
  refine b_sub [2, 3, 4, 5, 1, 0] rfl ?_
  exact h72 _ _ _ _ _ _ hf
set_option maxHeartbeats 4000000 in
set_option maxRecDepth 100000 in
theorem w_X10_canGive_72 {X : Ctx} {o : Int64} {rv : Int32 × Mem} (C : Cx X cX10_canGive RX10 wsX10_canGive 7 7 158) (hR : Rz X cX10_canGive 7 o rv) : ∀ (n : Nat) (v1 v2 v4 v5 v6 : Int32) (σ : Mem), some rv = f_X10_canGive_72 n v1 v2 v4 v5 v6 σ → Bk X 7 o 0 0 72 [(0, .ref (ad X (10))), (1, .int (v1)), (2, .int (v2)), (4, .int (v4)), (5, .int (v5)), (6, .int (v6))] [] σ := by
  intro n
  induction n with
  | zero =>
    intro v1 v2 v4 v5 v6 σ hf
    rw [f_X10_canGive_72] at hf
    cases hf
  | succ n ih =>
    intro v1 v2 v4 v5 v6 σ hf
    rw [f_X10_canGive_72] at hf
    refine b_iload C dX10_canGive_72 5 rfl ?_
    refine b_aload_n C dX10_canGive_74 rfl 0 rfl ?_
    refine b_getS C hiX10_canGive_10 10 17 27 (by decide) (by decide) rfl (by decide) kX10_canGive_124 rfl rfl dX10_canGive_75 ?_
    refine b_icmp_ge C 108 dX10_canGive_78 (by decide) hf (fun hf => ?_) (fun hf => ?_)
    · refine b_iconst C (v := 0) dX10_canGive_108 (by decide) ?_
      refine b_istore (lv' := [(6, .int (0)), (0, .ref (ad X (10))), (1, .int (v1)), (2, .int (v2)), (4, .int (v4)), (5, .int (v5))]) C dX10_canGive_109 (by decide) rfl ?_
      refine b_sub [1, 2, 3, 4, 5, 0] rfl ?_
      exact w_X10_canGive_111 C hR FUEL _ _ _ _ _ _ hf
    · refine b_iload C dX10_canGive_81 4 rfl ?_
      refine b_aload_n C dX10_canGive_83 rfl 0 rfl ?_
      refine b_getR C hiX10_canGive_10 10 22 (54 + 59) (by decide) (by decide) rfl (by decide) kX10_canGive_63 rfl rfl dX10_canGive_84 ?_
      refine b_iload C dX10_canGive_87 5 rfl ?_
      refine b_iald C 59 (by decide) rfl dX10_canGive_89 hf (fun hf => ?_)
      refine b_iload_n C dX10_canGive_90 rfl 2 rfl ?_
      refine b_icmp_ne C 98 dX10_canGive_91 (by decide) hf (fun hf => ?_) (fun hf => ?_)
      · refine b_iconst C (v := 0) dX10_canGive_98 (by decide) ?_
        refine b_sub [0, 1, 2, 3, 5] rfl ?_
        exact w_X10_canGive_99 C hR (f_X10_canGive_72 n) ih _ _ _ _ _ _ _ hf
      · refine b_iconst C (v := 1) dX10_canGive_94 (by decide) ?_
        refine b_goto C 99 dX10_canGive_95 (by decide) ?_
        refine b_sub [0, 1, 2, 3, 5] rfl ?_
        exact w_X10_canGive_99 C hR (f_X10_canGive_72 n) ih _ _ _ _ _ _ _ hf
set_option maxHeartbeats 4000000 in
set_option maxRecDepth 100000 in
theorem w_X10_canGive_57 {X : Ctx} {o : Int64} {rv : Int32 × Mem} (C : Cx X cX10_canGive RX10 wsX10_canGive 7 7 158) (hR : Rz X cX10_canGive 7 o rv) : ∀ (v1 v2 s0 : Int32) (σ : Mem), some rv = f_X10_canGive_57 v1 v2 s0 σ → Bk X 7 o 0 0 57 [(0, .ref (ad X (10))), (1, .int (v1)), (2, .int (v2))] [.int (s0)] σ := by
  intro v1 v2 s0 σ hf
  unfold f_X10_canGive_57 at hf
  refine b_istore (lv' := [(4, .int (s0)), (0, .ref (ad X (10))), (1, .int (v1)), (2, .int (v2))]) C dX10_canGive_57 (by decide) rfl ?_
  refine b_iload C dX10_canGive_59 0 rfl ?_
  refine b_if_ne C 66 dX10_canGive_61 (by decide) hf (fun hf => ?_) (fun hf => ?_)
  · refine b_iconst C (v := 0) dX10_canGive_66 (by decide) ?_
    refine b_istore (lv' := [(5, .int (0)), (4, .int (s0)), (0, .ref (ad X (10))), (1, .int (v1)), (2, .int (v2))]) C dX10_canGive_67 (by decide) rfl ?_
    refine b_iconst C (v := 0) dX10_canGive_69 (by decide) ?_
    refine b_istore (lv' := [(6, .int (0)), (5, .int (0)), (4, .int (s0)), (0, .ref (ad X (10))), (1, .int (v1)), (2, .int (v2))]) C dX10_canGive_70 (by decide) rfl ?_
    refine b_sub [3, 4, 5, 2, 1, 0] rfl ?_
    exact w_X10_canGive_72 C hR FUEL _ _ _ _ _ _ hf
  · refine b_iconst C (v := 0) dX10_canGive_64 (by decide) ?_
    exact hR _ _ _ _ dX10_canGive_65 hf
set_option maxHeartbeats 4000000 in
set_option maxRecDepth 100000 in
theorem w_X10_canGive_56 {X : Ctx} {o : Int64} {rv : Int32 × Mem} (C : Cx X cX10_canGive RX10 wsX10_canGive 7 7 158) (hR : Rz X cX10_canGive 7 o rv) : ∀ (v1 v2 : Int32) (σ : Mem), some rv = f_X10_canGive_56 v1 v2 σ → Bk X 7 o 0 0 56 [(0, .ref (ad X (10))), (1, .int (v1)), (2, .int (v2))] [] σ := by
  intro v1 v2 σ hf
  unfold f_X10_canGive_56 at hf
  refine b_iconst C (v := 0) dX10_canGive_56 (by decide) ?_
  exact w_X10_canGive_57 C hR _ _ _ _ hf
set_option maxHeartbeats 4000000 in
set_option maxRecDepth 100000 in
theorem c_X10_canGive (x1 x2 : Int32) (l : Launch) : Cti l yX10_canGive wsX10_canGive 7 158 (fun G => [.ref (G.1 (10)), .int (x1), .int (x2)]) (f_X10_canGive x1 x2) := by
  refine mk_z (cc := cX10_canGive) (nL := 7) (own := RX10) (by decide) rfl rfl (fun _ => Nat.le_of_ble_eq_true rfl) (fun X o σ rv C hR hf => ?_)
  show Bk X 7 o 0 0 0 [(0, .ref (ad X (10))), (1, .int (x1)), (2, .int (x2))] [] σ
  unfold f_X10_canGive at hf
  refine b_iload_n C dX10_canGive_0 rfl 2 rfl ?_
  refine b_iconst C (v := 4) dX10_canGive_1 (by decide) ?_
  refine b_irem C dX10_canGive_2 (by decide) ?_
  refine b_nv hf (fun y8 hf => ?_)
  refine b_istore_n (lv' := [(3, .int (y8)), (0, .ref (ad X (10))), (1, .int (x1)), (2, .int (x2))]) C dX10_canGive_3 rfl (by decide) rfl ?_
  refine b_aload_n C dX10_canGive_4 rfl 1 rfl ?_
  refine b_iload_n C dX10_canGive_5 rfl 3 rfl ?_
  obtain ⟨y9, τ10, hqy9, hf⟩ := bd_inv hf
  refine b_callVi (n := 1) C (10) 10 (isObj_s (by decide) (by decide)) rfl (fun _ => [.int (x2)]) (c_X10_hasAnswer (x2)) hqy9 gX10_canGive_X10_hasAnswer rfl (by decide +kernel) rfl (by decide) (by decide) (Nat.le_of_ble_eq_true rfl) dX10_canGive_6 ?_
  refine b_if_eq C 56 dX10_canGive_9 (by decide) hf (fun hf => ?_) (fun hf => ?_)
  · refine b_sub [1, 2, 3] rfl ?_
    exact w_X10_canGive_56 C hR _ _ _ hf
  · refine b_aload_n C dX10_canGive_12 rfl 1 rfl ?_
    refine b_getR C hiX10_canGive_10 10 5 (54 + 44) (by decide) (by decide) rfl (by decide) kX10_canGive_17 rfl rfl dX10_canGive_13 ?_
    refine b_iload_n C dX10_canGive_16 rfl 3 rfl ?_
    refine b_iconst C (v := 4) dX10_canGive_17 (by decide) ?_
    refine b_idiv C dX10_canGive_18 (by decide) ?_
    refine b_iald C 44 (by decide) rfl dX10_canGive_19 hf (fun hf => ?_)
    refine b_aload_n C dX10_canGive_20 rfl 1 rfl ?_
    refine b_getR C hiX10_canGive_10 10 18 (54 + 55) (by decide) (by decide) rfl (by decide) kX10_canGive_51 rfl rfl dX10_canGive_21 ?_
    refine b_iload_n C dX10_canGive_24 rfl 2 rfl ?_
    refine b_iald C 55 (by decide) rfl dX10_canGive_25 hf (fun hf => ?_)
    refine b_icmp_eq C 56 dX10_canGive_26 (by decide) hf (fun hf => ?_) (fun hf => ?_)
    · refine b_sub [1, 2, 3] rfl ?_
      exact w_X10_canGive_56 C hR _ _ _ hf
    · refine b_aload_n C dX10_canGive_29 rfl 1 rfl ?_
      refine b_getR C hiX10_canGive_10 10 19 (54 + 56) (by decide) (by decide) rfl (by decide) kX10_canGive_54 rfl rfl dX10_canGive_30 ?_
      refine b_iload_n C dX10_canGive_33 rfl 2 rfl ?_
      refine b_iald C 56 (by decide) rfl dX10_canGive_34 hf (fun hf => ?_)
      refine b_iload_n C dX10_canGive_35 rfl 0 rfl ?_
      refine b_ishr C dX10_canGive_36 ?_
      refine b_iconst C (v := 1) dX10_canGive_37 (by decide) ?_
      refine b_iand C dX10_canGive_38 ?_
      refine b_iconst C (v := 1) dX10_canGive_39 (by decide) ?_
      refine b_icmp_ne C 56 dX10_canGive_40 (by decide) hf (fun hf => ?_) (fun hf => ?_)
      · refine b_sub [1, 2, 3] rfl ?_
        exact w_X10_canGive_56 C hR _ _ _ hf
      · refine b_aload_n C dX10_canGive_43 rfl 1 rfl ?_
        refine b_getR C hiX10_canGive_10 10 13 (54 + 51) (by decide) (by decide) rfl (by decide) kX10_canGive_39 rfl rfl dX10_canGive_44 ?_
        refine b_iload_n C dX10_canGive_47 rfl 0 rfl ?_
        refine b_iald C 51 (by decide) rfl dX10_canGive_48 hf (fun hf => ?_)
        refine b_if_le C 56 dX10_canGive_49 (by decide) hf (fun hf => ?_) (fun hf => ?_)
        · refine b_sub [1, 2, 3] rfl ?_
          exact w_X10_canGive_56 C hR _ _ _ hf
        · refine b_iconst C (v := 1) dX10_canGive_52 (by decide) ?_
          refine b_goto C 57 dX10_canGive_53 (by decide) ?_
          refine b_sub [1, 2, 3] rfl ?_
          exact w_X10_canGive_57 C hR _ _ _ _ hf
theorem hiX10_handed_10 : ∀ w ∈ wsX100, w ∈ wsX10_handed := by decide +kernel
theorem kX10_handed_63 : Cond.fieldLink RX10 63 "ScriptRoomModel" "hand" "[I" ∈ wsX10_handed := by decide +kernel
theorem kX10_handed_78 : Cond.fieldLink RX10 78 "ScriptRoomModel" "seedOf" "[I" ∈ wsX10_handed := by decide +kernel
set_option maxHeartbeats 4000000 in
set_option maxRecDepth 100000 in
theorem w_X10_handed_66 {X : Ctx} {o : Int64} {rv : Int32 × Mem} (C : Cx X cX10_handed RX10 wsX10_handed 2 0 0) (hR : Rt X cX10_handed 2 o rv) : ∀ (s0 : Int32) (σ : Mem), some rv = f_X10_handed_66 s0 σ → Bk X 2 o 0 0 66 [] [.int (s0)] σ := by
  intro s0 σ hf
  unfold f_X10_handed_66 at hf
  exact hR _ _ _ _ dX10_handed_66 hf
set_option maxHeartbeats 4000000 in
set_option maxRecDepth 100000 in
theorem c_X10_handed (x1 : Int32) (l : Launch) : Cti l yX10_handed wsX10_handed 0 0 (fun G => [.ref (G.1 (10)), .int (x1)]) (f_X10_handed x1) := by
  refine mk_i (cc := cX10_handed) (nL := 2) (own := RX10) (by decide) rfl rfl (fun _ => Nat.le_of_ble_eq_true rfl) (fun X o σ rv C hR hf => ?_)
  show Bk X 2 o 0 0 0 [(0, .ref (ad X (10))), (1, .int (x1))] [] σ
  unfold f_X10_handed at hf
  refine b_aload_n C dX10_handed_0 rfl 0 rfl ?_
  refine b_getR C hiX10_handed_10 10 22 (54 + 59) (by decide) (by decide) rfl (by decide) kX10_handed_63 rfl rfl dX10_handed_1 ?_
  refine b_iload_n C dX10_handed_4 rfl 1 rfl ?_
  refine b_iald C 59 (by decide) rfl dX10_handed_5 hf (fun hf => ?_)
  refine b_iconst C (v := (-1)) dX10_handed_6 (by decide) ?_
  refine b_icmp_ne C 14 dX10_handed_7 (by decide) hf (fun hf => ?_) (fun hf => ?_)
  · refine b_aload_n C dX10_handed_14 rfl 0 rfl ?_
    refine b_getR C hiX10_handed_10 10 22 (54 + 59) (by decide) (by decide) rfl (by decide) kX10_handed_63 rfl rfl dX10_handed_15 ?_
    refine b_iload_n C dX10_handed_18 rfl 1 rfl ?_
    refine b_iald C 59 (by decide) rfl dX10_handed_19 hf (fun hf => ?_)
    refine b_bipush C (v := 100) dX10_handed_20 (by decide) ?_
    refine b_icmp_lt C 46 dX10_handed_22 (by decide) hf (fun hf => ?_) (fun hf => ?_)
    · refine b_aload_n C dX10_handed_46 rfl 0 rfl ?_
      refine b_getR C hiX10_handed_10 10 22 (54 + 59) (by decide) (by decide) rfl (by decide) kX10_handed_63 rfl rfl dX10_handed_47 ?_
      refine b_iload_n C dX10_handed_50 rfl 1 rfl ?_
      refine b_iald C 59 (by decide) rfl dX10_handed_51 hf (fun hf => ?_)
      refine b_iconst C (v := 4) dX10_handed_52 (by decide) ?_
      refine b_idiv C dX10_handed_53 (by decide) ?_
      refine b_bipush C (v := 10) dX10_handed_54 (by decide) ?_
      refine b_imul C dX10_handed_56 ?_
      refine b_aload_n C dX10_handed_57 rfl 0 rfl ?_
      refine b_getR C hiX10_handed_10 10 22 (54 + 59) (by decide) (by decide) rfl (by decide) kX10_handed_63 rfl rfl dX10_handed_58 ?_
      refine b_iload_n C dX10_handed_61 rfl 1 rfl ?_
      refine b_iald C 59 (by decide) rfl dX10_handed_62 hf (fun hf => ?_)
      refine b_iconst C (v := 4) dX10_handed_63 (by decide) ?_
      refine b_irem C dX10_handed_64 (by decide) ?_
      refine b_iadd C dX10_handed_65 ?_
      refine b_sub [] rfl ?_
      exact w_X10_handed_66 C hR _ _ hf
    · refine b_sipush C (v := 1000) dX10_handed_25 (by decide) ?_
      refine b_aload_n C dX10_handed_28 rfl 0 rfl ?_
      refine b_getR C hiX10_handed_10 10 28 (54 + 64) (by decide) (by decide) rfl (by decide) kX10_handed_78 rfl rfl dX10_handed_29 ?_
      refine b_aload_n C dX10_handed_32 rfl 0 rfl ?_
      refine b_getR C hiX10_handed_10 10 22 (54 + 59) (by decide) (by decide) rfl (by decide) kX10_handed_63 rfl rfl dX10_handed_33 ?_
      refine b_iload_n C dX10_handed_36 rfl 1 rfl ?_
      refine b_iald C 59 (by decide) rfl dX10_handed_37 hf (fun hf => ?_)
      refine b_bipush C (v := 100) dX10_handed_38 (by decide) ?_
      refine b_isub C dX10_handed_40 ?_
      refine b_iald C 64 (by decide) rfl dX10_handed_41 hf (fun hf => ?_)
      refine b_iadd C dX10_handed_42 ?_
      refine b_goto C 66 dX10_handed_43 (by decide) ?_
      refine b_sub [] rfl ?_
      exact w_X10_handed_66 C hR _ _ hf
  · refine b_iconst C (v := (-1)) dX10_handed_10 (by decide) ?_
    refine b_goto C 66 dX10_handed_11 (by decide) ?_
    refine b_sub [] rfl ?_
    exact w_X10_handed_66 C hR _ _ hf
theorem hiX10_next_10 : ∀ w ∈ wsX100, w ∈ wsX10_next := by decide +kernel
theorem kX10_next_63 : Cond.fieldLink RX10 63 "ScriptRoomModel" "hand" "[I" ∈ wsX10_next := by decide +kernel
theorem kX10_next_66 : Cond.fieldLink RX10 66 "ScriptRoomModel" "handAppeal" "[Z" ∈ wsX10_next := by decide +kernel
theorem kX10_next_117 : Cond.fieldLink RX10 117 "ScriptRoomModel" "pupils" "I" ∈ wsX10_next := by decide +kernel
theorem kX10_next_23 : Cond.fieldLink RX10 23 "ScriptRoomModel" "urgent" "[Z" ∈ wsX10_next := by decide +kernel
theorem kX10_next_148 : Cond.fieldLink RX10 148 "ScriptRoomModel" "seeds" "I" ∈ wsX10_next := by decide +kernel
theorem kX10_next_69 : Cond.fieldLink RX10 69 "ScriptRoomModel" "since" "[I" ∈ wsX10_next := by decide +kernel
theorem kX10_next_75 : Cond.fieldLink RX10 75 "ScriptRoomModel" "given" "[I" ∈ wsX10_next := by decide +kernel
theorem kX10_next_54 : Cond.fieldLink RX10 54 "ScriptRoomModel" "questions" "[I" ∈ wsX10_next := by decide +kernel
theorem kX10_next_78 : Cond.fieldLink RX10 78 "ScriptRoomModel" "seedOf" "[I" ∈ wsX10_next := by decide +kernel
theorem kX10_next_60 : Cond.fieldLink RX10 60 "ScriptRoomModel" "stopped" "[Z" ∈ wsX10_next := by decide +kernel
set_option maxHeartbeats 4000000 in
set_option maxRecDepth 100000 in
theorem w_X10_next_220 {X : Ctx} {o : Int64} {rv : Int32 × Mem} (C : Cx X cX10_next RX10 wsX10_next 5 8 184) (hR : Rt X cX10_next 5 o rv) : ∀ (v1 : Int32) (σ : Mem), some rv = f_X10_next_220 v1 σ → Bk X 5 o 0 0 220 [(0, .ref (ad X (10))), (1, .int (v1))] [] σ := by
  intro v1 σ hf
  unfold f_X10_next_220 at hf
  refine b_aload_n C dX10_next_220 rfl 0 rfl ?_
  refine b_iload_n C dX10_next_221 rfl 1 rfl ?_
  obtain ⟨y1, τ2, hqy1, hf⟩ := bd_inv hf
  refine b_callVi (n := 1) C (10) 10 (isObj_s (by decide) (by decide)) rfl (fun _ => [.int (v1)]) (c_X10_handed (v1)) hqy1 gX10_next_X10_handed rfl (by decide +kernel) rfl (by decide) (by decide) (Nat.le_of_ble_eq_true rfl) dX10_next_222 ?_
  exact hR _ _ _ _ dX10_next_225 hf
set_option maxHeartbeats 4000000 in
set_option maxRecDepth 100000 in
theorem w_X10_next_214 {X : Ctx} {o : Int64} {rv : Int32 × Mem} (C : Cx X cX10_next RX10 wsX10_next 5 8 184) (hR : Rt X cX10_next 5 o rv) (k126 : Int32 → Int32 → Mem → Option (Int32 × Mem)) (h126 : ∀ (v1 v3 : Int32) (σ : Mem), some rv = k126 v1 v3 σ → Bk X 5 o 0 0 126 [(0, .ref (ad X (10))), (1, .int (v1)), (3, .int (v3))] [] σ) : ∀ (v1 v3 : Int32) (σ : Mem), some rv = f_X10_next_214 k126 v1 v3 σ → Bk X 5 o 0 0 214 [(0, .ref (ad X (10))), (1, .int (v1)), (3, .int (v3))] [] σ := by
  intro v1 v3 σ hf
  unfold f_X10_next_214 at hf
  refine b_iinc (v := (v3) + (1)) (lv' := [(3, .int ((v3) + (1))), (0, .ref (ad X (10))), (1, .int (v1))]) C dX10_next_214 2 rfl rfl (by decide) rfl ?_
  refine b_goto C 126 dX10_next_217 (by decide) ?_
  refine b_sub [1, 2, 0] rfl ?_
  exact h126 _ _ _ hf
set_option maxHeartbeats 4000000 in
set_option maxRecDepth 100000 in
theorem w_X10_next_181 {X : Ctx} {o : Int64} {rv : Int32 × Mem} (C : Cx X cX10_next RX10 wsX10_next 5 8 184) (hR : Rt X cX10_next 5 o rv) (k126 : Int32 → Int32 → Mem → Option (Int32 × Mem)) (h126 : ∀ (v1 v3 : Int32) (σ : Mem), some rv = k126 v1 v3 σ → Bk X 5 o 0 0 126 [(0, .ref (ad X (10))), (1, .int (v1)), (3, .int (v3))] [] σ) : ∀ (v1 v3 v4 s0 s1 : Int32) (σ : Mem), some rv = f_X10_next_181 k126 v1 v3 v4 s0 s1 σ → Bk X 5 o 0 0 181 [(0, .ref (ad X (10))), (1, .int (v1)), (3, .int (v3)), (4, .int (v4))] [.int (s0), .int (s1)] σ := by
  intro v1 v3 v4 s0 s1 σ hf
  unfold f_X10_next_181 at hf
  refine b_icmp_ne C 214 dX10_next_181 (by decide) hf (fun hf => ?_) (fun hf => ?_)
  · refine b_sub [0, 1, 2] rfl ?_
    exact w_X10_next_214 C hR k126 h126 _ _ _ hf
  · refine b_aload_n C dX10_next_184 rfl 0 rfl ?_
    refine b_iload_n C dX10_next_185 rfl 1 rfl ?_
    refine b_iload C dX10_next_186 3 rfl ?_
    obtain ⟨y3, τ4, hqy3, hf⟩ := bd_inv hf
    refine b_callVi (n := 2) C (10) 10 (isObj_s (by decide) (by decide)) rfl (fun _ => [.int (v1), .int (v4)]) (c_X10_canGive (v1) (v4)) hqy3 gX10_next_X10_canGive rfl (by decide +kernel) rfl (by decide) (by decide) (Nat.le_of_ble_eq_true rfl) dX10_next_188 ?_
    refine b_if_eq C 214 dX10_next_191 (by decide) hf (fun hf => ?_) (fun hf => ?_)
    · refine b_sub [0, 1, 2] rfl ?_
      exact w_X10_next_214 C hR k126 h126 _ _ _ hf
    · refine b_aload_n C dX10_next_194 rfl 0 rfl ?_
      refine b_getR C hiX10_next_10 10 22 (54 + 59) (by decide) (by decide) rfl (by decide) kX10_next_63 rfl rfl dX10_next_195 ?_
      refine b_iload_n C dX10_next_198 rfl 1 rfl ?_
      refine b_iload C dX10_next_199 3 rfl ?_
      refine b_iast C 59 (by decide) rfl dX10_next_201 hf (fun hf => ?_)
      refine b_nw hf (fun τ5 hf => ?_)
      refine b_aload_n C dX10_next_202 rfl 0 rfl ?_
      refine b_getR C hiX10_next_10 10 23 (54 + 60) (by decide) (by decide) rfl (by decide) kX10_next_66 rfl rfl dX10_next_203 ?_
      refine b_iload_n C dX10_next_206 rfl 1 rfl ?_
      refine b_aload_n C dX10_next_207 rfl 0 rfl ?_
      refine b_iload C dX10_next_208 3 rfl ?_
      obtain ⟨y6, τ7, hqy6, hf⟩ := bd_inv hf
      refine b_callVi (n := 1) C (10) 10 (isObj_s (by decide) (by decide)) rfl (fun _ => [.int (v4)]) (c_X10_wantsAppeal (v4)) hqy6 gX10_next_X10_wantsAppeal rfl (by decide +kernel) rfl (by decide) (by decide) (Nat.le_of_ble_eq_true rfl) dX10_next_210 ?_
      refine b_zast C 60 (by decide) rfl dX10_next_213 hf (fun hf => ?_)
      refine b_nw hf (fun τ8 hf => ?_)
      refine b_sub [0, 1, 2] rfl ?_
      exact w_X10_next_214 C hR k126 h126 _ _ _ hf
set_option maxHeartbeats 4000000 in
set_option maxRecDepth 100000 in
theorem w_X10_next_126 {X : Ctx} {o : Int64} {rv : Int32 × Mem} (C : Cx X cX10_next RX10 wsX10_next 5 8 184) (hR : Rt X cX10_next 5 o rv) : ∀ (n : Nat) (v1 v3 : Int32) (σ : Mem), some rv = f_X10_next_126 n v1 v3 σ → Bk X 5 o 0 0 126 [(0, .ref (ad X (10))), (1, .int (v1)), (3, .int (v3))] [] σ := by
  intro n
  induction n with
  | zero =>
    intro v1 v3 σ hf
    rw [f_X10_next_126] at hf
    cases hf
  | succ n ih =>
    intro v1 v3 σ hf
    rw [f_X10_next_126] at hf
    refine b_iload_n C dX10_next_126 rfl 2 rfl ?_
    refine b_bipush C (v := 8) dX10_next_127 (by decide) ?_
    refine b_aload_n C dX10_next_129 rfl 0 rfl ?_
    refine b_getS C hiX10_next_10 10 4 25 (by decide) (by decide) rfl (by decide) kX10_next_117 rfl rfl dX10_next_130 ?_
    refine b_imul C dX10_next_133 ?_
    refine b_icmp_ge C 220 dX10_next_134 (by decide) hf (fun hf => ?_) (fun hf => ?_)
    · refine b_sub [0, 1] rfl ?_
      exact w_X10_next_220 C hR _ _ hf
    · refine b_aload_n C dX10_next_137 rfl 0 rfl ?_
      refine b_getR C hiX10_next_10 10 22 (54 + 59) (by decide) (by decide) rfl (by decide) kX10_next_63 rfl rfl dX10_next_138 ?_
      refine b_iload_n C dX10_next_141 rfl 1 rfl ?_
      refine b_iald C 59 (by decide) rfl dX10_next_142 hf (fun hf => ?_)
      refine b_iconst C (v := (-1)) dX10_next_143 (by decide) ?_
      refine b_icmp_ne C 220 dX10_next_144 (by decide) hf (fun hf => ?_) (fun hf => ?_)
      · refine b_sub [0, 1] rfl ?_
        exact w_X10_next_220 C hR _ _ hf
      · refine b_iload_n C dX10_next_147 rfl 2 rfl ?_
        refine b_iconst C (v := 4) dX10_next_148 (by decide) ?_
        refine b_aload_n C dX10_next_149 rfl 0 rfl ?_
        refine b_getS C hiX10_next_10 10 4 25 (by decide) (by decide) rfl (by decide) kX10_next_117 rfl rfl dX10_next_150 ?_
        refine b_imul C dX10_next_153 ?_
        obtain ⟨hz, hf⟩ := gd_inv hf
        refine b_irem C dX10_next_154 (by simpa using hz) ?_
        refine b_nv hf (fun y9 hf => ?_)
        refine b_istore (lv' := [(4, .int (y9)), (0, .ref (ad X (10))), (1, .int (v1)), (3, .int (v3))]) C dX10_next_155 (by decide) rfl ?_
        refine b_aload_n C dX10_next_157 rfl 1 rfl ?_
        refine b_getR C hiX10_next_10 10 7 (54 + 46) (by decide) (by decide) rfl (by decide) kX10_next_23 rfl rfl dX10_next_158 ?_
        refine b_iload C dX10_next_161 0 rfl ?_
        refine b_iconst C (v := 4) dX10_next_163 (by decide) ?_
        refine b_idiv C dX10_next_164 (by decide) ?_
        refine b_zald C 46 (by decide) rfl dX10_next_165 hf (fun hf => ?_)
        refine b_iload_n C dX10_next_166 rfl 3 rfl ?_
        refine b_iconst C (v := 4) dX10_next_167 (by decide) ?_
        refine b_aload_n C dX10_next_168 rfl 1 rfl ?_
        refine b_getS C hiX10_next_10 10 4 25 (by decide) (by decide) rfl (by decide) kX10_next_117 rfl rfl dX10_next_169 ?_
        refine b_imul C dX10_next_172 ?_
        refine b_icmp_ge C 180 dX10_next_173 (by decide) hf (fun hf => ?_) (fun hf => ?_)
        · refine b_iconst C (v := 0) dX10_next_180 (by decide) ?_
          refine b_sub [1, 2, 3, 0] rfl ?_
          exact w_X10_next_181 C hR (f_X10_next_126 n) ih _ _ _ _ _ _ hf
        · refine b_iconst C (v := 1) dX10_next_176 (by decide) ?_
          refine b_goto C 181 dX10_next_177 (by decide) ?_
          refine b_sub [1, 2, 3, 0] rfl ?_
          exact w_X10_next_181 C hR (f_X10_next_126 n) ih _ _ _ _ _ _ hf
set_option maxHeartbeats 4000000 in
set_option maxRecDepth 100000 in
theorem w_X10_next_124 {X : Ctx} {o : Int64} {rv : Int32 × Mem} (C : Cx X cX10_next RX10 wsX10_next 5 8 184) (hR : Rt X cX10_next 5 o rv) : ∀ (v1 : Int32) (σ : Mem), some rv = f_X10_next_124 v1 σ → Bk X 5 o 0 0 124 [(0, .ref (ad X (10))), (1, .int (v1))] [] σ := by
  intro v1 σ hf
  unfold f_X10_next_124 at hf
  refine b_iconst C (v := 0) dX10_next_124 (by decide) ?_
  refine b_istore_n (lv' := [(3, .int (0)), (0, .ref (ad X (10))), (1, .int (v1))]) C dX10_next_125 rfl (by decide) rfl ?_
  refine b_sub [1, 2, 0] rfl ?_
  exact w_X10_next_126 C hR FUEL _ _ _ hf
set_option maxHeartbeats 4000000 in
set_option maxRecDepth 100000 in
theorem w_X10_next_118 {X : Ctx} {o : Int64} {rv : Int32 × Mem} (C : Cx X cX10_next RX10 wsX10_next 5 8 184) (hR : Rt X cX10_next 5 o rv) (k36 : Int32 → Int32 → Mem → Option (Int32 × Mem)) (h36 : ∀ (v1 v3 : Int32) (σ : Mem), some rv = k36 v1 v3 σ → Bk X 5 o 0 0 36 [(0, .ref (ad X (10))), (1, .int (v1)), (3, .int (v3))] [] σ) : ∀ (v1 v3 : Int32) (σ : Mem), some rv = f_X10_next_118 k36 v1 v3 σ → Bk X 5 o 0 0 118 [(0, .ref (ad X (10))), (1, .int (v1)), (3, .int (v3))] [] σ := by
  intro v1 v3 σ hf
  unfold f_X10_next_118 at hf
  refine b_iinc (v := (v3) + (1)) (lv' := [(3, .int ((v3) + (1))), (0, .ref (ad X (10))), (1, .int (v1))]) C dX10_next_118 2 rfl rfl (by decide) rfl ?_
  refine b_goto C 36 dX10_next_121 (by decide) ?_
  refine b_sub [1, 2, 0] rfl ?_
  exact h36 _ _ _ hf
set_option maxHeartbeats 4000000 in
set_option maxRecDepth 100000 in
theorem w_X10_next_36 {X : Ctx} {o : Int64} {rv : Int32 × Mem} (C : Cx X cX10_next RX10 wsX10_next 5 8 184) (hR : Rt X cX10_next 5 o rv) : ∀ (n : Nat) (v1 v3 : Int32) (σ : Mem), some rv = f_X10_next_36 n v1 v3 σ → Bk X 5 o 0 0 36 [(0, .ref (ad X (10))), (1, .int (v1)), (3, .int (v3))] [] σ := by
  intro n
  induction n with
  | zero =>
    intro v1 v3 σ hf
    rw [f_X10_next_36] at hf
    cases hf
  | succ n ih =>
    intro v1 v3 σ hf
    rw [f_X10_next_36] at hf
    refine b_iload_n C dX10_next_36 rfl 2 rfl ?_
    refine b_aload_n C dX10_next_37 rfl 0 rfl ?_
    refine b_getS C hiX10_next_10 10 27 28 (by decide) (by decide) rfl (by decide) kX10_next_148 rfl rfl dX10_next_38 ?_
    refine b_icmp_ge C 124 dX10_next_41 (by decide) hf (fun hf => ?_) (fun hf => ?_)
    · refine b_sub [0, 1] rfl ?_
      exact w_X10_next_124 C hR _ _ hf
    · refine b_aload_n C dX10_next_44 rfl 0 rfl ?_
      refine b_getR C hiX10_next_10 10 22 (54 + 59) (by decide) (by decide) rfl (by decide) kX10_next_63 rfl rfl dX10_next_45 ?_
      refine b_iload_n C dX10_next_48 rfl 1 rfl ?_
      refine b_iald C 59 (by decide) rfl dX10_next_49 hf (fun hf => ?_)
      refine b_iconst C (v := (-1)) dX10_next_50 (by decide) ?_
      refine b_icmp_ne C 124 dX10_next_51 (by decide) hf (fun hf => ?_) (fun hf => ?_)
      · refine b_sub [0, 1] rfl ?_
        exact w_X10_next_124 C hR _ _ hf
      · refine b_aload_n C dX10_next_54 rfl 0 rfl ?_
        refine b_getR C hiX10_next_10 10 24 (54 + 61) (by decide) (by decide) rfl (by decide) kX10_next_69 rfl rfl dX10_next_55 ?_
        refine b_iload_n C dX10_next_58 rfl 1 rfl ?_
        refine b_iald C 61 (by decide) rfl dX10_next_59 hf (fun hf => ?_)
        refine b_iconst C (v := 3) dX10_next_60 (by decide) ?_
        refine b_icmp_lt C 124 dX10_next_61 (by decide) hf (fun hf => ?_) (fun hf => ?_)
        · refine b_sub [0, 1] rfl ?_
          exact w_X10_next_124 C hR _ _ hf
        · refine b_aload_n C dX10_next_64 rfl 0 rfl ?_
          refine b_getR C hiX10_next_10 10 26 (54 + 63) (by decide) (by decide) rfl (by decide) kX10_next_75 rfl rfl dX10_next_65 ?_
          refine b_iload_n C dX10_next_68 rfl 1 rfl ?_
          refine b_iald C 63 (by decide) rfl dX10_next_69 hf (fun hf => ?_)
          refine b_iload_n C dX10_next_70 rfl 2 rfl ?_
          refine b_ishr C dX10_next_71 ?_
          refine b_iconst C (v := 1) dX10_next_72 (by decide) ?_
          refine b_iand C dX10_next_73 ?_
          refine b_if_ne C 118 dX10_next_74 (by decide) hf (fun hf => ?_) (fun hf => ?_)
          · exact w_X10_next_118 C hR (f_X10_next_36 n) ih _ _ _ hf
          · refine b_aload_n C dX10_next_77 rfl 0 rfl ?_
            refine b_getR C hiX10_next_10 10 19 (54 + 56) (by decide) (by decide) rfl (by decide) kX10_next_54 rfl rfl dX10_next_78 ?_
            refine b_iload_n C dX10_next_81 rfl 1 rfl ?_
            refine b_iald C 56 (by decide) rfl dX10_next_82 hf (fun hf => ?_)
            refine b_aload_n C dX10_next_83 rfl 0 rfl ?_
            refine b_getR C hiX10_next_10 10 28 (54 + 64) (by decide) (by decide) rfl (by decide) kX10_next_78 rfl rfl dX10_next_84 ?_
            refine b_iload_n C dX10_next_87 rfl 2 rfl ?_
            refine b_iald C 64 (by decide) rfl dX10_next_88 hf (fun hf => ?_)
            refine b_ishr C dX10_next_89 ?_
            refine b_iconst C (v := 1) dX10_next_90 (by decide) ?_
            refine b_iand C dX10_next_91 ?_
            refine b_iconst C (v := 1) dX10_next_92 (by decide) ?_
            refine b_icmp_ne C 118 dX10_next_93 (by decide) hf (fun hf => ?_) (fun hf => ?_)
            · exact w_X10_next_118 C hR (f_X10_next_36 n) ih _ _ _ hf
            · refine b_aload_n C dX10_next_96 rfl 0 rfl ?_
              refine b_getR C hiX10_next_10 10 22 (54 + 59) (by decide) (by decide) rfl (by decide) kX10_next_63 rfl rfl dX10_next_97 ?_
              refine b_iload_n C dX10_next_100 rfl 1 rfl ?_
              refine b_bipush C (v := 100) dX10_next_101 (by decide) ?_
              refine b_iload_n C dX10_next_103 rfl 2 rfl ?_
              refine b_iadd C dX10_next_104 ?_
              refine b_iast C 59 (by decide) rfl dX10_next_105 hf (fun hf => ?_)
              refine b_nw hf (fun τ10 hf => ?_)
              refine b_aload_n C dX10_next_106 rfl 0 rfl ?_
              refine b_getR C hiX10_next_10 10 26 (54 + 63) (by decide) (by decide) rfl (by decide) kX10_next_75 rfl rfl dX10_next_107 ?_
              refine b_iload_n C dX10_next_110 rfl 1 rfl ?_
              refine b_dup2 C dX10_next_111 rfl rfl ?_
              refine b_iald C 63 (by decide) rfl dX10_next_112 hf (fun hf => ?_)
              refine b_iconst C (v := 1) dX10_next_113 (by decide) ?_
              refine b_iload_n C dX10_next_114 rfl 2 rfl ?_
              refine b_ishl C dX10_next_115 ?_
              refine b_ior C dX10_next_116 ?_
              refine b_iast C 63 (by decide) rfl dX10_next_117 hf (fun hf => ?_)
              refine b_nw hf (fun τ11 hf => ?_)
              exact w_X10_next_118 C hR (f_X10_next_36 n) ih _ _ _ hf
set_option maxHeartbeats 4000000 in
set_option maxRecDepth 100000 in
theorem w_X10_next_26 {X : Ctx} {o : Int64} {rv : Int32 × Mem} (C : Cx X cX10_next RX10 wsX10_next 5 8 184) (hR : Rt X cX10_next 5 o rv) : ∀ (v1 s0 s1 : Int32) (σ : Mem), some rv = f_X10_next_26 v1 s0 s1 σ → Bk X 5 o 0 0 26 [(0, .ref (ad X (10))), (1, .int (v1))] [.int (s0), .int (s1), .ref (ad X (10))] σ := by
  intro v1 s0 s1 σ hf
  unfold f_X10_next_26 at hf
  obtain ⟨y12, τ13, hqy12, hf⟩ := bd_inv hf
  refine b_callVi (n := 2) C (10) 10 (isObj_s (by decide) (by decide)) rfl (fun _ => [.int (s1), .int (s0)]) (c_X10_asked_ (s1) (s0)) hqy12 gX10_next_X10_asked_ rfl (by decide +kernel) rfl (by decide) (by decide) (Nat.le_of_ble_eq_true rfl) dX10_next_26 ?_
  refine b_if_ne C 34 dX10_next_29 (by decide) hf (fun hf => ?_) (fun hf => ?_)
  · refine b_iconst C (v := 0) dX10_next_34 (by decide) ?_
    refine b_istore_n (lv' := [(3, .int (0)), (0, .ref (ad X (10))), (1, .int (v1))]) C dX10_next_35 rfl (by decide) rfl ?_
    refine b_sub [1, 2, 0] rfl ?_
    exact w_X10_next_36 C hR FUEL _ _ _ hf
  · refine b_iconst C (v := 0) dX10_next_32 (by decide) ?_
    exact hR _ _ _ _ dX10_next_33 hf
set_option maxHeartbeats 4000000 in
set_option maxRecDepth 100000 in
theorem w_X10_next_25 {X : Ctx} {o : Int64} {rv : Int32 × Mem} (C : Cx X cX10_next RX10 wsX10_next 5 8 184) (hR : Rt X cX10_next 5 o rv) : ∀ (v1 s0 : Int32) (σ : Mem), some rv = f_X10_next_25 v1 s0 σ → Bk X 5 o 0 0 25 [(0, .ref (ad X (10))), (1, .int (v1))] [.int (s0), .ref (ad X (10))] σ := by
  intro v1 s0 σ hf
  unfold f_X10_next_25 at hf
  refine b_iconst C (v := 0) dX10_next_25 (by decide) ?_
  exact w_X10_next_26 C hR _ _ _ _ hf
set_option maxHeartbeats 4000000 in
set_option maxRecDepth 100000 in
theorem c_X10_next (x1 : Int32) (l : Launch) : Cti l yX10_next wsX10_next 8 184 (fun G => [.ref (G.1 (10)), .int (x1)]) (f_X10_next x1) := by
  refine mk_i (cc := cX10_next) (nL := 5) (own := RX10) (by decide) rfl rfl (fun _ => Nat.le_of_ble_eq_true rfl) (fun X o σ rv C hR hf => ?_)
  show Bk X 5 o 0 0 0 [(0, .ref (ad X (10))), (1, .int (x1))] [] σ
  unfold f_X10_next at hf
  refine b_aload_n C dX10_next_0 rfl 0 rfl ?_
  refine b_iload_n C dX10_next_1 rfl 1 rfl ?_
  obtain ⟨y14, τ15, hqy14, hf⟩ := bd_inv hf
  refine b_callVi (n := 1) C (10) 10 (isObj_s (by decide) (by decide)) rfl (fun _ => [.int (x1)]) (c_X10_isReader (x1)) hqy14 gX10_next_X10_isReader rfl (by decide +kernel) rfl (by decide) (by decide) (Nat.le_of_ble_eq_true rfl) dX10_next_2 ?_
  refine b_istore_n (lv' := [(2, .int (y14)), (0, .ref (ad X (10))), (1, .int (x1))]) C dX10_next_5 rfl (by decide) rfl ?_
  refine b_aload_n C dX10_next_6 rfl 1 rfl ?_
  refine b_iload_n C dX10_next_7 rfl 0 rfl ?_
  refine b_iload_n C dX10_next_8 rfl 0 rfl ?_
  refine b_if_eq C 25 dX10_next_9 (by decide) hf (fun hf => ?_) (fun hf => ?_)
  · refine b_sub [1, 2] rfl ?_
    exact w_X10_next_25 C hR _ _ _ hf
  · refine b_aload_n C dX10_next_12 rfl 1 rfl ?_
    refine b_getR C hiX10_next_10 10 21 (54 + 58) (by decide) (by decide) rfl (by decide) kX10_next_60 rfl rfl dX10_next_13 ?_
    refine b_iload_n C dX10_next_16 rfl 2 rfl ?_
    refine b_zald C 58 (by decide) rfl dX10_next_17 hf (fun hf => ?_)
    refine b_if_ne C 25 dX10_next_18 (by decide) hf (fun hf => ?_) (fun hf => ?_)
    · refine b_sub [1, 2] rfl ?_
      exact w_X10_next_25 C hR _ _ _ hf
    · refine b_iconst C (v := 1) dX10_next_21 (by decide) ?_
      refine b_goto C 26 dX10_next_22 (by decide) ?_
      refine b_sub [1, 2] rfl ?_
      exact w_X10_next_26 C hR _ _ _ _ hf
theorem hiX10_read_10 : ∀ w ∈ wsX100, w ∈ wsX10_read := by decide +kernel
theorem kX10_read_158 : Cond.fieldLink RX10 158 "ScriptRoomModel" "readings" "I" ∈ wsX10_read := by decide +kernel
theorem kX10_read_96 : Cond.fieldLink RX10 96 "ScriptRoomModel" "isVoid" "[Z" ∈ wsX10_read := by decide +kernel
theorem kX10_read_87 : Cond.fieldLink RX10 87 "ScriptRoomModel" "by" "[I" ∈ wsX10_read := by decide +kernel
theorem kX10_read_63 : Cond.fieldLink RX10 63 "ScriptRoomModel" "hand" "[I" ∈ wsX10_read := by decide +kernel
theorem kX10_read_84 : Cond.fieldLink RX10 84 "ScriptRoomModel" "answerOf" "[I" ∈ wsX10_read := by decide +kernel
theorem kX10_read_90 : Cond.fieldLink RX10 90 "ScriptRoomModel" "points" "[I" ∈ wsX10_read := by decide +kernel
theorem kX10_read_45 : Cond.fieldLink RX10 45 "ScriptRoomModel" "letters" "[I" ∈ wsX10_read := by decide +kernel
theorem kX10_read_93 : Cond.fieldLink RX10 93 "ScriptRoomModel" "had" "[I" ∈ wsX10_read := by decide +kernel
theorem kX10_read_99 : Cond.fieldLink RX10 99 "ScriptRoomModel" "forAppeal" "[Z" ∈ wsX10_read := by decide +kernel
theorem kX10_read_66 : Cond.fieldLink RX10 66 "ScriptRoomModel" "handAppeal" "[Z" ∈ wsX10_read := by decide +kernel
theorem kX10_read_69 : Cond.fieldLink RX10 69 "ScriptRoomModel" "since" "[I" ∈ wsX10_read := by decide +kernel
theorem kX10_read_78 : Cond.fieldLink RX10 78 "ScriptRoomModel" "seedOf" "[I" ∈ wsX10_read := by decide +kernel
theorem kX10_read_81 : Cond.fieldLink RX10 81 "ScriptRoomModel" "known" "[I" ∈ wsX10_read := by decide +kernel
theorem kX10_read_13 : Cond.fieldLink RX10 13 "ScriptRoomModel" "tolerance" "I" ∈ wsX10_read := by decide +kernel
theorem kX10_read_60 : Cond.fieldLink RX10 60 "ScriptRoomModel" "stopped" "[Z" ∈ wsX10_read := by decide +kernel
theorem kX10_read_72 : Cond.fieldLink RX10 72 "ScriptRoomModel" "good" "[I" ∈ wsX10_read := by decide +kernel
set_option maxHeartbeats 4000000 in
set_option maxRecDepth 100000 in
theorem w_X10_read_211 {X : Ctx} {o : Int64} {rv : Int32 × Mem} (C : Cx X cX10_read RX10 wsX10_read 9 2 51) (hR : Rt X cX10_read 9 o rv) (k178 : Int32 → Int32 → Int32 → Mem → Option (Int32 × Mem)) (h178 : ∀ (v1 v7 v8 : Int32) (σ : Mem), some rv = k178 v1 v7 v8 σ → Bk X 9 o 0 0 178 [(0, .ref (ad X (10))), (1, .int (v1)), (7, .int (v7)), (8, .int (v8))] [] σ) : ∀ (v1 v7 v8 s0 s1 s2 : Int32) (σ : Mem), some rv = f_X10_read_211 k178 v1 v7 v8 s0 s1 s2 σ → Bk X 9 o 0 0 211 [(0, .ref (ad X (10))), (1, .int (v1)), (7, .int (v7)), (8, .int (v8))] [.int (s0), .int (s1), .int (s2), .ref (ad X (54 + 70))] σ := by
  intro v1 v7 v8 s0 s1 s2 σ hf
  unfold f_X10_read_211 at hf
  refine b_ior C dX10_read_211 ?_
  refine b_zast C 70 (by decide) rfl dX10_read_212 hf (fun hf => ?_)
  refine b_nw hf (fun τ1 hf => ?_)
  refine b_iinc (v := (v8) + (1)) (lv' := [(8, .int ((v8) + (1))), (0, .ref (ad X (10))), (1, .int (v1)), (7, .int (v7))]) C dX10_read_213 3 rfl rfl (by decide) rfl ?_
  refine b_goto C 178 dX10_read_216 (by decide) ?_
  refine b_sub [1, 2, 3, 0] rfl ?_
  exact h178 _ _ _ _ hf
set_option maxHeartbeats 4000000 in
set_option maxRecDepth 100000 in
theorem w_X10_read_178 {X : Ctx} {o : Int64} {rv : Int32 × Mem} (C : Cx X cX10_read RX10 wsX10_read 9 2 51) (hR : Rt X cX10_read 9 o rv) : ∀ (n : Nat) (v1 v7 v8 : Int32) (σ : Mem), some rv = f_X10_read_178 n v1 v7 v8 σ → Bk X 9 o 0 0 178 [(0, .ref (ad X (10))), (1, .int (v1)), (7, .int (v7)), (8, .int (v8))] [] σ := by
  intro n
  induction n with
  | zero =>
    intro v1 v7 v8 σ hf
    rw [f_X10_read_178] at hf
    cases hf
  | succ n ih =>
    intro v1 v7 v8 σ hf
    rw [f_X10_read_178] at hf
    refine b_iload C dX10_read_178 3 rfl ?_
    refine b_aload_n C dX10_read_180 rfl 0 rfl ?_
    refine b_getS C hiX10_read_10 10 30 29 (by decide) (by decide) rfl (by decide) kX10_read_158 rfl rfl dX10_read_181 ?_
    refine b_icmp_ge C 219 dX10_read_184 (by decide) hf (fun hf => ?_) (fun hf => ?_)
    · refine b_iload C dX10_read_219 2 rfl ?_
      exact hR _ _ _ _ dX10_read_221 hf
    · refine b_aload_n C dX10_read_187 rfl 0 rfl ?_
      refine b_getR C hiX10_read_10 10 35 (54 + 70) (by decide) (by decide) rfl (by decide) kX10_read_96 rfl rfl dX10_read_188 ?_
      refine b_iload C dX10_read_191 3 rfl ?_
      refine b_dup2 C dX10_read_193 rfl rfl ?_
      refine b_zald C 70 (by decide) rfl dX10_read_194 hf (fun hf => ?_)
      refine b_aload_n C dX10_read_195 rfl 0 rfl ?_
      refine b_getR C hiX10_read_10 10 32 (54 + 67) (by decide) (by decide) rfl (by decide) kX10_read_87 rfl rfl dX10_read_196 ?_
      refine b_iload C dX10_read_199 3 rfl ?_
      refine b_iald C 67 (by decide) rfl dX10_read_201 hf (fun hf => ?_)
      refine b_iload_n C dX10_read_202 rfl 1 rfl ?_
      refine b_icmp_ne C 210 dX10_read_203 (by decide) hf (fun hf => ?_) (fun hf => ?_)
      · refine b_iconst C (v := 0) dX10_read_210 (by decide) ?_
        exact w_X10_read_211 C hR (f_X10_read_178 n) ih _ _ _ _ _ _ _ hf
      · refine b_iconst C (v := 1) dX10_read_206 (by decide) ?_
        refine b_goto C 211 dX10_read_207 (by decide) ?_
        exact w_X10_read_211 C hR (f_X10_read_178 n) ih _ _ _ _ _ _ _ hf
set_option maxHeartbeats 4000000 in
set_option maxRecDepth 100000 in
theorem w_X10_read_46 {X : Ctx} {o : Int64} {rv : Int32 × Mem} (C : Cx X cX10_read RX10 wsX10_read 9 2 51) (hR : Rt X cX10_read 9 o rv) : ∀ (v1 v2 v3 s0 : Int32) (σ : Mem), some rv = f_X10_read_46 v1 v2 v3 s0 σ → Bk X 9 o 0 0 46 [(0, .ref (ad X (10))), (1, .int (v1)), (2, .int (v2)), (3, .int (v3))] [.int (s0)] σ := by
  intro v1 v2 v3 s0 σ hf
  unfold f_X10_read_46 at hf
  refine b_istore (lv' := [(4, .int (s0)), (0, .ref (ad X (10))), (1, .int (v1)), (2, .int (v2)), (3, .int (v3))]) C dX10_read_46 (by decide) rfl ?_
  refine b_aload_n C dX10_read_48 rfl 1 rfl ?_
  refine b_iload_n C dX10_read_49 rfl 4 rfl ?_
  refine b_iload_n C dX10_read_50 rfl 3 rfl ?_
  refine b_iconst C (v := 0) dX10_read_51 (by decide) ?_
  refine b_sipush C (v := 255) dX10_read_52 (by decide) ?_
  obtain ⟨y2, τ3, hqy2, hf⟩ := bd_inv hf
  refine b_callSi (n := 3) C (fun _ => [.int (v2), .int (0), .int (255)]) (c_X10_in (v2) (0) (255)) hqy2 gX10_read_X10_in rfl (by decide +kernel) rfl (by decide) (by decide) (Nat.le_of_ble_eq_true rfl) dX10_read_55 ?_
  refine b_iload C dX10_read_58 0 rfl ?_
  obtain ⟨y4, τ5, hqy4, hf⟩ := bd_inv hf
  refine b_callVi (n := 3) C (10) 10 (isObj_s (by decide) (by decide)) rfl (fun _ => [.int (v3), .int (y2), .int (s0)]) (c_X10_asked__ (v3) (y2) (s0)) hqy4 gX10_read_X10_asked__ rfl (by decide +kernel) rfl (by decide) (by decide) (Nat.le_of_ble_eq_true rfl) dX10_read_60 ?_
  refine b_if_ne C 68 dX10_read_63 (by decide) hf (fun hf => ?_) (fun hf => ?_)
  · refine b_aload_n C dX10_read_68 rfl 1 rfl ?_
    refine b_getR C hiX10_read_10 10 22 (54 + 59) (by decide) (by decide) rfl (by decide) kX10_read_63 rfl rfl dX10_read_69 ?_
    refine b_iload_n C dX10_read_72 rfl 2 rfl ?_
    refine b_iald C 59 (by decide) rfl dX10_read_73 hf (fun hf => ?_)
    refine b_nv hf (fun y6 hf => ?_)
    refine b_istore (lv' := [(5, .int (y6)), (4, .int (s0)), (0, .ref (ad X (10))), (1, .int (v1)), (2, .int (v2)), (3, .int (v3))]) C dX10_read_74 (by decide) rfl ?_
    refine b_aload_n C dX10_read_76 rfl 2 rfl ?_
    refine b_getR C hiX10_read_10 10 22 (54 + 59) (by decide) (by decide) rfl (by decide) kX10_read_63 rfl rfl dX10_read_77 ?_
    refine b_iload_n C dX10_read_80 rfl 3 rfl ?_
    refine b_iconst C (v := (-1)) dX10_read_81 (by decide) ?_
    refine b_iast C 59 (by decide) rfl dX10_read_82 hf (fun hf => ?_)
    refine b_nw hf (fun τ7 hf => ?_)
    refine b_iload C dX10_read_83 0 rfl ?_
    refine b_bipush C (v := 100) dX10_read_85 (by decide) ?_
    refine b_icmp_lt C 222 dX10_read_87 (by decide) hf (fun hf => ?_) (fun hf => ?_)
    · refine b_aload_n C dX10_read_222 rfl 2 rfl ?_
      refine b_iload C dX10_read_223 0 rfl ?_
      refine b_iconst C (v := 4) dX10_read_225 (by decide) ?_
      refine b_irem C dX10_read_226 (by decide) ?_
      obtain ⟨y8, τ9, hqy8, hf⟩ := bd_inv hf
      refine b_callVi (n := 1) C (10) 10 (isObj_s (by decide) (by decide)) rfl (fun _ => [.int ((y6) - (y6) / (4) * (4))]) (c_X10_held ((y6) - (y6) / (4) * (4))) hqy8 gX10_read_X10_held rfl (by decide +kernel) rfl (by decide) (by decide) (Nat.le_of_ble_eq_true rfl) dX10_read_227 ?_
      refine b_istore (lv' := [(6, .int (y8)), (5, .int (y6)), (4, .int (s0)), (0, .ref (ad X (10))), (1, .int (v1)), (2, .int (v2)), (3, .int (v3))]) C dX10_read_230 (by decide) rfl ?_
      refine b_aload_n C dX10_read_232 rfl 3 rfl ?_
      refine b_getR C hiX10_read_10 10 31 (54 + 66) (by decide) (by decide) rfl (by decide) kX10_read_84 rfl rfl dX10_read_233 ?_
      refine b_aload_n C dX10_read_236 rfl 3 rfl ?_
      refine b_getS C hiX10_read_10 10 30 29 (by decide) (by decide) rfl (by decide) kX10_read_158 rfl rfl dX10_read_237 ?_
      refine b_iload C dX10_read_240 1 rfl ?_
      refine b_iast C 66 (by decide) rfl dX10_read_242 hf (fun hf => ?_)
      refine b_nw hf (fun τ10 hf => ?_)
      refine b_aload_n C dX10_read_243 rfl 3 rfl ?_
      refine b_getR C hiX10_read_10 10 32 (54 + 67) (by decide) (by decide) rfl (by decide) kX10_read_87 rfl rfl dX10_read_244 ?_
      refine b_aload_n C dX10_read_247 rfl 3 rfl ?_
      refine b_getS C hiX10_read_10 10 30 29 (by decide) (by decide) rfl (by decide) kX10_read_158 rfl rfl dX10_read_248 ?_
      refine b_iload_n C dX10_read_251 rfl 4 rfl ?_
      refine b_iast C 67 (by decide) rfl dX10_read_252 hf (fun hf => ?_)
      refine b_nw hf (fun τ11 hf => ?_)
      refine b_aload_n C dX10_read_253 rfl 3 rfl ?_
      refine b_getR C hiX10_read_10 10 33 (54 + 68) (by decide) (by decide) rfl (by decide) kX10_read_90 rfl rfl dX10_read_254 ?_
      refine b_aload_n C dX10_read_257 rfl 3 rfl ?_
      refine b_getS C hiX10_read_10 10 30 29 (by decide) (by decide) rfl (by decide) kX10_read_158 rfl rfl dX10_read_258 ?_
      refine b_iload_n C dX10_read_261 rfl 5 rfl ?_
      refine b_aload_n C dX10_read_262 rfl 3 rfl ?_
      refine b_getR C hiX10_read_10 10 15 (54 + 53) (by decide) (by decide) rfl (by decide) kX10_read_45 rfl rfl dX10_read_263 ?_
      refine b_iload C dX10_read_266 0 rfl ?_
      refine b_iald C 53 (by decide) rfl dX10_read_268 hf (fun hf => ?_)
      refine b_iand C dX10_read_269 ?_
      refine b_iast C 68 (by decide) rfl dX10_read_270 hf (fun hf => ?_)
      refine b_nw hf (fun τ12 hf => ?_)
      refine b_aload_n C dX10_read_271 rfl 3 rfl ?_
      refine b_getR C hiX10_read_10 10 34 (54 + 69) (by decide) (by decide) rfl (by decide) kX10_read_93 rfl rfl dX10_read_272 ?_
      refine b_aload_n C dX10_read_275 rfl 3 rfl ?_
      refine b_getS C hiX10_read_10 10 30 29 (by decide) (by decide) rfl (by decide) kX10_read_158 rfl rfl dX10_read_276 ?_
      refine b_aload_n C dX10_read_279 rfl 3 rfl ?_
      refine b_getR C hiX10_read_10 10 15 (54 + 53) (by decide) (by decide) rfl (by decide) kX10_read_45 rfl rfl dX10_read_280 ?_
      refine b_iload C dX10_read_283 0 rfl ?_
      refine b_iald C 53 (by decide) rfl dX10_read_285 hf (fun hf => ?_)
      refine b_iast C 69 (by decide) rfl dX10_read_286 hf (fun hf => ?_)
      refine b_nw hf (fun τ13 hf => ?_)
      refine b_aload_n C dX10_read_287 rfl 3 rfl ?_
      refine b_getR C hiX10_read_10 10 36 (54 + 71) (by decide) (by decide) rfl (by decide) kX10_read_99 rfl rfl dX10_read_288 ?_
      refine b_aload_n C dX10_read_291 rfl 3 rfl ?_
      refine b_getS C hiX10_read_10 10 30 29 (by decide) (by decide) rfl (by decide) kX10_read_158 rfl rfl dX10_read_292 ?_
      refine b_aload_n C dX10_read_295 rfl 3 rfl ?_
      refine b_getR C hiX10_read_10 10 23 (54 + 60) (by decide) (by decide) rfl (by decide) kX10_read_66 rfl rfl dX10_read_296 ?_
      refine b_iload_n C dX10_read_299 rfl 4 rfl ?_
      refine b_zald C 60 (by decide) rfl dX10_read_300 hf (fun hf => ?_)
      refine b_zast C 71 (by decide) rfl dX10_read_301 hf (fun hf => ?_)
      refine b_nw hf (fun τ14 hf => ?_)
      refine b_aload_n C dX10_read_302 rfl 3 rfl ?_
      refine b_dup C dX10_read_303 rfl ?_
      refine b_getS C hiX10_read_10 10 30 29 (by decide) (by decide) rfl (by decide) kX10_read_158 rfl rfl dX10_read_304 ?_
      refine b_iconst C (v := 1) dX10_read_307 (by decide) ?_
      refine b_iadd C dX10_read_308 ?_
      refine b_putS C (ty := .int) hiX10_read_10 tyX10 tyX10_ok nmX10 10 30 29 (by decide) (by decide) rfl (by decide) kX10_read_158 rfl rfl (by decide +kernel) rfl rfl rfl dX10_read_309 ?_
      refine b_nw hf (fun τ15 hf => ?_)
      refine b_aload_n C dX10_read_312 rfl 3 rfl ?_
      refine b_getR C hiX10_read_10 10 24 (54 + 61) (by decide) (by decide) rfl (by decide) kX10_read_69 rfl rfl dX10_read_313 ?_
      refine b_iload_n C dX10_read_316 rfl 4 rfl ?_
      refine b_dup2 C dX10_read_317 rfl rfl ?_
      refine b_iald C 61 (by decide) rfl dX10_read_318 hf (fun hf => ?_)
      refine b_iconst C (v := 1) dX10_read_319 (by decide) ?_
      refine b_iadd C dX10_read_320 ?_
      refine b_iast C 61 (by decide) rfl dX10_read_321 hf (fun hf => ?_)
      refine b_nw hf (fun τ16 hf => ?_)
      refine b_aload_n C dX10_read_322 rfl 3 rfl ?_
      refine b_iload C dX10_read_323 0 rfl ?_
      refine b_iload_n C dX10_read_325 rfl 5 rfl ?_
      obtain ⟨y17, τ18, hqy17, hf⟩ := bd_inv hf
      refine b_callVi (n := 2) C (10) 10 (isObj_s (by decide) (by decide)) rfl (fun _ => [.int (y8), .int (v2)]) (c_X10_value (y8) (v2)) hqy17 gX10_read_X10_value rfl (by decide +kernel) rfl (by decide) (by decide) (Nat.le_of_ble_eq_true rfl) dX10_read_326 ?_
      exact hR _ _ _ _ dX10_read_329 hf
    · refine b_aload_n C dX10_read_90 rfl 2 rfl ?_
      refine b_aload_n C dX10_read_91 rfl 2 rfl ?_
      refine b_getR C hiX10_read_10 10 28 (54 + 64) (by decide) (by decide) rfl (by decide) kX10_read_78 rfl rfl dX10_read_92 ?_
      refine b_iload C dX10_read_95 0 rfl ?_
      refine b_bipush C (v := 100) dX10_read_97 (by decide) ?_
      refine b_isub C dX10_read_99 ?_
      refine b_iald C 64 (by decide) rfl dX10_read_100 hf (fun hf => ?_)
      obtain ⟨y19, τ20, hqy19, hf⟩ := bd_inv hf
      refine b_callVi (n := 1) C (10) 10 (isObj_s (by decide) (by decide)) rfl (fun _ => [.int (τ7 64 (Int32.toNatClampNeg ((y6) - (100))))]) (c_X10_held (τ7 64 (Int32.toNatClampNeg ((y6) - (100))))) hqy19 gX10_read_X10_held rfl (by decide +kernel) rfl (by decide) (by decide) (Nat.le_of_ble_eq_true rfl) dX10_read_101 ?_
      refine b_istore (lv' := [(6, .int (y19)), (5, .int (y6)), (4, .int (s0)), (0, .ref (ad X (10))), (1, .int (v1)), (2, .int (v2)), (3, .int (v3))]) C dX10_read_104 (by decide) rfl ?_
      refine b_aload_n C dX10_read_106 rfl 3 rfl ?_
      refine b_iload C dX10_read_107 0 rfl ?_
      refine b_iload_n C dX10_read_109 rfl 5 rfl ?_
      obtain ⟨y21, τ22, hqy21, hf⟩ := bd_inv hf
      refine b_callVi (n := 2) C (10) 10 (isObj_s (by decide) (by decide)) rfl (fun _ => [.int (y19), .int (v2)]) (c_X10_value (y19) (v2)) hqy21 gX10_read_X10_value rfl (by decide +kernel) rfl (by decide) (by decide) (Nat.le_of_ble_eq_true rfl) dX10_read_110 ?_
      refine b_istore (lv' := [(7, .int (y21)), (6, .int (y19)), (5, .int (y6)), (4, .int (s0)), (0, .ref (ad X (10))), (1, .int (v1)), (2, .int (v2)), (3, .int (v3))]) C dX10_read_113 (by decide) rfl ?_
      refine b_aload_n C dX10_read_115 rfl 4 rfl ?_
      refine b_getR C hiX10_read_10 10 24 (54 + 61) (by decide) (by decide) rfl (by decide) kX10_read_69 rfl rfl dX10_read_116 ?_
      refine b_iload_n C dX10_read_119 rfl 5 rfl ?_
      refine b_iconst C (v := 0) dX10_read_120 (by decide) ?_
      refine b_iast C 61 (by decide) rfl dX10_read_121 hf (fun hf => ?_)
      refine b_nw hf (fun τ23 hf => ?_)
      refine b_iload C dX10_read_122 0 rfl ?_
      refine b_aload_n C dX10_read_124 rfl 4 rfl ?_
      refine b_iload C dX10_read_125 1 rfl ?_
      refine b_aload_n C dX10_read_127 rfl 4 rfl ?_
      refine b_getR C hiX10_read_10 10 29 (54 + 65) (by decide) (by decide) rfl (by decide) kX10_read_81 rfl rfl dX10_read_128 ?_
      refine b_iload C dX10_read_131 2 rfl ?_
      refine b_bipush C (v := 100) dX10_read_133 (by decide) ?_
      refine b_isub C dX10_read_135 ?_
      refine b_iald C 65 (by decide) rfl dX10_read_136 hf (fun hf => ?_)
      obtain ⟨y24, τ25, hqy24, hf⟩ := bd_inv hf
      refine b_callVi (n := 2) C (10) 10 (isObj_s (by decide) (by decide)) rfl (fun _ => [.int (y19), .int (τ23 65 (Int32.toNatClampNeg ((y6) - (100))))]) (c_X10_value (y19) (τ23 65 (Int32.toNatClampNeg ((y6) - (100))))) hqy24 gX10_read_X10_value rfl (by decide +kernel) rfl (by decide) (by decide) (Nat.le_of_ble_eq_true rfl) dX10_read_137 ?_
      obtain ⟨y26, τ27, hqy26, hf⟩ := bd_inv hf
      refine b_callSi (n := 2) C (fun _ => [.int (y21), .int (y24)]) (c_X10_apart (y21) (y24)) hqy26 gX10_read_X10_apart rfl (by decide +kernel) rfl (by decide) (by decide) (Nat.le_of_ble_eq_true rfl) dX10_read_140 ?_
      refine b_aload_n C dX10_read_143 rfl 4 rfl ?_
      refine b_getS C hiX10_read_10 10 3 24 (by decide) (by decide) rfl (by decide) kX10_read_13 rfl rfl dX10_read_144 ?_
      refine b_icmp_gt C 163 dX10_read_147 (by decide) hf (fun hf => ?_) (fun hf => ?_)
      · refine b_aload_n C dX10_read_163 rfl 4 rfl ?_
        refine b_getR C hiX10_read_10 10 21 (54 + 58) (by decide) (by decide) rfl (by decide) kX10_read_60 rfl rfl dX10_read_164 ?_
        refine b_iload_n C dX10_read_167 rfl 5 rfl ?_
        refine b_iconst C (v := 1) dX10_read_168 (by decide) ?_
        refine b_zast C 58 (by decide) rfl dX10_read_169 hf (fun hf => ?_)
        refine b_nw hf (fun τ28 hf => ?_)
        refine b_aload_n C dX10_read_170 rfl 4 rfl ?_
        refine b_getR C hiX10_read_10 10 25 (54 + 62) (by decide) (by decide) rfl (by decide) kX10_read_72 rfl rfl dX10_read_171 ?_
        refine b_iload_n C dX10_read_174 rfl 5 rfl ?_
        refine b_iald C 62 (by decide) rfl dX10_read_175 hf (fun hf => ?_)
        refine b_nv hf (fun y29 hf => ?_)
        refine b_istore (lv' := [(8, .int (y29)), (7, .int (y21)), (6, .int (y19)), (5, .int (y6)), (4, .int (s0)), (0, .ref (ad X (10))), (1, .int (v1)), (2, .int (v2)), (3, .int (v3))]) C dX10_read_176 (by decide) rfl ?_
        refine b_sub [5, 6, 1, 0] rfl ?_
        exact w_X10_read_178 C hR FUEL _ _ _ _ hf
      · refine b_aload_n C dX10_read_150 rfl 4 rfl ?_
        refine b_getR C hiX10_read_10 10 25 (54 + 62) (by decide) (by decide) rfl (by decide) kX10_read_72 rfl rfl dX10_read_151 ?_
        refine b_iload_n C dX10_read_154 rfl 5 rfl ?_
        refine b_aload_n C dX10_read_155 rfl 4 rfl ?_
        refine b_getS C hiX10_read_10 10 30 29 (by decide) (by decide) rfl (by decide) kX10_read_158 rfl rfl dX10_read_156 ?_
        refine b_iast C 62 (by decide) rfl dX10_read_159 hf (fun hf => ?_)
        refine b_nw hf (fun τ30 hf => ?_)
        refine b_iload C dX10_read_160 0 rfl ?_
        exact hR _ _ _ _ dX10_read_162 hf
  · refine b_iconst C (v := 0) dX10_read_66 (by decide) ?_
    exact hR _ _ _ _ dX10_read_67 hf
set_option maxHeartbeats 4000000 in
set_option maxRecDepth 100000 in
theorem w_X10_read_41 {X : Ctx} {o : Int64} {rv : Int32 × Mem} (C : Cx X cX10_read RX10 wsX10_read 9 2 51) (hR : Rt X cX10_read 9 o rv) : ∀ (v1 v2 v3 : Int32) (σ : Mem), some rv = f_X10_read_41 v1 v2 v3 σ → Bk X 9 o 0 0 41 [(0, .ref (ad X (10))), (1, .int (v1)), (2, .int (v2)), (3, .int (v3))] [] σ := by
  intro v1 v2 v3 σ hf
  unfold f_X10_read_41 at hf
  refine b_iconst C (v := 1) dX10_read_41 (by decide) ?_
  refine b_goto C 46 dX10_read_42 (by decide) ?_
  exact w_X10_read_46 C hR _ _ _ _ _ hf
set_option maxHeartbeats 4000000 in
set_option maxRecDepth 100000 in
theorem w_X10_read_45 {X : Ctx} {o : Int64} {rv : Int32 × Mem} (C : Cx X cX10_read RX10 wsX10_read 9 2 51) (hR : Rt X cX10_read 9 o rv) : ∀ (v1 v2 v3 : Int32) (σ : Mem), some rv = f_X10_read_45 v1 v2 v3 σ → Bk X 9 o 0 0 45 [(0, .ref (ad X (10))), (1, .int (v1)), (2, .int (v2)), (3, .int (v3))] [] σ := by
  intro v1 v2 v3 σ hf
  unfold f_X10_read_45 at hf
  refine b_iconst C (v := 0) dX10_read_45 (by decide) ?_
  exact w_X10_read_46 C hR _ _ _ _ _ hf
set_option maxHeartbeats 4000000 in
set_option maxRecDepth 100000 in
theorem c_X10_read (x1 x2 : Int32) (l : Launch) : Cti l yX10_read wsX10_read 2 51 (fun G => [.ref (G.1 (10)), .int (x1), .int (x2)]) (f_X10_read x1 x2) := by
  refine mk_i (cc := cX10_read) (nL := 9) (own := RX10) (by decide) rfl rfl (fun _ => Nat.le_of_ble_eq_true rfl) (fun X o σ rv C hR hf => ?_)
  show Bk X 9 o 0 0 0 [(0, .ref (ad X (10))), (1, .int (x1)), (2, .int (x2))] [] σ
  unfold f_X10_read at hf
  refine b_aload_n C dX10_read_0 rfl 0 rfl ?_
  refine b_iload_n C dX10_read_1 rfl 1 rfl ?_
  obtain ⟨y31, τ32, hqy31, hf⟩ := bd_inv hf
  refine b_callVi (n := 1) C (10) 10 (isObj_s (by decide) (by decide)) rfl (fun _ => [.int (x1)]) (c_X10_isReader (x1)) hqy31 gX10_read_X10_isReader rfl (by decide +kernel) rfl (by decide) (by decide) (Nat.le_of_ble_eq_true rfl) dX10_read_2 ?_
  refine b_istore_n (lv' := [(3, .int (y31)), (0, .ref (ad X (10))), (1, .int (x1)), (2, .int (x2))]) C dX10_read_5 rfl (by decide) rfl ?_
  refine b_iload_n C dX10_read_6 rfl 0 rfl ?_
  refine b_if_eq C 45 dX10_read_7 (by decide) hf (fun hf => ?_) (fun hf => ?_)
  · refine b_sub [1, 2, 3, 0] rfl ?_
    exact w_X10_read_45 C hR _ _ _ _ hf
  · refine b_aload_n C dX10_read_10 rfl 1 rfl ?_
    refine b_getR C hiX10_read_10 10 22 (54 + 59) (by decide) (by decide) rfl (by decide) kX10_read_63 rfl rfl dX10_read_11 ?_
    refine b_iload_n C dX10_read_14 rfl 2 rfl ?_
    refine b_iald C 59 (by decide) rfl dX10_read_15 hf (fun hf => ?_)
    refine b_iconst C (v := (-1)) dX10_read_16 (by decide) ?_
    refine b_icmp_eq C 45 dX10_read_17 (by decide) hf (fun hf => ?_) (fun hf => ?_)
    · refine b_sub [1, 2, 3, 0] rfl ?_
      exact w_X10_read_45 C hR _ _ _ _ hf
    · refine b_aload_n C dX10_read_20 rfl 1 rfl ?_
      refine b_getR C hiX10_read_10 10 22 (54 + 59) (by decide) (by decide) rfl (by decide) kX10_read_63 rfl rfl dX10_read_21 ?_
      refine b_iload_n C dX10_read_24 rfl 2 rfl ?_
      refine b_iald C 59 (by decide) rfl dX10_read_25 hf (fun hf => ?_)
      refine b_bipush C (v := 100) dX10_read_26 (by decide) ?_
      refine b_icmp_ge C 41 dX10_read_28 (by decide) hf (fun hf => ?_) (fun hf => ?_)
      · refine b_sub [1, 2, 3, 0] rfl ?_
        exact w_X10_read_41 C hR _ _ _ _ hf
      · refine b_aload_n C dX10_read_31 rfl 1 rfl ?_
        refine b_getS C hiX10_read_10 10 30 29 (by decide) (by decide) rfl (by decide) kX10_read_158 rfl rfl dX10_read_32 ?_
        refine b_sipush C (v := 300) dX10_read_35 (by decide) ?_
        refine b_icmp_ge C 45 dX10_read_38 (by decide) hf (fun hf => ?_) (fun hf => ?_)
        · refine b_sub [1, 2, 3, 0] rfl ?_
          exact w_X10_read_45 C hR _ _ _ _ hf
        · refine b_sub [1, 2, 3, 0] rfl ?_
          exact w_X10_read_41 C hR _ _ _ _ hf
theorem hiX10_voids_10 : ∀ w ∈ wsX100, w ∈ wsX10_voids := by decide +kernel
theorem kX10_voids_158 : Cond.fieldLink RX10 158 "ScriptRoomModel" "readings" "I" ∈ wsX10_voids := by decide +kernel
theorem kX10_voids_87 : Cond.fieldLink RX10 87 "ScriptRoomModel" "by" "[I" ∈ wsX10_voids := by decide +kernel
theorem kX10_voids_96 : Cond.fieldLink RX10 96 "ScriptRoomModel" "isVoid" "[Z" ∈ wsX10_voids := by decide +kernel
set_option maxHeartbeats 4000000 in
set_option maxRecDepth 100000 in
theorem w_X10_voids_37 {X : Ctx} {o : Int64} {rv : Int32 × Mem} (C : Cx X cX10_voids RX10 wsX10_voids 4 0 0) (hR : Rt X cX10_voids 4 o rv) (k4 : Int32 → Int32 → Int32 → Mem → Option (Int32 × Mem)) (h4 : ∀ (v1 v2 v3 : Int32) (σ : Mem), some rv = k4 v1 v2 v3 σ → Bk X 4 o 0 0 4 [(0, .ref (ad X (10))), (1, .int (v1)), (2, .int (v2)), (3, .int (v3))] [] σ) : ∀ (v1 v3 s0 s1 : Int32) (σ : Mem), some rv = f_X10_voids_37 k4 v1 v3 s0 s1 σ → Bk X 4 o 0 0 37 [(0, .ref (ad X (10))), (1, .int (v1)), (3, .int (v3))] [.int (s0), .int (s1)] σ := by
  intro v1 v3 s0 s1 σ hf
  unfold f_X10_voids_37 at hf
  refine b_iadd C dX10_voids_37 ?_
  refine b_nv hf (fun y1 hf => ?_)
  refine b_istore_n (lv' := [(2, .int (y1)), (0, .ref (ad X (10))), (1, .int (v1)), (3, .int (v3))]) C dX10_voids_38 rfl (by decide) rfl ?_
  refine b_iinc (v := (v3) + (1)) (lv' := [(3, .int ((v3) + (1))), (2, .int (y1)), (0, .ref (ad X (10))), (1, .int (v1))]) C dX10_voids_39 3 rfl rfl (by decide) rfl ?_
  refine b_goto C 4 dX10_voids_42 (by decide) ?_
  refine b_sub [2, 3, 1, 0] rfl ?_
  exact h4 _ _ _ _ hf
set_option maxHeartbeats 4000000 in
set_option maxRecDepth 100000 in
theorem w_X10_voids_36 {X : Ctx} {o : Int64} {rv : Int32 × Mem} (C : Cx X cX10_voids RX10 wsX10_voids 4 0 0) (hR : Rt X cX10_voids 4 o rv) (k4 : Int32 → Int32 → Int32 → Mem → Option (Int32 × Mem)) (h4 : ∀ (v1 v2 v3 : Int32) (σ : Mem), some rv = k4 v1 v2 v3 σ → Bk X 4 o 0 0 4 [(0, .ref (ad X (10))), (1, .int (v1)), (2, .int (v2)), (3, .int (v3))] [] σ) : ∀ (v1 v3 s0 : Int32) (σ : Mem), some rv = f_X10_voids_36 k4 v1 v3 s0 σ → Bk X 4 o 0 0 36 [(0, .ref (ad X (10))), (1, .int (v1)), (3, .int (v3))] [.int (s0)] σ := by
  intro v1 v3 s0 σ hf
  unfold f_X10_voids_36 at hf
  refine b_iconst C (v := 0) dX10_voids_36 (by decide) ?_
  exact w_X10_voids_37 C hR k4 h4 _ _ _ _ _ hf
set_option maxHeartbeats 4000000 in
set_option maxRecDepth 100000 in
theorem w_X10_voids_4 {X : Ctx} {o : Int64} {rv : Int32 × Mem} (C : Cx X cX10_voids RX10 wsX10_voids 4 0 0) (hR : Rt X cX10_voids 4 o rv) : ∀ (n : Nat) (v1 v2 v3 : Int32) (σ : Mem), some rv = f_X10_voids_4 n v1 v2 v3 σ → Bk X 4 o 0 0 4 [(0, .ref (ad X (10))), (1, .int (v1)), (2, .int (v2)), (3, .int (v3))] [] σ := by
  intro n
  induction n with
  | zero =>
    intro v1 v2 v3 σ hf
    rw [f_X10_voids_4] at hf
    cases hf
  | succ n ih =>
    intro v1 v2 v3 σ hf
    rw [f_X10_voids_4] at hf
    refine b_iload_n C dX10_voids_4 rfl 3 rfl ?_
    refine b_aload_n C dX10_voids_5 rfl 0 rfl ?_
    refine b_getS C hiX10_voids_10 10 30 29 (by decide) (by decide) rfl (by decide) kX10_voids_158 rfl rfl dX10_voids_6 ?_
    refine b_icmp_ge C 45 dX10_voids_9 (by decide) hf (fun hf => ?_) (fun hf => ?_)
    · refine b_iload_n C dX10_voids_45 rfl 2 rfl ?_
      exact hR _ _ _ _ dX10_voids_46 hf
    · refine b_iload_n C dX10_voids_12 rfl 2 rfl ?_
      refine b_aload_n C dX10_voids_13 rfl 0 rfl ?_
      refine b_getR C hiX10_voids_10 10 32 (54 + 67) (by decide) (by decide) rfl (by decide) kX10_voids_87 rfl rfl dX10_voids_14 ?_
      refine b_iload_n C dX10_voids_17 rfl 3 rfl ?_
      refine b_iald C 67 (by decide) rfl dX10_voids_18 hf (fun hf => ?_)
      refine b_iload_n C dX10_voids_19 rfl 1 rfl ?_
      refine b_icmp_ne C 36 dX10_voids_20 (by decide) hf (fun hf => ?_) (fun hf => ?_)
      · refine b_sub [0, 1, 3] rfl ?_
        exact w_X10_voids_36 C hR (f_X10_voids_4 n) ih _ _ _ _ hf
      · refine b_aload_n C dX10_voids_23 rfl 0 rfl ?_
        refine b_getR C hiX10_voids_10 10 35 (54 + 70) (by decide) (by decide) rfl (by decide) kX10_voids_96 rfl rfl dX10_voids_24 ?_
        refine b_iload_n C dX10_voids_27 rfl 3 rfl ?_
        refine b_zald C 70 (by decide) rfl dX10_voids_28 hf (fun hf => ?_)
        refine b_if_eq C 36 dX10_voids_29 (by decide) hf (fun hf => ?_) (fun hf => ?_)
        · refine b_sub [0, 1, 3] rfl ?_
          exact w_X10_voids_36 C hR (f_X10_voids_4 n) ih _ _ _ _ hf
        · refine b_iconst C (v := 1) dX10_voids_32 (by decide) ?_
          refine b_goto C 37 dX10_voids_33 (by decide) ?_
          refine b_sub [0, 1, 3] rfl ?_
          exact w_X10_voids_37 C hR (f_X10_voids_4 n) ih _ _ _ _ _ hf
set_option maxHeartbeats 4000000 in
set_option maxRecDepth 100000 in
theorem c_X10_voids (x1 : Int32) (l : Launch) : Cti l yX10_voids wsX10_voids 0 0 (fun G => [.ref (G.1 (10)), .int (x1)]) (f_X10_voids x1) := by
  refine mk_i (cc := cX10_voids) (nL := 4) (own := RX10) (by decide) rfl rfl (fun _ => Nat.le_of_ble_eq_true rfl) (fun X o σ rv C hR hf => ?_)
  show Bk X 4 o 0 0 0 [(0, .ref (ad X (10))), (1, .int (x1))] [] σ
  unfold f_X10_voids at hf
  refine b_iconst C (v := 0) dX10_voids_0 (by decide) ?_
  refine b_istore_n (lv' := [(2, .int (0)), (0, .ref (ad X (10))), (1, .int (x1))]) C dX10_voids_1 rfl (by decide) rfl ?_
  refine b_iconst C (v := 0) dX10_voids_2 (by decide) ?_
  refine b_istore_n (lv' := [(3, .int (0)), (2, .int (0)), (0, .ref (ad X (10))), (1, .int (x1))]) C dX10_voids_3 rfl (by decide) rfl ?_
  refine b_sub [2, 3, 1, 0] rfl ?_
  exact w_X10_voids_4 C hR FUEL _ _ _ _ hf
theorem hiX10_goOn_10 : ∀ w ∈ wsX100, w ∈ wsX10_goOn := by decide +kernel
theorem kX10_goOn_60 : Cond.fieldLink RX10 60 "ScriptRoomModel" "stopped" "[Z" ∈ wsX10_goOn := by decide +kernel
theorem kX10_goOn_69 : Cond.fieldLink RX10 69 "ScriptRoomModel" "since" "[I" ∈ wsX10_goOn := by decide +kernel
theorem kX10_goOn_72 : Cond.fieldLink RX10 72 "ScriptRoomModel" "good" "[I" ∈ wsX10_goOn := by decide +kernel
theorem kX10_goOn_158 : Cond.fieldLink RX10 158 "ScriptRoomModel" "readings" "I" ∈ wsX10_goOn := by decide +kernel
set_option maxHeartbeats 4000000 in
set_option maxRecDepth 100000 in
theorem w_X10_goOn_26 {X : Ctx} {o : Int64} {rv : Int32 × Mem} (C : Cx X cX10_goOn RX10 wsX10_goOn 3 2 43) (hR : Rt X cX10_goOn 3 o rv) : ∀ (v1 s0 s1 : Int32) (σ : Mem), some rv = f_X10_goOn_26 v1 s0 s1 σ → Bk X 3 o 0 0 26 [(0, .ref (ad X (10))), (1, .int (v1))] [.int (s0), .int (s1), .ref (ad X (10))] σ := by
  intro v1 s0 s1 σ hf
  unfold f_X10_goOn_26 at hf
  obtain ⟨y1, τ2, hqy1, hf⟩ := bd_inv hf
  refine b_callVi (n := 2) C (10) 10 (isObj_s (by decide) (by decide)) rfl (fun _ => [.int (s1), .int (s0)]) (c_X10_asked_ (s1) (s0)) hqy1 gX10_goOn_X10_asked_ rfl (by decide +kernel) rfl (by decide) (by decide) (Nat.le_of_ble_eq_true rfl) dX10_goOn_26 ?_
  refine b_if_ne C 34 dX10_goOn_29 (by decide) hf (fun hf => ?_) (fun hf => ?_)
  · refine b_aload_n C dX10_goOn_34 rfl 0 rfl ?_
    refine b_getR C hiX10_goOn_10 10 21 (54 + 58) (by decide) (by decide) rfl (by decide) kX10_goOn_60 rfl rfl dX10_goOn_35 ?_
    refine b_iload_n C dX10_goOn_38 rfl 1 rfl ?_
    refine b_iconst C (v := 0) dX10_goOn_39 (by decide) ?_
    refine b_zast C 58 (by decide) rfl dX10_goOn_40 hf (fun hf => ?_)
    refine b_nw hf (fun τ3 hf => ?_)
    refine b_aload_n C dX10_goOn_41 rfl 0 rfl ?_
    refine b_getR C hiX10_goOn_10 10 24 (54 + 61) (by decide) (by decide) rfl (by decide) kX10_goOn_69 rfl rfl dX10_goOn_42 ?_
    refine b_iload_n C dX10_goOn_45 rfl 1 rfl ?_
    refine b_iconst C (v := 0) dX10_goOn_46 (by decide) ?_
    refine b_iast C 61 (by decide) rfl dX10_goOn_47 hf (fun hf => ?_)
    refine b_nw hf (fun τ4 hf => ?_)
    refine b_aload_n C dX10_goOn_48 rfl 0 rfl ?_
    refine b_getR C hiX10_goOn_10 10 25 (54 + 62) (by decide) (by decide) rfl (by decide) kX10_goOn_72 rfl rfl dX10_goOn_49 ?_
    refine b_iload_n C dX10_goOn_52 rfl 1 rfl ?_
    refine b_aload_n C dX10_goOn_53 rfl 0 rfl ?_
    refine b_getS C hiX10_goOn_10 10 30 29 (by decide) (by decide) rfl (by decide) kX10_goOn_158 rfl rfl dX10_goOn_54 ?_
    refine b_iast C 62 (by decide) rfl dX10_goOn_57 hf (fun hf => ?_)
    refine b_nw hf (fun τ5 hf => ?_)
    refine b_aload_n C dX10_goOn_58 rfl 0 rfl ?_
    refine b_iload_n C dX10_goOn_59 rfl 1 rfl ?_
    obtain ⟨y6, τ7, hqy6, hf⟩ := bd_inv hf
    refine b_callVi (n := 1) C (10) 10 (isObj_s (by decide) (by decide)) rfl (fun _ => [.int (v1)]) (c_X10_voids (v1)) hqy6 gX10_goOn_X10_voids rfl (by decide +kernel) rfl (by decide) (by decide) (Nat.le_of_ble_eq_true rfl) dX10_goOn_60 ?_
    exact hR _ _ _ _ dX10_goOn_63 hf
  · refine b_iconst C (v := 0) dX10_goOn_32 (by decide) ?_
    exact hR _ _ _ _ dX10_goOn_33 hf
set_option maxHeartbeats 4000000 in
set_option maxRecDepth 100000 in
theorem w_X10_goOn_25 {X : Ctx} {o : Int64} {rv : Int32 × Mem} (C : Cx X cX10_goOn RX10 wsX10_goOn 3 2 43) (hR : Rt X cX10_goOn 3 o rv) : ∀ (v1 s0 : Int32) (σ : Mem), some rv = f_X10_goOn_25 v1 s0 σ → Bk X 3 o 0 0 25 [(0, .ref (ad X (10))), (1, .int (v1))] [.int (s0), .ref (ad X (10))] σ := by
  intro v1 s0 σ hf
  unfold f_X10_goOn_25 at hf
  refine b_iconst C (v := 0) dX10_goOn_25 (by decide) ?_
  exact w_X10_goOn_26 C hR _ _ _ _ hf
set_option maxHeartbeats 4000000 in
set_option maxRecDepth 100000 in
theorem c_X10_goOn (x1 : Int32) (l : Launch) : Cti l yX10_goOn wsX10_goOn 2 43 (fun G => [.ref (G.1 (10)), .int (x1)]) (f_X10_goOn x1) := by
  refine mk_i (cc := cX10_goOn) (nL := 3) (own := RX10) (by decide) rfl rfl (fun _ => Nat.le_of_ble_eq_true rfl) (fun X o σ rv C hR hf => ?_)
  show Bk X 3 o 0 0 0 [(0, .ref (ad X (10))), (1, .int (x1))] [] σ
  unfold f_X10_goOn at hf
  refine b_aload_n C dX10_goOn_0 rfl 0 rfl ?_
  refine b_iload_n C dX10_goOn_1 rfl 1 rfl ?_
  obtain ⟨y8, τ9, hqy8, hf⟩ := bd_inv hf
  refine b_callVi (n := 1) C (10) 10 (isObj_s (by decide) (by decide)) rfl (fun _ => [.int (x1)]) (c_X10_isReader (x1)) hqy8 gX10_goOn_X10_isReader rfl (by decide +kernel) rfl (by decide) (by decide) (Nat.le_of_ble_eq_true rfl) dX10_goOn_2 ?_
  refine b_istore_n (lv' := [(2, .int (y8)), (0, .ref (ad X (10))), (1, .int (x1))]) C dX10_goOn_5 rfl (by decide) rfl ?_
  refine b_aload_n C dX10_goOn_6 rfl 1 rfl ?_
  refine b_iload_n C dX10_goOn_7 rfl 0 rfl ?_
  refine b_iload_n C dX10_goOn_8 rfl 0 rfl ?_
  refine b_if_eq C 25 dX10_goOn_9 (by decide) hf (fun hf => ?_) (fun hf => ?_)
  · refine b_sub [1, 2] rfl ?_
    exact w_X10_goOn_25 C hR _ _ _ hf
  · refine b_aload_n C dX10_goOn_12 rfl 1 rfl ?_
    refine b_getR C hiX10_goOn_10 10 21 (54 + 58) (by decide) (by decide) rfl (by decide) kX10_goOn_60 rfl rfl dX10_goOn_13 ?_
    refine b_iload_n C dX10_goOn_16 rfl 2 rfl ?_
    refine b_zald C 58 (by decide) rfl dX10_goOn_17 hf (fun hf => ?_)
    refine b_if_eq C 25 dX10_goOn_18 (by decide) hf (fun hf => ?_) (fun hf => ?_)
    · refine b_sub [1, 2] rfl ?_
      exact w_X10_goOn_25 C hR _ _ _ hf
    · refine b_iconst C (v := 1) dX10_goOn_21 (by decide) ?_
      refine b_goto C 26 dX10_goOn_22 (by decide) ?_
      refine b_sub [1, 2] rfl ?_
      exact w_X10_goOn_26 C hR _ _ _ _ hf
theorem hiX10_plain_10 : ∀ w ∈ wsX100, w ∈ wsX10_plain := by decide +kernel
theorem kX10_plain_48 : Cond.fieldLink RX10 48 "ScriptRoomModel" "twice" "[Z" ∈ wsX10_plain := by decide +kernel
set_option maxHeartbeats 4000000 in
set_option maxRecDepth 100000 in
theorem w_X10_plain_82 {X : Ctx} {o : Int64} {rv : Int32 × Mem} (C : Cx X cX10_plain RX10 wsX10_plain 3 5 116) (hR : Rt X cX10_plain 3 o rv) : ∀ (s0 : Int32) (σ : Mem), some rv = f_X10_plain_82 s0 σ → Bk X 3 o 0 0 82 [] [.int (s0)] σ := by
  intro s0 σ hf
  unfold f_X10_plain_82 at hf
  exact hR _ _ _ _ dX10_plain_82 hf
set_option maxHeartbeats 4000000 in
set_option maxRecDepth 100000 in
theorem c_X10_plain (x1 : Int32) (l : Launch) : Cti l yX10_plain wsX10_plain 5 116 (fun G => [.ref (G.1 (10)), .int (x1)]) (f_X10_plain x1) := by
  refine mk_i (cc := cX10_plain) (nL := 3) (own := RX10) (by decide) rfl rfl (fun _ => Nat.le_of_ble_eq_true rfl) (fun X o σ rv C hR hf => ?_)
  show Bk X 3 o 0 0 0 [(0, .ref (ad X (10))), (1, .int (x1))] [] σ
  unfold f_X10_plain at hf
  refine b_aload_n C dX10_plain_0 rfl 0 rfl ?_
  refine b_iload_n C dX10_plain_1 rfl 1 rfl ?_
  obtain ⟨y1, τ2, hqy1, hf⟩ := bd_inv hf
  refine b_callVi (n := 1) C (10) 10 (isObj_s (by decide) (by decide)) rfl (fun _ => [.int (x1)]) (c_X10_hasAnswer (x1)) hqy1 gX10_plain_X10_hasAnswer rfl (by decide +kernel) rfl (by decide) (by decide) (Nat.le_of_ble_eq_true rfl) dX10_plain_2 ?_
  refine b_if_ne C 10 dX10_plain_5 (by decide) hf (fun hf => ?_) (fun hf => ?_)
  · refine b_aload_n C dX10_plain_10 rfl 0 rfl ?_
    refine b_iload_n C dX10_plain_11 rfl 1 rfl ?_
    obtain ⟨y3, τ4, hqy3, hf⟩ := bd_inv hf
    refine b_callVi (n := 1) C (10) 10 (isObj_s (by decide) (by decide)) rfl (fun _ => [.int (x1)]) (c_X10_wantsFirst (x1)) hqy3 gX10_plain_X10_wantsFirst rfl (by decide +kernel) rfl (by decide) (by decide) (Nat.le_of_ble_eq_true rfl) dX10_plain_12 ?_
    refine b_if_le C 20 dX10_plain_15 (by decide) hf (fun hf => ?_) (fun hf => ?_)
    · refine b_aload_n C dX10_plain_20 rfl 0 rfl ?_
      refine b_aload_n C dX10_plain_21 rfl 0 rfl ?_
      refine b_iload_n C dX10_plain_22 rfl 1 rfl ?_
      refine b_iconst C (v := 0) dX10_plain_23 (by decide) ?_
      refine b_iconst C (v := 0) dX10_plain_24 (by decide) ?_
      obtain ⟨y5, τ6, hqy5, hf⟩ := bd_inv hf
      refine b_callVi (n := 3) C (10) 10 (isObj_s (by decide) (by decide)) rfl (fun _ => [.int (x1), .int (0), .int (0)]) (c_X10_reading (x1) (0) (0)) hqy5 gX10_plain_X10_reading rfl (by decide +kernel) rfl (by decide) (by decide) (Nat.le_of_ble_eq_true rfl) dX10_plain_25 ?_
      obtain ⟨y7, τ8, hqy7, hf⟩ := bd_inv hf
      refine b_callVi (n := 1) C (10) 10 (isObj_s (by decide) (by decide)) rfl (fun _ => [.int (y5)]) (c_X10_markBy (y5)) hqy7 gX10_plain_X10_markBy rfl (by decide +kernel) rfl (by decide) (by decide) (Nat.le_of_ble_eq_true rfl) dX10_plain_28 ?_
      refine b_istore_n (lv' := [(2, .int (y7)), (0, .ref (ad X (10))), (1, .int (x1))]) C dX10_plain_31 rfl (by decide) rfl ?_
      refine b_aload_n C dX10_plain_32 rfl 1 rfl ?_
      refine b_getR C hiX10_plain_10 10 16 (54 + 54) (by decide) (by decide) rfl (by decide) kX10_plain_48 rfl rfl dX10_plain_33 ?_
      refine b_iload_n C dX10_plain_36 rfl 2 rfl ?_
      refine b_iconst C (v := 4) dX10_plain_37 (by decide) ?_
      refine b_irem C dX10_plain_38 (by decide) ?_
      refine b_zald C 54 (by decide) rfl dX10_plain_39 hf (fun hf => ?_)
      refine b_if_ne C 45 dX10_plain_40 (by decide) hf (fun hf => ?_) (fun hf => ?_)
      · refine b_aload_n C dX10_plain_45 rfl 1 rfl ?_
        refine b_iload_n C dX10_plain_46 rfl 2 rfl ?_
        obtain ⟨y9, τ10, hqy9, hf⟩ := bd_inv hf
        refine b_callVi (n := 1) C (10) 10 (isObj_s (by decide) (by decide)) rfl (fun _ => [.int (x1)]) (c_X10_isApart (x1)) hqy9 gX10_plain_X10_isApart rfl (by decide +kernel) rfl (by decide) (by decide) (Nat.le_of_ble_eq_true rfl) dX10_plain_47 ?_
        refine b_if_eq C 65 dX10_plain_50 (by decide) hf (fun hf => ?_) (fun hf => ?_)
        · refine b_iload_n C dX10_plain_65 rfl 0 rfl ?_
          refine b_aload_n C dX10_plain_66 rfl 1 rfl ?_
          refine b_aload_n C dX10_plain_67 rfl 1 rfl ?_
          refine b_iload_n C dX10_plain_68 rfl 2 rfl ?_
          refine b_iconst C (v := 1) dX10_plain_69 (by decide) ?_
          refine b_iconst C (v := 0) dX10_plain_70 (by decide) ?_
          obtain ⟨y11, τ12, hqy11, hf⟩ := bd_inv hf
          refine b_callVi (n := 3) C (10) 10 (isObj_s (by decide) (by decide)) rfl (fun _ => [.int (x1), .int (1), .int (0)]) (c_X10_reading (x1) (1) (0)) hqy11 gX10_plain_X10_reading rfl (by decide +kernel) rfl (by decide) (by decide) (Nat.le_of_ble_eq_true rfl) dX10_plain_71 ?_
          obtain ⟨y13, τ14, hqy13, hf⟩ := bd_inv hf
          refine b_callVi (n := 1) C (10) 10 (isObj_s (by decide) (by decide)) rfl (fun _ => [.int (y11)]) (c_X10_markBy (y11)) hqy13 gX10_plain_X10_markBy rfl (by decide +kernel) rfl (by decide) (by decide) (Nat.le_of_ble_eq_true rfl) dX10_plain_74 ?_
          refine b_iadd C dX10_plain_77 ?_
          refine b_iconst C (v := 1) dX10_plain_78 (by decide) ?_
          refine b_iadd C dX10_plain_79 ?_
          refine b_iconst C (v := 2) dX10_plain_80 (by decide) ?_
          refine b_idiv C dX10_plain_81 (by decide) ?_
          refine b_sub [] rfl ?_
          exact w_X10_plain_82 C hR _ _ hf
        · refine b_aload_n C dX10_plain_53 rfl 1 rfl ?_
          refine b_aload_n C dX10_plain_54 rfl 1 rfl ?_
          refine b_iload_n C dX10_plain_55 rfl 2 rfl ?_
          obtain ⟨y15, τ16, hqy15, hf⟩ := bd_inv hf
          refine b_callVi (n := 1) C (10) 10 (isObj_s (by decide) (by decide)) rfl (fun _ => [.int (x1)]) (c_X10_third (x1)) hqy15 gX10_plain_X10_third rfl (by decide +kernel) rfl (by decide) (by decide) (Nat.le_of_ble_eq_true rfl) dX10_plain_56 ?_
          obtain ⟨y17, τ18, hqy17, hf⟩ := bd_inv hf
          refine b_callVi (n := 1) C (10) 10 (isObj_s (by decide) (by decide)) rfl (fun _ => [.int (y15)]) (c_X10_markBy (y15)) hqy17 gX10_plain_X10_markBy rfl (by decide +kernel) rfl (by decide) (by decide) (Nat.le_of_ble_eq_true rfl) dX10_plain_59 ?_
          refine b_goto C 82 dX10_plain_62 (by decide) ?_
          refine b_sub [] rfl ?_
          exact w_X10_plain_82 C hR _ _ hf
      · refine b_iload_n C dX10_plain_43 rfl 0 rfl ?_
        exact hR _ _ _ _ dX10_plain_44 hf
    · refine b_iconst C (v := (-1)) dX10_plain_18 (by decide) ?_
      exact hR _ _ _ _ dX10_plain_19 hf
  · refine b_iconst C (v := 0) dX10_plain_8 (by decide) ?_
    exact hR _ _ _ _ dX10_plain_9 hf
theorem hiX10_marked_10 : ∀ w ∈ wsX100, w ∈ wsX10_marked := by decide +kernel
theorem kX10_marked_13 : Cond.fieldLink RX10 13 "ScriptRoomModel" "tolerance" "I" ∈ wsX10_marked := by decide +kernel
theorem kX10_marked_30 : Cond.fieldLink RX10 30 "ScriptRoomModel" "appealed" "[Z" ∈ wsX10_marked := by decide +kernel
set_option maxHeartbeats 4000000 in
set_option maxRecDepth 100000 in
theorem w_X10_marked_67 {X : Ctx} {o : Int64} {rv : Int32 × Mem} (C : Cx X cX10_marked RX10 wsX10_marked 5 6 138) (hR : Rt X cX10_marked 5 o rv) : ∀ (s0 : Int32) (σ : Mem), some rv = f_X10_marked_67 s0 σ → Bk X 5 o 0 0 67 [] [.int (s0)] σ := by
  intro s0 σ hf
  unfold f_X10_marked_67 at hf
  exact hR _ _ _ _ dX10_marked_67 hf
set_option maxHeartbeats 4000000 in
set_option maxRecDepth 100000 in
theorem w_X10_marked_46 {X : Ctx} {o : Int64} {rv : Int32 × Mem} (C : Cx X cX10_marked RX10 wsX10_marked 5 6 138) (hR : Rt X cX10_marked 5 o rv) : ∀ (v2 s0 : Int32) (σ : Mem), some rv = f_X10_marked_46 v2 s0 σ → Bk X 5 o 0 0 46 [(0, .ref (ad X (10))), (2, .int (v2))] [.int (s0)] σ := by
  intro v2 s0 σ hf
  unfold f_X10_marked_46 at hf
  refine b_istore (lv' := [(4, .int (s0)), (0, .ref (ad X (10))), (2, .int (v2))]) C dX10_marked_46 (by decide) rfl ?_
  refine b_iload_n C dX10_marked_48 rfl 2 rfl ?_
  refine b_iload C dX10_marked_49 0 rfl ?_
  obtain ⟨y1, τ2, hqy1, hf⟩ := bd_inv hf
  refine b_callSi (n := 2) C (fun _ => [.int (v2), .int (s0)]) (c_X10_apart (v2) (s0)) hqy1 gX10_marked_X10_apart rfl (by decide +kernel) rfl (by decide) (by decide) (Nat.le_of_ble_eq_true rfl) dX10_marked_51 ?_
  refine b_aload_n C dX10_marked_54 rfl 1 rfl ?_
  refine b_getS C hiX10_marked_10 10 3 24 (by decide) (by decide) rfl (by decide) kX10_marked_13 rfl rfl dX10_marked_55 ?_
  refine b_icmp_le C 66 dX10_marked_58 (by decide) hf (fun hf => ?_) (fun hf => ?_)
  · refine b_iload_n C dX10_marked_66 rfl 2 rfl ?_
    refine b_sub [] rfl ?_
    exact w_X10_marked_67 C hR _ _ hf
  · refine b_iload C dX10_marked_61 0 rfl ?_
    refine b_goto C 67 dX10_marked_63 (by decide) ?_
    refine b_sub [] rfl ?_
    exact w_X10_marked_67 C hR _ _ hf
set_option maxHeartbeats 4000000 in
set_option maxRecDepth 100000 in
theorem w_X10_marked_45 {X : Ctx} {o : Int64} {rv : Int32 × Mem} (C : Cx X cX10_marked RX10 wsX10_marked 5 6 138) (hR : Rt X cX10_marked 5 o rv) : ∀ (v2 : Int32) (σ : Mem), some rv = f_X10_marked_45 v2 σ → Bk X 5 o 0 0 45 [(0, .ref (ad X (10))), (2, .int (v2))] [] σ := by
  intro v2 σ hf
  unfold f_X10_marked_45 at hf
  refine b_iload_n C dX10_marked_45 rfl 1 rfl ?_
  exact w_X10_marked_46 C hR _ _ _ hf
set_option maxHeartbeats 4000000 in
set_option maxRecDepth 100000 in
theorem w_X10_marked_26 {X : Ctx} {o : Int64} {rv : Int32 × Mem} (C : Cx X cX10_marked RX10 wsX10_marked 5 6 138) (hR : Rt X cX10_marked 5 o rv) : ∀ (v2 s0 : Int32) (σ : Mem), some rv = f_X10_marked_26 v2 s0 σ → Bk X 5 o 0 0 26 [(0, .ref (ad X (10))), (2, .int (v2))] [.int (s0)] σ := by
  intro v2 s0 σ hf
  unfold f_X10_marked_26 at hf
  refine b_istore_n (lv' := [(3, .int (s0)), (0, .ref (ad X (10))), (2, .int (v2))]) C dX10_marked_26 rfl (by decide) rfl ?_
  refine b_iload_n C dX10_marked_27 rfl 2 rfl ?_
  refine b_iconst C (v := (-1)) dX10_marked_28 (by decide) ?_
  refine b_icmp_eq C 45 dX10_marked_29 (by decide) hf (fun hf => ?_) (fun hf => ?_)
  · refine b_sub [1, 2] rfl ?_
    exact w_X10_marked_45 C hR _ _ hf
  · refine b_iload_n C dX10_marked_32 rfl 0 rfl ?_
    refine b_iconst C (v := (-1)) dX10_marked_33 (by decide) ?_
    refine b_icmp_eq C 45 dX10_marked_34 (by decide) hf (fun hf => ?_) (fun hf => ?_)
    · refine b_sub [1, 2] rfl ?_
      exact w_X10_marked_45 C hR _ _ hf
    · refine b_aload_n C dX10_marked_37 rfl 1 rfl ?_
      refine b_iload_n C dX10_marked_38 rfl 0 rfl ?_
      obtain ⟨y3, τ4, hqy3, hf⟩ := bd_inv hf
      refine b_callVi (n := 1) C (10) 10 (isObj_s (by decide) (by decide)) rfl (fun _ => [.int (s0)]) (c_X10_markBy (s0)) hqy3 gX10_marked_X10_markBy rfl (by decide +kernel) rfl (by decide) (by decide) (Nat.le_of_ble_eq_true rfl) dX10_marked_39 ?_
      refine b_goto C 46 dX10_marked_42 (by decide) ?_
      refine b_sub [1, 2] rfl ?_
      exact w_X10_marked_46 C hR _ _ _ hf
set_option maxHeartbeats 4000000 in
set_option maxRecDepth 100000 in
theorem c_X10_marked (x1 : Int32) (l : Launch) : Cti l yX10_marked wsX10_marked 6 138 (fun G => [.ref (G.1 (10)), .int (x1)]) (f_X10_marked x1) := by
  refine mk_i (cc := cX10_marked) (nL := 5) (own := RX10) (by decide) rfl rfl (fun _ => Nat.le_of_ble_eq_true rfl) (fun X o σ rv C hR hf => ?_)
  show Bk X 5 o 0 0 0 [(0, .ref (ad X (10))), (1, .int (x1))] [] σ
  unfold f_X10_marked at hf
  refine b_aload_n C dX10_marked_0 rfl 0 rfl ?_
  refine b_iload_n C dX10_marked_1 rfl 1 rfl ?_
  obtain ⟨y5, τ6, hqy5, hf⟩ := bd_inv hf
  refine b_callVi (n := 1) C (10) 10 (isObj_s (by decide) (by decide)) rfl (fun _ => [.int (x1)]) (c_X10_plain (x1)) hqy5 gX10_marked_X10_plain rfl (by decide +kernel) rfl (by decide) (by decide) (Nat.le_of_ble_eq_true rfl) dX10_marked_2 ?_
  refine b_istore_n (lv' := [(2, .int (y5)), (0, .ref (ad X (10))), (1, .int (x1))]) C dX10_marked_5 rfl (by decide) rfl ?_
  refine b_aload_n C dX10_marked_6 rfl 1 rfl ?_
  refine b_getR C hiX10_marked_10 10 9 (54 + 48) (by decide) (by decide) rfl (by decide) kX10_marked_30 rfl rfl dX10_marked_7 ?_
  refine b_iload_n C dX10_marked_10 rfl 2 rfl ?_
  refine b_zald C 48 (by decide) rfl dX10_marked_11 hf (fun hf => ?_)
  refine b_if_eq C 25 dX10_marked_12 (by decide) hf (fun hf => ?_) (fun hf => ?_)
  · refine b_iconst C (v := (-1)) dX10_marked_25 (by decide) ?_
    refine b_sub [1, 0] rfl ?_
    exact w_X10_marked_26 C hR _ _ _ hf
  · refine b_aload_n C dX10_marked_15 rfl 1 rfl ?_
    refine b_iload_n C dX10_marked_16 rfl 2 rfl ?_
    refine b_iconst C (v := 0) dX10_marked_17 (by decide) ?_
    refine b_iconst C (v := 1) dX10_marked_18 (by decide) ?_
    obtain ⟨y7, τ8, hqy7, hf⟩ := bd_inv hf
    refine b_callVi (n := 3) C (10) 10 (isObj_s (by decide) (by decide)) rfl (fun _ => [.int (x1), .int (0), .int (1)]) (c_X10_reading (x1) (0) (1)) hqy7 gX10_marked_X10_reading rfl (by decide +kernel) rfl (by decide) (by decide) (Nat.le_of_ble_eq_true rfl) dX10_marked_19 ?_
    refine b_goto C 26 dX10_marked_22 (by decide) ?_
    refine b_sub [1, 0] rfl ?_
    exact w_X10_marked_26 C hR _ _ _ hf
theorem hiX10_totalOf_10 : ∀ w ∈ wsX100, w ∈ wsX10_totalOf := by decide +kernel
theorem kX10_totalOf_27 : Cond.fieldLink RX10 27 "ScriptRoomModel" "gift" "[I" ∈ wsX10_totalOf := by decide +kernel
set_option maxHeartbeats 4000000 in
set_option maxRecDepth 100000 in
theorem w_X10_totalOf_106 {X : Ctx} {o : Int64} {rv : Int32 × Mem} (C : Cx X cX10_totalOf RX10 wsX10_totalOf 7 7 162) (hR : Rt X cX10_totalOf 7 o rv) : ∀ (s0 : Int32) (σ : Mem), some rv = f_X10_totalOf_106 s0 σ → Bk X 7 o 0 0 106 [] [.int (s0)] σ := by
  intro s0 σ hf
  unfold f_X10_totalOf_106 at hf
  exact hR _ _ _ _ dX10_totalOf_106 hf
set_option maxHeartbeats 4000000 in
set_option maxRecDepth 100000 in
theorem w_X10_totalOf_79 {X : Ctx} {o : Int64} {rv : Int32 × Mem} (C : Cx X cX10_totalOf RX10 wsX10_totalOf 7 7 162) (hR : Rt X cX10_totalOf 7 o rv) (k10 : Int32 → Int32 → Int32 → Int32 → Int32 → Mem → Option (Int32 × Mem)) (h10 : ∀ (v1 v2 v3 v4 v5 : Int32) (σ : Mem), some rv = k10 v1 v2 v3 v4 v5 σ → Bk X 7 o 0 0 10 [(0, .ref (ad X (10))), (1, .int (v1)), (2, .int (v2)), (3, .int (v3)), (4, .int (v4)), (5, .int (v5))] [] σ) : ∀ (v1 v2 v3 v5 s0 : Int32) (σ : Mem), some rv = f_X10_totalOf_79 k10 v1 v2 v3 v5 s0 σ → Bk X 7 o 0 0 79 [(0, .ref (ad X (10))), (1, .int (v1)), (2, .int (v2)), (3, .int (v3)), (5, .int (v5))] [.int (s0)] σ := by
  intro v1 v2 v3 v5 s0 σ hf
  unfold f_X10_totalOf_79 at hf
  refine b_istore (lv' := [(4, .int (s0)), (0, .ref (ad X (10))), (1, .int (v1)), (2, .int (v2)), (3, .int (v3)), (5, .int (v5))]) C dX10_totalOf_79 (by decide) rfl ?_
  refine b_iinc (v := (v5) + (1)) (lv' := [(5, .int ((v5) + (1))), (4, .int (s0)), (0, .ref (ad X (10))), (1, .int (v1)), (2, .int (v2)), (3, .int (v3))]) C dX10_totalOf_81 5 rfl rfl (by decide) rfl ?_
  refine b_goto C 10 dX10_totalOf_84 (by decide) ?_
  refine b_sub [2, 3, 4, 5, 1, 0] rfl ?_
  exact h10 _ _ _ _ _ _ hf
set_option maxHeartbeats 4000000 in
set_option maxRecDepth 100000 in
theorem w_X10_totalOf_77 {X : Ctx} {o : Int64} {rv : Int32 × Mem} (C : Cx X cX10_totalOf RX10 wsX10_totalOf 7 7 162) (hR : Rt X cX10_totalOf 7 o rv) (k10 : Int32 → Int32 → Int32 → Int32 → Int32 → Mem → Option (Int32 × Mem)) (h10 : ∀ (v1 v2 v3 v4 v5 : Int32) (σ : Mem), some rv = k10 v1 v2 v3 v4 v5 σ → Bk X 7 o 0 0 10 [(0, .ref (ad X (10))), (1, .int (v1)), (2, .int (v2)), (3, .int (v3)), (4, .int (v4)), (5, .int (v5))] [] σ) : ∀ (v1 v2 v3 v4 v5 : Int32) (σ : Mem), some rv = f_X10_totalOf_77 k10 v1 v2 v3 v4 v5 σ → Bk X 7 o 0 0 77 [(0, .ref (ad X (10))), (1, .int (v1)), (2, .int (v2)), (3, .int (v3)), (4, .int (v4)), (5, .int (v5))] [] σ := by
  intro v1 v2 v3 v4 v5 σ hf
  unfold f_X10_totalOf_77 at hf
  refine b_iload C dX10_totalOf_77 4 rfl ?_
  refine b_sub [0, 1, 2, 3, 5] rfl ?_
  exact w_X10_totalOf_79 C hR k10 h10 _ _ _ _ _ _ hf
set_option maxHeartbeats 4000000 in
set_option maxRecDepth 100000 in
theorem w_X10_totalOf_57 {X : Ctx} {o : Int64} {rv : Int32 × Mem} (C : Cx X cX10_totalOf RX10 wsX10_totalOf 7 7 162) (hR : Rt X cX10_totalOf 7 o rv) (k10 : Int32 → Int32 → Int32 → Int32 → Int32 → Mem → Option (Int32 × Mem)) (h10 : ∀ (v1 v2 v3 v4 v5 : Int32) (σ : Mem), some rv = k10 v1 v2 v3 v4 v5 σ → Bk X 7 o 0 0 10 [(0, .ref (ad X (10))), (1, .int (v1)), (2, .int (v2)), (3, .int (v3)), (4, .int (v4)), (5, .int (v5))] [] σ) : ∀ (v1 v3 v4 v5 v6 s0 s1 : Int32) (σ : Mem), some rv = f_X10_totalOf_57 k10 v1 v3 v4 v5 v6 s0 s1 σ → Bk X 7 o 0 0 57 [(0, .ref (ad X (10))), (1, .int (v1)), (3, .int (v3)), (4, .int (v4)), (5, .int (v5)), (6, .int (v6))] [.int (s0), .int (s1)] σ := by
  intro v1 v3 v4 v5 v6 s0 s1 σ hf
  unfold f_X10_totalOf_57 at hf
  refine b_iadd C dX10_totalOf_57 ?_
  refine b_nv hf (fun y1 hf => ?_)
  refine b_istore_n (lv' := [(2, .int (y1)), (0, .ref (ad X (10))), (1, .int (v1)), (3, .int (v3)), (4, .int (v4)), (5, .int (v5)), (6, .int (v6))]) C dX10_totalOf_58 rfl (by decide) rfl ?_
  refine b_iload C dX10_totalOf_59 5 rfl ?_
  refine b_iconst C (v := 2) dX10_totalOf_61 (by decide) ?_
  refine b_icmp_lt C 77 dX10_totalOf_62 (by decide) hf (fun hf => ?_) (fun hf => ?_)
  · refine b_sub [1, 2, 0, 3, 4, 5] rfl ?_
    exact w_X10_totalOf_77 C hR k10 h10 _ _ _ _ _ _ hf
  · refine b_iload C dX10_totalOf_65 6 rfl ?_
    refine b_iload C dX10_totalOf_67 4 rfl ?_
    refine b_icmp_le C 77 dX10_totalOf_69 (by decide) hf (fun hf => ?_) (fun hf => ?_)
    · refine b_sub [1, 2, 0, 3, 4, 5] rfl ?_
      exact w_X10_totalOf_77 C hR k10 h10 _ _ _ _ _ _ hf
    · refine b_iload C dX10_totalOf_72 6 rfl ?_
      refine b_goto C 79 dX10_totalOf_74 (by decide) ?_
      refine b_sub [1, 2, 0, 3, 5] rfl ?_
      exact w_X10_totalOf_79 C hR k10 h10 _ _ _ _ _ _ hf
set_option maxHeartbeats 4000000 in
set_option maxRecDepth 100000 in
theorem w_X10_totalOf_43 {X : Ctx} {o : Int64} {rv : Int32 × Mem} (C : Cx X cX10_totalOf RX10 wsX10_totalOf 7 7 162) (hR : Rt X cX10_totalOf 7 o rv) (k10 : Int32 → Int32 → Int32 → Int32 → Int32 → Mem → Option (Int32 × Mem)) (h10 : ∀ (v1 v2 v3 v4 v5 : Int32) (σ : Mem), some rv = k10 v1 v2 v3 v4 v5 σ → Bk X 7 o 0 0 10 [(0, .ref (ad X (10))), (1, .int (v1)), (2, .int (v2)), (3, .int (v3)), (4, .int (v4)), (5, .int (v5))] [] σ) : ∀ (v1 v2 v4 v5 v6 s0 : Int32) (σ : Mem), some rv = f_X10_totalOf_43 k10 v1 v2 v4 v5 v6 s0 σ → Bk X 7 o 0 0 43 [(0, .ref (ad X (10))), (1, .int (v1)), (2, .int (v2)), (4, .int (v4)), (5, .int (v5)), (6, .int (v6))] [.int (s0)] σ := by
  intro v1 v2 v4 v5 v6 s0 σ hf
  unfold f_X10_totalOf_43 at hf
  refine b_istore_n (lv' := [(3, .int (s0)), (0, .ref (ad X (10))), (1, .int (v1)), (2, .int (v2)), (4, .int (v4)), (5, .int (v5)), (6, .int (v6))]) C dX10_totalOf_43 rfl (by decide) rfl ?_
  refine b_iload_n C dX10_totalOf_44 rfl 3 rfl ?_
  refine b_iload C dX10_totalOf_45 5 rfl ?_
  refine b_iconst C (v := 2) dX10_totalOf_47 (by decide) ?_
  refine b_icmp_ge C 56 dX10_totalOf_48 (by decide) hf (fun hf => ?_) (fun hf => ?_)
  · refine b_iconst C (v := 0) dX10_totalOf_56 (by decide) ?_
    refine b_sub [1, 2, 0, 4, 5, 6] rfl ?_
    exact w_X10_totalOf_57 C hR k10 h10 _ _ _ _ _ _ _ _ hf
  · refine b_iload C dX10_totalOf_51 6 rfl ?_
    refine b_goto C 57 dX10_totalOf_53 (by decide) ?_
    refine b_sub [1, 2, 0, 4, 5, 6] rfl ?_
    exact w_X10_totalOf_57 C hR k10 h10 _ _ _ _ _ _ _ _ hf
set_option maxHeartbeats 4000000 in
set_option maxRecDepth 100000 in
theorem w_X10_totalOf_42 {X : Ctx} {o : Int64} {rv : Int32 × Mem} (C : Cx X cX10_totalOf RX10 wsX10_totalOf 7 7 162) (hR : Rt X cX10_totalOf 7 o rv) (k10 : Int32 → Int32 → Int32 → Int32 → Int32 → Mem → Option (Int32 × Mem)) (h10 : ∀ (v1 v2 v3 v4 v5 : Int32) (σ : Mem), some rv = k10 v1 v2 v3 v4 v5 σ → Bk X 7 o 0 0 10 [(0, .ref (ad X (10))), (1, .int (v1)), (2, .int (v2)), (3, .int (v3)), (4, .int (v4)), (5, .int (v5))] [] σ) : ∀ (v1 v2 v4 v5 v6 : Int32) (σ : Mem), some rv = f_X10_totalOf_42 k10 v1 v2 v4 v5 v6 σ → Bk X 7 o 0 0 42 [(0, .ref (ad X (10))), (1, .int (v1)), (2, .int (v2)), (4, .int (v4)), (5, .int (v5)), (6, .int (v6))] [] σ := by
  intro v1 v2 v4 v5 v6 σ hf
  unfold f_X10_totalOf_42 at hf
  refine b_iconst C (v := 0) dX10_totalOf_42 (by decide) ?_
  exact w_X10_totalOf_43 C hR k10 h10 _ _ _ _ _ _ _ hf
set_option maxHeartbeats 4000000 in
set_option maxRecDepth 100000 in
theorem w_X10_totalOf_10 {X : Ctx} {o : Int64} {rv : Int32 × Mem} (C : Cx X cX10_totalOf RX10 wsX10_totalOf 7 7 162) (hR : Rt X cX10_totalOf 7 o rv) : ∀ (n : Nat) (v1 v2 v3 v4 v5 : Int32) (σ : Mem), some rv = f_X10_totalOf_10 n v1 v2 v3 v4 v5 σ → Bk X 7 o 0 0 10 [(0, .ref (ad X (10))), (1, .int (v1)), (2, .int (v2)), (3, .int (v3)), (4, .int (v4)), (5, .int (v5))] [] σ := by
  intro n
  induction n with
  | zero =>
    intro v1 v2 v3 v4 v5 σ hf
    rw [f_X10_totalOf_10] at hf
    cases hf
  | succ n ih =>
    intro v1 v2 v3 v4 v5 σ hf
    rw [f_X10_totalOf_10] at hf
    refine b_iload C dX10_totalOf_10 5 rfl ?_
    refine b_iconst C (v := 4) dX10_totalOf_12 (by decide) ?_
    refine b_icmp_ge C 87 dX10_totalOf_13 (by decide) hf (fun hf => ?_) (fun hf => ?_)
    · refine b_iload_n C dX10_totalOf_87 rfl 3 rfl ?_
      refine b_if_eq C 105 dX10_totalOf_88 (by decide) hf (fun hf => ?_) (fun hf => ?_)
      · refine b_iconst C (v := (-1)) dX10_totalOf_105 (by decide) ?_
        refine b_sub [] rfl ?_
        exact w_X10_totalOf_106 C hR _ _ hf
      · refine b_iload_n C dX10_totalOf_91 rfl 2 rfl ?_
        refine b_iload C dX10_totalOf_92 4 rfl ?_
        refine b_iadd C dX10_totalOf_94 ?_
        refine b_aload_n C dX10_totalOf_95 rfl 0 rfl ?_
        refine b_getR C hiX10_totalOf_10 10 8 (54 + 47) (by decide) (by decide) rfl (by decide) kX10_totalOf_27 rfl rfl dX10_totalOf_96 ?_
        refine b_iload_n C dX10_totalOf_99 rfl 1 rfl ?_
        refine b_iald C 47 (by decide) rfl dX10_totalOf_100 hf (fun hf => ?_)
        refine b_iadd C dX10_totalOf_101 ?_
        refine b_goto C 106 dX10_totalOf_102 (by decide) ?_
        refine b_sub [] rfl ?_
        exact w_X10_totalOf_106 C hR _ _ hf
    · refine b_aload_n C dX10_totalOf_16 rfl 0 rfl ?_
      refine b_iconst C (v := 4) dX10_totalOf_17 (by decide) ?_
      refine b_iload_n C dX10_totalOf_18 rfl 1 rfl ?_
      refine b_imul C dX10_totalOf_19 ?_
      refine b_iload C dX10_totalOf_20 5 rfl ?_
      refine b_iadd C dX10_totalOf_22 ?_
      obtain ⟨y2, τ3, hqy2, hf⟩ := bd_inv hf
      refine b_callVi (n := 1) C (10) 10 (isObj_s (by decide) (by decide)) rfl (fun _ => [.int (((4) * (v1)) + (v5))]) (c_X10_marked (((4) * (v1)) + (v5))) hqy2 gX10_totalOf_X10_marked rfl (by decide +kernel) rfl (by decide) (by decide) (Nat.le_of_ble_eq_true rfl) dX10_totalOf_23 ?_
      refine b_istore (lv' := [(6, .int (y2)), (0, .ref (ad X (10))), (1, .int (v1)), (2, .int (v2)), (3, .int (v3)), (4, .int (v4)), (5, .int (v5))]) C dX10_totalOf_26 (by decide) rfl ?_
      refine b_iload_n C dX10_totalOf_28 rfl 4 rfl ?_
      refine b_if_eq C 42 dX10_totalOf_29 (by decide) hf (fun hf => ?_) (fun hf => ?_)
      · refine b_sub [1, 2, 3, 5, 6, 0] rfl ?_
        exact w_X10_totalOf_42 C hR (f_X10_totalOf_10 n) ih _ _ _ _ _ _ hf
      · refine b_iload C dX10_totalOf_32 0 rfl ?_
        refine b_iconst C (v := (-1)) dX10_totalOf_34 (by decide) ?_
        refine b_icmp_eq C 42 dX10_totalOf_35 (by decide) hf (fun hf => ?_) (fun hf => ?_)
        · refine b_sub [1, 2, 3, 5, 6, 0] rfl ?_
          exact w_X10_totalOf_42 C hR (f_X10_totalOf_10 n) ih _ _ _ _ _ _ hf
        · refine b_iconst C (v := 1) dX10_totalOf_38 (by decide) ?_
          refine b_goto C 43 dX10_totalOf_39 (by decide) ?_
          refine b_sub [1, 2, 3, 5, 6, 0] rfl ?_
          exact w_X10_totalOf_43 C hR (f_X10_totalOf_10 n) ih _ _ _ _ _ _ _ hf
set_option maxHeartbeats 4000000 in
set_option maxRecDepth 100000 in
theorem c_X10_totalOf (x1 : Int32) (l : Launch) : Cti l yX10_totalOf wsX10_totalOf 7 162 (fun G => [.ref (G.1 (10)), .int (x1)]) (f_X10_totalOf x1) := by
  refine mk_i (cc := cX10_totalOf) (nL := 7) (own := RX10) (by decide) rfl rfl (fun _ => Nat.le_of_ble_eq_true rfl) (fun X o σ rv C hR hf => ?_)
  show Bk X 7 o 0 0 0 [(0, .ref (ad X (10))), (1, .int (x1))] [] σ
  unfold f_X10_totalOf at hf
  refine b_iconst C (v := 0) dX10_totalOf_0 (by decide) ?_
  refine b_istore_n (lv' := [(2, .int (0)), (0, .ref (ad X (10))), (1, .int (x1))]) C dX10_totalOf_1 rfl (by decide) rfl ?_
  refine b_iconst C (v := 1) dX10_totalOf_2 (by decide) ?_
  refine b_istore_n (lv' := [(3, .int (1)), (2, .int (0)), (0, .ref (ad X (10))), (1, .int (x1))]) C dX10_totalOf_3 rfl (by decide) rfl ?_
  refine b_iconst C (v := 0) dX10_totalOf_4 (by decide) ?_
  refine b_istore (lv' := [(4, .int (0)), (3, .int (1)), (2, .int (0)), (0, .ref (ad X (10))), (1, .int (x1))]) C dX10_totalOf_5 (by decide) rfl ?_
  refine b_iconst C (v := 0) dX10_totalOf_7 (by decide) ?_
  refine b_istore (lv' := [(5, .int (0)), (4, .int (0)), (3, .int (1)), (2, .int (0)), (0, .ref (ad X (10))), (1, .int (x1))]) C dX10_totalOf_8 (by decide) rfl ?_
  refine b_sub [4, 5, 3, 2, 1, 0] rfl ?_
  exact w_X10_totalOf_10 C hR FUEL _ _ _ _ _ _ hf
theorem hiX10_gradeOf_10 : ∀ w ∈ wsX100, w ∈ wsX10_gradeOf := by decide +kernel
theorem kX10_gradeOf_36 : Cond.fieldLink RX10 36 "ScriptRoomModel" "bound" "[I" ∈ wsX10_gradeOf := by decide +kernel
set_option maxHeartbeats 4000000 in
set_option maxRecDepth 100000 in
theorem w_X10_gradeOf_58 {X : Ctx} {o : Int64} {rv : Int32 × Mem} (C : Cx X cX10_gradeOf RX10 wsX10_gradeOf 3 8 188) (hR : Rt X cX10_gradeOf 3 o rv) : ∀ (s0 : Int32) (σ : Mem), some rv = f_X10_gradeOf_58 s0 σ → Bk X 3 o 0 0 58 [] [.int (s0)] σ := by
  intro s0 σ hf
  unfold f_X10_gradeOf_58 at hf
  exact hR _ _ _ _ dX10_gradeOf_58 hf
set_option maxHeartbeats 4000000 in
set_option maxRecDepth 100000 in
theorem c_X10_gradeOf (x1 : Int32) (l : Launch) : Cti l yX10_gradeOf wsX10_gradeOf 8 188 (fun G => [.ref (G.1 (10)), .int (x1)]) (f_X10_gradeOf x1) := by
  refine mk_i (cc := cX10_gradeOf) (nL := 3) (own := RX10) (by decide) rfl rfl (fun _ => Nat.le_of_ble_eq_true rfl) (fun X o σ rv C hR hf => ?_)
  show Bk X 3 o 0 0 0 [(0, .ref (ad X (10))), (1, .int (x1))] [] σ
  unfold f_X10_gradeOf at hf
  refine b_aload_n C dX10_gradeOf_0 rfl 0 rfl ?_
  refine b_iload_n C dX10_gradeOf_1 rfl 1 rfl ?_
  obtain ⟨y1, τ2, hqy1, hf⟩ := bd_inv hf
  refine b_callVi (n := 1) C (10) 10 (isObj_s (by decide) (by decide)) rfl (fun _ => [.int (x1)]) (c_X10_totalOf (x1)) hqy1 gX10_gradeOf_X10_totalOf rfl (by decide +kernel) rfl (by decide) (by decide) (Nat.le_of_ble_eq_true rfl) dX10_gradeOf_2 ?_
  refine b_istore_n (lv' := [(2, .int (y1)), (0, .ref (ad X (10))), (1, .int (x1))]) C dX10_gradeOf_5 rfl (by decide) rfl ?_
  refine b_iload_n C dX10_gradeOf_6 rfl 0 rfl ?_
  refine b_iconst C (v := (-1)) dX10_gradeOf_7 (by decide) ?_
  refine b_icmp_ne C 15 dX10_gradeOf_8 (by decide) hf (fun hf => ?_) (fun hf => ?_)
  · refine b_iload_n C dX10_gradeOf_15 rfl 0 rfl ?_
    refine b_aload_n C dX10_gradeOf_16 rfl 1 rfl ?_
    refine b_getR C hiX10_gradeOf_10 10 12 (54 + 50) (by decide) (by decide) rfl (by decide) kX10_gradeOf_36 rfl rfl dX10_gradeOf_17 ?_
    refine b_iconst C (v := 0) dX10_gradeOf_20 (by decide) ?_
    refine b_iald C 50 (by decide) rfl dX10_gradeOf_21 hf (fun hf => ?_)
    refine b_icmp_lt C 29 dX10_gradeOf_22 (by decide) hf (fun hf => ?_) (fun hf => ?_)
    · refine b_iload_n C dX10_gradeOf_29 rfl 0 rfl ?_
      refine b_aload_n C dX10_gradeOf_30 rfl 1 rfl ?_
      refine b_getR C hiX10_gradeOf_10 10 12 (54 + 50) (by decide) (by decide) rfl (by decide) kX10_gradeOf_36 rfl rfl dX10_gradeOf_31 ?_
      refine b_iconst C (v := 1) dX10_gradeOf_34 (by decide) ?_
      refine b_iald C 50 (by decide) rfl dX10_gradeOf_35 hf (fun hf => ?_)
      refine b_icmp_lt C 43 dX10_gradeOf_36 (by decide) hf (fun hf => ?_) (fun hf => ?_)
      · refine b_iload_n C dX10_gradeOf_43 rfl 0 rfl ?_
        refine b_aload_n C dX10_gradeOf_44 rfl 1 rfl ?_
        refine b_getR C hiX10_gradeOf_10 10 12 (54 + 50) (by decide) (by decide) rfl (by decide) kX10_gradeOf_36 rfl rfl dX10_gradeOf_45 ?_
        refine b_iconst C (v := 2) dX10_gradeOf_48 (by decide) ?_
        refine b_iald C 50 (by decide) rfl dX10_gradeOf_49 hf (fun hf => ?_)
        refine b_icmp_lt C 57 dX10_gradeOf_50 (by decide) hf (fun hf => ?_) (fun hf => ?_)
        · refine b_iconst C (v := 0) dX10_gradeOf_57 (by decide) ?_
          refine b_sub [] rfl ?_
          exact w_X10_gradeOf_58 C hR _ _ hf
        · refine b_iconst C (v := 1) dX10_gradeOf_53 (by decide) ?_
          refine b_goto C 58 dX10_gradeOf_54 (by decide) ?_
          refine b_sub [] rfl ?_
          exact w_X10_gradeOf_58 C hR _ _ hf
      · refine b_iconst C (v := 2) dX10_gradeOf_39 (by decide) ?_
        refine b_goto C 58 dX10_gradeOf_40 (by decide) ?_
        refine b_sub [] rfl ?_
        exact w_X10_gradeOf_58 C hR _ _ hf
    · refine b_iconst C (v := 3) dX10_gradeOf_25 (by decide) ?_
      refine b_goto C 58 dX10_gradeOf_26 (by decide) ?_
      refine b_sub [] rfl ?_
      exact w_X10_gradeOf_58 C hR _ _ hf
  · refine b_iconst C (v := (-1)) dX10_gradeOf_11 (by decide) ?_
    refine b_goto C 58 dX10_gradeOf_12 (by decide) ?_
    refine b_sub [] rfl ?_
    exact w_X10_gradeOf_58 C hR _ _ hf
theorem hiX10_lines_10 : ∀ w ∈ wsX100, w ∈ wsX10_lines := by decide +kernel
theorem kX10_lines_117 : Cond.fieldLink RX10 117 "ScriptRoomModel" "pupils" "I" ∈ wsX10_lines := by decide +kernel
theorem kX10_lines_36 : Cond.fieldLink RX10 36 "ScriptRoomModel" "bound" "[I" ∈ wsX10_lines := by decide +kernel
theorem kX10_lines_221 : Cond.fieldLink RX10 221 "ScriptRoomModel" "isReleased" "Z" ∈ wsX10_lines := by decide +kernel
set_option maxHeartbeats 4000000 in
set_option maxRecDepth 100000 in
theorem w_X10_lines_112 {X : Ctx} {o : Int64} {rv : Int32 × Mem} (C : Cx X cX10_lines RX10 wsX10_lines 7 9 210) (hR : Rt X cX10_lines 7 o rv) (k86 : Int32 → Int32 → Mem → Option (Int32 × Mem)) (h86 : ∀ (v5 v6 : Int32) (σ : Mem), some rv = k86 v5 v6 σ → Bk X 7 o 0 0 86 [(0, .ref (ad X (10))), (5, .int (v5)), (6, .int (v6))] [] σ) : ∀ (v6 s0 s1 : Int32) (σ : Mem), some rv = f_X10_lines_112 k86 v6 s0 s1 σ → Bk X 7 o 0 0 112 [(0, .ref (ad X (10))), (6, .int (v6))] [.int (s0), .int (s1)] σ := by
  intro v6 s0 s1 σ hf
  unfold f_X10_lines_112 at hf
  refine b_iadd C dX10_lines_112 ?_
  refine b_nv hf (fun y1 hf => ?_)
  refine b_istore (lv' := [(5, .int (y1)), (0, .ref (ad X (10))), (6, .int (v6))]) C dX10_lines_113 (by decide) rfl ?_
  refine b_iinc (v := (v6) + (1)) (lv' := [(6, .int ((v6) + (1))), (5, .int (y1)), (0, .ref (ad X (10)))]) C dX10_lines_115 2 rfl rfl (by decide) rfl ?_
  refine b_goto C 86 dX10_lines_118 (by decide) ?_
  refine b_sub [2, 1, 0] rfl ?_
  exact h86 _ _ _ hf
set_option maxHeartbeats 4000000 in
set_option maxRecDepth 100000 in
theorem w_X10_lines_86 {X : Ctx} {o : Int64} {rv : Int32 × Mem} (C : Cx X cX10_lines RX10 wsX10_lines 7 9 210) (hR : Rt X cX10_lines 7 o rv) : ∀ (n : Nat) (v5 v6 : Int32) (σ : Mem), some rv = f_X10_lines_86 n v5 v6 σ → Bk X 7 o 0 0 86 [(0, .ref (ad X (10))), (5, .int (v5)), (6, .int (v6))] [] σ := by
  intro n
  induction n with
  | zero =>
    intro v5 v6 σ hf
    rw [f_X10_lines_86] at hf
    cases hf
  | succ n ih =>
    intro v5 v6 σ hf
    rw [f_X10_lines_86] at hf
    refine b_iload C dX10_lines_86 2 rfl ?_
    refine b_aload_n C dX10_lines_88 rfl 0 rfl ?_
    refine b_getS C hiX10_lines_10 10 4 25 (by decide) (by decide) rfl (by decide) kX10_lines_117 rfl rfl dX10_lines_89 ?_
    refine b_icmp_ge C 121 dX10_lines_92 (by decide) hf (fun hf => ?_) (fun hf => ?_)
    · refine b_iload C dX10_lines_121 1 rfl ?_
      exact hR _ _ _ _ dX10_lines_123 hf
    · refine b_iload C dX10_lines_95 1 rfl ?_
      refine b_aload_n C dX10_lines_97 rfl 0 rfl ?_
      refine b_iload C dX10_lines_98 2 rfl ?_
      obtain ⟨y2, τ3, hqy2, hf⟩ := bd_inv hf
      refine b_callVi (n := 1) C (10) 10 (isObj_s (by decide) (by decide)) rfl (fun _ => [.int (v6)]) (c_X10_gradeOf (v6)) hqy2 gX10_lines_X10_gradeOf rfl (by decide +kernel) rfl (by decide) (by decide) (Nat.le_of_ble_eq_true rfl) dX10_lines_100 ?_
      refine b_iconst C (v := 3) dX10_lines_103 (by decide) ?_
      refine b_icmp_ne C 111 dX10_lines_104 (by decide) hf (fun hf => ?_) (fun hf => ?_)
      · refine b_iconst C (v := 0) dX10_lines_111 (by decide) ?_
        refine b_sub [0, 2] rfl ?_
        exact w_X10_lines_112 C hR (f_X10_lines_86 n) ih _ _ _ _ hf
      · refine b_iconst C (v := 1) dX10_lines_107 (by decide) ?_
        refine b_goto C 112 dX10_lines_108 (by decide) ?_
        refine b_sub [0, 2] rfl ?_
        exact w_X10_lines_112 C hR (f_X10_lines_86 n) ih _ _ _ _ hf
set_option maxHeartbeats 4000000 in
set_option maxRecDepth 100000 in
theorem w_X10_lines_51 {X : Ctx} {o : Int64} {rv : Int32 × Mem} (C : Cx X cX10_lines RX10 wsX10_lines 7 9 210) (hR : Rt X cX10_lines 7 o rv) : ∀ (v1 v2 v3 s0 s1 : Int32) (σ : Mem), some rv = f_X10_lines_51 v1 v2 v3 s0 s1 σ → Bk X 7 o 0 0 51 [(0, .ref (ad X (10))), (1, .int (v1)), (2, .int (v2)), (3, .int (v3))] [.int (s0), .int (s1), .ref (ad X (10))] σ := by
  intro v1 v2 v3 s0 s1 σ hf
  unfold f_X10_lines_51 at hf
  obtain ⟨y4, τ5, hqy4, hf⟩ := bd_inv hf
  refine b_callVi (n := 2) C (10) 10 (isObj_s (by decide) (by decide)) rfl (fun _ => [.int (s1), .int (s0)]) (c_X10_asked_ (s1) (s0)) hqy4 gX10_lines_X10_asked_ rfl (by decide +kernel) rfl (by decide) (by decide) (Nat.le_of_ble_eq_true rfl) dX10_lines_51 ?_
  refine b_if_ne C 59 dX10_lines_54 (by decide) hf (fun hf => ?_) (fun hf => ?_)
  · refine b_aload_n C dX10_lines_59 rfl 0 rfl ?_
    refine b_getR C hiX10_lines_10 10 12 (54 + 50) (by decide) (by decide) rfl (by decide) kX10_lines_36 rfl rfl dX10_lines_60 ?_
    refine b_iconst C (v := 0) dX10_lines_63 (by decide) ?_
    refine b_iload_n C dX10_lines_64 rfl 1 rfl ?_
    refine b_iast C 50 (by decide) rfl dX10_lines_65 hf (fun hf => ?_)
    refine b_nw hf (fun τ6 hf => ?_)
    refine b_aload_n C dX10_lines_66 rfl 0 rfl ?_
    refine b_getR C hiX10_lines_10 10 12 (54 + 50) (by decide) (by decide) rfl (by decide) kX10_lines_36 rfl rfl dX10_lines_67 ?_
    refine b_iconst C (v := 1) dX10_lines_70 (by decide) ?_
    refine b_iload_n C dX10_lines_71 rfl 2 rfl ?_
    refine b_iast C 50 (by decide) rfl dX10_lines_72 hf (fun hf => ?_)
    refine b_nw hf (fun τ7 hf => ?_)
    refine b_aload_n C dX10_lines_73 rfl 0 rfl ?_
    refine b_getR C hiX10_lines_10 10 12 (54 + 50) (by decide) (by decide) rfl (by decide) kX10_lines_36 rfl rfl dX10_lines_74 ?_
    refine b_iconst C (v := 2) dX10_lines_77 (by decide) ?_
    refine b_iload_n C dX10_lines_78 rfl 3 rfl ?_
    refine b_iast C 50 (by decide) rfl dX10_lines_79 hf (fun hf => ?_)
    refine b_nw hf (fun τ8 hf => ?_)
    refine b_iconst C (v := 0) dX10_lines_80 (by decide) ?_
    refine b_istore (lv' := [(5, .int (0)), (0, .ref (ad X (10))), (1, .int (v1)), (2, .int (v2)), (3, .int (v3))]) C dX10_lines_81 (by decide) rfl ?_
    refine b_iconst C (v := 0) dX10_lines_83 (by decide) ?_
    refine b_istore (lv' := [(6, .int (0)), (5, .int (0)), (0, .ref (ad X (10))), (1, .int (v1)), (2, .int (v2)), (3, .int (v3))]) C dX10_lines_84 (by decide) rfl ?_
    refine b_sub [2, 1, 0] rfl ?_
    exact w_X10_lines_86 C hR FUEL _ _ _ hf
  · refine b_iconst C (v := 0) dX10_lines_57 (by decide) ?_
    exact hR _ _ _ _ dX10_lines_58 hf
set_option maxHeartbeats 4000000 in
set_option maxRecDepth 100000 in
theorem w_X10_lines_34 {X : Ctx} {o : Int64} {rv : Int32 × Mem} (C : Cx X cX10_lines RX10 wsX10_lines 7 9 210) (hR : Rt X cX10_lines 7 o rv) : ∀ (v1 v2 v3 s0 : Int32) (σ : Mem), some rv = f_X10_lines_34 v1 v2 v3 s0 σ → Bk X 7 o 0 0 34 [(0, .ref (ad X (10))), (1, .int (v1)), (2, .int (v2)), (3, .int (v3))] [.int (s0)] σ := by
  intro v1 v2 v3 s0 σ hf
  unfold f_X10_lines_34 at hf
  refine b_istore (lv' := [(4, .int (s0)), (0, .ref (ad X (10))), (1, .int (v1)), (2, .int (v2)), (3, .int (v3))]) C dX10_lines_34 (by decide) rfl ?_
  refine b_aload_n C dX10_lines_36 rfl 1 rfl ?_
  refine b_iload C dX10_lines_37 0 rfl ?_
  refine b_aload_n C dX10_lines_39 rfl 1 rfl ?_
  refine b_getS C hiX10_lines_10 10 11 26 (by decide) (by decide) rfl (by decide) kX10_lines_221 rfl rfl dX10_lines_40 ?_
  refine b_if_ne C 50 dX10_lines_43 (by decide) hf (fun hf => ?_) (fun hf => ?_)
  · refine b_iconst C (v := 0) dX10_lines_50 (by decide) ?_
    refine b_sub [1, 2, 3, 4] rfl ?_
    exact w_X10_lines_51 C hR _ _ _ _ _ _ hf
  · refine b_iconst C (v := 1) dX10_lines_46 (by decide) ?_
    refine b_goto C 51 dX10_lines_47 (by decide) ?_
    refine b_sub [1, 2, 3, 4] rfl ?_
    exact w_X10_lines_51 C hR _ _ _ _ _ _ hf
set_option maxHeartbeats 4000000 in
set_option maxRecDepth 100000 in
theorem w_X10_lines_33 {X : Ctx} {o : Int64} {rv : Int32 × Mem} (C : Cx X cX10_lines RX10 wsX10_lines 7 9 210) (hR : Rt X cX10_lines 7 o rv) : ∀ (v1 v2 v3 : Int32) (σ : Mem), some rv = f_X10_lines_33 v1 v2 v3 σ → Bk X 7 o 0 0 33 [(0, .ref (ad X (10))), (1, .int (v1)), (2, .int (v2)), (3, .int (v3))] [] σ := by
  intro v1 v2 v3 σ hf
  unfold f_X10_lines_33 at hf
  refine b_iconst C (v := 0) dX10_lines_33 (by decide) ?_
  exact w_X10_lines_34 C hR _ _ _ _ _ hf
set_option maxHeartbeats 4000000 in
set_option maxRecDepth 100000 in
theorem c_X10_lines (x1 x2 x3 : Int32) (l : Launch) : Cti l yX10_lines wsX10_lines 9 210 (fun G => [.ref (G.1 (10)), .int (x1), .int (x2), .int (x3)]) (f_X10_lines x1 x2 x3) := by
  refine mk_i (cc := cX10_lines) (nL := 7) (own := RX10) (by decide) rfl rfl (fun _ => Nat.le_of_ble_eq_true rfl) (fun X o σ rv C hR hf => ?_)
  show Bk X 7 o 0 0 0 [(0, .ref (ad X (10))), (1, .int (x1)), (2, .int (x2)), (3, .int (x3))] [] σ
  unfold f_X10_lines at hf
  refine b_iload_n C dX10_lines_0 rfl 1 rfl ?_
  refine b_iconst C (v := 0) dX10_lines_1 (by decide) ?_
  refine b_sipush C (v := 999) dX10_lines_2 (by decide) ?_
  obtain ⟨y9, τ10, hqy9, hf⟩ := bd_inv hf
  refine b_callSi (n := 3) C (fun _ => [.int (x1), .int (0), .int (999)]) (c_X10_in (x1) (0) (999)) hqy9 gX10_lines_X10_in rfl (by decide +kernel) rfl (by decide) (by decide) (Nat.le_of_ble_eq_true rfl) dX10_lines_5 ?_
  refine b_if_eq C 33 dX10_lines_8 (by decide) hf (fun hf => ?_) (fun hf => ?_)
  · exact w_X10_lines_33 C hR _ _ _ _ hf
  · refine b_iload_n C dX10_lines_11 rfl 2 rfl ?_
    refine b_iconst C (v := 0) dX10_lines_12 (by decide) ?_
    refine b_iload_n C dX10_lines_13 rfl 1 rfl ?_
    obtain ⟨y11, τ12, hqy11, hf⟩ := bd_inv hf
    refine b_callSi (n := 3) C (fun _ => [.int (x2), .int (0), .int (x1)]) (c_X10_in (x2) (0) (x1)) hqy11 gX10_lines_X10_in rfl (by decide +kernel) rfl (by decide) (by decide) (Nat.le_of_ble_eq_true rfl) dX10_lines_14 ?_
    refine b_if_eq C 33 dX10_lines_17 (by decide) hf (fun hf => ?_) (fun hf => ?_)
    · exact w_X10_lines_33 C hR _ _ _ _ hf
    · refine b_iload_n C dX10_lines_20 rfl 3 rfl ?_
      refine b_iconst C (v := 0) dX10_lines_21 (by decide) ?_
      refine b_iload_n C dX10_lines_22 rfl 2 rfl ?_
      obtain ⟨y13, τ14, hqy13, hf⟩ := bd_inv hf
      refine b_callSi (n := 3) C (fun _ => [.int (x3), .int (0), .int (x2)]) (c_X10_in (x3) (0) (x2)) hqy13 gX10_lines_X10_in rfl (by decide +kernel) rfl (by decide) (by decide) (Nat.le_of_ble_eq_true rfl) dX10_lines_23 ?_
      refine b_if_eq C 33 dX10_lines_26 (by decide) hf (fun hf => ?_) (fun hf => ?_)
      · exact w_X10_lines_33 C hR _ _ _ _ hf
      · refine b_iconst C (v := 1) dX10_lines_29 (by decide) ?_
        refine b_goto C 34 dX10_lines_30 (by decide) ?_
        exact w_X10_lines_34 C hR _ _ _ _ _ hf
theorem hiX10_release_10 : ∀ w ∈ wsX100, w ∈ wsX10_release := by decide +kernel
theorem kX10_release_117 : Cond.fieldLink RX10 117 "ScriptRoomModel" "pupils" "I" ∈ wsX10_release := by decide +kernel
theorem kX10_release_33 : Cond.fieldLink RX10 33 "ScriptRoomModel" "released" "[I" ∈ wsX10_release := by decide +kernel
theorem kX10_release_221 : Cond.fieldLink RX10 221 "ScriptRoomModel" "isReleased" "Z" ∈ wsX10_release := by decide +kernel
set_option maxHeartbeats 4000000 in
set_option maxRecDepth 100000 in
theorem w_X10_release_108 {X : Ctx} {o : Int64} {rv : Int32 × Mem} (C : Cx X cX10_release RX10 wsX10_release 4 9 210) (hR : Rt X cX10_release 4 o rv) (k74 : Int32 → Int32 → Mem → Option (Int32 × Mem)) (h74 : ∀ (v2 v3 : Int32) (σ : Mem), some rv = k74 v2 v3 σ → Bk X 4 o 0 0 74 [(0, .ref (ad X (10))), (2, .int (v2)), (3, .int (v3))] [] σ) : ∀ (v3 s0 s1 : Int32) (σ : Mem), some rv = f_X10_release_108 k74 v3 s0 s1 σ → Bk X 4 o 0 0 108 [(0, .ref (ad X (10))), (3, .int (v3))] [.int (s0), .int (s1)] σ := by
  intro v3 s0 s1 σ hf
  unfold f_X10_release_108 at hf
  refine b_iadd C dX10_release_108 ?_
  refine b_nv hf (fun y1 hf => ?_)
  refine b_istore_n (lv' := [(2, .int (y1)), (0, .ref (ad X (10))), (3, .int (v3))]) C dX10_release_109 rfl (by decide) rfl ?_
  refine b_iinc (v := (v3) + (1)) (lv' := [(3, .int ((v3) + (1))), (2, .int (y1)), (0, .ref (ad X (10)))]) C dX10_release_110 2 rfl rfl (by decide) rfl ?_
  refine b_goto C 74 dX10_release_113 (by decide) ?_
  refine b_sub [2, 1, 0] rfl ?_
  exact h74 _ _ _ hf
set_option maxHeartbeats 4000000 in
set_option maxRecDepth 100000 in
theorem w_X10_release_74 {X : Ctx} {o : Int64} {rv : Int32 × Mem} (C : Cx X cX10_release RX10 wsX10_release 4 9 210) (hR : Rt X cX10_release 4 o rv) : ∀ (n : Nat) (v2 v3 : Int32) (σ : Mem), some rv = f_X10_release_74 n v2 v3 σ → Bk X 4 o 0 0 74 [(0, .ref (ad X (10))), (2, .int (v2)), (3, .int (v3))] [] σ := by
  intro n
  induction n with
  | zero =>
    intro v2 v3 σ hf
    rw [f_X10_release_74] at hf
    cases hf
  | succ n ih =>
    intro v2 v3 σ hf
    rw [f_X10_release_74] at hf
    refine b_iload_n C dX10_release_74 rfl 2 rfl ?_
    refine b_aload_n C dX10_release_75 rfl 0 rfl ?_
    refine b_getS C hiX10_release_10 10 4 25 (by decide) (by decide) rfl (by decide) kX10_release_117 rfl rfl dX10_release_76 ?_
    refine b_icmp_ge C 116 dX10_release_79 (by decide) hf (fun hf => ?_) (fun hf => ?_)
    · refine b_iload_n C dX10_release_116 rfl 1 rfl ?_
      exact hR _ _ _ _ dX10_release_117 hf
    · refine b_aload_n C dX10_release_82 rfl 0 rfl ?_
      refine b_getR C hiX10_release_10 10 10 (54 + 49) (by decide) (by decide) rfl (by decide) kX10_release_33 rfl rfl dX10_release_83 ?_
      refine b_iload_n C dX10_release_86 rfl 2 rfl ?_
      refine b_aload_n C dX10_release_87 rfl 0 rfl ?_
      refine b_iload_n C dX10_release_88 rfl 2 rfl ?_
      obtain ⟨y2, τ3, hqy2, hf⟩ := bd_inv hf
      refine b_callVi (n := 1) C (10) 10 (isObj_s (by decide) (by decide)) rfl (fun _ => [.int (v3)]) (c_X10_gradeOf (v3)) hqy2 gX10_release_X10_gradeOf rfl (by decide +kernel) rfl (by decide) (by decide) (Nat.le_of_ble_eq_true rfl) dX10_release_89 ?_
      refine b_iast C 49 (by decide) rfl dX10_release_92 hf (fun hf => ?_)
      refine b_nw hf (fun τ4 hf => ?_)
      refine b_iload_n C dX10_release_93 rfl 1 rfl ?_
      refine b_aload_n C dX10_release_94 rfl 0 rfl ?_
      refine b_getR C hiX10_release_10 10 10 (54 + 49) (by decide) (by decide) rfl (by decide) kX10_release_33 rfl rfl dX10_release_95 ?_
      refine b_iload_n C dX10_release_98 rfl 2 rfl ?_
      refine b_iald C 49 (by decide) rfl dX10_release_99 hf (fun hf => ?_)
      refine b_if_le C 107 dX10_release_100 (by decide) hf (fun hf => ?_) (fun hf => ?_)
      · refine b_iconst C (v := 0) dX10_release_107 (by decide) ?_
        refine b_sub [0, 2] rfl ?_
        exact w_X10_release_108 C hR (f_X10_release_74 n) ih _ _ _ _ hf
      · refine b_iconst C (v := 1) dX10_release_103 (by decide) ?_
        refine b_goto C 108 dX10_release_104 (by decide) ?_
        refine b_sub [0, 2] rfl ?_
        exact w_X10_release_108 C hR (f_X10_release_74 n) ih _ _ _ _ hf
set_option maxHeartbeats 4000000 in
set_option maxRecDepth 100000 in
theorem w_X10_release_55 {X : Ctx} {o : Int64} {rv : Int32 × Mem} (C : Cx X cX10_release RX10 wsX10_release 4 9 210) (hR : Rt X cX10_release 4 o rv) : ∀ (v1 : Int32) (σ : Mem), some rv = f_X10_release_55 v1 σ → Bk X 4 o 0 0 55 [(0, .ref (ad X (10))), (1, .int (v1))] [] σ := by
  intro v1 σ hf
  unfold f_X10_release_55 at hf
  refine b_aload_n C dX10_release_55 rfl 0 rfl ?_
  refine b_iload_n C dX10_release_56 rfl 1 rfl ?_
  obtain ⟨y5, τ6, hqy5, hf⟩ := bd_inv hf
  refine b_callVi (n := 1) C (10) 10 (isObj_s (by decide) (by decide)) rfl (fun _ => [.int (v1)]) (c_X10_asked (v1)) hqy5 gX10_release_X10_asked rfl (by decide +kernel) rfl (by decide) (by decide) (Nat.le_of_ble_eq_true rfl) dX10_release_57 ?_
  refine b_if_ne C 65 dX10_release_60 (by decide) hf (fun hf => ?_) (fun hf => ?_)
  · refine b_aload_n C dX10_release_65 rfl 0 rfl ?_
    refine b_iconst C (v := 1) dX10_release_66 (by decide) ?_
    refine b_putS C (ty := .boolean) hiX10_release_10 tyX10 tyX10_ok nmX10 10 11 26 (by decide) (by decide) rfl (by decide) kX10_release_221 rfl rfl (by decide +kernel) rfl rfl rfl dX10_release_67 ?_
    refine b_nw hf (fun τ7 hf => ?_)
    refine b_iconst C (v := 0) dX10_release_70 (by decide) ?_
    refine b_istore_n (lv' := [(2, .int (0)), (0, .ref (ad X (10))), (1, .int (v1))]) C dX10_release_71 rfl (by decide) rfl ?_
    refine b_iconst C (v := 0) dX10_release_72 (by decide) ?_
    refine b_istore_n (lv' := [(3, .int (0)), (2, .int (0)), (0, .ref (ad X (10))), (1, .int (v1))]) C dX10_release_73 rfl (by decide) rfl ?_
    refine b_sub [2, 1, 0] rfl ?_
    exact w_X10_release_74 C hR FUEL _ _ _ hf
  · refine b_iconst C (v := 0) dX10_release_63 (by decide) ?_
    exact hR _ _ _ _ dX10_release_64 hf
set_option maxHeartbeats 4000000 in
set_option maxRecDepth 100000 in
theorem w_X10_release_48 {X : Ctx} {o : Int64} {rv : Int32 × Mem} (C : Cx X cX10_release RX10 wsX10_release 4 9 210) (hR : Rt X cX10_release 4 o rv) (k22 : Int32 → Int32 → Mem → Option (Int32 × Mem)) (h22 : ∀ (v1 v2 : Int32) (σ : Mem), some rv = k22 v1 v2 σ → Bk X 4 o 0 0 22 [(0, .ref (ad X (10))), (1, .int (v1)), (2, .int (v2))] [] σ) : ∀ (v2 s0 : Int32) (σ : Mem), some rv = f_X10_release_48 k22 v2 s0 σ → Bk X 4 o 0 0 48 [(0, .ref (ad X (10))), (2, .int (v2))] [.int (s0)] σ := by
  intro v2 s0 σ hf
  unfold f_X10_release_48 at hf
  refine b_istore_n (lv' := [(1, .int (s0)), (0, .ref (ad X (10))), (2, .int (v2))]) C dX10_release_48 rfl (by decide) rfl ?_
  refine b_iinc (v := (v2) + (1)) (lv' := [(2, .int ((v2) + (1))), (1, .int (s0)), (0, .ref (ad X (10)))]) C dX10_release_49 2 rfl rfl (by decide) rfl ?_
  refine b_goto C 22 dX10_release_52 (by decide) ?_
  refine b_sub [2, 1, 0] rfl ?_
  exact h22 _ _ _ hf
set_option maxHeartbeats 4000000 in
set_option maxRecDepth 100000 in
theorem w_X10_release_22 {X : Ctx} {o : Int64} {rv : Int32 × Mem} (C : Cx X cX10_release RX10 wsX10_release 4 9 210) (hR : Rt X cX10_release 4 o rv) : ∀ (n : Nat) (v1 v2 : Int32) (σ : Mem), some rv = f_X10_release_22 n v1 v2 σ → Bk X 4 o 0 0 22 [(0, .ref (ad X (10))), (1, .int (v1)), (2, .int (v2))] [] σ := by
  intro n
  induction n with
  | zero =>
    intro v1 v2 σ hf
    rw [f_X10_release_22] at hf
    cases hf
  | succ n ih =>
    intro v1 v2 σ hf
    rw [f_X10_release_22] at hf
    refine b_iload_n C dX10_release_22 rfl 2 rfl ?_
    refine b_aload_n C dX10_release_23 rfl 0 rfl ?_
    refine b_getS C hiX10_release_10 10 4 25 (by decide) (by decide) rfl (by decide) kX10_release_117 rfl rfl dX10_release_24 ?_
    refine b_icmp_ge C 55 dX10_release_27 (by decide) hf (fun hf => ?_) (fun hf => ?_)
    · refine b_sub [0, 1] rfl ?_
      exact w_X10_release_55 C hR _ _ hf
    · refine b_iload_n C dX10_release_30 rfl 1 rfl ?_
      refine b_if_eq C 55 dX10_release_31 (by decide) hf (fun hf => ?_) (fun hf => ?_)
      · refine b_sub [0, 1] rfl ?_
        exact w_X10_release_55 C hR _ _ hf
      · refine b_aload_n C dX10_release_34 rfl 0 rfl ?_
        refine b_iload_n C dX10_release_35 rfl 2 rfl ?_
        obtain ⟨y8, τ9, hqy8, hf⟩ := bd_inv hf
        refine b_callVi (n := 1) C (10) 10 (isObj_s (by decide) (by decide)) rfl (fun _ => [.int (v2)]) (c_X10_totalOf (v2)) hqy8 gX10_release_X10_totalOf rfl (by decide +kernel) rfl (by decide) (by decide) (Nat.le_of_ble_eq_true rfl) dX10_release_36 ?_
        refine b_iconst C (v := (-1)) dX10_release_39 (by decide) ?_
        refine b_icmp_eq C 47 dX10_release_40 (by decide) hf (fun hf => ?_) (fun hf => ?_)
        · refine b_iconst C (v := 0) dX10_release_47 (by decide) ?_
          refine b_sub [0, 2] rfl ?_
          exact w_X10_release_48 C hR (f_X10_release_22 n) ih _ _ _ hf
        · refine b_iconst C (v := 1) dX10_release_43 (by decide) ?_
          refine b_goto C 48 dX10_release_44 (by decide) ?_
          refine b_sub [0, 2] rfl ?_
          exact w_X10_release_48 C hR (f_X10_release_22 n) ih _ _ _ hf
set_option maxHeartbeats 4000000 in
set_option maxRecDepth 100000 in
theorem w_X10_release_19 {X : Ctx} {o : Int64} {rv : Int32 × Mem} (C : Cx X cX10_release RX10 wsX10_release 4 9 210) (hR : Rt X cX10_release 4 o rv) : ∀ (s0 : Int32) (σ : Mem), some rv = f_X10_release_19 s0 σ → Bk X 4 o 0 0 19 [(0, .ref (ad X (10)))] [.int (s0)] σ := by
  intro s0 σ hf
  unfold f_X10_release_19 at hf
  refine b_istore_n (lv' := [(1, .int (s0)), (0, .ref (ad X (10)))]) C dX10_release_19 rfl (by decide) rfl ?_
  refine b_iconst C (v := 0) dX10_release_20 (by decide) ?_
  refine b_istore_n (lv' := [(2, .int (0)), (1, .int (s0)), (0, .ref (ad X (10)))]) C dX10_release_21 rfl (by decide) rfl ?_
  refine b_sub [2, 1, 0] rfl ?_
  exact w_X10_release_22 C hR FUEL _ _ _ hf
set_option maxHeartbeats 4000000 in
set_option maxRecDepth 100000 in
theorem w_X10_release_18 {X : Ctx} {o : Int64} {rv : Int32 × Mem} (C : Cx X cX10_release RX10 wsX10_release 4 9 210) (hR : Rt X cX10_release 4 o rv) : ∀ (σ : Mem), some rv = f_X10_release_18 σ → Bk X 4 o 0 0 18 [(0, .ref (ad X (10)))] [] σ := by
  intro σ hf
  unfold f_X10_release_18 at hf
  refine b_iconst C (v := 0) dX10_release_18 (by decide) ?_
  exact w_X10_release_19 C hR _ _ hf
set_option maxHeartbeats 4000000 in
set_option maxRecDepth 100000 in
theorem c_X10_release (l : Launch) : Cti l yX10_release wsX10_release 9 210 (fun G => [.ref (G.1 (10))]) (f_X10_release ) := by
  refine mk_i (cc := cX10_release) (nL := 4) (own := RX10) (by decide) rfl rfl (fun _ => Nat.le_of_ble_eq_true rfl) (fun X o σ rv C hR hf => ?_)
  show Bk X 4 o 0 0 0 [(0, .ref (ad X (10)))] [] σ
  unfold f_X10_release at hf
  refine b_aload_n C dX10_release_0 rfl 0 rfl ?_
  refine b_getS C hiX10_release_10 10 11 26 (by decide) (by decide) rfl (by decide) kX10_release_221 rfl rfl dX10_release_1 ?_
  refine b_if_ne C 18 dX10_release_4 (by decide) hf (fun hf => ?_) (fun hf => ?_)
  · exact w_X10_release_18 C hR _ hf
  · refine b_aload_n C dX10_release_7 rfl 0 rfl ?_
    refine b_getS C hiX10_release_10 10 4 25 (by decide) (by decide) rfl (by decide) kX10_release_117 rfl rfl dX10_release_8 ?_
    refine b_if_le C 18 dX10_release_11 (by decide) hf (fun hf => ?_) (fun hf => ?_)
    · exact w_X10_release_18 C hR _ hf
    · refine b_iconst C (v := 1) dX10_release_14 (by decide) ?_
      refine b_goto C 19 dX10_release_15 (by decide) ?_
      exact w_X10_release_19 C hR _ _ hf
theorem hiX10_appeal_10 : ∀ w ∈ wsX100, w ∈ wsX10_appeal := by decide +kernel
theorem kX10_appeal_30 : Cond.fieldLink RX10 30 "ScriptRoomModel" "appealed" "[Z" ∈ wsX10_appeal := by decide +kernel
theorem kX10_appeal_221 : Cond.fieldLink RX10 221 "ScriptRoomModel" "isReleased" "Z" ∈ wsX10_appeal := by decide +kernel
set_option maxHeartbeats 4000000 in
set_option maxRecDepth 100000 in
theorem w_X10_appeal_83 {X : Ctx} {o : Int64} {rv : Int32 × Mem} (C : Cx X cX10_appeal RX10 wsX10_appeal 6 7 162) (hR : Rt X cX10_appeal 6 o rv) : ∀ (v4 s0 s1 : Int32) (σ : Mem), some rv = f_X10_appeal_83 v4 s0 s1 σ → Bk X 6 o 0 0 83 [(0, .ref (ad X (10))), (4, .int (v4))] [.int (s0), .int (s1), .ref (ad X (10))] σ := by
  intro v4 s0 s1 σ hf
  unfold f_X10_appeal_83 at hf
  obtain ⟨y1, τ2, hqy1, hf⟩ := bd_inv hf
  refine b_callVi (n := 2) C (10) 10 (isObj_s (by decide) (by decide)) rfl (fun _ => [.int (s1), .int (s0)]) (c_X10_asked_ (s1) (s0)) hqy1 gX10_appeal_X10_asked_ rfl (by decide +kernel) rfl (by decide) (by decide) (Nat.le_of_ble_eq_true rfl) dX10_appeal_83 ?_
  refine b_if_ne C 91 dX10_appeal_86 (by decide) hf (fun hf => ?_) (fun hf => ?_)
  · refine b_aload_n C dX10_appeal_91 rfl 0 rfl ?_
    refine b_iload C dX10_appeal_92 1 rfl ?_
    obtain ⟨y3, τ4, hqy3, hf⟩ := bd_inv hf
    refine b_callVi (n := 1) C (10) 10 (isObj_s (by decide) (by decide)) rfl (fun _ => [.int (v4)]) (c_X10_marked (v4)) hqy3 gX10_appeal_X10_marked rfl (by decide +kernel) rfl (by decide) (by decide) (Nat.le_of_ble_eq_true rfl) dX10_appeal_94 ?_
    refine b_istore (lv' := [(5, .int (y3)), (0, .ref (ad X (10))), (4, .int (v4))]) C dX10_appeal_97 (by decide) rfl ?_
    refine b_aload_n C dX10_appeal_99 rfl 1 rfl ?_
    refine b_getR C hiX10_appeal_10 10 9 (54 + 48) (by decide) (by decide) rfl (by decide) kX10_appeal_30 rfl rfl dX10_appeal_100 ?_
    refine b_iload C dX10_appeal_103 2 rfl ?_
    refine b_iconst C (v := 1) dX10_appeal_105 (by decide) ?_
    refine b_zast C 48 (by decide) rfl dX10_appeal_106 hf (fun hf => ?_)
    refine b_nw hf (fun τ5 hf => ?_)
    refine b_iload C dX10_appeal_107 0 rfl ?_
    exact hR _ _ _ _ dX10_appeal_109 hf
  · refine b_iconst C (v := 0) dX10_appeal_89 (by decide) ?_
    exact hR _ _ _ _ dX10_appeal_90 hf
set_option maxHeartbeats 4000000 in
set_option maxRecDepth 100000 in
theorem w_X10_appeal_82 {X : Ctx} {o : Int64} {rv : Int32 × Mem} (C : Cx X cX10_appeal RX10 wsX10_appeal 6 7 162) (hR : Rt X cX10_appeal 6 o rv) : ∀ (v4 s0 : Int32) (σ : Mem), some rv = f_X10_appeal_82 v4 s0 σ → Bk X 6 o 0 0 82 [(0, .ref (ad X (10))), (4, .int (v4))] [.int (s0), .ref (ad X (10))] σ := by
  intro v4 s0 σ hf
  unfold f_X10_appeal_82 at hf
  refine b_iconst C (v := 0) dX10_appeal_82 (by decide) ?_
  exact w_X10_appeal_83 C hR _ _ _ _ hf
set_option maxHeartbeats 4000000 in
set_option maxRecDepth 100000 in
theorem w_X10_appeal_34 {X : Ctx} {o : Int64} {rv : Int32 × Mem} (C : Cx X cX10_appeal RX10 wsX10_appeal 6 7 162) (hR : Rt X cX10_appeal 6 o rv) : ∀ (v3 s0 : Int32) (σ : Mem), some rv = f_X10_appeal_34 v3 s0 σ → Bk X 6 o 0 0 34 [(0, .ref (ad X (10))), (3, .int (v3))] [.int (s0)] σ := by
  intro v3 s0 σ hf
  unfold f_X10_appeal_34 at hf
  refine b_istore (lv' := [(4, .int (s0)), (0, .ref (ad X (10))), (3, .int (v3))]) C dX10_appeal_34 (by decide) rfl ?_
  refine b_aload_n C dX10_appeal_36 rfl 1 rfl ?_
  refine b_iload_n C dX10_appeal_37 rfl 2 rfl ?_
  refine b_iload_n C dX10_appeal_38 rfl 2 rfl ?_
  refine b_if_eq C 82 dX10_appeal_39 (by decide) hf (fun hf => ?_) (fun hf => ?_)
  · refine b_sub [1, 0] rfl ?_
    exact w_X10_appeal_82 C hR _ _ _ hf
  · refine b_aload_n C dX10_appeal_42 rfl 1 rfl ?_
    refine b_getS C hiX10_appeal_10 10 11 26 (by decide) (by decide) rfl (by decide) kX10_appeal_221 rfl rfl dX10_appeal_43 ?_
    refine b_if_eq C 82 dX10_appeal_46 (by decide) hf (fun hf => ?_) (fun hf => ?_)
    · refine b_sub [1, 0] rfl ?_
      exact w_X10_appeal_82 C hR _ _ _ hf
    · refine b_aload_n C dX10_appeal_49 rfl 1 rfl ?_
      refine b_iload C dX10_appeal_50 0 rfl ?_
      obtain ⟨y6, τ7, hqy6, hf⟩ := bd_inv hf
      refine b_callVi (n := 1) C (10) 10 (isObj_s (by decide) (by decide)) rfl (fun _ => [.int (s0)]) (c_X10_hasAnswer (s0)) hqy6 gX10_appeal_X10_hasAnswer rfl (by decide +kernel) rfl (by decide) (by decide) (Nat.le_of_ble_eq_true rfl) dX10_appeal_52 ?_
      refine b_if_eq C 82 dX10_appeal_55 (by decide) hf (fun hf => ?_) (fun hf => ?_)
      · refine b_sub [1, 0] rfl ?_
        exact w_X10_appeal_82 C hR _ _ _ hf
      · refine b_aload_n C dX10_appeal_58 rfl 1 rfl ?_
        refine b_getR C hiX10_appeal_10 10 9 (54 + 48) (by decide) (by decide) rfl (by decide) kX10_appeal_30 rfl rfl dX10_appeal_59 ?_
        refine b_iload C dX10_appeal_62 0 rfl ?_
        refine b_zald C 48 (by decide) rfl dX10_appeal_64 hf (fun hf => ?_)
        refine b_if_ne C 82 dX10_appeal_65 (by decide) hf (fun hf => ?_) (fun hf => ?_)
        · refine b_sub [1, 0] rfl ?_
          exact w_X10_appeal_82 C hR _ _ _ hf
        · refine b_aload_n C dX10_appeal_68 rfl 1 rfl ?_
          refine b_iload C dX10_appeal_69 0 rfl ?_
          obtain ⟨y8, τ9, hqy8, hf⟩ := bd_inv hf
          refine b_callVi (n := 1) C (10) 10 (isObj_s (by decide) (by decide)) rfl (fun _ => [.int (s0)]) (c_X10_marked (s0)) hqy8 gX10_appeal_X10_marked rfl (by decide +kernel) rfl (by decide) (by decide) (Nat.le_of_ble_eq_true rfl) dX10_appeal_71 ?_
          refine b_iconst C (v := (-1)) dX10_appeal_74 (by decide) ?_
          refine b_icmp_eq C 82 dX10_appeal_75 (by decide) hf (fun hf => ?_) (fun hf => ?_)
          · refine b_sub [1, 0] rfl ?_
            exact w_X10_appeal_82 C hR _ _ _ hf
          · refine b_iconst C (v := 1) dX10_appeal_78 (by decide) ?_
            refine b_goto C 83 dX10_appeal_79 (by decide) ?_
            refine b_sub [1, 0] rfl ?_
            exact w_X10_appeal_83 C hR _ _ _ _ hf
set_option maxHeartbeats 4000000 in
set_option maxRecDepth 100000 in
theorem w_X10_appeal_20 {X : Ctx} {o : Int64} {rv : Int32 × Mem} (C : Cx X cX10_appeal RX10 wsX10_appeal 6 7 162) (hR : Rt X cX10_appeal 6 o rv) : ∀ (v1 v2 s0 : Int32) (σ : Mem), some rv = f_X10_appeal_20 v1 v2 s0 σ → Bk X 6 o 0 0 20 [(0, .ref (ad X (10))), (1, .int (v1)), (2, .int (v2))] [.int (s0)] σ := by
  intro v1 v2 s0 σ hf
  unfold f_X10_appeal_20 at hf
  refine b_istore_n (lv' := [(3, .int (s0)), (0, .ref (ad X (10))), (1, .int (v1)), (2, .int (v2))]) C dX10_appeal_20 rfl (by decide) rfl ?_
  refine b_iload_n C dX10_appeal_21 rfl 0 rfl ?_
  refine b_if_eq C 33 dX10_appeal_22 (by decide) hf (fun hf => ?_) (fun hf => ?_)
  · refine b_iconst C (v := 0) dX10_appeal_33 (by decide) ?_
    refine b_sub [1, 0] rfl ?_
    exact w_X10_appeal_34 C hR _ _ _ hf
  · refine b_iconst C (v := 4) dX10_appeal_25 (by decide) ?_
    refine b_iload_n C dX10_appeal_26 rfl 2 rfl ?_
    refine b_imul C dX10_appeal_27 ?_
    refine b_iload_n C dX10_appeal_28 rfl 3 rfl ?_
    refine b_iadd C dX10_appeal_29 ?_
    refine b_goto C 34 dX10_appeal_30 (by decide) ?_
    refine b_sub [1, 0] rfl ?_
    exact w_X10_appeal_34 C hR _ _ _ hf
set_option maxHeartbeats 4000000 in
set_option maxRecDepth 100000 in
theorem w_X10_appeal_19 {X : Ctx} {o : Int64} {rv : Int32 × Mem} (C : Cx X cX10_appeal RX10 wsX10_appeal 6 7 162) (hR : Rt X cX10_appeal 6 o rv) : ∀ (v1 v2 : Int32) (σ : Mem), some rv = f_X10_appeal_19 v1 v2 σ → Bk X 6 o 0 0 19 [(0, .ref (ad X (10))), (1, .int (v1)), (2, .int (v2))] [] σ := by
  intro v1 v2 σ hf
  unfold f_X10_appeal_19 at hf
  refine b_iconst C (v := 0) dX10_appeal_19 (by decide) ?_
  exact w_X10_appeal_20 C hR _ _ _ _ hf
set_option maxHeartbeats 4000000 in
set_option maxRecDepth 100000 in
theorem c_X10_appeal (x1 x2 : Int32) (l : Launch) : Cti l yX10_appeal wsX10_appeal 7 162 (fun G => [.ref (G.1 (10)), .int (x1), .int (x2)]) (f_X10_appeal x1 x2) := by
  refine mk_i (cc := cX10_appeal) (nL := 6) (own := RX10) (by decide) rfl rfl (fun _ => Nat.le_of_ble_eq_true rfl) (fun X o σ rv C hR hf => ?_)
  show Bk X 6 o 0 0 0 [(0, .ref (ad X (10))), (1, .int (x1)), (2, .int (x2))] [] σ
  unfold f_X10_appeal at hf
  refine b_aload_n C dX10_appeal_0 rfl 0 rfl ?_
  refine b_iload_n C dX10_appeal_1 rfl 1 rfl ?_
  obtain ⟨y10, τ11, hqy10, hf⟩ := bd_inv hf
  refine b_callVi (n := 1) C (10) 10 (isObj_s (by decide) (by decide)) rfl (fun _ => [.int (x1)]) (c_X10_isPupil (x1)) hqy10 gX10_appeal_X10_isPupil rfl (by decide +kernel) rfl (by decide) (by decide) (Nat.le_of_ble_eq_true rfl) dX10_appeal_2 ?_
  refine b_if_eq C 19 dX10_appeal_5 (by decide) hf (fun hf => ?_) (fun hf => ?_)
  · exact w_X10_appeal_19 C hR _ _ _ hf
  · refine b_iload_n C dX10_appeal_8 rfl 2 rfl ?_
    obtain ⟨y12, τ13, hqy12, hf⟩ := bd_inv hf
    refine b_callSi (n := 1) C (fun _ => [.int (x2)]) (c_X10_isQuestion (x2)) hqy12 gX10_appeal_X10_isQuestion rfl (by decide +kernel) rfl (by decide) (by decide) (Nat.le_of_ble_eq_true rfl) dX10_appeal_9 ?_
    refine b_if_eq C 19 dX10_appeal_12 (by decide) hf (fun hf => ?_) (fun hf => ?_)
    · exact w_X10_appeal_19 C hR _ _ _ hf
    · refine b_iconst C (v := 1) dX10_appeal_15 (by decide) ?_
      refine b_goto C 20 dX10_appeal_16 (by decide) ?_
      exact w_X10_appeal_20 C hR _ _ _ _ hf
theorem hiX10_versions_10 : ∀ w ∈ wsX100, w ∈ wsX10_versions := by decide +kernel
theorem kX10_versions_39 : Cond.fieldLink RX10 39 "ScriptRoomModel" "versions" "[I" ∈ wsX10_versions := by decide +kernel
set_option maxHeartbeats 4000000 in
set_option maxRecDepth 100000 in
theorem w_X10_versions_21 {X : Ctx} {o : Int64} {rv : Int32 × Mem} (C : Cx X cX10_versions RX10 wsX10_versions 2 2 42) (hR : Rt X cX10_versions 2 o rv) : ∀ (s0 : Int32) (σ : Mem), some rv = f_X10_versions_21 s0 σ → Bk X 2 o 0 0 21 [] [.int (s0)] σ := by
  intro s0 σ hf
  unfold f_X10_versions_21 at hf
  exact hR _ _ _ _ dX10_versions_21 hf
set_option maxHeartbeats 4000000 in
set_option maxRecDepth 100000 in
theorem c_X10_versions (x1 : Int32) (l : Launch) : Cti l yX10_versions wsX10_versions 2 42 (fun G => [.ref (G.1 (10)), .int (x1)]) (f_X10_versions x1) := by
  refine mk_i (cc := cX10_versions) (nL := 2) (own := RX10) (by decide) rfl rfl (fun _ => Nat.le_of_ble_eq_true rfl) (fun X o σ rv C hR hf => ?_)
  show Bk X 2 o 0 0 0 [(0, .ref (ad X (10))), (1, .int (x1))] [] σ
  unfold f_X10_versions at hf
  refine b_aload_n C dX10_versions_0 rfl 0 rfl ?_
  refine b_iload_n C dX10_versions_1 rfl 1 rfl ?_
  obtain ⟨y1, τ2, hqy1, hf⟩ := bd_inv hf
  refine b_callSi (n := 1) C (fun _ => [.int (x1)]) (c_X10_isQuestion (x1)) hqy1 gX10_versions_X10_isQuestion rfl (by decide +kernel) rfl (by decide) (by decide) (Nat.le_of_ble_eq_true rfl) dX10_versions_2 ?_
  obtain ⟨y3, τ4, hqy3, hf⟩ := bd_inv hf
  refine b_callVi (n := 1) C (10) 10 (isObj_s (by decide) (by decide)) rfl (fun _ => [.int (y1)]) (c_X10_asked (y1)) hqy3 gX10_versions_X10_asked rfl (by decide +kernel) rfl (by decide) (by decide) (Nat.le_of_ble_eq_true rfl) dX10_versions_5 ?_
  refine b_if_eq C 20 dX10_versions_8 (by decide) hf (fun hf => ?_) (fun hf => ?_)
  · refine b_iconst C (v := 0) dX10_versions_20 (by decide) ?_
    refine b_sub [] rfl ?_
    exact w_X10_versions_21 C hR _ _ hf
  · refine b_aload_n C dX10_versions_11 rfl 0 rfl ?_
    refine b_getR C hiX10_versions_10 10 13 (54 + 51) (by decide) (by decide) rfl (by decide) kX10_versions_39 rfl rfl dX10_versions_12 ?_
    refine b_iload_n C dX10_versions_15 rfl 1 rfl ?_
    refine b_iald C 51 (by decide) rfl dX10_versions_16 hf (fun hf => ?_)
    refine b_goto C 21 dX10_versions_17 (by decide) ?_
    refine b_sub [] rfl ?_
    exact w_X10_versions_21 C hR _ _ hf
theorem hiX10_markOf_10 : ∀ w ∈ wsX100, w ∈ wsX10_markOf := by decide +kernel
theorem kX10_markOf_39 : Cond.fieldLink RX10 39 "ScriptRoomModel" "versions" "[I" ∈ wsX10_markOf := by decide +kernel
set_option maxHeartbeats 4000000 in
set_option maxRecDepth 100000 in
theorem w_X10_markOf_62 {X : Ctx} {o : Int64} {rv : Int32 × Mem} (C : Cx X cX10_markOf RX10 wsX10_markOf 5 2 51) (hR : Rt X cX10_markOf 5 o rv) : ∀ (s0 : Int32) (σ : Mem), some rv = f_X10_markOf_62 s0 σ → Bk X 5 o 0 0 62 [] [.int (s0)] σ := by
  intro s0 σ hf
  unfold f_X10_markOf_62 at hf
  exact hR _ _ _ _ dX10_markOf_62 hf
set_option maxHeartbeats 4000000 in
set_option maxRecDepth 100000 in
theorem w_X10_markOf_28 {X : Ctx} {o : Int64} {rv : Int32 × Mem} (C : Cx X cX10_markOf RX10 wsX10_markOf 5 2 51) (hR : Rt X cX10_markOf 5 o rv) : ∀ (v1 v2 v3 s0 : Int32) (σ : Mem), some rv = f_X10_markOf_28 v1 v2 v3 s0 σ → Bk X 5 o 0 0 28 [(0, .ref (ad X (10))), (1, .int (v1)), (2, .int (v2)), (3, .int (v3))] [.int (s0)] σ := by
  intro v1 v2 v3 s0 σ hf
  unfold f_X10_markOf_28 at hf
  refine b_istore (lv' := [(4, .int (s0)), (0, .ref (ad X (10))), (1, .int (v1)), (2, .int (v2)), (3, .int (v3))]) C dX10_markOf_28 (by decide) rfl ?_
  refine b_aload_n C dX10_markOf_30 rfl 1 rfl ?_
  refine b_iload C dX10_markOf_31 0 rfl ?_
  refine b_iload_n C dX10_markOf_33 rfl 4 rfl ?_
  refine b_iconst C (v := 0) dX10_markOf_34 (by decide) ?_
  refine b_sipush C (v := 255) dX10_markOf_35 (by decide) ?_
  obtain ⟨y1, τ2, hqy1, hf⟩ := bd_inv hf
  refine b_callSi (n := 3) C (fun _ => [.int (v3), .int (0), .int (255)]) (c_X10_in (v3) (0) (255)) hqy1 gX10_markOf_X10_in rfl (by decide +kernel) rfl (by decide) (by decide) (Nat.le_of_ble_eq_true rfl) dX10_markOf_38 ?_
  obtain ⟨y3, τ4, hqy3, hf⟩ := bd_inv hf
  refine b_callVi (n := 2) C (10) 10 (isObj_s (by decide) (by decide)) rfl (fun _ => [.int (s0), .int (y1)]) (c_X10_asked_ (s0) (y1)) hqy3 gX10_markOf_X10_asked_ rfl (by decide +kernel) rfl (by decide) (by decide) (Nat.le_of_ble_eq_true rfl) dX10_markOf_41 ?_
  refine b_if_eq C 61 dX10_markOf_44 (by decide) hf (fun hf => ?_) (fun hf => ?_)
  · refine b_iconst C (v := 0) dX10_markOf_61 (by decide) ?_
    refine b_sub [] rfl ?_
    exact w_X10_markOf_62 C hR _ _ hf
  · refine b_aload_n C dX10_markOf_47 rfl 1 rfl ?_
    refine b_bipush C (v := 6) dX10_markOf_48 (by decide) ?_
    refine b_iload_n C dX10_markOf_50 rfl 2 rfl ?_
    refine b_imul C dX10_markOf_51 ?_
    refine b_iload_n C dX10_markOf_52 rfl 3 rfl ?_
    refine b_iadd C dX10_markOf_53 ?_
    refine b_iload_n C dX10_markOf_54 rfl 4 rfl ?_
    obtain ⟨y5, τ6, hqy5, hf⟩ := bd_inv hf
    refine b_callVi (n := 2) C (10) 10 (isObj_s (by decide) (by decide)) rfl (fun _ => [.int (((6) * (v1)) + (v2)), .int (v3)]) (c_X10_value (((6) * (v1)) + (v2)) (v3)) hqy5 gX10_markOf_X10_value rfl (by decide +kernel) rfl (by decide) (by decide) (Nat.le_of_ble_eq_true rfl) dX10_markOf_55 ?_
    refine b_goto C 62 dX10_markOf_58 (by decide) ?_
    refine b_sub [] rfl ?_
    exact w_X10_markOf_62 C hR _ _ hf
set_option maxHeartbeats 4000000 in
set_option maxRecDepth 100000 in
theorem w_X10_markOf_27 {X : Ctx} {o : Int64} {rv : Int32 × Mem} (C : Cx X cX10_markOf RX10 wsX10_markOf 5 2 51) (hR : Rt X cX10_markOf 5 o rv) : ∀ (v1 v2 v3 : Int32) (σ : Mem), some rv = f_X10_markOf_27 v1 v2 v3 σ → Bk X 5 o 0 0 27 [(0, .ref (ad X (10))), (1, .int (v1)), (2, .int (v2)), (3, .int (v3))] [] σ := by
  intro v1 v2 v3 σ hf
  unfold f_X10_markOf_27 at hf
  refine b_iconst C (v := 0) dX10_markOf_27 (by decide) ?_
  exact w_X10_markOf_28 C hR _ _ _ _ _ hf
set_option maxHeartbeats 4000000 in
set_option maxRecDepth 100000 in
theorem c_X10_markOf (x1 x2 x3 : Int32) (l : Launch) : Cti l yX10_markOf wsX10_markOf 2 51 (fun G => [.ref (G.1 (10)), .int (x1), .int (x2), .int (x3)]) (f_X10_markOf x1 x2 x3) := by
  refine mk_i (cc := cX10_markOf) (nL := 5) (own := RX10) (by decide) rfl rfl (fun _ => Nat.le_of_ble_eq_true rfl) (fun X o σ rv C hR hf => ?_)
  show Bk X 5 o 0 0 0 [(0, .ref (ad X (10))), (1, .int (x1)), (2, .int (x2)), (3, .int (x3))] [] σ
  unfold f_X10_markOf at hf
  refine b_iload_n C dX10_markOf_0 rfl 1 rfl ?_
  obtain ⟨y7, τ8, hqy7, hf⟩ := bd_inv hf
  refine b_callSi (n := 1) C (fun _ => [.int (x1)]) (c_X10_isQuestion (x1)) hqy7 gX10_markOf_X10_isQuestion rfl (by decide +kernel) rfl (by decide) (by decide) (Nat.le_of_ble_eq_true rfl) dX10_markOf_1 ?_
  refine b_if_eq C 27 dX10_markOf_4 (by decide) hf (fun hf => ?_) (fun hf => ?_)
  · exact w_X10_markOf_27 C hR _ _ _ _ hf
  · refine b_iload_n C dX10_markOf_7 rfl 2 rfl ?_
    refine b_iconst C (v := 0) dX10_markOf_8 (by decide) ?_
    refine b_aload_n C dX10_markOf_9 rfl 0 rfl ?_
    refine b_getR C hiX10_markOf_10 10 13 (54 + 51) (by decide) (by decide) rfl (by decide) kX10_markOf_39 rfl rfl dX10_markOf_10 ?_
    refine b_iload_n C dX10_markOf_13 rfl 1 rfl ?_
    refine b_iald C 51 (by decide) rfl dX10_markOf_14 hf (fun hf => ?_)
    refine b_iconst C (v := 1) dX10_markOf_15 (by decide) ?_
    refine b_isub C dX10_markOf_16 ?_
    obtain ⟨y9, τ10, hqy9, hf⟩ := bd_inv hf
    refine b_callSi (n := 3) C (fun _ => [.int (x2), .int (0), .int ((τ8 51 (Int32.toNatClampNeg (x1))) - (1))]) (c_X10_in (x2) (0) ((τ8 51 (Int32.toNatClampNeg (x1))) - (1))) hqy9 gX10_markOf_X10_in rfl (by decide +kernel) rfl (by decide) (by decide) (Nat.le_of_ble_eq_true rfl) dX10_markOf_17 ?_
    refine b_if_eq C 27 dX10_markOf_20 (by decide) hf (fun hf => ?_) (fun hf => ?_)
    · exact w_X10_markOf_27 C hR _ _ _ _ hf
    · refine b_iconst C (v := 1) dX10_markOf_23 (by decide) ?_
      refine b_goto C 28 dX10_markOf_24 (by decide) ?_
      exact w_X10_markOf_28 C hR _ _ _ _ _ hf
theorem hiX10_written_10 : ∀ w ∈ wsX100, w ∈ wsX10_written := by decide +kernel
theorem kX10_written_42 : Cond.fieldLink RX10 42 "ScriptRoomModel" "text" "[I" ∈ wsX10_written := by decide +kernel
theorem kX10_written_39 : Cond.fieldLink RX10 39 "ScriptRoomModel" "versions" "[I" ∈ wsX10_written := by decide +kernel
set_option maxHeartbeats 4000000 in
set_option maxRecDepth 100000 in
theorem w_X10_written_68 {X : Ctx} {o : Int64} {rv : Int32 × Mem} (C : Cx X cX10_written RX10 wsX10_written 4 2 42) (hR : Rc X cX10_written 4 o rv) : ∀ (s0 : Int32) (σ : Mem), some rv = f_X10_written_68 s0 σ → Bk X 4 o 0 0 68 [] [.int (s0)] σ := by
  intro s0 σ hf
  unfold f_X10_written_68 at hf
  exact hR _ _ _ _ dX10_written_68 hf
set_option maxHeartbeats 4000000 in
set_option maxRecDepth 100000 in
theorem w_X10_written_33 {X : Ctx} {o : Int64} {rv : Int32 × Mem} (C : Cx X cX10_written RX10 wsX10_written 4 2 42) (hR : Rc X cX10_written 4 o rv) : ∀ (v1 v2 v3 s0 : Int32) (σ : Mem), some rv = f_X10_written_33 v1 v2 v3 s0 σ → Bk X 4 o 0 0 33 [(0, .ref (ad X (10))), (1, .int (v1)), (2, .int (v2)), (3, .int (v3))] [.int (s0), .ref (ad X (10))] σ := by
  intro v1 v2 v3 s0 σ hf
  unfold f_X10_written_33 at hf
  obtain ⟨y1, τ2, hqy1, hf⟩ := bd_inv hf
  refine b_callVi (n := 1) C (10) 10 (isObj_s (by decide) (by decide)) rfl (fun _ => [.int (s0)]) (c_X10_asked (s0)) hqy1 gX10_written_X10_asked rfl (by decide +kernel) rfl (by decide) (by decide) (Nat.le_of_ble_eq_true rfl) dX10_written_33 ?_
  refine b_if_ne C 41 dX10_written_36 (by decide) hf (fun hf => ?_) (fun hf => ?_)
  · refine b_iload_n C dX10_written_41 rfl 3 rfl ?_
    refine b_bipush C (v := 90) dX10_written_42 (by decide) ?_
    refine b_icmp_ge C 67 dX10_written_44 (by decide) hf (fun hf => ?_) (fun hf => ?_)
    · refine b_iconst C (v := 0) dX10_written_67 (by decide) ?_
      refine b_sub [] rfl ?_
      exact w_X10_written_68 C hR _ _ hf
    · refine b_aload_n C dX10_written_47 rfl 0 rfl ?_
      refine b_getR C hiX10_written_10 10 14 (54 + 52) (by decide) (by decide) rfl (by decide) kX10_written_42 rfl rfl dX10_written_48 ?_
      refine b_bipush C (v := 90) dX10_written_51 (by decide) ?_
      refine b_bipush C (v := 6) dX10_written_53 (by decide) ?_
      refine b_iload_n C dX10_written_55 rfl 1 rfl ?_
      refine b_imul C dX10_written_56 ?_
      refine b_iload_n C dX10_written_57 rfl 2 rfl ?_
      refine b_iadd C dX10_written_58 ?_
      refine b_imul C dX10_written_59 ?_
      refine b_iload_n C dX10_written_60 rfl 3 rfl ?_
      refine b_iadd C dX10_written_61 ?_
      refine b_iald C 52 (by decide) rfl dX10_written_62 hf (fun hf => ?_)
      refine b_i2c C dX10_written_63 ?_
      refine b_goto C 68 dX10_written_64 (by decide) ?_
      refine b_sub [] rfl ?_
      exact w_X10_written_68 C hR _ _ hf
  · refine b_iconst C (v := 0) dX10_written_39 (by decide) ?_
    exact hR _ _ _ _ dX10_written_40 hf
set_option maxHeartbeats 4000000 in
set_option maxRecDepth 100000 in
theorem w_X10_written_32 {X : Ctx} {o : Int64} {rv : Int32 × Mem} (C : Cx X cX10_written RX10 wsX10_written 4 2 42) (hR : Rc X cX10_written 4 o rv) : ∀ (v1 v2 v3 : Int32) (σ : Mem), some rv = f_X10_written_32 v1 v2 v3 σ → Bk X 4 o 0 0 32 [(0, .ref (ad X (10))), (1, .int (v1)), (2, .int (v2)), (3, .int (v3))] [.ref (ad X (10))] σ := by
  intro v1 v2 v3 σ hf
  unfold f_X10_written_32 at hf
  refine b_iconst C (v := 0) dX10_written_32 (by decide) ?_
  exact w_X10_written_33 C hR _ _ _ _ _ hf
set_option maxHeartbeats 4000000 in
set_option maxRecDepth 100000 in
theorem c_X10_written (x1 x2 x3 : Int32) (l : Launch) : Cti l yX10_written wsX10_written 2 42 (fun G => [.ref (G.1 (10)), .int (x1), .int (x2), .int (x3)]) (f_X10_written x1 x2 x3) := by
  refine mk_c (cc := cX10_written) (nL := 4) (own := RX10) (by decide) rfl rfl (fun _ => Nat.le_of_ble_eq_true rfl) (fun X o σ rv C hR hf => ?_)
  show Bk X 4 o 0 0 0 [(0, .ref (ad X (10))), (1, .int (x1)), (2, .int (x2)), (3, .int (x3))] [] σ
  unfold f_X10_written at hf
  refine b_aload_n C dX10_written_0 rfl 0 rfl ?_
  refine b_iload_n C dX10_written_1 rfl 1 rfl ?_
  obtain ⟨y3, τ4, hqy3, hf⟩ := bd_inv hf
  refine b_callSi (n := 1) C (fun _ => [.int (x1)]) (c_X10_isQuestion (x1)) hqy3 gX10_written_X10_isQuestion rfl (by decide +kernel) rfl (by decide) (by decide) (Nat.le_of_ble_eq_true rfl) dX10_written_2 ?_
  refine b_if_eq C 32 dX10_written_5 (by decide) hf (fun hf => ?_) (fun hf => ?_)
  · exact w_X10_written_32 C hR _ _ _ _ hf
  · refine b_iload_n C dX10_written_8 rfl 2 rfl ?_
    refine b_iconst C (v := 0) dX10_written_9 (by decide) ?_
    refine b_aload_n C dX10_written_10 rfl 0 rfl ?_
    refine b_getR C hiX10_written_10 10 13 (54 + 51) (by decide) (by decide) rfl (by decide) kX10_written_39 rfl rfl dX10_written_11 ?_
    refine b_iload_n C dX10_written_14 rfl 1 rfl ?_
    refine b_iald C 51 (by decide) rfl dX10_written_15 hf (fun hf => ?_)
    refine b_iconst C (v := 1) dX10_written_16 (by decide) ?_
    refine b_isub C dX10_written_17 ?_
    obtain ⟨y5, τ6, hqy5, hf⟩ := bd_inv hf
    refine b_callSi (n := 3) C (fun _ => [.int (x2), .int (0), .int ((τ4 51 (Int32.toNatClampNeg (x1))) - (1))]) (c_X10_in (x2) (0) ((τ4 51 (Int32.toNatClampNeg (x1))) - (1))) hqy5 gX10_written_X10_in rfl (by decide +kernel) rfl (by decide) (by decide) (Nat.le_of_ble_eq_true rfl) dX10_written_18 ?_
    refine b_if_eq C 32 dX10_written_21 (by decide) hf (fun hf => ?_) (fun hf => ?_)
    · exact w_X10_written_32 C hR _ _ _ _ hf
    · refine b_iload_n C dX10_written_24 rfl 3 rfl ?_
      refine b_if_lt C 32 dX10_written_25 (by decide) hf (fun hf => ?_) (fun hf => ?_)
      · exact w_X10_written_32 C hR _ _ _ _ hf
      · refine b_iconst C (v := 1) dX10_written_28 (by decide) ?_
        refine b_goto C 33 dX10_written_29 (by decide) ?_
        exact w_X10_written_33 C hR _ _ _ _ _ hf
set_option maxHeartbeats 4000000 in
set_option maxRecDepth 100000 in
theorem w_X10_mark_40 {X : Ctx} {o : Int64} {rv : Int32 × Mem} (C : Cx X cX10_mark RX10 wsX10_mark 3 7 162) (hR : Rt X cX10_mark 3 o rv) : ∀ (s0 : Int32) (σ : Mem), some rv = f_X10_mark_40 s0 σ → Bk X 3 o 0 0 40 [] [.int (s0)] σ := by
  intro s0 σ hf
  unfold f_X10_mark_40 at hf
  exact hR _ _ _ _ dX10_mark_40 hf
set_option maxHeartbeats 4000000 in
set_option maxRecDepth 100000 in
theorem w_X10_mark_21 {X : Ctx} {o : Int64} {rv : Int32 × Mem} (C : Cx X cX10_mark RX10 wsX10_mark 3 7 162) (hR : Rt X cX10_mark 3 o rv) : ∀ (v1 v2 s0 : Int32) (σ : Mem), some rv = f_X10_mark_21 v1 v2 s0 σ → Bk X 3 o 0 0 21 [(0, .ref (ad X (10))), (1, .int (v1)), (2, .int (v2))] [.int (s0), .ref (ad X (10))] σ := by
  intro v1 v2 s0 σ hf
  unfold f_X10_mark_21 at hf
  obtain ⟨y1, τ2, hqy1, hf⟩ := bd_inv hf
  refine b_callVi (n := 1) C (10) 10 (isObj_s (by decide) (by decide)) rfl (fun _ => [.int (s0)]) (c_X10_asked (s0)) hqy1 gX10_mark_X10_asked rfl (by decide +kernel) rfl (by decide) (by decide) (Nat.le_of_ble_eq_true rfl) dX10_mark_21 ?_
  refine b_if_eq C 39 dX10_mark_24 (by decide) hf (fun hf => ?_) (fun hf => ?_)
  · refine b_iconst C (v := 0) dX10_mark_39 (by decide) ?_
    refine b_sub [] rfl ?_
    exact w_X10_mark_40 C hR _ _ hf
  · refine b_aload_n C dX10_mark_27 rfl 0 rfl ?_
    refine b_iconst C (v := 4) dX10_mark_28 (by decide) ?_
    refine b_iload_n C dX10_mark_29 rfl 1 rfl ?_
    refine b_imul C dX10_mark_30 ?_
    refine b_iload_n C dX10_mark_31 rfl 2 rfl ?_
    refine b_iadd C dX10_mark_32 ?_
    obtain ⟨y3, τ4, hqy3, hf⟩ := bd_inv hf
    refine b_callVi (n := 1) C (10) 10 (isObj_s (by decide) (by decide)) rfl (fun _ => [.int (((4) * (v1)) + (v2))]) (c_X10_marked (((4) * (v1)) + (v2))) hqy3 gX10_mark_X10_marked rfl (by decide +kernel) rfl (by decide) (by decide) (Nat.le_of_ble_eq_true rfl) dX10_mark_33 ?_
    refine b_goto C 40 dX10_mark_36 (by decide) ?_
    refine b_sub [] rfl ?_
    exact w_X10_mark_40 C hR _ _ hf
set_option maxHeartbeats 4000000 in
set_option maxRecDepth 100000 in
theorem w_X10_mark_20 {X : Ctx} {o : Int64} {rv : Int32 × Mem} (C : Cx X cX10_mark RX10 wsX10_mark 3 7 162) (hR : Rt X cX10_mark 3 o rv) : ∀ (v1 v2 : Int32) (σ : Mem), some rv = f_X10_mark_20 v1 v2 σ → Bk X 3 o 0 0 20 [(0, .ref (ad X (10))), (1, .int (v1)), (2, .int (v2))] [.ref (ad X (10))] σ := by
  intro v1 v2 σ hf
  unfold f_X10_mark_20 at hf
  refine b_iconst C (v := 0) dX10_mark_20 (by decide) ?_
  exact w_X10_mark_21 C hR _ _ _ _ hf
set_option maxHeartbeats 4000000 in
set_option maxRecDepth 100000 in
theorem c_X10_mark (x1 x2 : Int32) (l : Launch) : Cti l yX10_mark wsX10_mark 7 162 (fun G => [.ref (G.1 (10)), .int (x1), .int (x2)]) (f_X10_mark x1 x2) := by
  refine mk_i (cc := cX10_mark) (nL := 3) (own := RX10) (by decide) rfl rfl (fun _ => Nat.le_of_ble_eq_true rfl) (fun X o σ rv C hR hf => ?_)
  show Bk X 3 o 0 0 0 [(0, .ref (ad X (10))), (1, .int (x1)), (2, .int (x2))] [] σ
  unfold f_X10_mark at hf
  refine b_aload_n C dX10_mark_0 rfl 0 rfl ?_
  refine b_aload_n C dX10_mark_1 rfl 0 rfl ?_
  refine b_iload_n C dX10_mark_2 rfl 1 rfl ?_
  obtain ⟨y5, τ6, hqy5, hf⟩ := bd_inv hf
  refine b_callVi (n := 1) C (10) 10 (isObj_s (by decide) (by decide)) rfl (fun _ => [.int (x1)]) (c_X10_isPupil (x1)) hqy5 gX10_mark_X10_isPupil rfl (by decide +kernel) rfl (by decide) (by decide) (Nat.le_of_ble_eq_true rfl) dX10_mark_3 ?_
  refine b_if_eq C 20 dX10_mark_6 (by decide) hf (fun hf => ?_) (fun hf => ?_)
  · exact w_X10_mark_20 C hR _ _ _ hf
  · refine b_iload_n C dX10_mark_9 rfl 2 rfl ?_
    obtain ⟨y7, τ8, hqy7, hf⟩ := bd_inv hf
    refine b_callSi (n := 1) C (fun _ => [.int (x2)]) (c_X10_isQuestion (x2)) hqy7 gX10_mark_X10_isQuestion rfl (by decide +kernel) rfl (by decide) (by decide) (Nat.le_of_ble_eq_true rfl) dX10_mark_10 ?_
    refine b_if_eq C 20 dX10_mark_13 (by decide) hf (fun hf => ?_) (fun hf => ?_)
    · exact w_X10_mark_20 C hR _ _ _ hf
    · refine b_iconst C (v := 1) dX10_mark_16 (by decide) ?_
      refine b_goto C 21 dX10_mark_17 (by decide) ?_
      exact w_X10_mark_21 C hR _ _ _ _ hf
set_option maxHeartbeats 4000000 in
set_option maxRecDepth 100000 in
theorem w_X10_markAnew_40 {X : Ctx} {o : Int64} {rv : Int32 × Mem} (C : Cx X cX10_markAnew RX10 wsX10_markAnew 3 7 162) (hR : Rt X cX10_markAnew 3 o rv) : ∀ (s0 : Int32) (σ : Mem), some rv = f_X10_markAnew_40 s0 σ → Bk X 3 o 0 0 40 [] [.int (s0)] σ := by
  intro s0 σ hf
  unfold f_X10_markAnew_40 at hf
  exact hR _ _ _ _ dX10_markAnew_40 hf
set_option maxHeartbeats 4000000 in
set_option maxRecDepth 100000 in
theorem w_X10_markAnew_21 {X : Ctx} {o : Int64} {rv : Int32 × Mem} (C : Cx X cX10_markAnew RX10 wsX10_markAnew 3 7 162) (hR : Rt X cX10_markAnew 3 o rv) : ∀ (v1 v2 s0 : Int32) (σ : Mem), some rv = f_X10_markAnew_21 v1 v2 s0 σ → Bk X 3 o 0 0 21 [(0, .ref (ad X (10))), (1, .int (v1)), (2, .int (v2))] [.int (s0), .ref (ad X (10))] σ := by
  intro v1 v2 s0 σ hf
  unfold f_X10_markAnew_21 at hf
  obtain ⟨y1, τ2, hqy1, hf⟩ := bd_inv hf
  refine b_callVi (n := 1) C (10) 10 (isObj_s (by decide) (by decide)) rfl (fun _ => [.int (s0)]) (c_X10_asked (s0)) hqy1 gX10_markAnew_X10_asked rfl (by decide +kernel) rfl (by decide) (by decide) (Nat.le_of_ble_eq_true rfl) dX10_markAnew_21 ?_
  refine b_if_eq C 39 dX10_markAnew_24 (by decide) hf (fun hf => ?_) (fun hf => ?_)
  · refine b_iconst C (v := 0) dX10_markAnew_39 (by decide) ?_
    refine b_sub [] rfl ?_
    exact w_X10_markAnew_40 C hR _ _ hf
  · refine b_aload_n C dX10_markAnew_27 rfl 0 rfl ?_
    refine b_iconst C (v := 4) dX10_markAnew_28 (by decide) ?_
    refine b_iload_n C dX10_markAnew_29 rfl 1 rfl ?_
    refine b_imul C dX10_markAnew_30 ?_
    refine b_iload_n C dX10_markAnew_31 rfl 2 rfl ?_
    refine b_iadd C dX10_markAnew_32 ?_
    obtain ⟨y3, τ4, hqy3, hf⟩ := bd_inv hf
    refine b_callVi (n := 1) C (10) 10 (isObj_s (by decide) (by decide)) rfl (fun _ => [.int (((4) * (v1)) + (v2))]) (c_X10_marked (((4) * (v1)) + (v2))) hqy3 gX10_markAnew_X10_marked rfl (by decide +kernel) rfl (by decide) (by decide) (Nat.le_of_ble_eq_true rfl) dX10_markAnew_33 ?_
    refine b_goto C 40 dX10_markAnew_36 (by decide) ?_
    refine b_sub [] rfl ?_
    exact w_X10_markAnew_40 C hR _ _ hf
set_option maxHeartbeats 4000000 in
set_option maxRecDepth 100000 in
theorem w_X10_markAnew_20 {X : Ctx} {o : Int64} {rv : Int32 × Mem} (C : Cx X cX10_markAnew RX10 wsX10_markAnew 3 7 162) (hR : Rt X cX10_markAnew 3 o rv) : ∀ (v1 v2 : Int32) (σ : Mem), some rv = f_X10_markAnew_20 v1 v2 σ → Bk X 3 o 0 0 20 [(0, .ref (ad X (10))), (1, .int (v1)), (2, .int (v2))] [.ref (ad X (10))] σ := by
  intro v1 v2 σ hf
  unfold f_X10_markAnew_20 at hf
  refine b_iconst C (v := 0) dX10_markAnew_20 (by decide) ?_
  exact w_X10_markAnew_21 C hR _ _ _ _ hf
set_option maxHeartbeats 4000000 in
set_option maxRecDepth 100000 in
theorem c_X10_markAnew (x1 x2 : Int32) (l : Launch) : Cti l yX10_markAnew wsX10_markAnew 7 162 (fun G => [.ref (G.1 (10)), .int (x1), .int (x2)]) (f_X10_markAnew x1 x2) := by
  refine mk_i (cc := cX10_markAnew) (nL := 3) (own := RX10) (by decide) rfl rfl (fun _ => Nat.le_of_ble_eq_true rfl) (fun X o σ rv C hR hf => ?_)
  show Bk X 3 o 0 0 0 [(0, .ref (ad X (10))), (1, .int (x1)), (2, .int (x2))] [] σ
  unfold f_X10_markAnew at hf
  refine b_aload_n C dX10_markAnew_0 rfl 0 rfl ?_
  refine b_aload_n C dX10_markAnew_1 rfl 0 rfl ?_
  refine b_iload_n C dX10_markAnew_2 rfl 1 rfl ?_
  obtain ⟨y5, τ6, hqy5, hf⟩ := bd_inv hf
  refine b_callVi (n := 1) C (10) 10 (isObj_s (by decide) (by decide)) rfl (fun _ => [.int (x1)]) (c_X10_isPupil (x1)) hqy5 gX10_markAnew_X10_isPupil rfl (by decide +kernel) rfl (by decide) (by decide) (Nat.le_of_ble_eq_true rfl) dX10_markAnew_3 ?_
  refine b_if_eq C 20 dX10_markAnew_6 (by decide) hf (fun hf => ?_) (fun hf => ?_)
  · exact w_X10_markAnew_20 C hR _ _ _ hf
  · refine b_iload_n C dX10_markAnew_9 rfl 2 rfl ?_
    obtain ⟨y7, τ8, hqy7, hf⟩ := bd_inv hf
    refine b_callSi (n := 1) C (fun _ => [.int (x2)]) (c_X10_isQuestion (x2)) hqy7 gX10_markAnew_X10_isQuestion rfl (by decide +kernel) rfl (by decide) (by decide) (Nat.le_of_ble_eq_true rfl) dX10_markAnew_10 ?_
    refine b_if_eq C 20 dX10_markAnew_13 (by decide) hf (fun hf => ?_) (fun hf => ?_)
    · exact w_X10_markAnew_20 C hR _ _ _ hf
    · refine b_iconst C (v := 1) dX10_markAnew_16 (by decide) ?_
      refine b_goto C 21 dX10_markAnew_17 (by decide) ?_
      exact w_X10_markAnew_21 C hR _ _ _ _ hf
theorem hiX10_answer_10 : ∀ w ∈ wsX100, w ∈ wsX10_answer := by decide +kernel
theorem kX10_answer_84 : Cond.fieldLink RX10 84 "ScriptRoomModel" "answerOf" "[I" ∈ wsX10_answer := by decide +kernel
theorem kX10_answer_158 : Cond.fieldLink RX10 158 "ScriptRoomModel" "readings" "I" ∈ wsX10_answer := by decide +kernel
theorem kX10_answer_30 : Cond.fieldLink RX10 30 "ScriptRoomModel" "appealed" "[Z" ∈ wsX10_answer := by decide +kernel
set_option maxHeartbeats 4000000 in
set_option maxRecDepth 100000 in
theorem w_X10_answer_167 {X : Ctx} {o : Int64} {rv : Int32 × Mem} (C : Cx X cX10_answer RX10 wsX10_answer 8 6 138) (hR : Rt X cX10_answer 8 o rv) : ∀ (s0 : Int32) (σ : Mem), some rv = f_X10_answer_167 s0 σ → Bk X 8 o 0 0 167 [] [.int (s0)] σ := by
  intro s0 σ hf
  unfold f_X10_answer_167 at hf
  exact hR _ _ _ _ dX10_answer_167 hf
set_option maxHeartbeats 4000000 in
set_option maxRecDepth 100000 in
theorem w_X10_answer_110 {X : Ctx} {o : Int64} {rv : Int32 × Mem} (C : Cx X cX10_answer RX10 wsX10_answer 8 6 138) (hR : Rt X cX10_answer 8 o rv) (k51 : Int32 → Int32 → Int32 → Int32 → Int32 → Mem → Option (Int32 × Mem)) (h51 : ∀ (v3 v4 v5 v6 v7 : Int32) (σ : Mem), some rv = k51 v3 v4 v5 v6 v7 σ → Bk X 8 o 0 0 51 [(0, .ref (ad X (10))), (3, .int (v3)), (4, .int (v4)), (5, .int (v5)), (6, .int (v6)), (7, .int (v7))] [] σ) : ∀ (v3 v4 v5 v7 s0 s1 : Int32) (σ : Mem), some rv = f_X10_answer_110 k51 v3 v4 v5 v7 s0 s1 σ → Bk X 8 o 0 0 110 [(0, .ref (ad X (10))), (3, .int (v3)), (4, .int (v4)), (5, .int (v5)), (7, .int (v7))] [.int (s0), .int (s1)] σ := by
  intro v3 v4 v5 v7 s0 s1 σ hf
  unfold f_X10_answer_110 at hf
  refine b_iadd C dX10_answer_110 ?_
  refine b_nv hf (fun y1 hf => ?_)
  refine b_istore (lv' := [(6, .int (y1)), (0, .ref (ad X (10))), (3, .int (v3)), (4, .int (v4)), (5, .int (v5)), (7, .int (v7))]) C dX10_answer_111 (by decide) rfl ?_
  refine b_iinc (v := (v7) + (1)) (lv' := [(7, .int ((v7) + (1))), (6, .int (y1)), (0, .ref (ad X (10))), (3, .int (v3)), (4, .int (v4)), (5, .int (v5))]) C dX10_answer_113 5 rfl rfl (by decide) rfl ?_
  refine b_goto C 51 dX10_answer_116 (by decide) ?_
  refine b_sub [2, 3, 4, 5, 1, 0] rfl ?_
  exact h51 _ _ _ _ _ _ hf
set_option maxHeartbeats 4000000 in
set_option maxRecDepth 100000 in
theorem w_X10_answer_88 {X : Ctx} {o : Int64} {rv : Int32 × Mem} (C : Cx X cX10_answer RX10 wsX10_answer 8 6 138) (hR : Rt X cX10_answer 8 o rv) (k51 : Int32 → Int32 → Int32 → Int32 → Int32 → Mem → Option (Int32 × Mem)) (h51 : ∀ (v3 v4 v5 v6 v7 : Int32) (σ : Mem), some rv = k51 v3 v4 v5 v6 v7 σ → Bk X 8 o 0 0 51 [(0, .ref (ad X (10))), (3, .int (v3)), (4, .int (v4)), (5, .int (v5)), (6, .int (v6)), (7, .int (v7))] [] σ) : ∀ (v3 v4 v6 v7 s0 s1 : Int32) (σ : Mem), some rv = f_X10_answer_88 k51 v3 v4 v6 v7 s0 s1 σ → Bk X 8 o 0 0 88 [(0, .ref (ad X (10))), (3, .int (v3)), (4, .int (v4)), (6, .int (v6)), (7, .int (v7))] [.int (s0), .int (s1)] σ := by
  intro v3 v4 v6 v7 s0 s1 σ hf
  unfold f_X10_answer_88 at hf
  refine b_iadd C dX10_answer_88 ?_
  refine b_nv hf (fun y2 hf => ?_)
  refine b_istore (lv' := [(5, .int (y2)), (0, .ref (ad X (10))), (3, .int (v3)), (4, .int (v4)), (6, .int (v6)), (7, .int (v7))]) C dX10_answer_89 (by decide) rfl ?_
  refine b_iload C dX10_answer_91 4 rfl ?_
  refine b_aload_n C dX10_answer_93 rfl 1 rfl ?_
  refine b_getR C hiX10_answer_10 10 31 (54 + 66) (by decide) (by decide) rfl (by decide) kX10_answer_84 rfl rfl dX10_answer_94 ?_
  refine b_iload C dX10_answer_97 5 rfl ?_
  refine b_iald C 66 (by decide) rfl dX10_answer_99 hf (fun hf => ?_)
  refine b_iload C dX10_answer_100 3 rfl ?_
  refine b_icmp_ne C 109 dX10_answer_102 (by decide) hf (fun hf => ?_) (fun hf => ?_)
  · refine b_iconst C (v := 0) dX10_answer_109 (by decide) ?_
    refine b_sub [1, 2, 3, 0, 5] rfl ?_
    exact w_X10_answer_110 C hR k51 h51 _ _ _ _ _ _ _ hf
  · refine b_iconst C (v := 1) dX10_answer_105 (by decide) ?_
    refine b_goto C 110 dX10_answer_106 (by decide) ?_
    refine b_sub [1, 2, 3, 0, 5] rfl ?_
    exact w_X10_answer_110 C hR k51 h51 _ _ _ _ _ _ _ hf
set_option maxHeartbeats 4000000 in
set_option maxRecDepth 100000 in
theorem w_X10_answer_87 {X : Ctx} {o : Int64} {rv : Int32 × Mem} (C : Cx X cX10_answer RX10 wsX10_answer 8 6 138) (hR : Rt X cX10_answer 8 o rv) (k51 : Int32 → Int32 → Int32 → Int32 → Int32 → Mem → Option (Int32 × Mem)) (h51 : ∀ (v3 v4 v5 v6 v7 : Int32) (σ : Mem), some rv = k51 v3 v4 v5 v6 v7 σ → Bk X 8 o 0 0 51 [(0, .ref (ad X (10))), (3, .int (v3)), (4, .int (v4)), (5, .int (v5)), (6, .int (v6)), (7, .int (v7))] [] σ) : ∀ (v3 v4 v6 v7 s0 : Int32) (σ : Mem), some rv = f_X10_answer_87 k51 v3 v4 v6 v7 s0 σ → Bk X 8 o 0 0 87 [(0, .ref (ad X (10))), (3, .int (v3)), (4, .int (v4)), (6, .int (v6)), (7, .int (v7))] [.int (s0)] σ := by
  intro v3 v4 v6 v7 s0 σ hf
  unfold f_X10_answer_87 at hf
  refine b_iconst C (v := 0) dX10_answer_87 (by decide) ?_
  exact w_X10_answer_88 C hR k51 h51 _ _ _ _ _ _ _ hf
set_option maxHeartbeats 4000000 in
set_option maxRecDepth 100000 in
theorem w_X10_answer_51 {X : Ctx} {o : Int64} {rv : Int32 × Mem} (C : Cx X cX10_answer RX10 wsX10_answer 8 6 138) (hR : Rt X cX10_answer 8 o rv) : ∀ (n : Nat) (v3 v4 v5 v6 v7 : Int32) (σ : Mem), some rv = f_X10_answer_51 n v3 v4 v5 v6 v7 σ → Bk X 8 o 0 0 51 [(0, .ref (ad X (10))), (3, .int (v3)), (4, .int (v4)), (5, .int (v5)), (6, .int (v6)), (7, .int (v7))] [] σ := by
  intro n
  induction n with
  | zero =>
    intro v3 v4 v5 v6 v7 σ hf
    rw [f_X10_answer_51] at hf
    cases hf
  | succ n ih =>
    intro v3 v4 v5 v6 v7 σ hf
    rw [f_X10_answer_51] at hf
    refine b_iload C dX10_answer_51 5 rfl ?_
    refine b_aload_n C dX10_answer_53 rfl 0 rfl ?_
    refine b_getS C hiX10_answer_10 10 30 29 (by decide) (by decide) rfl (by decide) kX10_answer_158 rfl rfl dX10_answer_54 ?_
    refine b_icmp_ge C 119 dX10_answer_57 (by decide) hf (fun hf => ?_) (fun hf => ?_)
    · refine b_iload_n C dX10_answer_119 rfl 1 rfl ?_
      refine b_if_ne C 128 dX10_answer_120 (by decide) hf (fun hf => ?_) (fun hf => ?_)
      · refine b_iload_n C dX10_answer_128 rfl 1 rfl ?_
        refine b_iconst C (v := 1) dX10_answer_129 (by decide) ?_
        refine b_icmp_ne C 138 dX10_answer_130 (by decide) hf (fun hf => ?_) (fun hf => ?_)
        · refine b_iload_n C dX10_answer_138 rfl 1 rfl ?_
          refine b_iconst C (v := 2) dX10_answer_139 (by decide) ?_
          refine b_icmp_ne C 152 dX10_answer_140 (by decide) hf (fun hf => ?_) (fun hf => ?_)
          · refine b_aload_n C dX10_answer_152 rfl 0 rfl ?_
            refine b_getR C hiX10_answer_10 10 9 (54 + 48) (by decide) (by decide) rfl (by decide) kX10_answer_30 rfl rfl dX10_answer_153 ?_
            refine b_iload C dX10_answer_156 2 rfl ?_
            refine b_zald C 48 (by decide) rfl dX10_answer_158 hf (fun hf => ?_)
            refine b_if_eq C 166 dX10_answer_159 (by decide) hf (fun hf => ?_) (fun hf => ?_)
            · refine b_iconst C (v := 0) dX10_answer_166 (by decide) ?_
              refine b_sub [] rfl ?_
              exact w_X10_answer_167 C hR _ _ hf
            · refine b_iconst C (v := 1) dX10_answer_162 (by decide) ?_
              refine b_goto C 167 dX10_answer_163 (by decide) ?_
              refine b_sub [] rfl ?_
              exact w_X10_answer_167 C hR _ _ hf
          · refine b_aload_n C dX10_answer_143 rfl 0 rfl ?_
            refine b_iload C dX10_answer_144 2 rfl ?_
            obtain ⟨y3, τ4, hqy3, hf⟩ := bd_inv hf
            refine b_callVi (n := 1) C (10) 10 (isObj_s (by decide) (by decide)) rfl (fun _ => [.int (v4)]) (c_X10_wants (v4)) hqy3 gX10_answer_X10_wants rfl (by decide +kernel) rfl (by decide) (by decide) (Nat.le_of_ble_eq_true rfl) dX10_answer_146 ?_
            refine b_goto C 167 dX10_answer_149 (by decide) ?_
            refine b_sub [] rfl ?_
            exact w_X10_answer_167 C hR _ _ hf
        · refine b_iload C dX10_answer_133 4 rfl ?_
          refine b_goto C 167 dX10_answer_135 (by decide) ?_
          refine b_sub [] rfl ?_
          exact w_X10_answer_167 C hR _ _ hf
      · refine b_iload C dX10_answer_123 3 rfl ?_
        refine b_goto C 167 dX10_answer_125 (by decide) ?_
        refine b_sub [] rfl ?_
        exact w_X10_answer_167 C hR _ _ hf
    · refine b_iload C dX10_answer_60 3 rfl ?_
      refine b_aload_n C dX10_answer_62 rfl 0 rfl ?_
      refine b_getR C hiX10_answer_10 10 31 (54 + 66) (by decide) (by decide) rfl (by decide) kX10_answer_84 rfl rfl dX10_answer_63 ?_
      refine b_iload C dX10_answer_66 5 rfl ?_
      refine b_iald C 66 (by decide) rfl dX10_answer_68 hf (fun hf => ?_)
      refine b_iload C dX10_answer_69 2 rfl ?_
      refine b_icmp_ne C 87 dX10_answer_71 (by decide) hf (fun hf => ?_) (fun hf => ?_)
      · refine b_sub [0, 1, 2, 4, 5] rfl ?_
        exact w_X10_answer_87 C hR (f_X10_answer_51 n) ih _ _ _ _ _ _ hf
      · refine b_aload_n C dX10_answer_74 rfl 0 rfl ?_
        refine b_iload C dX10_answer_75 5 rfl ?_
        obtain ⟨y5, τ6, hqy5, hf⟩ := bd_inv hf
        refine b_callVi (n := 1) C (10) 10 (isObj_s (by decide) (by decide)) rfl (fun _ => [.int (v7)]) (c_X10_counts (v7)) hqy5 gX10_answer_X10_counts rfl (by decide +kernel) rfl (by decide) (by decide) (Nat.le_of_ble_eq_true rfl) dX10_answer_77 ?_
        refine b_if_eq C 87 dX10_answer_80 (by decide) hf (fun hf => ?_) (fun hf => ?_)
        · refine b_sub [0, 1, 2, 4, 5] rfl ?_
          exact w_X10_answer_87 C hR (f_X10_answer_51 n) ih _ _ _ _ _ _ hf
        · refine b_iconst C (v := 1) dX10_answer_83 (by decide) ?_
          refine b_goto C 88 dX10_answer_84 (by decide) ?_
          refine b_sub [0, 1, 2, 4, 5] rfl ?_
          exact w_X10_answer_88 C hR (f_X10_answer_51 n) ih _ _ _ _ _ _ _ hf
set_option maxHeartbeats 4000000 in
set_option maxRecDepth 100000 in
theorem w_X10_answer_21 {X : Ctx} {o : Int64} {rv : Int32 × Mem} (C : Cx X cX10_answer RX10 wsX10_answer 8 6 138) (hR : Rt X cX10_answer 8 o rv) : ∀ (v1 v2 v3 s0 : Int32) (σ : Mem), some rv = f_X10_answer_21 v1 v2 v3 s0 σ → Bk X 8 o 0 0 21 [(0, .ref (ad X (10))), (1, .int (v1)), (2, .int (v2)), (3, .int (v3))] [.int (s0), .ref (ad X (10))] σ := by
  intro v1 v2 v3 s0 σ hf
  unfold f_X10_answer_21 at hf
  refine b_iload_n C dX10_answer_21 rfl 3 rfl ?_
  refine b_iconst C (v := 0) dX10_answer_22 (by decide) ?_
  refine b_iconst C (v := 3) dX10_answer_23 (by decide) ?_
  obtain ⟨y7, τ8, hqy7, hf⟩ := bd_inv hf
  refine b_callSi (n := 3) C (fun _ => [.int (v3), .int (0), .int (3)]) (c_X10_in (v3) (0) (3)) hqy7 gX10_answer_X10_in rfl (by decide +kernel) rfl (by decide) (by decide) (Nat.le_of_ble_eq_true rfl) dX10_answer_24 ?_
  obtain ⟨y9, τ10, hqy9, hf⟩ := bd_inv hf
  refine b_callVi (n := 2) C (10) 10 (isObj_s (by decide) (by decide)) rfl (fun _ => [.int (s0), .int (y7)]) (c_X10_asked_ (s0) (y7)) hqy9 gX10_answer_X10_asked_ rfl (by decide +kernel) rfl (by decide) (by decide) (Nat.le_of_ble_eq_true rfl) dX10_answer_27 ?_
  refine b_if_ne C 35 dX10_answer_30 (by decide) hf (fun hf => ?_) (fun hf => ?_)
  · refine b_iconst C (v := 4) dX10_answer_35 (by decide) ?_
    refine b_iload_n C dX10_answer_36 rfl 1 rfl ?_
    refine b_imul C dX10_answer_37 ?_
    refine b_iload_n C dX10_answer_38 rfl 2 rfl ?_
    refine b_iadd C dX10_answer_39 ?_
    refine b_nv hf (fun y11 hf => ?_)
    refine b_istore (lv' := [(4, .int (y11)), (0, .ref (ad X (10))), (1, .int (v1)), (2, .int (v2)), (3, .int (v3))]) C dX10_answer_40 (by decide) rfl ?_
    refine b_iconst C (v := 0) dX10_answer_42 (by decide) ?_
    refine b_istore (lv' := [(5, .int (0)), (4, .int (y11)), (0, .ref (ad X (10))), (1, .int (v1)), (2, .int (v2)), (3, .int (v3))]) C dX10_answer_43 (by decide) rfl ?_
    refine b_iconst C (v := 0) dX10_answer_45 (by decide) ?_
    refine b_istore (lv' := [(6, .int (0)), (5, .int (0)), (4, .int (y11)), (0, .ref (ad X (10))), (1, .int (v1)), (2, .int (v2)), (3, .int (v3))]) C dX10_answer_46 (by decide) rfl ?_
    refine b_iconst C (v := 0) dX10_answer_48 (by decide) ?_
    refine b_istore (lv' := [(7, .int (0)), (6, .int (0)), (5, .int (0)), (4, .int (y11)), (0, .ref (ad X (10))), (1, .int (v1)), (2, .int (v2)), (3, .int (v3))]) C dX10_answer_49 (by decide) rfl ?_
    refine b_sub [4, 7, 3, 2, 1, 0] rfl ?_
    exact w_X10_answer_51 C hR FUEL _ _ _ _ _ _ hf
  · refine b_iconst C (v := 0) dX10_answer_33 (by decide) ?_
    exact hR _ _ _ _ dX10_answer_34 hf
set_option maxHeartbeats 4000000 in
set_option maxRecDepth 100000 in
theorem w_X10_answer_20 {X : Ctx} {o : Int64} {rv : Int32 × Mem} (C : Cx X cX10_answer RX10 wsX10_answer 8 6 138) (hR : Rt X cX10_answer 8 o rv) : ∀ (v1 v2 v3 : Int32) (σ : Mem), some rv = f_X10_answer_20 v1 v2 v3 σ → Bk X 8 o 0 0 20 [(0, .ref (ad X (10))), (1, .int (v1)), (2, .int (v2)), (3, .int (v3))] [.ref (ad X (10))] σ := by
  intro v1 v2 v3 σ hf
  unfold f_X10_answer_20 at hf
  refine b_iconst C (v := 0) dX10_answer_20 (by decide) ?_
  exact w_X10_answer_21 C hR _ _ _ _ _ hf
set_option maxHeartbeats 4000000 in
set_option maxRecDepth 100000 in
theorem c_X10_answer (x1 x2 x3 : Int32) (l : Launch) : Cti l yX10_answer wsX10_answer 6 138 (fun G => [.ref (G.1 (10)), .int (x1), .int (x2), .int (x3)]) (f_X10_answer x1 x2 x3) := by
  refine mk_i (cc := cX10_answer) (nL := 8) (own := RX10) (by decide) rfl rfl (fun _ => Nat.le_of_ble_eq_true rfl) (fun X o σ rv C hR hf => ?_)
  show Bk X 8 o 0 0 0 [(0, .ref (ad X (10))), (1, .int (x1)), (2, .int (x2)), (3, .int (x3))] [] σ
  unfold f_X10_answer at hf
  refine b_aload_n C dX10_answer_0 rfl 0 rfl ?_
  refine b_aload_n C dX10_answer_1 rfl 0 rfl ?_
  refine b_iload_n C dX10_answer_2 rfl 1 rfl ?_
  obtain ⟨y12, τ13, hqy12, hf⟩ := bd_inv hf
  refine b_callVi (n := 1) C (10) 10 (isObj_s (by decide) (by decide)) rfl (fun _ => [.int (x1)]) (c_X10_isPupil (x1)) hqy12 gX10_answer_X10_isPupil rfl (by decide +kernel) rfl (by decide) (by decide) (Nat.le_of_ble_eq_true rfl) dX10_answer_3 ?_
  refine b_if_eq C 20 dX10_answer_6 (by decide) hf (fun hf => ?_) (fun hf => ?_)
  · exact w_X10_answer_20 C hR _ _ _ _ hf
  · refine b_iload_n C dX10_answer_9 rfl 2 rfl ?_
    obtain ⟨y14, τ15, hqy14, hf⟩ := bd_inv hf
    refine b_callSi (n := 1) C (fun _ => [.int (x2)]) (c_X10_isQuestion (x2)) hqy14 gX10_answer_X10_isQuestion rfl (by decide +kernel) rfl (by decide) (by decide) (Nat.le_of_ble_eq_true rfl) dX10_answer_10 ?_
    refine b_if_eq C 20 dX10_answer_13 (by decide) hf (fun hf => ?_) (fun hf => ?_)
    · exact w_X10_answer_20 C hR _ _ _ _ hf
    · refine b_iconst C (v := 1) dX10_answer_16 (by decide) ?_
      refine b_goto C 21 dX10_answer_17 (by decide) ?_
      exact w_X10_answer_21 C hR _ _ _ _ _ hf
set_option maxHeartbeats 4000000 in
set_option maxRecDepth 100000 in
theorem w_X10_total_21 {X : Ctx} {o : Int64} {rv : Int32 × Mem} (C : Cx X cX10_total RX10 wsX10_total 2 8 188) (hR : Rt X cX10_total 2 o rv) : ∀ (s0 : Int32) (σ : Mem), some rv = f_X10_total_21 s0 σ → Bk X 2 o 0 0 21 [] [.int (s0)] σ := by
  intro s0 σ hf
  unfold f_X10_total_21 at hf
  exact hR _ _ _ _ dX10_total_21 hf
set_option maxHeartbeats 4000000 in
set_option maxRecDepth 100000 in
theorem c_X10_total (x1 : Int32) (l : Launch) : Cti l yX10_total wsX10_total 8 188 (fun G => [.ref (G.1 (10)), .int (x1)]) (f_X10_total x1) := by
  refine mk_i (cc := cX10_total) (nL := 2) (own := RX10) (by decide) rfl rfl (fun _ => Nat.le_of_ble_eq_true rfl) (fun X o σ rv C hR hf => ?_)
  show Bk X 2 o 0 0 0 [(0, .ref (ad X (10))), (1, .int (x1))] [] σ
  unfold f_X10_total at hf
  refine b_aload_n C dX10_total_0 rfl 0 rfl ?_
  refine b_aload_n C dX10_total_1 rfl 0 rfl ?_
  refine b_iload_n C dX10_total_2 rfl 1 rfl ?_
  obtain ⟨y1, τ2, hqy1, hf⟩ := bd_inv hf
  refine b_callVi (n := 1) C (10) 10 (isObj_s (by decide) (by decide)) rfl (fun _ => [.int (x1)]) (c_X10_isPupil (x1)) hqy1 gX10_total_X10_isPupil rfl (by decide +kernel) rfl (by decide) (by decide) (Nat.le_of_ble_eq_true rfl) dX10_total_3 ?_
  obtain ⟨y3, τ4, hqy3, hf⟩ := bd_inv hf
  refine b_callVi (n := 1) C (10) 10 (isObj_s (by decide) (by decide)) rfl (fun _ => [.int (y1)]) (c_X10_asked (y1)) hqy3 gX10_total_X10_asked rfl (by decide +kernel) rfl (by decide) (by decide) (Nat.le_of_ble_eq_true rfl) dX10_total_6 ?_
  refine b_if_eq C 20 dX10_total_9 (by decide) hf (fun hf => ?_) (fun hf => ?_)
  · refine b_iconst C (v := 0) dX10_total_20 (by decide) ?_
    refine b_sub [] rfl ?_
    exact w_X10_total_21 C hR _ _ hf
  · refine b_aload_n C dX10_total_12 rfl 0 rfl ?_
    refine b_iload_n C dX10_total_13 rfl 1 rfl ?_
    obtain ⟨y5, τ6, hqy5, hf⟩ := bd_inv hf
    refine b_callVi (n := 1) C (10) 10 (isObj_s (by decide) (by decide)) rfl (fun _ => [.int (x1)]) (c_X10_totalOf (x1)) hqy5 gX10_total_X10_totalOf rfl (by decide +kernel) rfl (by decide) (by decide) (Nat.le_of_ble_eq_true rfl) dX10_total_14 ?_
    refine b_goto C 21 dX10_total_17 (by decide) ?_
    refine b_sub [] rfl ?_
    exact w_X10_total_21 C hR _ _ hf
theorem hiX10_grade_10 : ∀ w ∈ wsX100, w ∈ wsX10_grade := by decide +kernel
theorem kX10_grade_33 : Cond.fieldLink RX10 33 "ScriptRoomModel" "released" "[I" ∈ wsX10_grade := by decide +kernel
set_option maxHeartbeats 4000000 in
set_option maxRecDepth 100000 in
theorem w_X10_grade_34 {X : Ctx} {o : Int64} {rv : Int32 × Mem} (C : Cx X cX10_grade RX10 wsX10_grade 3 9 210) (hR : Rt X cX10_grade 3 o rv) : ∀ (s0 : Int32) (σ : Mem), some rv = f_X10_grade_34 s0 σ → Bk X 3 o 0 0 34 [] [.int (s0)] σ := by
  intro s0 σ hf
  unfold f_X10_grade_34 at hf
  exact hR _ _ _ _ dX10_grade_34 hf
set_option maxHeartbeats 4000000 in
set_option maxRecDepth 100000 in
theorem c_X10_grade (x1 x2 : Int32) (l : Launch) : Cti l yX10_grade wsX10_grade 9 210 (fun G => [.ref (G.1 (10)), .int (x1), .int (x2)]) (f_X10_grade x1 x2) := by
  refine mk_i (cc := cX10_grade) (nL := 3) (own := RX10) (by decide) rfl rfl (fun _ => Nat.le_of_ble_eq_true rfl) (fun X o σ rv C hR hf => ?_)
  show Bk X 3 o 0 0 0 [(0, .ref (ad X (10))), (1, .int (x1)), (2, .int (x2))] [] σ
  unfold f_X10_grade at hf
  refine b_aload_n C dX10_grade_0 rfl 0 rfl ?_
  refine b_aload_n C dX10_grade_1 rfl 0 rfl ?_
  refine b_iload_n C dX10_grade_2 rfl 1 rfl ?_
  obtain ⟨y1, τ2, hqy1, hf⟩ := bd_inv hf
  refine b_callVi (n := 1) C (10) 10 (isObj_s (by decide) (by decide)) rfl (fun _ => [.int (x1)]) (c_X10_isPupil (x1)) hqy1 gX10_grade_X10_isPupil rfl (by decide +kernel) rfl (by decide) (by decide) (Nat.le_of_ble_eq_true rfl) dX10_grade_3 ?_
  obtain ⟨y3, τ4, hqy3, hf⟩ := bd_inv hf
  refine b_callVi (n := 1) C (10) 10 (isObj_s (by decide) (by decide)) rfl (fun _ => [.int (y1)]) (c_X10_asked (y1)) hqy3 gX10_grade_X10_asked rfl (by decide +kernel) rfl (by decide) (by decide) (Nat.le_of_ble_eq_true rfl) dX10_grade_6 ?_
  refine b_if_ne C 16 dX10_grade_9 (by decide) hf (fun hf => ?_) (fun hf => ?_)
  · refine b_iload_n C dX10_grade_16 rfl 2 rfl ?_
    refine b_if_eq C 29 dX10_grade_17 (by decide) hf (fun hf => ?_) (fun hf => ?_)
    · refine b_aload_n C dX10_grade_29 rfl 0 rfl ?_
      refine b_iload_n C dX10_grade_30 rfl 1 rfl ?_
      obtain ⟨y5, τ6, hqy5, hf⟩ := bd_inv hf
      refine b_callVi (n := 1) C (10) 10 (isObj_s (by decide) (by decide)) rfl (fun _ => [.int (x1)]) (c_X10_gradeOf (x1)) hqy5 gX10_grade_X10_gradeOf rfl (by decide +kernel) rfl (by decide) (by decide) (Nat.le_of_ble_eq_true rfl) dX10_grade_31 ?_
      refine b_sub [] rfl ?_
      exact w_X10_grade_34 C hR _ _ hf
    · refine b_aload_n C dX10_grade_20 rfl 0 rfl ?_
      refine b_getR C hiX10_grade_10 10 10 (54 + 49) (by decide) (by decide) rfl (by decide) kX10_grade_33 rfl rfl dX10_grade_21 ?_
      refine b_iload_n C dX10_grade_24 rfl 1 rfl ?_
      refine b_iald C 49 (by decide) rfl dX10_grade_25 hf (fun hf => ?_)
      refine b_goto C 34 dX10_grade_26 (by decide) ?_
      refine b_sub [] rfl ?_
      exact w_X10_grade_34 C hR _ _ hf
  · refine b_iconst C (v := 0) dX10_grade_12 (by decide) ?_
    refine b_goto C 34 dX10_grade_13 (by decide) ?_
    refine b_sub [] rfl ?_
    exact w_X10_grade_34 C hR _ _ hf
theorem hiX10_changed_10 : ∀ w ∈ wsX100, w ∈ wsX10_changed := by decide +kernel
theorem kX10_changed_117 : Cond.fieldLink RX10 117 "ScriptRoomModel" "pupils" "I" ∈ wsX10_changed := by decide +kernel
theorem kX10_changed_33 : Cond.fieldLink RX10 33 "ScriptRoomModel" "released" "[I" ∈ wsX10_changed := by decide +kernel
theorem kX10_changed_114 : Cond.fieldLink RX10 114 "ScriptRoomModel" "thrown" "I" ∈ wsX10_changed := by decide +kernel
set_option maxHeartbeats 4000000 in
set_option maxRecDepth 100000 in
theorem w_X10_changed_47 {X : Ctx} {o : Int64} {rv : Int32 × Mem} (C : Cx X cX10_changed RX10 wsX10_changed 3 9 210) (hR : Rt X cX10_changed 3 o rv) (k9 : Int32 → Int32 → Mem → Option (Int32 × Mem)) (h9 : ∀ (v1 v2 : Int32) (σ : Mem), some rv = k9 v1 v2 σ → Bk X 3 o 0 0 9 [(0, .ref (ad X (10))), (1, .int (v1)), (2, .int (v2))] [] σ) : ∀ (v2 s0 s1 : Int32) (σ : Mem), some rv = f_X10_changed_47 k9 v2 s0 s1 σ → Bk X 3 o 0 0 47 [(0, .ref (ad X (10))), (2, .int (v2))] [.int (s0), .int (s1)] σ := by
  intro v2 s0 s1 σ hf
  unfold f_X10_changed_47 at hf
  refine b_iadd C dX10_changed_47 ?_
  refine b_nv hf (fun y1 hf => ?_)
  refine b_istore_n (lv' := [(1, .int (y1)), (0, .ref (ad X (10))), (2, .int (v2))]) C dX10_changed_48 rfl (by decide) rfl ?_
  refine b_iinc (v := (v2) + (1)) (lv' := [(2, .int ((v2) + (1))), (1, .int (y1)), (0, .ref (ad X (10)))]) C dX10_changed_49 2 rfl rfl (by decide) rfl ?_
  refine b_goto C 9 dX10_changed_52 (by decide) ?_
  refine b_sub [2, 1, 0] rfl ?_
  exact h9 _ _ _ hf
set_option maxHeartbeats 4000000 in
set_option maxRecDepth 100000 in
theorem w_X10_changed_46 {X : Ctx} {o : Int64} {rv : Int32 × Mem} (C : Cx X cX10_changed RX10 wsX10_changed 3 9 210) (hR : Rt X cX10_changed 3 o rv) (k9 : Int32 → Int32 → Mem → Option (Int32 × Mem)) (h9 : ∀ (v1 v2 : Int32) (σ : Mem), some rv = k9 v1 v2 σ → Bk X 3 o 0 0 9 [(0, .ref (ad X (10))), (1, .int (v1)), (2, .int (v2))] [] σ) : ∀ (v2 s0 : Int32) (σ : Mem), some rv = f_X10_changed_46 k9 v2 s0 σ → Bk X 3 o 0 0 46 [(0, .ref (ad X (10))), (2, .int (v2))] [.int (s0)] σ := by
  intro v2 s0 σ hf
  unfold f_X10_changed_46 at hf
  refine b_iconst C (v := 0) dX10_changed_46 (by decide) ?_
  exact w_X10_changed_47 C hR k9 h9 _ _ _ _ hf
set_option maxHeartbeats 4000000 in
set_option maxRecDepth 100000 in
theorem w_X10_changed_9 {X : Ctx} {o : Int64} {rv : Int32 × Mem} (C : Cx X cX10_changed RX10 wsX10_changed 3 9 210) (hR : Rt X cX10_changed 3 o rv) : ∀ (n : Nat) (v1 v2 : Int32) (σ : Mem), some rv = f_X10_changed_9 n v1 v2 σ → Bk X 3 o 0 0 9 [(0, .ref (ad X (10))), (1, .int (v1)), (2, .int (v2))] [] σ := by
  intro n
  induction n with
  | zero =>
    intro v1 v2 σ hf
    rw [f_X10_changed_9] at hf
    cases hf
  | succ n ih =>
    intro v1 v2 σ hf
    rw [f_X10_changed_9] at hf
    refine b_iload_n C dX10_changed_9 rfl 2 rfl ?_
    refine b_aload_n C dX10_changed_10 rfl 0 rfl ?_
    refine b_getS C hiX10_changed_10 10 4 25 (by decide) (by decide) rfl (by decide) kX10_changed_117 rfl rfl dX10_changed_11 ?_
    refine b_icmp_ge C 55 dX10_changed_14 (by decide) hf (fun hf => ?_) (fun hf => ?_)
    · refine b_iload_n C dX10_changed_55 rfl 1 rfl ?_
      exact hR _ _ _ _ dX10_changed_56 hf
    · refine b_iload_n C dX10_changed_17 rfl 1 rfl ?_
      refine b_aload_n C dX10_changed_18 rfl 0 rfl ?_
      refine b_getR C hiX10_changed_10 10 10 (54 + 49) (by decide) (by decide) rfl (by decide) kX10_changed_33 rfl rfl dX10_changed_19 ?_
      refine b_iload_n C dX10_changed_22 rfl 2 rfl ?_
      refine b_iald C 49 (by decide) rfl dX10_changed_23 hf (fun hf => ?_)
      refine b_iconst C (v := (-1)) dX10_changed_24 (by decide) ?_
      refine b_icmp_eq C 46 dX10_changed_25 (by decide) hf (fun hf => ?_) (fun hf => ?_)
      · refine b_sub [0, 2] rfl ?_
        exact w_X10_changed_46 C hR (f_X10_changed_9 n) ih _ _ _ hf
      · refine b_aload_n C dX10_changed_28 rfl 0 rfl ?_
        refine b_iload_n C dX10_changed_29 rfl 2 rfl ?_
        obtain ⟨y2, τ3, hqy2, hf⟩ := bd_inv hf
        refine b_callVi (n := 1) C (10) 10 (isObj_s (by decide) (by decide)) rfl (fun _ => [.int (v2)]) (c_X10_gradeOf (v2)) hqy2 gX10_changed_X10_gradeOf rfl (by decide +kernel) rfl (by decide) (by decide) (Nat.le_of_ble_eq_true rfl) dX10_changed_30 ?_
        refine b_aload_n C dX10_changed_33 rfl 0 rfl ?_
        refine b_getR C hiX10_changed_10 10 10 (54 + 49) (by decide) (by decide) rfl (by decide) kX10_changed_33 rfl rfl dX10_changed_34 ?_
        refine b_iload_n C dX10_changed_37 rfl 2 rfl ?_
        refine b_iald C 49 (by decide) rfl dX10_changed_38 hf (fun hf => ?_)
        refine b_icmp_eq C 46 dX10_changed_39 (by decide) hf (fun hf => ?_) (fun hf => ?_)
        · refine b_sub [0, 2] rfl ?_
          exact w_X10_changed_46 C hR (f_X10_changed_9 n) ih _ _ _ hf
        · refine b_iconst C (v := 1) dX10_changed_42 (by decide) ?_
          refine b_goto C 47 dX10_changed_43 (by decide) ?_
          refine b_sub [0, 2] rfl ?_
          exact w_X10_changed_47 C hR (f_X10_changed_9 n) ih _ _ _ _ hf
set_option maxHeartbeats 4000000 in
set_option maxRecDepth 100000 in
theorem c_X10_changed (l : Launch) : Cti l yX10_changed wsX10_changed 9 210 (fun G => [.ref (G.1 (10))]) (f_X10_changed ) := by
  refine mk_i (cc := cX10_changed) (nL := 3) (own := RX10) (by decide) rfl rfl (fun _ => Nat.le_of_ble_eq_true rfl) (fun X o σ rv C hR hf => ?_)
  show Bk X 3 o 0 0 0 [(0, .ref (ad X (10)))] [] σ
  unfold f_X10_changed at hf
  refine b_aload_n C dX10_changed_0 rfl 0 rfl ?_
  refine b_iconst C (v := 0) dX10_changed_1 (by decide) ?_
  refine b_putS C (ty := .int) hiX10_changed_10 tyX10 tyX10_ok nmX10 10 0 22 (by decide) (by decide) rfl (by decide) kX10_changed_114 rfl rfl (by decide +kernel) rfl rfl rfl dX10_changed_2 ?_
  refine b_nw hf (fun τ4 hf => ?_)
  refine b_iconst C (v := 0) dX10_changed_5 (by decide) ?_
  refine b_istore_n (lv' := [(1, .int (0)), (0, .ref (ad X (10)))]) C dX10_changed_6 rfl (by decide) rfl ?_
  refine b_iconst C (v := 0) dX10_changed_7 (by decide) ?_
  refine b_istore_n (lv' := [(2, .int (0)), (1, .int (0)), (0, .ref (ad X (10)))]) C dX10_changed_8 rfl (by decide) rfl ?_
  refine b_sub [2, 1, 0] rfl ?_
  exact w_X10_changed_9 C hR FUEL _ _ _ hf
theorem hiX10_lineAt_10 : ∀ w ∈ wsX100, w ∈ wsX10_lineAt := by decide +kernel
theorem kX10_lineAt_117 : Cond.fieldLink RX10 117 "ScriptRoomModel" "pupils" "I" ∈ wsX10_lineAt := by decide +kernel
set_option maxHeartbeats 4000000 in
set_option maxRecDepth 100000 in
theorem w_X10_lineAt_73 {X : Ctx} {o : Int64} {rv : Int32 × Mem} (C : Cx X cX10_lineAt RX10 wsX10_lineAt 6 8 188) (hR : Rt X cX10_lineAt 6 o rv) (k37 : Int32 → Int32 → Int32 → Mem → Option (Int32 × Mem)) (h37 : ∀ (v1 v2 v3 : Int32) (σ : Mem), some rv = k37 v1 v2 v3 σ → Bk X 6 o 0 0 37 [(0, .ref (ad X (10))), (1, .int (v1)), (2, .int (v2)), (3, .int (v3))] [] σ) (k47 : Int32 → Int32 → Int32 → Int32 → Int32 → Mem → Option (Int32 × Mem)) (h47 : ∀ (v1 v2 v3 v4 v5 : Int32) (σ : Mem), some rv = k47 v1 v2 v3 v4 v5 σ → Bk X 6 o 0 0 47 [(0, .ref (ad X (10))), (1, .int (v1)), (2, .int (v2)), (3, .int (v3)), (4, .int (v4)), (5, .int (v5))] [] σ) : ∀ (v1 v2 v3 v5 s0 s1 : Int32) (σ : Mem), some rv = f_X10_lineAt_73 k37 k47 v1 v2 v3 v5 s0 s1 σ → Bk X 6 o 0 0 73 [(0, .ref (ad X (10))), (1, .int (v1)), (2, .int (v2)), (3, .int (v3)), (5, .int (v5))] [.int (s0), .int (s1)] σ := by
  intro v1 v2 v3 v5 s0 s1 σ hf
  unfold f_X10_lineAt_73 at hf
  refine b_iadd C dX10_lineAt_73 ?_
  refine b_nv hf (fun y1 hf => ?_)
  refine b_istore (lv' := [(4, .int (y1)), (0, .ref (ad X (10))), (1, .int (v1)), (2, .int (v2)), (3, .int (v3)), (5, .int (v5))]) C dX10_lineAt_74 (by decide) rfl ?_
  refine b_iinc (v := (v5) + (1)) (lv' := [(5, .int ((v5) + (1))), (4, .int (y1)), (0, .ref (ad X (10))), (1, .int (v1)), (2, .int (v2)), (3, .int (v3))]) C dX10_lineAt_76 5 rfl rfl (by decide) rfl ?_
  refine b_goto C 47 dX10_lineAt_79 (by decide) ?_
  refine b_sub [2, 3, 4, 5, 1, 0] rfl ?_
  exact h47 _ _ _ _ _ _ hf
set_option maxHeartbeats 4000000 in
set_option maxRecDepth 100000 in
theorem w_X10_lineAt_47 {X : Ctx} {o : Int64} {rv : Int32 × Mem} (C : Cx X cX10_lineAt RX10 wsX10_lineAt 6 8 188) (hR : Rt X cX10_lineAt 6 o rv) (k37 : Int32 → Int32 → Int32 → Mem → Option (Int32 × Mem)) (h37 : ∀ (v1 v2 v3 : Int32) (σ : Mem), some rv = k37 v1 v2 v3 σ → Bk X 6 o 0 0 37 [(0, .ref (ad X (10))), (1, .int (v1)), (2, .int (v2)), (3, .int (v3))] [] σ) : ∀ (n : Nat) (v1 v2 v3 v4 v5 : Int32) (σ : Mem), some rv = f_X10_lineAt_47 k37 n v1 v2 v3 v4 v5 σ → Bk X 6 o 0 0 47 [(0, .ref (ad X (10))), (1, .int (v1)), (2, .int (v2)), (3, .int (v3)), (4, .int (v4)), (5, .int (v5))] [] σ := by
  intro n
  induction n with
  | zero =>
    intro v1 v2 v3 v4 v5 σ hf
    rw [f_X10_lineAt_47] at hf
    cases hf
  | succ n ih =>
    intro v1 v2 v3 v4 v5 σ hf
    rw [f_X10_lineAt_47] at hf
    refine b_iload C dX10_lineAt_47 5 rfl ?_
    refine b_aload_n C dX10_lineAt_49 rfl 0 rfl ?_
    refine b_getS C hiX10_lineAt_10 10 4 25 (by decide) (by decide) rfl (by decide) kX10_lineAt_117 rfl rfl dX10_lineAt_50 ?_
    refine b_icmp_ge C 82 dX10_lineAt_53 (by decide) hf (fun hf => ?_) (fun hf => ?_)
    · refine b_bipush C (v := 100) dX10_lineAt_82 (by decide) ?_
      refine b_iload C dX10_lineAt_84 4 rfl ?_
      refine b_imul C dX10_lineAt_86 ?_
      refine b_iload_n C dX10_lineAt_87 rfl 1 rfl ?_
      refine b_iload_n C dX10_lineAt_88 rfl 2 rfl ?_
      refine b_imul C dX10_lineAt_89 ?_
      refine b_icmp_gt C 95 dX10_lineAt_90 (by decide) hf (fun hf => ?_) (fun hf => ?_)
      · refine b_iinc (v := (v3) + (1)) (lv' := [(3, .int ((v3) + (1))), (0, .ref (ad X (10))), (1, .int (v1)), (2, .int (v2)), (4, .int (v4)), (5, .int (v5))]) C dX10_lineAt_95 3 rfl rfl (by decide) rfl ?_
        refine b_goto C 37 dX10_lineAt_98 (by decide) ?_
        refine b_sub [1, 2, 3, 0] rfl ?_
        exact h37 _ _ _ _ hf
      · refine b_iload_n C dX10_lineAt_93 rfl 3 rfl ?_
        exact hR _ _ _ _ dX10_lineAt_94 hf
    · refine b_iload C dX10_lineAt_56 4 rfl ?_
      refine b_aload_n C dX10_lineAt_58 rfl 0 rfl ?_
      refine b_iload C dX10_lineAt_59 5 rfl ?_
      obtain ⟨y2, τ3, hqy2, hf⟩ := bd_inv hf
      refine b_callVi (n := 1) C (10) 10 (isObj_s (by decide) (by decide)) rfl (fun _ => [.int (v5)]) (c_X10_totalOf (v5)) hqy2 gX10_lineAt_X10_totalOf rfl (by decide +kernel) rfl (by decide) (by decide) (Nat.le_of_ble_eq_true rfl) dX10_lineAt_61 ?_
      refine b_iload_n C dX10_lineAt_64 rfl 3 rfl ?_
      refine b_icmp_lt C 72 dX10_lineAt_65 (by decide) hf (fun hf => ?_) (fun hf => ?_)
      · refine b_iconst C (v := 0) dX10_lineAt_72 (by decide) ?_
        refine b_sub [0, 1, 2, 3, 5] rfl ?_
        exact w_X10_lineAt_73 C hR k37 h37 (f_X10_lineAt_47 k37 n) ih _ _ _ _ _ _ _ hf
      · refine b_iconst C (v := 1) dX10_lineAt_68 (by decide) ?_
        refine b_goto C 73 dX10_lineAt_69 (by decide) ?_
        refine b_sub [0, 1, 2, 3, 5] rfl ?_
        exact w_X10_lineAt_73 C hR k37 h37 (f_X10_lineAt_47 k37 n) ih _ _ _ _ _ _ _ hf
set_option maxHeartbeats 4000000 in
set_option maxRecDepth 100000 in
theorem w_X10_lineAt_37 {X : Ctx} {o : Int64} {rv : Int32 × Mem} (C : Cx X cX10_lineAt RX10 wsX10_lineAt 6 8 188) (hR : Rt X cX10_lineAt 6 o rv) : ∀ (n : Nat) (v1 v2 v3 : Int32) (σ : Mem), some rv = f_X10_lineAt_37 n v1 v2 v3 σ → Bk X 6 o 0 0 37 [(0, .ref (ad X (10))), (1, .int (v1)), (2, .int (v2)), (3, .int (v3))] [] σ := by
  intro n
  induction n with
  | zero =>
    intro v1 v2 v3 σ hf
    rw [f_X10_lineAt_37] at hf
    cases hf
  | succ n ih =>
    intro v1 v2 v3 σ hf
    rw [f_X10_lineAt_37] at hf
    refine b_iload_n C dX10_lineAt_37 rfl 2 rfl ?_
    refine b_if_le C 101 dX10_lineAt_38 (by decide) hf (fun hf => ?_) (fun hf => ?_)
    · refine b_iconst C (v := 0) dX10_lineAt_101 (by decide) ?_
      exact hR _ _ _ _ dX10_lineAt_102 hf
    · refine b_iconst C (v := 0) dX10_lineAt_41 (by decide) ?_
      refine b_istore (lv' := [(4, .int (0)), (0, .ref (ad X (10))), (1, .int (v1)), (2, .int (v2)), (3, .int (v3))]) C dX10_lineAt_42 (by decide) rfl ?_
      refine b_iconst C (v := 0) dX10_lineAt_44 (by decide) ?_
      refine b_istore (lv' := [(5, .int (0)), (4, .int (0)), (0, .ref (ad X (10))), (1, .int (v1)), (2, .int (v2)), (3, .int (v3))]) C dX10_lineAt_45 (by decide) rfl ?_
      refine b_sub [2, 3, 4, 5, 1, 0] rfl ?_
      exact w_X10_lineAt_47 C hR (f_X10_lineAt_37 n) ih FUEL _ _ _ _ _ _ hf
set_option maxHeartbeats 4000000 in
set_option maxRecDepth 100000 in
theorem w_X10_lineAt_27 {X : Ctx} {o : Int64} {rv : Int32 × Mem} (C : Cx X cX10_lineAt RX10 wsX10_lineAt 6 8 188) (hR : Rt X cX10_lineAt 6 o rv) (k4 : Int32 → Int32 → Int32 → Mem → Option (Int32 × Mem)) (h4 : ∀ (v1 v2 v3 : Int32) (σ : Mem), some rv = k4 v1 v2 v3 σ → Bk X 6 o 0 0 4 [(0, .ref (ad X (10))), (1, .int (v1)), (2, .int (v2)), (3, .int (v3))] [] σ) : ∀ (v1 v3 s0 s1 : Int32) (σ : Mem), some rv = f_X10_lineAt_27 k4 v1 v3 s0 s1 σ → Bk X 6 o 0 0 27 [(0, .ref (ad X (10))), (1, .int (v1)), (3, .int (v3))] [.int (s0), .int (s1)] σ := by
  intro v1 v3 s0 s1 σ hf
  unfold f_X10_lineAt_27 at hf
  refine b_iadd C dX10_lineAt_27 ?_
  refine b_nv hf (fun y4 hf => ?_)
  refine b_istore_n (lv' := [(2, .int (y4)), (0, .ref (ad X (10))), (1, .int (v1)), (3, .int (v3))]) C dX10_lineAt_28 rfl (by decide) rfl ?_
  refine b_iinc (v := (v3) + (1)) (lv' := [(3, .int ((v3) + (1))), (2, .int (y4)), (0, .ref (ad X (10))), (1, .int (v1))]) C dX10_lineAt_29 3 rfl rfl (by decide) rfl ?_
  refine b_goto C 4 dX10_lineAt_32 (by decide) ?_
  refine b_sub [2, 3, 1, 0] rfl ?_
  exact h4 _ _ _ _ hf
set_option maxHeartbeats 4000000 in
set_option maxRecDepth 100000 in
theorem w_X10_lineAt_4 {X : Ctx} {o : Int64} {rv : Int32 × Mem} (C : Cx X cX10_lineAt RX10 wsX10_lineAt 6 8 188) (hR : Rt X cX10_lineAt 6 o rv) : ∀ (n : Nat) (v1 v2 v3 : Int32) (σ : Mem), some rv = f_X10_lineAt_4 n v1 v2 v3 σ → Bk X 6 o 0 0 4 [(0, .ref (ad X (10))), (1, .int (v1)), (2, .int (v2)), (3, .int (v3))] [] σ := by
  intro n
  induction n with
  | zero =>
    intro v1 v2 v3 σ hf
    rw [f_X10_lineAt_4] at hf
    cases hf
  | succ n ih =>
    intro v1 v2 v3 σ hf
    rw [f_X10_lineAt_4] at hf
    refine b_iload_n C dX10_lineAt_4 rfl 3 rfl ?_
    refine b_aload_n C dX10_lineAt_5 rfl 0 rfl ?_
    refine b_getS C hiX10_lineAt_10 10 4 25 (by decide) (by decide) rfl (by decide) kX10_lineAt_117 rfl rfl dX10_lineAt_6 ?_
    refine b_icmp_ge C 35 dX10_lineAt_9 (by decide) hf (fun hf => ?_) (fun hf => ?_)
    · refine b_iconst C (v := 0) dX10_lineAt_35 (by decide) ?_
      refine b_istore_n (lv' := [(3, .int (0)), (0, .ref (ad X (10))), (1, .int (v1)), (2, .int (v2))]) C dX10_lineAt_36 rfl (by decide) rfl ?_
      refine b_sub [1, 2, 3, 0] rfl ?_
      exact w_X10_lineAt_37 C hR FUEL _ _ _ _ hf
    · refine b_iload_n C dX10_lineAt_12 rfl 2 rfl ?_
      refine b_aload_n C dX10_lineAt_13 rfl 0 rfl ?_
      refine b_iload_n C dX10_lineAt_14 rfl 3 rfl ?_
      obtain ⟨y5, τ6, hqy5, hf⟩ := bd_inv hf
      refine b_callVi (n := 1) C (10) 10 (isObj_s (by decide) (by decide)) rfl (fun _ => [.int (v3)]) (c_X10_totalOf (v3)) hqy5 gX10_lineAt_X10_totalOf rfl (by decide +kernel) rfl (by decide) (by decide) (Nat.le_of_ble_eq_true rfl) dX10_lineAt_15 ?_
      refine b_iconst C (v := (-1)) dX10_lineAt_18 (by decide) ?_
      refine b_icmp_ne C 26 dX10_lineAt_19 (by decide) hf (fun hf => ?_) (fun hf => ?_)
      · refine b_iconst C (v := 1) dX10_lineAt_26 (by decide) ?_
        refine b_sub [0, 1, 3] rfl ?_
        exact w_X10_lineAt_27 C hR (f_X10_lineAt_4 n) ih _ _ _ _ _ hf
      · refine b_iconst C (v := 0) dX10_lineAt_22 (by decide) ?_
        refine b_goto C 27 dX10_lineAt_23 (by decide) ?_
        refine b_sub [0, 1, 3] rfl ?_
        exact w_X10_lineAt_27 C hR (f_X10_lineAt_4 n) ih _ _ _ _ _ hf
set_option maxHeartbeats 4000000 in
set_option maxRecDepth 100000 in
theorem c_X10_lineAt (x1 : Int32) (l : Launch) : Cti l yX10_lineAt wsX10_lineAt 8 188 (fun G => [.ref (G.1 (10)), .int (x1)]) (f_X10_lineAt x1) := by
  refine mk_i (cc := cX10_lineAt) (nL := 6) (own := RX10) (by decide) rfl rfl (fun _ => Nat.le_of_ble_eq_true rfl) (fun X o σ rv C hR hf => ?_)
  show Bk X 6 o 0 0 0 [(0, .ref (ad X (10))), (1, .int (x1))] [] σ
  unfold f_X10_lineAt at hf
  refine b_iconst C (v := 0) dX10_lineAt_0 (by decide) ?_
  refine b_istore_n (lv' := [(2, .int (0)), (0, .ref (ad X (10))), (1, .int (x1))]) C dX10_lineAt_1 rfl (by decide) rfl ?_
  refine b_iconst C (v := 0) dX10_lineAt_2 (by decide) ?_
  refine b_istore_n (lv' := [(3, .int (0)), (2, .int (0)), (0, .ref (ad X (10))), (1, .int (x1))]) C dX10_lineAt_3 rfl (by decide) rfl ?_
  refine b_sub [2, 3, 1, 0] rfl ?_
  exact w_X10_lineAt_4 C hR FUEL _ _ _ _ hf
set_option maxHeartbeats 4000000 in
set_option maxRecDepth 100000 in
theorem w_X10_lineOf_23 {X : Ctx} {o : Int64} {rv : Int32 × Mem} (C : Cx X cX10_lineOf RX10 wsX10_lineOf 2 9 213) (hR : Rt X cX10_lineOf 2 o rv) : ∀ (s0 : Int32) (σ : Mem), some rv = f_X10_lineOf_23 s0 σ → Bk X 2 o 0 0 23 [] [.int (s0)] σ := by
  intro s0 σ hf
  unfold f_X10_lineOf_23 at hf
  exact hR _ _ _ _ dX10_lineOf_23 hf
set_option maxHeartbeats 4000000 in
set_option maxRecDepth 100000 in
theorem c_X10_lineOf (x1 : Int32) (l : Launch) : Cti l yX10_lineOf wsX10_lineOf 9 213 (fun G => [.ref (G.1 (10)), .int (x1)]) (f_X10_lineOf x1) := by
  refine mk_i (cc := cX10_lineOf) (nL := 2) (own := RX10) (by decide) rfl rfl (fun _ => Nat.le_of_ble_eq_true rfl) (fun X o σ rv C hR hf => ?_)
  show Bk X 2 o 0 0 0 [(0, .ref (ad X (10))), (1, .int (x1))] [] σ
  unfold f_X10_lineOf at hf
  refine b_aload_n C dX10_lineOf_0 rfl 0 rfl ?_
  refine b_iload_n C dX10_lineOf_1 rfl 1 rfl ?_
  refine b_iconst C (v := 0) dX10_lineOf_2 (by decide) ?_
  refine b_bipush C (v := 100) dX10_lineOf_3 (by decide) ?_
  obtain ⟨y1, τ2, hqy1, hf⟩ := bd_inv hf
  refine b_callSi (n := 3) C (fun _ => [.int (x1), .int (0), .int (100)]) (c_X10_in (x1) (0) (100)) hqy1 gX10_lineOf_X10_in rfl (by decide +kernel) rfl (by decide) (by decide) (Nat.le_of_ble_eq_true rfl) dX10_lineOf_5 ?_
  obtain ⟨y3, τ4, hqy3, hf⟩ := bd_inv hf
  refine b_callVi (n := 1) C (10) 10 (isObj_s (by decide) (by decide)) rfl (fun _ => [.int (y1)]) (c_X10_asked (y1)) hqy3 gX10_lineOf_X10_asked rfl (by decide +kernel) rfl (by decide) (by decide) (Nat.le_of_ble_eq_true rfl) dX10_lineOf_8 ?_
  refine b_if_eq C 22 dX10_lineOf_11 (by decide) hf (fun hf => ?_) (fun hf => ?_)
  · refine b_iconst C (v := 0) dX10_lineOf_22 (by decide) ?_
    refine b_sub [] rfl ?_
    exact w_X10_lineOf_23 C hR _ _ hf
  · refine b_aload_n C dX10_lineOf_14 rfl 0 rfl ?_
    refine b_iload_n C dX10_lineOf_15 rfl 1 rfl ?_
    obtain ⟨y5, τ6, hqy5, hf⟩ := bd_inv hf
    refine b_callVi (n := 1) C (10) 10 (isObj_s (by decide) (by decide)) rfl (fun _ => [.int (x1)]) (c_X10_lineAt (x1)) hqy5 gX10_lineOf_X10_lineAt rfl (by decide +kernel) rfl (by decide) (by decide) (Nat.le_of_ble_eq_true rfl) dX10_lineOf_16 ?_
    refine b_goto C 23 dX10_lineOf_19 (by decide) ?_
    refine b_sub [] rfl ?_
    exact w_X10_lineOf_23 C hR _ _ hf
set_option maxHeartbeats 4000000 in
set_option maxRecDepth 100000 in
theorem w_X10_lineAnew_23 {X : Ctx} {o : Int64} {rv : Int32 × Mem} (C : Cx X cX10_lineAnew RX10 wsX10_lineAnew 2 9 213) (hR : Rt X cX10_lineAnew 2 o rv) : ∀ (s0 : Int32) (σ : Mem), some rv = f_X10_lineAnew_23 s0 σ → Bk X 2 o 0 0 23 [] [.int (s0)] σ := by
  intro s0 σ hf
  unfold f_X10_lineAnew_23 at hf
  exact hR _ _ _ _ dX10_lineAnew_23 hf
set_option maxHeartbeats 4000000 in
set_option maxRecDepth 100000 in
theorem c_X10_lineAnew (x1 : Int32) (l : Launch) : Cti l yX10_lineAnew wsX10_lineAnew 9 213 (fun G => [.ref (G.1 (10)), .int (x1)]) (f_X10_lineAnew x1) := by
  refine mk_i (cc := cX10_lineAnew) (nL := 2) (own := RX10) (by decide) rfl rfl (fun _ => Nat.le_of_ble_eq_true rfl) (fun X o σ rv C hR hf => ?_)
  show Bk X 2 o 0 0 0 [(0, .ref (ad X (10))), (1, .int (x1))] [] σ
  unfold f_X10_lineAnew at hf
  refine b_aload_n C dX10_lineAnew_0 rfl 0 rfl ?_
  refine b_iload_n C dX10_lineAnew_1 rfl 1 rfl ?_
  refine b_iconst C (v := 0) dX10_lineAnew_2 (by decide) ?_
  refine b_bipush C (v := 100) dX10_lineAnew_3 (by decide) ?_
  obtain ⟨y1, τ2, hqy1, hf⟩ := bd_inv hf
  refine b_callSi (n := 3) C (fun _ => [.int (x1), .int (0), .int (100)]) (c_X10_in (x1) (0) (100)) hqy1 gX10_lineAnew_X10_in rfl (by decide +kernel) rfl (by decide) (by decide) (Nat.le_of_ble_eq_true rfl) dX10_lineAnew_5 ?_
  obtain ⟨y3, τ4, hqy3, hf⟩ := bd_inv hf
  refine b_callVi (n := 1) C (10) 10 (isObj_s (by decide) (by decide)) rfl (fun _ => [.int (y1)]) (c_X10_asked (y1)) hqy3 gX10_lineAnew_X10_asked rfl (by decide +kernel) rfl (by decide) (by decide) (Nat.le_of_ble_eq_true rfl) dX10_lineAnew_8 ?_
  refine b_if_eq C 22 dX10_lineAnew_11 (by decide) hf (fun hf => ?_) (fun hf => ?_)
  · refine b_iconst C (v := 0) dX10_lineAnew_22 (by decide) ?_
    refine b_sub [] rfl ?_
    exact w_X10_lineAnew_23 C hR _ _ hf
  · refine b_aload_n C dX10_lineAnew_14 rfl 0 rfl ?_
    refine b_iload_n C dX10_lineAnew_15 rfl 1 rfl ?_
    obtain ⟨y5, τ6, hqy5, hf⟩ := bd_inv hf
    refine b_callVi (n := 1) C (10) 10 (isObj_s (by decide) (by decide)) rfl (fun _ => [.int (x1)]) (c_X10_lineAt (x1)) hqy5 gX10_lineAnew_X10_lineAt rfl (by decide +kernel) rfl (by decide) (by decide) (Nat.le_of_ble_eq_true rfl) dX10_lineAnew_16 ?_
    refine b_goto C 23 dX10_lineAnew_19 (by decide) ?_
    refine b_sub [] rfl ?_
    exact w_X10_lineAnew_23 C hR _ _ hf
theorem hiX10_ofReader_10 : ∀ w ∈ wsX100, w ∈ wsX10_ofReader := by decide +kernel
theorem kX10_ofReader_69 : Cond.fieldLink RX10 69 "ScriptRoomModel" "since" "[I" ∈ wsX10_ofReader := by decide +kernel
theorem kX10_ofReader_60 : Cond.fieldLink RX10 60 "ScriptRoomModel" "stopped" "[Z" ∈ wsX10_ofReader := by decide +kernel
theorem kX10_ofReader_75 : Cond.fieldLink RX10 75 "ScriptRoomModel" "given" "[I" ∈ wsX10_ofReader := by decide +kernel
theorem kX10_ofReader_158 : Cond.fieldLink RX10 158 "ScriptRoomModel" "readings" "I" ∈ wsX10_ofReader := by decide +kernel
theorem kX10_ofReader_87 : Cond.fieldLink RX10 87 "ScriptRoomModel" "by" "[I" ∈ wsX10_ofReader := by decide +kernel
set_option maxHeartbeats 4000000 in
set_option maxRecDepth 100000 in
theorem w_X10_ofReader_166 {X : Ctx} {o : Int64} {rv : Int32 × Mem} (C : Cx X cX10_ofReader RX10 wsX10_ofReader 6 2 43) (hR : Rt X cX10_ofReader 6 o rv) : ∀ (s0 : Int32) (σ : Mem), some rv = f_X10_ofReader_166 s0 σ → Bk X 6 o 0 0 166 [] [.int (s0)] σ := by
  intro s0 σ hf
  unfold f_X10_ofReader_166 at hf
  exact hR _ _ _ _ dX10_ofReader_166 hf
set_option maxHeartbeats 4000000 in
set_option maxRecDepth 100000 in
theorem w_X10_ofReader_65 {X : Ctx} {o : Int64} {rv : Int32 × Mem} (C : Cx X cX10_ofReader RX10 wsX10_ofReader 6 2 43) (hR : Rt X cX10_ofReader 6 o rv) : ∀ (n : Nat) (v1 v2 v3 v4 v5 : Int32) (σ : Mem), some rv = f_X10_ofReader_65 n v1 v2 v3 v4 v5 σ → Bk X 6 o 0 0 65 [(0, .ref (ad X (10))), (1, .int (v1)), (2, .int (v2)), (3, .int (v3)), (4, .int (v4)), (5, .int (v5))] [] σ := by
  intro n
  induction n with
  | zero =>
    intro v1 v2 v3 v4 v5 σ hf
    rw [f_X10_ofReader_65] at hf
    cases hf
  | succ n ih =>
    intro v1 v2 v3 v4 v5 σ hf
    rw [f_X10_ofReader_65] at hf
    refine b_iload C dX10_ofReader_65 5 rfl ?_
    refine b_bipush C (v := 8) dX10_ofReader_67 (by decide) ?_
    refine b_icmp_ge C 94 dX10_ofReader_69 (by decide) hf (fun hf => ?_) (fun hf => ?_)
    · refine b_iload_n C dX10_ofReader_94 rfl 2 rfl ?_
      refine b_if_ne C 115 dX10_ofReader_95 (by decide) hf (fun hf => ?_) (fun hf => ?_)
      · refine b_iload_n C dX10_ofReader_115 rfl 2 rfl ?_
        refine b_iconst C (v := 1) dX10_ofReader_116 (by decide) ?_
        refine b_icmp_ne C 128 dX10_ofReader_117 (by decide) hf (fun hf => ?_) (fun hf => ?_)
        · refine b_iload_n C dX10_ofReader_128 rfl 2 rfl ?_
          refine b_iconst C (v := 2) dX10_ofReader_129 (by decide) ?_
          refine b_icmp_ne C 137 dX10_ofReader_130 (by decide) hf (fun hf => ?_) (fun hf => ?_)
          · refine b_iload_n C dX10_ofReader_137 rfl 2 rfl ?_
            refine b_iconst C (v := 3) dX10_ofReader_138 (by decide) ?_
            refine b_icmp_ne C 150 dX10_ofReader_139 (by decide) hf (fun hf => ?_) (fun hf => ?_)
            · refine b_iload_n C dX10_ofReader_150 rfl 2 rfl ?_
              refine b_iconst C (v := 4) dX10_ofReader_151 (by decide) ?_
              refine b_icmp_ne C 164 dX10_ofReader_152 (by decide) hf (fun hf => ?_) (fun hf => ?_)
              · refine b_iload C dX10_ofReader_164 4 rfl ?_
                refine b_sub [] rfl ?_
                exact w_X10_ofReader_166 C hR _ _ hf
              · refine b_aload_n C dX10_ofReader_155 rfl 0 rfl ?_
                refine b_getR C hiX10_ofReader_10 10 24 (54 + 61) (by decide) (by decide) rfl (by decide) kX10_ofReader_69 rfl rfl dX10_ofReader_156 ?_
                refine b_iload_n C dX10_ofReader_159 rfl 1 rfl ?_
                refine b_iald C 61 (by decide) rfl dX10_ofReader_160 hf (fun hf => ?_)
                refine b_goto C 166 dX10_ofReader_161 (by decide) ?_
                refine b_sub [] rfl ?_
                exact w_X10_ofReader_166 C hR _ _ hf
            · refine b_aload_n C dX10_ofReader_142 rfl 0 rfl ?_
              refine b_iload_n C dX10_ofReader_143 rfl 1 rfl ?_
              obtain ⟨y1, τ2, hqy1, hf⟩ := bd_inv hf
              refine b_callVi (n := 1) C (10) 10 (isObj_s (by decide) (by decide)) rfl (fun _ => [.int (v1)]) (c_X10_voids (v1)) hqy1 gX10_ofReader_X10_voids rfl (by decide +kernel) rfl (by decide) (by decide) (Nat.le_of_ble_eq_true rfl) dX10_ofReader_144 ?_
              refine b_goto C 166 dX10_ofReader_147 (by decide) ?_
              refine b_sub [] rfl ?_
              exact w_X10_ofReader_166 C hR _ _ hf
          · refine b_iload_n C dX10_ofReader_133 rfl 3 rfl ?_
            refine b_goto C 166 dX10_ofReader_134 (by decide) ?_
            refine b_sub [] rfl ?_
            exact w_X10_ofReader_166 C hR _ _ hf
        · refine b_aload_n C dX10_ofReader_120 rfl 0 rfl ?_
          refine b_iload_n C dX10_ofReader_121 rfl 1 rfl ?_
          obtain ⟨y3, τ4, hqy3, hf⟩ := bd_inv hf
          refine b_callVi (n := 1) C (10) 10 (isObj_s (by decide) (by decide)) rfl (fun _ => [.int (v1)]) (c_X10_handed (v1)) hqy3 gX10_ofReader_X10_handed rfl (by decide +kernel) rfl (by decide) (by decide) (Nat.le_of_ble_eq_true rfl) dX10_ofReader_122 ?_
          refine b_goto C 166 dX10_ofReader_125 (by decide) ?_
          refine b_sub [] rfl ?_
          exact w_X10_ofReader_166 C hR _ _ hf
      · refine b_aload_n C dX10_ofReader_98 rfl 0 rfl ?_
        refine b_getR C hiX10_ofReader_10 10 21 (54 + 58) (by decide) (by decide) rfl (by decide) kX10_ofReader_60 rfl rfl dX10_ofReader_99 ?_
        refine b_iload_n C dX10_ofReader_102 rfl 1 rfl ?_
        refine b_zald C 58 (by decide) rfl dX10_ofReader_103 hf (fun hf => ?_)
        refine b_if_eq C 111 dX10_ofReader_104 (by decide) hf (fun hf => ?_) (fun hf => ?_)
        · refine b_iconst C (v := 0) dX10_ofReader_111 (by decide) ?_
          refine b_goto C 166 dX10_ofReader_112 (by decide) ?_
          refine b_sub [] rfl ?_
          exact w_X10_ofReader_166 C hR _ _ hf
        · refine b_iconst C (v := 1) dX10_ofReader_107 (by decide) ?_
          refine b_goto C 166 dX10_ofReader_108 (by decide) ?_
          refine b_sub [] rfl ?_
          exact w_X10_ofReader_166 C hR _ _ hf
    · refine b_iload C dX10_ofReader_72 4 rfl ?_
      refine b_aload_n C dX10_ofReader_74 rfl 0 rfl ?_
      refine b_getR C hiX10_ofReader_10 10 26 (54 + 63) (by decide) (by decide) rfl (by decide) kX10_ofReader_75 rfl rfl dX10_ofReader_75 ?_
      refine b_iload_n C dX10_ofReader_78 rfl 1 rfl ?_
      refine b_iald C 63 (by decide) rfl dX10_ofReader_79 hf (fun hf => ?_)
      refine b_iload C dX10_ofReader_80 5 rfl ?_
      refine b_ishr C dX10_ofReader_82 ?_
      refine b_iconst C (v := 1) dX10_ofReader_83 (by decide) ?_
      refine b_iand C dX10_ofReader_84 ?_
      refine b_iadd C dX10_ofReader_85 ?_
      refine b_nv hf (fun y5 hf => ?_)
      refine b_istore (lv' := [(4, .int (y5)), (0, .ref (ad X (10))), (1, .int (v1)), (2, .int (v2)), (3, .int (v3)), (5, .int (v5))]) C dX10_ofReader_86 (by decide) rfl ?_
      refine b_iinc (v := (v5) + (1)) (lv' := [(5, .int ((v5) + (1))), (4, .int (y5)), (0, .ref (ad X (10))), (1, .int (v1)), (2, .int (v2)), (3, .int (v3))]) C dX10_ofReader_88 5 rfl rfl (by decide) rfl ?_
      refine b_goto C 65 dX10_ofReader_91 (by decide) ?_
      refine b_sub [2, 3, 4, 5, 1, 0] rfl ?_
      exact ih _ _ _ _ _ _ hf
set_option maxHeartbeats 4000000 in
set_option maxRecDepth 100000 in
theorem w_X10_ofReader_51 {X : Ctx} {o : Int64} {rv : Int32 × Mem} (C : Cx X cX10_ofReader RX10 wsX10_ofReader 6 2 43) (hR : Rt X cX10_ofReader 6 o rv) (k25 : Int32 → Int32 → Int32 → Int32 → Mem → Option (Int32 × Mem)) (h25 : ∀ (v1 v2 v3 v4 : Int32) (σ : Mem), some rv = k25 v1 v2 v3 v4 σ → Bk X 6 o 0 0 25 [(0, .ref (ad X (10))), (1, .int (v1)), (2, .int (v2)), (3, .int (v3)), (4, .int (v4))] [] σ) : ∀ (v1 v2 v4 s0 s1 : Int32) (σ : Mem), some rv = f_X10_ofReader_51 k25 v1 v2 v4 s0 s1 σ → Bk X 6 o 0 0 51 [(0, .ref (ad X (10))), (1, .int (v1)), (2, .int (v2)), (4, .int (v4))] [.int (s0), .int (s1)] σ := by
  intro v1 v2 v4 s0 s1 σ hf
  unfold f_X10_ofReader_51 at hf
  refine b_iadd C dX10_ofReader_51 ?_
  refine b_nv hf (fun y6 hf => ?_)
  refine b_istore_n (lv' := [(3, .int (y6)), (0, .ref (ad X (10))), (1, .int (v1)), (2, .int (v2)), (4, .int (v4))]) C dX10_ofReader_52 rfl (by decide) rfl ?_
  refine b_iinc (v := (v4) + (1)) (lv' := [(4, .int ((v4) + (1))), (3, .int (y6)), (0, .ref (ad X (10))), (1, .int (v1)), (2, .int (v2))]) C dX10_ofReader_53 4 rfl rfl (by decide) rfl ?_
  refine b_goto C 25 dX10_ofReader_56 (by decide) ?_
  refine b_sub [2, 3, 4, 1, 0] rfl ?_
  exact h25 _ _ _ _ _ hf
set_option maxHeartbeats 4000000 in
set_option maxRecDepth 100000 in
theorem w_X10_ofReader_25 {X : Ctx} {o : Int64} {rv : Int32 × Mem} (C : Cx X cX10_ofReader RX10 wsX10_ofReader 6 2 43) (hR : Rt X cX10_ofReader 6 o rv) : ∀ (n : Nat) (v1 v2 v3 v4 : Int32) (σ : Mem), some rv = f_X10_ofReader_25 n v1 v2 v3 v4 σ → Bk X 6 o 0 0 25 [(0, .ref (ad X (10))), (1, .int (v1)), (2, .int (v2)), (3, .int (v3)), (4, .int (v4))] [] σ := by
  intro n
  induction n with
  | zero =>
    intro v1 v2 v3 v4 σ hf
    rw [f_X10_ofReader_25] at hf
    cases hf
  | succ n ih =>
    intro v1 v2 v3 v4 σ hf
    rw [f_X10_ofReader_25] at hf
    refine b_iload C dX10_ofReader_25 4 rfl ?_
    refine b_aload_n C dX10_ofReader_27 rfl 0 rfl ?_
    refine b_getS C hiX10_ofReader_10 10 30 29 (by decide) (by decide) rfl (by decide) kX10_ofReader_158 rfl rfl dX10_ofReader_28 ?_
    refine b_icmp_ge C 59 dX10_ofReader_31 (by decide) hf (fun hf => ?_) (fun hf => ?_)
    · refine b_iconst C (v := 0) dX10_ofReader_59 (by decide) ?_
      refine b_istore (lv' := [(4, .int (0)), (0, .ref (ad X (10))), (1, .int (v1)), (2, .int (v2)), (3, .int (v3))]) C dX10_ofReader_60 (by decide) rfl ?_
      refine b_iconst C (v := 0) dX10_ofReader_62 (by decide) ?_
      refine b_istore (lv' := [(5, .int (0)), (4, .int (0)), (0, .ref (ad X (10))), (1, .int (v1)), (2, .int (v2)), (3, .int (v3))]) C dX10_ofReader_63 (by decide) rfl ?_
      refine b_sub [2, 3, 4, 5, 1, 0] rfl ?_
      exact w_X10_ofReader_65 C hR FUEL _ _ _ _ _ _ hf
    · refine b_iload_n C dX10_ofReader_34 rfl 3 rfl ?_
      refine b_aload_n C dX10_ofReader_35 rfl 0 rfl ?_
      refine b_getR C hiX10_ofReader_10 10 32 (54 + 67) (by decide) (by decide) rfl (by decide) kX10_ofReader_87 rfl rfl dX10_ofReader_36 ?_
      refine b_iload C dX10_ofReader_39 4 rfl ?_
      refine b_iald C 67 (by decide) rfl dX10_ofReader_41 hf (fun hf => ?_)
      refine b_iload_n C dX10_ofReader_42 rfl 1 rfl ?_
      refine b_icmp_ne C 50 dX10_ofReader_43 (by decide) hf (fun hf => ?_) (fun hf => ?_)
      · refine b_iconst C (v := 0) dX10_ofReader_50 (by decide) ?_
        refine b_sub [0, 1, 2, 4] rfl ?_
        exact w_X10_ofReader_51 C hR (f_X10_ofReader_25 n) ih _ _ _ _ _ _ hf
      · refine b_iconst C (v := 1) dX10_ofReader_46 (by decide) ?_
        refine b_goto C 51 dX10_ofReader_47 (by decide) ?_
        refine b_sub [0, 1, 2, 4] rfl ?_
        exact w_X10_ofReader_51 C hR (f_X10_ofReader_25 n) ih _ _ _ _ _ _ hf
set_option maxHeartbeats 4000000 in
set_option maxRecDepth 100000 in
theorem c_X10_ofReader (x1 x2 : Int32) (l : Launch) : Cti l yX10_ofReader wsX10_ofReader 2 43 (fun G => [.ref (G.1 (10)), .int (x1), .int (x2)]) (f_X10_ofReader x1 x2) := by
  refine mk_i (cc := cX10_ofReader) (nL := 6) (own := RX10) (by decide) rfl rfl (fun _ => Nat.le_of_ble_eq_true rfl) (fun X o σ rv C hR hf => ?_)
  show Bk X 6 o 0 0 0 [(0, .ref (ad X (10))), (1, .int (x1)), (2, .int (x2))] [] σ
  unfold f_X10_ofReader at hf
  refine b_aload_n C dX10_ofReader_0 rfl 0 rfl ?_
  refine b_aload_n C dX10_ofReader_1 rfl 0 rfl ?_
  refine b_iload_n C dX10_ofReader_2 rfl 1 rfl ?_
  obtain ⟨y7, τ8, hqy7, hf⟩ := bd_inv hf
  refine b_callVi (n := 1) C (10) 10 (isObj_s (by decide) (by decide)) rfl (fun _ => [.int (x1)]) (c_X10_isReader (x1)) hqy7 gX10_ofReader_X10_isReader rfl (by decide +kernel) rfl (by decide) (by decide) (Nat.le_of_ble_eq_true rfl) dX10_ofReader_3 ?_
  refine b_iload_n C dX10_ofReader_6 rfl 2 rfl ?_
  refine b_iconst C (v := 0) dX10_ofReader_7 (by decide) ?_
  refine b_iconst C (v := 5) dX10_ofReader_8 (by decide) ?_
  obtain ⟨y9, τ10, hqy9, hf⟩ := bd_inv hf
  refine b_callSi (n := 3) C (fun _ => [.int (x2), .int (0), .int (5)]) (c_X10_in (x2) (0) (5)) hqy9 gX10_ofReader_X10_in rfl (by decide +kernel) rfl (by decide) (by decide) (Nat.le_of_ble_eq_true rfl) dX10_ofReader_9 ?_
  obtain ⟨y11, τ12, hqy11, hf⟩ := bd_inv hf
  refine b_callVi (n := 2) C (10) 10 (isObj_s (by decide) (by decide)) rfl (fun _ => [.int (y7), .int (y9)]) (c_X10_asked_ (y7) (y9)) hqy11 gX10_ofReader_X10_asked_ rfl (by decide +kernel) rfl (by decide) (by decide) (Nat.le_of_ble_eq_true rfl) dX10_ofReader_12 ?_
  refine b_if_ne C 20 dX10_ofReader_15 (by decide) hf (fun hf => ?_) (fun hf => ?_)
  · refine b_iconst C (v := 0) dX10_ofReader_20 (by decide) ?_
    refine b_istore_n (lv' := [(3, .int (0)), (0, .ref (ad X (10))), (1, .int (x1)), (2, .int (x2))]) C dX10_ofReader_21 rfl (by decide) rfl ?_
    refine b_iconst C (v := 0) dX10_ofReader_22 (by decide) ?_
    refine b_istore (lv' := [(4, .int (0)), (3, .int (0)), (0, .ref (ad X (10))), (1, .int (x1)), (2, .int (x2))]) C dX10_ofReader_23 (by decide) rfl ?_
    refine b_sub [2, 3, 4, 1, 0] rfl ?_
    exact w_X10_ofReader_25 C hR FUEL _ _ _ _ _ hf
  · refine b_iconst C (v := 0) dX10_ofReader_18 (by decide) ?_
    exact hR _ _ _ _ dX10_ofReader_19 hf
theorem hiX10_wanted_10 : ∀ w ∈ wsX100, w ∈ wsX10_wanted := by decide +kernel
theorem kX10_wanted_117 : Cond.fieldLink RX10 117 "ScriptRoomModel" "pupils" "I" ∈ wsX10_wanted := by decide +kernel
theorem kX10_wanted_114 : Cond.fieldLink RX10 114 "ScriptRoomModel" "thrown" "I" ∈ wsX10_wanted := by decide +kernel
set_option maxHeartbeats 4000000 in
set_option maxRecDepth 100000 in
theorem w_X10_wanted_9 {X : Ctx} {o : Int64} {rv : Int32 × Mem} (C : Cx X cX10_wanted RX10 wsX10_wanted 3 6 138) (hR : Rt X cX10_wanted 3 o rv) : ∀ (n : Nat) (v1 v2 : Int32) (σ : Mem), some rv = f_X10_wanted_9 n v1 v2 σ → Bk X 3 o 0 0 9 [(0, .ref (ad X (10))), (1, .int (v1)), (2, .int (v2))] [] σ := by
  intro n
  induction n with
  | zero =>
    intro v1 v2 σ hf
    rw [f_X10_wanted_9] at hf
    cases hf
  | succ n ih =>
    intro v1 v2 σ hf
    rw [f_X10_wanted_9] at hf
    refine b_iload_n C dX10_wanted_9 rfl 2 rfl ?_
    refine b_iconst C (v := 4) dX10_wanted_10 (by decide) ?_
    refine b_aload_n C dX10_wanted_11 rfl 0 rfl ?_
    refine b_getS C hiX10_wanted_10 10 4 25 (by decide) (by decide) rfl (by decide) kX10_wanted_117 rfl rfl dX10_wanted_12 ?_
    refine b_imul C dX10_wanted_15 ?_
    refine b_icmp_ge C 33 dX10_wanted_16 (by decide) hf (fun hf => ?_) (fun hf => ?_)
    · refine b_iload_n C dX10_wanted_33 rfl 1 rfl ?_
      exact hR _ _ _ _ dX10_wanted_34 hf
    · refine b_iload_n C dX10_wanted_19 rfl 1 rfl ?_
      refine b_aload_n C dX10_wanted_20 rfl 0 rfl ?_
      refine b_iload_n C dX10_wanted_21 rfl 2 rfl ?_
      obtain ⟨y1, τ2, hqy1, hf⟩ := bd_inv hf
      refine b_callVi (n := 1) C (10) 10 (isObj_s (by decide) (by decide)) rfl (fun _ => [.int (v2)]) (c_X10_wants (v2)) hqy1 gX10_wanted_X10_wants rfl (by decide +kernel) rfl (by decide) (by decide) (Nat.le_of_ble_eq_true rfl) dX10_wanted_22 ?_
      refine b_iadd C dX10_wanted_25 ?_
      refine b_nv hf (fun y3 hf => ?_)
      refine b_istore_n (lv' := [(1, .int (y3)), (0, .ref (ad X (10))), (2, .int (v2))]) C dX10_wanted_26 rfl (by decide) rfl ?_
      refine b_iinc (v := (v2) + (1)) (lv' := [(2, .int ((v2) + (1))), (1, .int (y3)), (0, .ref (ad X (10)))]) C dX10_wanted_27 2 rfl rfl (by decide) rfl ?_
      refine b_goto C 9 dX10_wanted_30 (by decide) ?_
      refine b_sub [2, 1, 0] rfl ?_
      exact ih _ _ _ hf
set_option maxHeartbeats 4000000 in
set_option maxRecDepth 100000 in
theorem c_X10_wanted (l : Launch) : Cti l yX10_wanted wsX10_wanted 6 138 (fun G => [.ref (G.1 (10))]) (f_X10_wanted ) := by
  refine mk_i (cc := cX10_wanted) (nL := 3) (own := RX10) (by decide) rfl rfl (fun _ => Nat.le_of_ble_eq_true rfl) (fun X o σ rv C hR hf => ?_)
  show Bk X 3 o 0 0 0 [(0, .ref (ad X (10)))] [] σ
  unfold f_X10_wanted at hf
  refine b_aload_n C dX10_wanted_0 rfl 0 rfl ?_
  refine b_iconst C (v := 0) dX10_wanted_1 (by decide) ?_
  refine b_putS C (ty := .int) hiX10_wanted_10 tyX10 tyX10_ok nmX10 10 0 22 (by decide) (by decide) rfl (by decide) kX10_wanted_114 rfl rfl (by decide +kernel) rfl rfl rfl dX10_wanted_2 ?_
  refine b_nw hf (fun τ4 hf => ?_)
  refine b_iconst C (v := 0) dX10_wanted_5 (by decide) ?_
  refine b_istore_n (lv' := [(1, .int (0)), (0, .ref (ad X (10)))]) C dX10_wanted_6 rfl (by decide) rfl ?_
  refine b_iconst C (v := 0) dX10_wanted_7 (by decide) ?_
  refine b_istore_n (lv' := [(2, .int (0)), (1, .int (0)), (0, .ref (ad X (10)))]) C dX10_wanted_8 rfl (by decide) rfl ?_
  refine b_sub [2, 1, 0] rfl ?_
  exact w_X10_wanted_9 C hR FUEL _ _ _ hf
