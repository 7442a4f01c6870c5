/-! printed by wip/whole/gen/gen.py -/
theorem b_ldcw {X : Ctx} {cc : ByteArray} {own : String} {Ts : List Cond} {nL fr lo : Nat} {o : Int64} {kc ks pc : Nat} {lv : List (Nat × Value)} {st : List Value} {σ : Mem} (C : Cx X cc own Ts nL fr lo) {index : Nat} {v : Int32} (hc : (Cond.constant own index v) ∈ Ts) (d : decode cc pc = .ok (.ldc_w index, 3)) (kk : Bk X nL o kc ks (pc + 3) lv (.int v :: st) σ) : Bk X nL o kc ks pc lv st σ := by
  obtain ⟨p, l, e, R, s, m, args, below, meth, c, Q, G, A⟩ := X
  obtain ⟨hx, hb, hml, hown, hts, hK, hG, hAi, hA, hfr, hlo⟩ := C
  intro H locs ls hP hS hl
  exact lv_ldcw hx hb hown (hts _ hc) d (kk H locs ls hP hS hl)
def f_J6_bitCount_0f7a4 (x1 : Int32) (σ : Mem) : Option (Int32 × Mem) := nv ((x1) - ((((x1 : Int32).toUInt32 >>> ((1 : Int32).toUInt32 &&& Int32.toUInt32 31)).toInt32) &&& (1431655765))) (fun y1 => nv (((y1) &&& (858993459)) + ((((y1 : Int32).toUInt32 >>> ((2 : Int32).toUInt32 &&& Int32.toUInt32 31)).toInt32) &&& (858993459))) (fun y2 => nv (((y2) + (((y2 : Int32).toUInt32 >>> ((4 : Int32).toUInt32 &&& Int32.toUInt32 31)).toInt32)) &&& (252645135)) (fun y3 => nv ((y3) + (((y3 : Int32).toUInt32 >>> ((8 : Int32).toUInt32 &&& Int32.toUInt32 31)).toInt32)) (fun y4 => nv ((y4) + (((y4 : Int32).toUInt32 >>> ((16 : Int32).toUInt32 &&& Int32.toUInt32 31)).toInt32)) (fun y5 => some ((y5) &&& (63), σ))))))
def f_X9_pupil_19  (σ : Mem) : Option ((Nat × Int32) × Mem) := some ((1, 0), σ)
def f_X9_pupil (x1 x2 x3 : Int32) (σ : Mem) : Option ((Nat × Int32) × Mem) := (if (x1) < 0 then (f_X9_pupil_19 σ)
  else (if (4) < (x1) then (f_X9_pupil_19 σ)
    else (if (x2) < 0 then (f_X9_pupil_19 σ)
      else (if (x2) ≤ (15) then (if (σ 76 7) < (16) then bd (f_X3_enter (x1) (x2) (x3) σ) (fun y1 τ2 => some ((0, y1), τ2))
          else some ((2, 0), σ))
        else (f_X9_pupil_19 σ)))))
def f_X9_gift_29  (σ : Mem) : Option ((Nat × Int32) × Mem) := some ((1, 0), σ)
def f_X9_gift (x1 x2 : Int32) (σ : Mem) : Option ((Nat × Int32) × Mem) := bd (f_X3_has (x1) σ) (fun y1 τ2 => (if (y1) = 0 then some ((3, 0), τ2)
  else (if (x2) < 0 then (f_X9_gift_29 τ2)
    else (if (x2) ≤ (9) then nv (rget 15 (x1) τ2) (fun y3 => nw (rset 15 (x1) (x2) τ2) (fun τ4 => some ((0, y3), τ4)))
      else (f_X9_gift_29 τ2)))))
def f_X9_type_12  (σ : Mem) : Option ((Nat × Int32) × Mem) := some ((1, 0), σ)
def f_X9_type (x1 : Int32) (σ : Mem) : Option ((Nat × Int32) × Mem) := (if (x1) < (32) then (f_X9_type_12 σ)
  else (if (x1) ≤ (126) then (if (σ 76 5) < (40) then bd (f_X1_append (x1) σ) (fun _ τ2 => some ((0, τ2 76 5), τ2))
      else some ((2, 0), σ))
    else (f_X9_type_12 σ)))
def f_X9_scheme (x1 : Int32) (σ : Mem) : Option ((Nat × Int32) × Mem) := bd (f_X9_isQuestion (x1) σ) (fun y1 τ2 => (if (y1) = 0 then some ((3, 0), τ2)
  else (if (rget 31 (x1) τ2) < (6) then bd (f_X0_faultOf  τ2) (fun y3 τ4 => bd (f_X1_clear  τ4) (fun _ τ6 => (if (y3) = ((-1)) then bd (f_X6_enter (x1) τ6) (fun y7 τ8 => bd (f_X9_weighReadings (x1) τ8) (fun _ τ10 => some ((0, y7), τ10)))
      else some ((0, ((-1)) - (y3)), τ6))))
    else some ((2, 0), τ2))))
def f_X9_twice (x1 x2 : Int32) (σ : Mem) : Option ((Nat × Int32) × Mem) := bd (f_X9_isQuestion (x1) σ) (fun y1 τ2 => (if (y1) = 0 then some ((3, 0), τ2)
  else nv (ris 41 (x1) τ2) (fun y3 => nw (rput 41 (x1) (x2) τ2) (fun τ4 => gd (isZ (y3)) (some ((0, y3), τ4))))))
def f_X9_tolerance_10  (σ : Mem) : Option ((Nat × Int32) × Mem) := some ((1, 0), σ)
def f_X9_tolerance (x1 : Int32) (σ : Mem) : Option ((Nat × Int32) × Mem) := (if (x1) < 0 then (f_X9_tolerance_10 σ)
  else (if (x1) ≤ (9) then nv (σ 76 17) (fun y1 => nw (wr σ 76 17 (x1)) (fun τ2 => some ((0, y1), τ2)))
    else (f_X9_tolerance_10 σ)))
def f_X9_reader_21  (σ : Mem) : Option ((Nat × Int32) × Mem) := some ((1, 0), σ)
def f_X9_reader (x1 x2 x3 : Int32) (σ : Mem) : Option ((Nat × Int32) × Mem) := (if (x1) < ((-1)) then (f_X9_reader_21 σ)
  else (if (4) < (x1) then (f_X9_reader_21 σ)
    else (if (x2) < (1) then (f_X9_reader_21 σ)
      else (if (x2) ≤ (15) then (if (σ 76 8) < (6) then bd (f_X4_enter (x1) (x2) (x3) σ) (fun y1 τ2 => some ((0, y1), τ2))
          else some ((2, 0), σ))
        else (f_X9_reader_21 σ)))))
def f_X9_seed_53  (σ : Mem) : Option ((Nat × Int32) × Mem) := some ((2, 0), σ)
def f_X9_seed (x1 x2 : Int32) (σ : Mem) : Option ((Nat × Int32) × Mem) := bd (f_X9_isQuestion (x1) σ) (fun y1 τ2 => (if (y1) = 0 then some ((3, 0), τ2)
  else bd (f_X9_arePoints (x2) τ2) (fun y3 τ4 => (if (y3) = 0 then some ((1, 0), τ4)
    else (if (8) ≤ (τ4 76 9) then (f_X9_seed_53 τ4)
      else bd (f_X6_holdsFor (x1) τ4) (fun y5 τ6 => (if (y5) = 0 then (f_X9_seed_53 τ6)
        else bd (f_X7_enter (x1) (x2) τ6) (fun y7 τ8 => some ((0, y7), τ8)))))))))
def f_X9_next_61  (v1 : Int32) (σ : Mem) : Option ((Nat × Int32) × Mem) := some ((0, rget 22 (v1) σ), σ)
def f_X9_next (x1 : Int32) (σ : Mem) : Option ((Nat × Int32) × Mem) := bd (f_X4_has (x1) σ) (fun y1 τ2 => (if (y1) = 0 then some ((3, 0), τ2)
  else (if (ris 21 (x1) τ2) = 0 then (if (rget 22 (x1) τ2) = ((-1)) then bd (f_X9_giveWhatIsNext (x1) τ2) (fun _ τ4 => (f_X9_next_61 (x1) τ4))
      else (f_X9_next_61 (x1) τ2))
    else some ((2, 0), τ2))))
def f_X9_read_83  (σ : Mem) : Option ((Nat × Int32) × Mem) := some ((2, 0), σ)
def f_X9_read_111  (s0 : Int32) (σ : Mem) : Option ((Nat × Int32) × Mem) := some ((0, s0), σ)
def f_X9_read_91  (v1 v2 v4 : Int32) (σ : Mem) : Option ((Nat × Int32) × Mem) := (if (v4) = 0 then bd (f_X9_readAnswer (v1) (v2) σ) (fun y1 τ2 => (f_X9_read_111 (y1) τ2))
  else bd (f_X9_readSeed (v1) (v2) σ) (fun y3 τ4 => (f_X9_read_111 (y3) τ4)))
def f_X9_read_58  (v1 v2 v3 s0 : Int32) (σ : Mem) : Option ((Nat × Int32) × Mem) := (if (v3) = ((-1)) then (f_X9_read_83 σ)
  else (if (s0) = 0 then (if (σ 76 6) < (300) then (f_X9_read_91 (v1) (v2) (s0) σ)
      else (f_X9_read_83 σ))
    else (f_X9_read_91 (v1) (v2) (s0) σ)))
def f_X9_read (x1 x2 : Int32) (σ : Mem) : Option ((Nat × Int32) × Mem) := bd (f_X4_has (x1) σ) (fun y5 τ6 => (if (y5) = 0 then some ((3, 0), τ6)
  else bd (f_X9_arePoints (x2) τ6) (fun y7 τ8 => (if (y7) = 0 then some ((1, 0), τ8)
    else nv (rget 22 (x1) τ8) (fun y9 => (if (y9) < (1000) then (f_X9_read_58 (x1) (x2) (y9) (0) τ8)
      else (f_X9_read_58 (x1) (x2) (y9) (1) τ8)))))))
def f_X9_goOn (x1 : Int32) (σ : Mem) : Option ((Nat × Int32) × Mem) := bd (f_X4_has (x1) σ) (fun y1 τ2 => (if (y1) = 0 then some ((3, 0), τ2)
  else (if (ris 21 (x1) τ2) = 0 then some ((2, 0), τ2)
    else nw (rput 21 (x1) (0) τ2) (fun τ3 => bd (f_X4_startAnew (x1) (τ3 76 6) τ3) (fun _ τ5 => some ((0, rget 26 (x1) τ5), τ5))))))
def f_X9_lines_11  (σ : Mem) : Option ((Nat × Int32) × Mem) := some ((1, 0), σ)
def f_X9_lines_37  (σ : Mem) : Option ((Nat × Int32) × Mem) := some ((1, 0), σ)
def f_X9_lines (x1 x2 x3 : Int32) (σ : Mem) : Option ((Nat × Int32) × Mem) := (if (x1) < 0 then (f_X9_lines_11 σ)
  else (if (x1) ≤ (999) then (if (x2) < 0 then (f_X9_lines_37 σ)
      else (if (x1) < (x2) then (f_X9_lines_37 σ)
        else (if (x3) < 0 then (f_X9_lines_37 σ)
          else (if (x3) ≤ (x2) then (if (σ 76 21) = 0 then nw (wr σ 76 18 (x1)) (fun τ1 => nw (wr τ1 76 19 (x2)) (fun τ2 => nw (wr τ2 76 20 (x3)) (fun τ3 => bd (f_X9_gatherTotals  τ3) (fun y4 τ5 => bd (f_X9_pupilsFrom (x1) (y4) τ5) (fun y6 τ7 => some ((0, y6), τ7))))))
              else some ((2, 0), σ))
            else (f_X9_lines_37 σ)))))
    else (f_X9_lines_11 σ)))
def f_X9_release_31  (σ : Mem) : Option ((Nat × Int32) × Mem) := some ((2, 0), σ)
def f_X9_release_84  (k48 : Int32 → Int32 → Mem → Option ((Nat × Int32) × Mem)) (v1 v2 : Int32) (σ : Mem) : Option ((Nat × Int32) × Mem) := (k48 (v1) ((v2) + (1)) σ)
def f_X9_release_48  : Nat → Int32 → Int32 → Mem → Option ((Nat × Int32) × Mem)
  | 0, _, _, _ => none
  | n + 1, v1, v2, σ => (if (σ 76 7) ≤ (v2) then some ((0, v1), σ)
    else bd (f_X9_gradeNow (v2) σ) (fun y1 τ2 => nw (rset 16 (v2) (y1) τ2) (fun τ3 => (if (y1) ≤ 0 then (f_X9_release_84 (f_X9_release_48 n) (v1) (v2) τ3)
      else (f_X9_release_84 (f_X9_release_48 n) ((v1) + (1)) (v2) τ3)))))
def f_X9_release (σ : Mem) : Option ((Nat × Int32) × Mem) := (if (σ 76 21) = 0 then (if (σ 76 7) = 0 then (f_X9_release_31 σ)
    else bd (f_X9_gatherTotals  σ) (fun y4 τ5 => (if (τ5 76 7) ≤ (y4) then nw (wr τ5 76 21 (1)) (fun τ6 => (f_X9_release_48 FUEL (0) (0) τ6))
      else (f_X9_release_31 τ5))))
  else (f_X9_release_31 σ))
def f_X9_appeal_18  (σ : Mem) : Option ((Nat × Int32) × Mem) := some ((3, 0), σ)
def f_X9_appeal_45  (σ : Mem) : Option ((Nat × Int32) × Mem) := some ((2, 0), σ)
def f_X9_appeal_77  (σ : Mem) : Option ((Nat × Int32) × Mem) := some ((2, 0), σ)
def f_X9_appeal (x1 x2 : Int32) (σ : Mem) : Option ((Nat × Int32) × Mem) := bd (f_X3_has (x1) σ) (fun y1 τ2 => (if (y1) = 0 then (f_X9_appeal_18 τ2)
  else bd (f_X9_isQuestion (x2) τ2) (fun y3 τ4 => (if (y3) = 0 then (f_X9_appeal_18 τ4)
    else (if (τ4 76 21) = 0 then (f_X9_appeal_45 τ4)
      else bd (f_X3_isLacking (x1) (x2) τ4) (fun y5 τ6 => (if (y5) = 0 then bd (f_X9_markNow (x1) (x2) τ6) (fun y7 τ8 => bd (f_X3_isAppealed (x1) (x2) τ8) (fun y9 τ10 => (if (y9) = 0 then (if (y7) = ((-1)) then (f_X9_appeal_77 τ10)
            else bd (f_X3_noteAppeal (x1) (x2) τ10) (fun _ τ12 => some ((0, y7), τ12)))
          else (f_X9_appeal_77 τ10))))
        else (f_X9_appeal_45 τ6))))))))
def f_X9_versions (x1 : Int32) (σ : Mem) : Option ((Nat × Int32) × Mem) := bd (f_X9_isQuestion (x1) σ) (fun y1 τ2 => (if (y1) = 0 then some ((3, 0), τ2)
  else some ((0, rget 31 (x1) τ2), τ2)))
def f_X9_markOf_19  (σ : Mem) : Option ((Nat × Int32) × Mem) := some ((3, 0), σ)
def f_X9_markOf (x1 x2 x3 : Int32) (σ : Mem) : Option ((Nat × Int32) × Mem) := bd (f_X9_isQuestion (x1) σ) (fun y1 τ2 => (if (y1) = 0 then (f_X9_markOf_19 τ2)
  else bd (f_X6_has (x1) (x2) τ2) (fun y3 τ4 => (if (y3) = 0 then (f_X9_markOf_19 τ4)
    else bd (f_X9_arePoints (x3) τ4) (fun y5 τ6 => (if (y5) = 0 then some ((1, 0), τ6)
      else bd (f_X6_markBy (x1) (x2) (x3) τ6) (fun y7 τ8 => some ((0, y7), τ8))))))))
def f_X9_written_23  (σ : Mem) : Option ((Nat × Int32) × Mem) := some ((3, 0), σ)
def f_X9_written (x1 x2 x3 : Int32) (σ : Mem) : Option ((Nat × Int32) × Mem) := bd (f_X9_isQuestion (x1) σ) (fun y1 τ2 => (if (y1) = 0 then (f_X9_written_23 τ2)
  else bd (f_X6_has (x1) (x2) τ2) (fun y3 τ4 => (if (y3) = 0 then (f_X9_written_23 τ4)
    else (if 0 ≤ (x3) then bd (f_X6_signAt (x1) (x2) (x3) τ4) (fun y5 τ6 => gd (isC (((y5 : Int32).toUInt32 % 65536).toInt32)) (some ((0, ((y5 : Int32).toUInt32 % 65536).toInt32), τ6)))
      else (f_X9_written_23 τ4))))))
def f_X9_mark_18  (σ : Mem) : Option ((Nat × Int32) × Mem) := some ((3, 0), σ)
def f_X9_mark (x1 x2 : Int32) (σ : Mem) : Option ((Nat × Int32) × Mem) := bd (f_X3_has (x1) σ) (fun y1 τ2 => (if (y1) = 0 then (f_X9_mark_18 τ2)
  else bd (f_X9_isQuestion (x2) τ2) (fun y3 τ4 => (if (y3) = 0 then (f_X9_mark_18 τ4)
    else bd (f_X9_markNow (x1) (x2) τ4) (fun y5 τ6 => some ((0, y5), τ6))))))
def f_X9_markAnew_18  (σ : Mem) : Option ((Nat × Int32) × Mem) := some ((3, 0), σ)
def f_X9_markAnew_126  (s0 : Int32) (σ : Mem) : Option ((Nat × Int32) × Mem) := some ((0, s0), σ)
def f_X9_markAnew_124  (v4 : Int32) (σ : Mem) : Option ((Nat × Int32) × Mem) := (f_X9_markAnew_126 (v4) σ)
def f_X9_markAnew_77  (v3 s0 : Int32) (σ : Mem) : Option ((Nat × Int32) × Mem) := bd (f_X9_findReading (v3) (0) (1) (0) σ) (fun y1 τ2 => bd (f_X9_markFound (y1) τ2) (fun y3 τ4 => (if (s0) = ((-1)) then (f_X9_markAnew_124 (s0) τ4)
  else (if (y3) = ((-1)) then (f_X9_markAnew_124 (s0) τ4)
    else bd (f_X9_areApart (s0) (y3) (τ4 76 17) τ4) (fun y5 τ6 => (if (y5) = 0 then (f_X9_markAnew_124 (s0) τ6)
      else (f_X9_markAnew_126 (y3) τ6)))))))
def f_X9_markAnew (x1 x2 : Int32) (σ : Mem) : Option ((Nat × Int32) × Mem) := bd (f_X3_has (x1) σ) (fun y7 τ8 => (if (y7) = 0 then (f_X9_markAnew_18 τ8)
  else bd (f_X9_isQuestion (x2) τ8) (fun y9 τ10 => (if (y9) = 0 then (f_X9_markAnew_18 τ10)
    else bd (f_X3_isLacking (x1) (x2) τ10) (fun y11 τ12 => (if (y11) = 0 then bd (f_X9_answerOf (x1) (x2) τ12) (fun y13 τ14 => (if (ris 41 (x2) τ14) = 0 then bd (f_X9_findReading (y13) (0) (0) (0) τ14) (fun y15 τ16 => bd (f_X9_markFound (y15) τ16) (fun y17 τ18 => (f_X9_markAnew_77 (y13) (y17) τ18)))
        else bd (f_X9_doubleFromLog (y13) τ14) (fun y19 τ20 => (f_X9_markAnew_77 (y13) (y19) τ20))))
      else some ((0, 0), τ12)))))))
def f_X9_answer_18  (σ : Mem) : Option ((Nat × Int32) × Mem) := some ((3, 0), σ)
def f_X9_answer_35  (σ : Mem) : Option ((Nat × Int32) × Mem) := some ((1, 0), σ)
def f_X9_answer_77  (s0 : Int32) (σ : Mem) : Option ((Nat × Int32) × Mem) := some ((0, s0), σ)
def f_X9_answer_105  (s0 : Int32) (σ : Mem) : Option ((Nat × Int32) × Mem) := some ((0, s0), σ)
def f_X9_answer (x1 x2 x3 : Int32) (σ : Mem) : Option ((Nat × Int32) × Mem) := bd (f_X3_has (x1) σ) (fun y1 τ2 => (if (y1) = 0 then (f_X9_answer_18 τ2)
  else bd (f_X9_isQuestion (x2) τ2) (fun y3 τ4 => (if (y3) = 0 then (f_X9_answer_18 τ4)
    else (if (x3) < 0 then (f_X9_answer_35 τ4)
      else (if (x3) ≤ (3) then (if (x3) = (2) then bd (f_X9_wantedBy (x1) (x2) τ4) (fun y9 τ10 => some ((0, y9), τ10))
          else (if (x3) = (3) then bd (f_X3_isAppealed (x1) (x2) τ4) (fun y7 τ8 => (if (y7) = 0 then (f_X9_answer_77 (0) τ8)
              else (f_X9_answer_77 (1) τ8)))
            else bd (f_X9_tallyUp (x1) (x2) τ4) (fun _ τ6 => (if (x3) = 0 then (f_X9_answer_105 (τ6 76 11) τ6)
              else (f_X9_answer_105 (τ6 76 10) τ6)))))
        else (f_X9_answer_35 τ4)))))))
def f_X9_total (x1 : Int32) (σ : Mem) : Option ((Nat × Int32) × Mem) := bd (f_X3_has (x1) σ) (fun y1 τ2 => (if (y1) = 0 then some ((3, 0), τ2)
  else bd (f_X9_totalNow (x1) τ2) (fun y3 τ4 => some ((0, y3), τ4))))
def f_X9_grade_42  (s0 : Int32) (σ : Mem) : Option ((Nat × Int32) × Mem) := some ((0, s0), σ)
def f_X9_grade (x1 x2 : Int32) (σ : Mem) : Option ((Nat × Int32) × Mem) := bd (f_X3_has (x1) σ) (fun y1 τ2 => (if (y1) = 0 then some ((3, 0), τ2)
  else (if (x2) = 0 then bd (f_X9_gradeNow (x1) τ2) (fun y3 τ4 => (f_X9_grade_42 (y3) τ4))
    else (f_X9_grade_42 (rget 16 (x1) τ2) τ2))))
def f_X9_lineOf_10  (σ : Mem) : Option ((Nat × Int32) × Mem) := some ((1, 0), σ)
def f_X9_lineOf_81  (k42 : Int32 → Int32 → Int32 → Int32 → Mem → Option ((Nat × Int32) × Mem)) (v1 v2 v3 v4 : Int32) (σ : Mem) : Option ((Nat × Int32) × Mem) := (k42 (v1) (v2) (v3) ((v4) + (1)) σ)
def f_X9_lineOf_42  : Nat → Int32 → Int32 → Int32 → Int32 → Mem → Option ((Nat × Int32) × Mem)
  | 0, _, _, _, _, _ => none
  | n + 1, v1, v2, v3, v4, σ => (if (v2) ≤ (v4) then some ((0, v3), σ)
    else nv ((rget 42 (v4) σ) + (1)) (fun y1 => (if (v3) ≤ (y1) then (f_X9_lineOf_81 (f_X9_lineOf_42 n) (v1) (v2) (v3) (v4) σ)
      else bd (f_X9_isWithin (y1) (v1) (v2) σ) (fun y2 τ3 => (if (y2) = 0 then (f_X9_lineOf_81 (f_X9_lineOf_42 n) (v1) (v2) (v3) (v4) τ3)
        else (f_X9_lineOf_81 (f_X9_lineOf_42 n) (v1) (v2) (y1) (v4) τ3))))))
def f_X9_lineOf (x1 : Int32) (σ : Mem) : Option ((Nat × Int32) × Mem) := (if (x1) < 0 then (f_X9_lineOf_10 σ)
  else (if (x1) ≤ (100) then bd (f_X9_gatherTotals  σ) (fun y4 τ5 => bd (f_X9_isWithin (0) (x1) (y4) τ5) (fun y6 τ7 => (if (y6) = 0 then (f_X9_lineOf_42 FUEL (x1) (y4) (999) (0) τ7)
      else some ((0, 0), τ7))))
    else (f_X9_lineOf_10 σ)))
def f_X9_lineAnew_10  (σ : Mem) : Option ((Nat × Int32) × Mem) := some ((1, 0), σ)
def f_X9_lineAnew_25  : Nat → Int32 → Int32 → Int32 → Mem → Option ((Nat × Int32) × Mem)
  | 0, _, _, _, _ => none
  | n + 1, v1, v2, v3, σ => (if (999) ≤ (v3) then some ((0, 999), σ)
    else bd (f_X9_isWithin (v3) (v1) (v2) σ) (fun y1 τ2 => (if (y1) = 0 then (f_X9_lineAnew_25 n (v1) (v2) ((v3) + (1)) τ2)
      else some ((0, v3), τ2))))
def f_X9_lineAnew (x1 : Int32) (σ : Mem) : Option ((Nat × Int32) × Mem) := (if (x1) < 0 then (f_X9_lineAnew_10 σ)
  else (if (x1) ≤ (100) then bd (f_X9_gatherTotals  σ) (fun y3 τ4 => (f_X9_lineAnew_25 FUEL (x1) (y3) (0) τ4))
    else (f_X9_lineAnew_10 σ)))
def f_X9_ofReader (x1 x2 : Int32) (σ : Mem) : Option ((Nat × Int32) × Mem) := bd (f_X4_has (x1) σ) (fun y1 τ2 => (if (y1) = 0 then some ((3, 0), τ2)
  else (if (x2) = 0 then some ((0, rget 21 (x1) τ2), τ2)
    else if (x2) = 1 then some ((0, rget 22 (x1) τ2), τ2)
    else if (x2) = 2 then some ((0, rget 25 (x1) τ2), τ2)
    else if (x2) = 3 then some ((0, rget 26 (x1) τ2), τ2)
    else if (x2) = 4 then some ((0, rget 27 (x1) τ2), τ2)
    else if (x2) = 5 then bd (f_J6_bitCount_0f7a4 (rget 29 (x1) τ2) τ2) (fun y3 τ4 => some ((0, y3), τ4))
    else some ((1, 0), τ2))))
theorem kJ6_bitCount_0f7a4_c265 : Cond.constant RJ6 265 (1431655765) ∈ wsJ6_bitCount_0f7a4 := by decide +kernel
theorem kJ6_bitCount_0f7a4_c266 : Cond.constant RJ6 266 (858993459) ∈ wsJ6_bitCount_0f7a4 := by decide +kernel
theorem kJ6_bitCount_0f7a4_c267 : Cond.constant RJ6 267 (252645135) ∈ wsJ6_bitCount_0f7a4 := by decide +kernel
set_option maxHeartbeats 4000000 in
set_option maxRecDepth 100000 in
theorem c_J6_bitCount_0f7a4 (x1 : Int32) (l : Launch) : Cti l yJ6_bitCount_0f7a4 wsJ6_bitCount_0f7a4 0 0 (fun G => [.int (x1)]) (f_J6_bitCount_0f7a4 x1) := by
  refine mk_i (cc := cJ6_bitCount_0f7a4) (nL := 1) (own := RJ6) (by decide) rfl rfl (fun _ => Nat.le_of_ble_eq_true rfl) (fun X o σ rv C hR hf => ?_)
  show Bk X 1 o 0 0 0 [(0, .int (x1))] [] σ
  unfold f_J6_bitCount_0f7a4 at hf
  refine b_iload_n C dJ6_bitCount_0f7a4_0 rfl 0 rfl ?_
  refine b_iload_n C dJ6_bitCount_0f7a4_1 rfl 0 rfl ?_
  refine b_iconst C (v := 1) dJ6_bitCount_0f7a4_2 (by decide) ?_
  refine b_iushr C dJ6_bitCount_0f7a4_3 ?_
  refine b_ldcw C (v := 1431655765) kJ6_bitCount_0f7a4_c265 dJ6_bitCount_0f7a4_4 ?_
  refine b_iand C dJ6_bitCount_0f7a4_7 ?_
  refine b_isub C dJ6_bitCount_0f7a4_8 ?_
  refine b_nv hf (fun y1 hf => ?_)
  refine b_istore_n (lv' := [(0, .int (y1))]) C dJ6_bitCount_0f7a4_9 rfl (by decide) rfl ?_
  refine b_iload_n C dJ6_bitCount_0f7a4_10 rfl 0 rfl ?_
  refine b_ldcw C (v := 858993459) kJ6_bitCount_0f7a4_c266 dJ6_bitCount_0f7a4_11 ?_
  refine b_iand C dJ6_bitCount_0f7a4_14 ?_
  refine b_iload_n C dJ6_bitCount_0f7a4_15 rfl 0 rfl ?_
  refine b_iconst C (v := 2) dJ6_bitCount_0f7a4_16 (by decide) ?_
  refine b_iushr C dJ6_bitCount_0f7a4_17 ?_
  refine b_ldcw C (v := 858993459) kJ6_bitCount_0f7a4_c266 dJ6_bitCount_0f7a4_18 ?_
  refine b_iand C dJ6_bitCount_0f7a4_21 ?_
  refine b_iadd C dJ6_bitCount_0f7a4_22 ?_
  refine b_nv hf (fun y2 hf => ?_)
  refine b_istore_n (lv' := [(0, .int (y2))]) C dJ6_bitCount_0f7a4_23 rfl (by decide) rfl ?_
  refine b_iload_n C dJ6_bitCount_0f7a4_24 rfl 0 rfl ?_
  refine b_iload_n C dJ6_bitCount_0f7a4_25 rfl 0 rfl ?_
  refine b_iconst C (v := 4) dJ6_bitCount_0f7a4_26 (by decide) ?_
  refine b_iushr C dJ6_bitCount_0f7a4_27 ?_
  refine b_iadd C dJ6_bitCount_0f7a4_28 ?_
  refine b_ldcw C (v := 252645135) kJ6_bitCount_0f7a4_c267 dJ6_bitCount_0f7a4_29 ?_
  refine b_iand C dJ6_bitCount_0f7a4_32 ?_
  refine b_nv hf (fun y3 hf => ?_)
  refine b_istore_n (lv' := [(0, .int (y3))]) C dJ6_bitCount_0f7a4_33 rfl (by decide) rfl ?_
  refine b_iload_n C dJ6_bitCount_0f7a4_34 rfl 0 rfl ?_
  refine b_iload_n C dJ6_bitCount_0f7a4_35 rfl 0 rfl ?_
  refine b_bipush C (v := 8) dJ6_bitCount_0f7a4_36 (by decide) ?_
  refine b_iushr C dJ6_bitCount_0f7a4_38 ?_
  refine b_iadd C dJ6_bitCount_0f7a4_39 ?_
  refine b_nv hf (fun y4 hf => ?_)
  refine b_istore_n (lv' := [(0, .int (y4))]) C dJ6_bitCount_0f7a4_40 rfl (by decide) rfl ?_
  refine b_iload_n C dJ6_bitCount_0f7a4_41 rfl 0 rfl ?_
  refine b_iload_n C dJ6_bitCount_0f7a4_42 rfl 0 rfl ?_
  refine b_bipush C (v := 16) dJ6_bitCount_0f7a4_43 (by decide) ?_
  refine b_iushr C dJ6_bitCount_0f7a4_45 ?_
  refine b_iadd C dJ6_bitCount_0f7a4_46 ?_
  refine b_nv hf (fun y5 hf => ?_)
  refine b_istore_n (lv' := [(0, .int (y5))]) C dJ6_bitCount_0f7a4_47 rfl (by decide) rfl ?_
  refine b_iload_n C dJ6_bitCount_0f7a4_48 rfl 0 rfl ?_
  refine b_bipush C (v := 63) dJ6_bitCount_0f7a4_49 (by decide) ?_
  refine b_iand C dJ6_bitCount_0f7a4_51 ?_
  exact hR _ _ _ _ dJ6_bitCount_0f7a4_52 hf
theorem hiX9_pupil_3 : ∀ w ∈ wsX30, w ∈ wsX9_pupil := by decide +kernel
theorem hiX9_pupil_9 : ∀ w ∈ wsX90, w ∈ wsX9_pupil := by decide +kernel
theorem xaX9_pupil_1 : ∀ w ∈ (vx_at0 RX9 83 (exN 1) exS).filter goodWord, w ∈ wsX9_pupil := fun _ h => List.mem_cons_of_mem _ (List.mem_append_left _ (List.mem_append_right _ h))
theorem xaX9_pupil_2 : ∀ w ∈ (vx_at0 RX9 89 (exN 2) exS).filter goodWord, w ∈ wsX9_pupil := fun _ h => List.mem_cons_of_mem _ (List.mem_append_right _ h)
theorem kX9_pupil_ex1 : Cond.classLink RX9 81 (exN 1) ∈ wsX9_pupil := by decide +kernel
theorem kX9_pupil_ei1 : Cond.initialized (exN 1) ∈ wsX9_pupil := by decide +kernel
theorem kX9_pupil_33 : Cond.fieldLink RX9 33 "ScriptRoom" "pupils" "LScriptRoom$Pupils;" ∈ wsX9_pupil := by decide +kernel
theorem kX9_pupil_84 : Cond.fieldLink RX9 84 "ScriptRoom$Pupils" "count" "I" ∈ wsX9_pupil := by decide +kernel
theorem kX9_pupil_ex2 : Cond.classLink RX9 87 (exN 2) ∈ wsX9_pupil := by decide +kernel
theorem kX9_pupil_ei2 : Cond.initialized (exN 2) ∈ wsX9_pupil := by decide +kernel
set_option maxHeartbeats 4000000 in
set_option maxRecDepth 100000 in
theorem w_X9_pupil_19 {X : Ctx} {o : Int64} {rv : (Nat × Int32) × Mem} (C : Cx X cX9_pupil RX9 wsX9_pupil 4 6 89) (hR : Rxi X cX9_pupil 4 o rv) (hT1 : Xt X 4 o rv RX9 1 81 83 cX9_pupil wsX9_pupil) (hT2 : Xt X 4 o rv RX9 2 87 89 cX9_pupil wsX9_pupil) (hT3 : Xt X 4 o rv RX9 3 98 100 cX9_pupil wsX9_pupil) : ∀ (σ : Mem), some rv = f_X9_pupil_19 σ → Bk X 4 o 0 0 19 [] [] σ := by
  intro σ hf
  unfold f_X9_pupil_19 at hf
  exact hT1 _ _ _ _ kX9_pupil_ex1 kX9_pupil_ei1 xaX9_pupil_1 dX9_pupil_19 dX9_pupil_22 dX9_pupil_23 dX9_pupil_26 (Nat.le_of_ble_eq_true rfl) hf
set_option maxHeartbeats 4000000 in
set_option maxRecDepth 100000 in
theorem c_X9_pupil (x1 x2 x3 : Int32) (l : Launch) (hfl : l.stackTraces = false) : Cte l yX9_pupil wsX9_pupil 6 89 (fun G => [.ref (G.1 (9)), .int (x1), .int (x2), .int (x3)]) (f_X9_pupil x1 x2 x3) := by
  refine mk_ei (cc := cX9_pupil) (nL := 4) hfl (by decide) rfl rfl (fun _ => Nat.le_of_ble_eq_true rfl) (Nat.le_of_ble_eq_true rfl) (Nat.le_of_ble_eq_true rfl) (fun X o σ rv C hR hT1 hT2 hT3 hf => ?_)
  show Bk X 4 o 0 0 0 [(0, .ref (ad X (9))), (1, .int (x1)), (2, .int (x2)), (3, .int (x3))] [] σ
  unfold f_X9_pupil at hf
  refine b_iload_n C dX9_pupil_0 rfl 1 rfl ?_
  refine b_if_lt C 19 dX9_pupil_1 (by decide) hf (fun hf => ?_) (fun hf => ?_)
  · refine b_sub [] rfl ?_
    exact w_X9_pupil_19 C hR hT1 hT2 hT3 _ hf
  · refine b_iload_n C dX9_pupil_4 rfl 1 rfl ?_
    refine b_iconst C (v := 4) dX9_pupil_5 (by decide) ?_
    refine b_icmp_gt C 19 dX9_pupil_6 (by decide) hf (fun hf => ?_) (fun hf => ?_)
    · refine b_sub [] rfl ?_
      exact w_X9_pupil_19 C hR hT1 hT2 hT3 _ hf
    · refine b_iload_n C dX9_pupil_9 rfl 2 rfl ?_
      refine b_if_lt C 19 dX9_pupil_10 (by decide) hf (fun hf => ?_) (fun hf => ?_)
      · refine b_sub [] rfl ?_
        exact w_X9_pupil_19 C hR hT1 hT2 hT3 _ hf
      · refine b_iload_n C dX9_pupil_13 rfl 2 rfl ?_
        refine b_bipush C (v := 15) dX9_pupil_14 (by decide) ?_
        refine b_icmp_le C 27 dX9_pupil_16 (by decide) hf (fun hf => ?_) (fun hf => ?_)
        · refine b_aload_n C dX9_pupil_27 rfl 0 rfl ?_
          refine b_getR C hiX9_pupil_9 9 3 (3) (by decide) (by decide) rfl (by decide) kX9_pupil_33 rfl rfl dX9_pupil_28 ?_
          refine b_getS C hiX9_pupil_3 3 0 7 (by decide) (by decide) rfl (by decide) kX9_pupil_84 rfl rfl dX9_pupil_31 ?_
          refine b_bipush C (v := 16) dX9_pupil_34 (by decide) ?_
          refine b_icmp_lt C 47 dX9_pupil_36 (by decide) hf (fun hf => ?_) (fun hf => ?_)
          · refine b_aload_n C dX9_pupil_47 rfl 0 rfl ?_
            refine b_getR C hiX9_pupil_9 9 3 (3) (by decide) (by decide) rfl (by decide) kX9_pupil_33 rfl rfl dX9_pupil_48 ?_
            refine b_iload_n C dX9_pupil_51 rfl 1 rfl ?_
            refine b_iload_n C dX9_pupil_52 rfl 2 rfl ?_
            refine b_iload_n C dX9_pupil_53 rfl 3 rfl ?_
            obtain ⟨y1, τ2, hqy1, hf⟩ := bd_inv hf
            refine b_callVi (n := 3) C (3) 3 (isObj_s (by decide) (by decide)) rfl (fun _ => [.int (x1), .int (x2), .int (x3)]) (c_X3_enter (x1) (x2) (x3)) hqy1 gX9_pupil_X3_enter rfl (by decide +kernel) rfl (by decide) (by decide) (Nat.le_of_ble_eq_true rfl) dX9_pupil_54 ?_
            exact hR _ _ _ _ dX9_pupil_57 hf
          · exact hT2 _ _ _ _ kX9_pupil_ex2 kX9_pupil_ei2 xaX9_pupil_2 dX9_pupil_39 dX9_pupil_42 dX9_pupil_43 dX9_pupil_46 (Nat.le_of_ble_eq_true rfl) hf
        · refine b_sub [] rfl ?_
          exact w_X9_pupil_19 C hR hT1 hT2 hT3 _ hf
theorem hiX9_gift_3 : ∀ w ∈ wsX30, w ∈ wsX9_gift := by decide +kernel
theorem hiX9_gift_9 : ∀ w ∈ wsX90, w ∈ wsX9_gift := by decide +kernel
theorem xaX9_gift_1 : ∀ w ∈ (vx_at0 RX9 83 (exN 1) exS).filter goodWord, w ∈ wsX9_gift := fun _ h => List.mem_cons_of_mem _ (List.mem_append_right _ h)
theorem xaX9_gift_3 : ∀ w ∈ (vx_at0 RX9 100 (exN 3) exS).filter goodWord, w ∈ wsX9_gift := fun _ h => List.mem_cons_of_mem _ (List.mem_append_left _ (List.mem_append_right _ h))
theorem kX9_gift_ex1 : Cond.classLink RX9 81 (exN 1) ∈ wsX9_gift := by decide +kernel
theorem kX9_gift_ei1 : Cond.initialized (exN 1) ∈ wsX9_gift := by decide +kernel
theorem kX9_gift_33 : Cond.fieldLink RX9 33 "ScriptRoom" "pupils" "LScriptRoom$Pupils;" ∈ wsX9_gift := by decide +kernel
theorem kX9_gift_101 : Cond.fieldLink RX9 101 "ScriptRoom$Pupils" "gifts" "LScriptRoom$Row;" ∈ wsX9_gift := by decide +kernel
theorem kX9_gift_ex3 : Cond.classLink RX9 98 (exN 3) ∈ wsX9_gift := by decide +kernel
theorem kX9_gift_ei3 : Cond.initialized (exN 3) ∈ wsX9_gift := by decide +kernel
set_option maxHeartbeats 4000000 in
set_option maxRecDepth 100000 in
theorem w_X9_gift_29 {X : Ctx} {o : Int64} {rv : (Nat × Int32) × Mem} (C : Cx X cX9_gift RX9 wsX9_gift 4 6 89) (hR : Rxi X cX9_gift 4 o rv) (hT1 : Xt X 4 o rv RX9 1 81 83 cX9_gift wsX9_gift) (hT2 : Xt X 4 o rv RX9 2 87 89 cX9_gift wsX9_gift) (hT3 : Xt X 4 o rv RX9 3 98 100 cX9_gift wsX9_gift) : ∀ (σ : Mem), some rv = f_X9_gift_29 σ → Bk X 4 o 0 0 29 [] [] σ := by
  intro σ hf
  unfold f_X9_gift_29 at hf
  exact hT1 _ _ _ _ kX9_gift_ex1 kX9_gift_ei1 xaX9_gift_1 dX9_gift_29 dX9_gift_32 dX9_gift_33 dX9_gift_36 (Nat.le_of_ble_eq_true rfl) hf
set_option maxHeartbeats 4000000 in
set_option maxRecDepth 100000 in
theorem c_X9_gift (x1 x2 : Int32) (l : Launch) (hfl : l.stackTraces = false) : Cte l yX9_gift wsX9_gift 6 89 (fun G => [.ref (G.1 (9)), .int (x1), .int (x2)]) (f_X9_gift x1 x2) := by
  refine mk_ei (cc := cX9_gift) (nL := 4) hfl (by decide) rfl rfl (fun _ => Nat.le_of_ble_eq_true rfl) (Nat.le_of_ble_eq_true rfl) (Nat.le_of_ble_eq_true rfl) (fun X o σ rv C hR hT1 hT2 hT3 hf => ?_)
  show Bk X 4 o 0 0 0 [(0, .ref (ad X (9))), (1, .int (x1)), (2, .int (x2))] [] σ
  unfold f_X9_gift at hf
  refine b_aload_n C dX9_gift_0 rfl 0 rfl ?_
  refine b_getR C hiX9_gift_9 9 3 (3) (by decide) (by decide) rfl (by decide) kX9_gift_33 rfl rfl dX9_gift_1 ?_
  refine b_iload_n C dX9_gift_4 rfl 1 rfl ?_
  obtain ⟨y1, τ2, hqy1, hf⟩ := bd_inv hf
  refine b_callVi (n := 1) C (3) 3 (isObj_s (by decide) (by decide)) rfl (fun _ => [.int (x1)]) (c_X3_has (x1)) hqy1 gX9_gift_X3_has rfl (by decide +kernel) rfl (by decide) (by decide) (Nat.le_of_ble_eq_true rfl) dX9_gift_5 ?_
  refine b_if_ne C 19 dX9_gift_8 (by decide) hf (fun hf => ?_) (fun hf => ?_)
  · refine b_iload_n C dX9_gift_19 rfl 2 rfl ?_
    refine b_if_lt C 29 dX9_gift_20 (by decide) hf (fun hf => ?_) (fun hf => ?_)
    · refine b_sub [] rfl ?_
      exact w_X9_gift_29 C hR hT1 hT2 hT3 _ hf
    · refine b_iload_n C dX9_gift_23 rfl 2 rfl ?_
      refine b_bipush C (v := 9) dX9_gift_24 (by decide) ?_
      refine b_icmp_le C 37 dX9_gift_26 (by decide) hf (fun hf => ?_) (fun hf => ?_)
      · refine b_aload_n C dX9_gift_37 rfl 0 rfl ?_
        refine b_getR C hiX9_gift_9 9 3 (3) (by decide) (by decide) rfl (by decide) kX9_gift_33 rfl rfl dX9_gift_38 ?_
        refine b_getR C hiX9_gift_3 3 3 (11 + 15) (by decide) (by decide) rfl (by decide) kX9_gift_101 rfl rfl dX9_gift_41 ?_
        refine b_iload_n C dX9_gift_44 rfl 1 rfl ?_
        refine b_callVi (n := 1) C (11 + 15) 5 (isObj_r (by decide)) rfl (fun _ => [.int (x1)]) (c_X5_get 15 (by decide) (x1)) (e_get 15 (by decide) (x1) _) gX9_gift_X5_get rfl (by decide +kernel) rfl (by decide) (by decide) (Nat.le_of_ble_eq_true rfl) dX9_gift_45 ?_
        refine b_nv hf (fun y3 hf => ?_)
        refine b_istore_n (lv' := [(3, .int (y3)), (0, .ref (ad X (9))), (1, .int (x1)), (2, .int (x2))]) C dX9_gift_48 rfl (by decide) rfl ?_
        refine b_aload_n C dX9_gift_49 rfl 1 rfl ?_
        refine b_getR C hiX9_gift_9 9 3 (3) (by decide) (by decide) rfl (by decide) kX9_gift_33 rfl rfl dX9_gift_50 ?_
        refine b_getR C hiX9_gift_3 3 3 (11 + 15) (by decide) (by decide) rfl (by decide) kX9_gift_101 rfl rfl dX9_gift_53 ?_
        refine b_iload_n C dX9_gift_56 rfl 2 rfl ?_
        refine b_iload_n C dX9_gift_57 rfl 3 rfl ?_
        refine b_callVv (n := 2) C (11 + 15) 5 (isObj_r (by decide)) rfl (fun _ => [.int (x1), .int (x2)]) (c_X5_set 15 (by decide) (x1) (x2)) (e_set 15 (by decide) (x1) (x2) _) gX9_gift_X5_set rfl (by decide +kernel) rfl (by decide) (by decide) (Nat.le_of_ble_eq_true rfl) dX9_gift_58 ?_
        refine b_nw hf (fun τ4 hf => ?_)
        refine b_iload_n C dX9_gift_61 rfl 0 rfl ?_
        exact hR _ _ _ _ dX9_gift_62 hf
      · refine b_sub [] rfl ?_
        exact w_X9_gift_29 C hR hT1 hT2 hT3 _ hf
  · exact hT3 _ _ _ _ kX9_gift_ex3 kX9_gift_ei3 xaX9_gift_3 dX9_gift_11 dX9_gift_14 dX9_gift_15 dX9_gift_18 (Nat.le_of_ble_eq_true rfl) hf
theorem hiX9_type_1 : ∀ w ∈ wsX10, w ∈ wsX9_type := by decide +kernel
theorem hiX9_type_9 : ∀ w ∈ wsX90, w ∈ wsX9_type := by decide +kernel
theorem xaX9_type_1 : ∀ w ∈ (vx_at0 RX9 83 (exN 1) exS).filter goodWord, w ∈ wsX9_type := fun _ h => List.mem_cons_of_mem _ (List.mem_append_left _ (List.mem_append_right _ h))
theorem xaX9_type_2 : ∀ w ∈ (vx_at0 RX9 89 (exN 2) exS).filter goodWord, w ∈ wsX9_type := fun _ h => List.mem_cons_of_mem _ (List.mem_append_right _ h)
theorem kX9_type_ex1 : Cond.classLink RX9 81 (exN 1) ∈ wsX9_type := by decide +kernel
theorem kX9_type_ei1 : Cond.initialized (exN 1) ∈ wsX9_type := by decide +kernel
theorem kX9_type_10 : Cond.fieldLink RX9 10 "ScriptRoom" "line" "LScriptRoom$Line;" ∈ wsX9_type := by decide +kernel
theorem kX9_type_112 : Cond.fieldLink RX9 112 "ScriptRoom$Line" "count" "I" ∈ wsX9_type := by decide +kernel
theorem kX9_type_ex2 : Cond.classLink RX9 87 (exN 2) ∈ wsX9_type := by decide +kernel
theorem kX9_type_ei2 : Cond.initialized (exN 2) ∈ wsX9_type := by decide +kernel
set_option maxHeartbeats 4000000 in
set_option maxRecDepth 100000 in
theorem w_X9_type_12 {X : Ctx} {o : Int64} {rv : (Nat × Int32) × Mem} (C : Cx X cX9_type RX9 wsX9_type 2 6 89) (hR : Rxi X cX9_type 2 o rv) (hT1 : Xt X 2 o rv RX9 1 81 83 cX9_type wsX9_type) (hT2 : Xt X 2 o rv RX9 2 87 89 cX9_type wsX9_type) (hT3 : Xt X 2 o rv RX9 3 98 100 cX9_type wsX9_type) : ∀ (σ : Mem), some rv = f_X9_type_12 σ → Bk X 2 o 0 0 12 [] [] σ := by
  intro σ hf
  unfold f_X9_type_12 at hf
  exact hT1 _ _ _ _ kX9_type_ex1 kX9_type_ei1 xaX9_type_1 dX9_type_12 dX9_type_15 dX9_type_16 dX9_type_19 (Nat.le_of_ble_eq_true rfl) hf
set_option maxHeartbeats 4000000 in
set_option maxRecDepth 100000 in
theorem c_X9_type (x1 : Int32) (l : Launch) (hfl : l.stackTraces = false) : Cte l yX9_type wsX9_type 6 89 (fun G => [.ref (G.1 (9)), .int (x1)]) (f_X9_type x1) := by
  refine mk_ei (cc := cX9_type) (nL := 2) hfl (by decide) rfl rfl (fun _ => Nat.le_of_ble_eq_true rfl) (Nat.le_of_ble_eq_true rfl) (Nat.le_of_ble_eq_true rfl) (fun X o σ rv C hR hT1 hT2 hT3 hf => ?_)
  show Bk X 2 o 0 0 0 [(0, .ref (ad X (9))), (1, .int (x1))] [] σ
  unfold f_X9_type at hf
  refine b_iload_n C dX9_type_0 rfl 1 rfl ?_
  refine b_bipush C (v := 32) dX9_type_1 (by decide) ?_
  refine b_icmp_lt C 12 dX9_type_3 (by decide) hf (fun hf => ?_) (fun hf => ?_)
  · refine b_sub [] rfl ?_
    exact w_X9_type_12 C hR hT1 hT2 hT3 _ hf
  · refine b_iload_n C dX9_type_6 rfl 1 rfl ?_
    refine b_bipush C (v := 126) dX9_type_7 (by decide) ?_
    refine b_icmp_le C 20 dX9_type_9 (by decide) hf (fun hf => ?_) (fun hf => ?_)
    · refine b_aload_n C dX9_type_20 rfl 0 rfl ?_
      refine b_getR C hiX9_type_9 9 0 (1) (by decide) (by decide) rfl (by decide) kX9_type_10 rfl rfl dX9_type_21 ?_
      refine b_getS C hiX9_type_1 1 1 5 (by decide) (by decide) rfl (by decide) kX9_type_112 rfl rfl dX9_type_24 ?_
      refine b_bipush C (v := 40) dX9_type_27 (by decide) ?_
      refine b_icmp_lt C 40 dX9_type_29 (by decide) hf (fun hf => ?_) (fun hf => ?_)
      · refine b_aload_n C dX9_type_40 rfl 0 rfl ?_
        refine b_getR C hiX9_type_9 9 0 (1) (by decide) (by decide) rfl (by decide) kX9_type_10 rfl rfl dX9_type_41 ?_
        refine b_iload_n C dX9_type_44 rfl 1 rfl ?_
        obtain ⟨y1, τ2, hqy1, hf⟩ := bd_inv hf
        refine b_callVv (n := 1) C (1) 1 (isObj_s (by decide) (by decide)) rfl (fun _ => [.int (x1)]) (c_X1_append (x1)) hqy1 gX9_type_X1_append rfl (by decide +kernel) rfl (by decide) (by decide) (Nat.le_of_ble_eq_true rfl) dX9_type_45 ?_
        refine b_aload_n C dX9_type_48 rfl 0 rfl ?_
        refine b_getR C hiX9_type_9 9 0 (1) (by decide) (by decide) rfl (by decide) kX9_type_10 rfl rfl dX9_type_49 ?_
        refine b_getS C hiX9_type_1 1 1 5 (by decide) (by decide) rfl (by decide) kX9_type_112 rfl rfl dX9_type_52 ?_
        exact hR _ _ _ _ dX9_type_55 hf
      · exact hT2 _ _ _ _ kX9_type_ex2 kX9_type_ei2 xaX9_type_2 dX9_type_32 dX9_type_35 dX9_type_36 dX9_type_39 (Nat.le_of_ble_eq_true rfl) hf
    · refine b_sub [] rfl ?_
      exact w_X9_type_12 C hR hT1 hT2 hT3 _ hf
theorem hiX9_scheme_6 : ∀ w ∈ wsX60, w ∈ wsX9_scheme := by decide +kernel
theorem hiX9_scheme_9 : ∀ w ∈ wsX90, w ∈ wsX9_scheme := by decide +kernel
theorem xaX9_scheme_2 : ∀ w ∈ (vx_at0 RX9 89 (exN 2) exS).filter goodWord, w ∈ wsX9_scheme := fun _ h => List.mem_cons_of_mem _ (List.mem_append_right _ h)
theorem xaX9_scheme_3 : ∀ w ∈ (vx_at0 RX9 100 (exN 3) exS).filter goodWord, w ∈ wsX9_scheme := fun _ h => List.mem_cons_of_mem _ (List.mem_append_left _ (List.mem_append_right _ h))
theorem kX9_scheme_26 : Cond.fieldLink RX9 26 "ScriptRoom" "schemes" "LScriptRoom$Schemes;" ∈ wsX9_scheme := by decide +kernel
theorem kX9_scheme_119 : Cond.fieldLink RX9 119 "ScriptRoom$Schemes" "counts" "LScriptRoom$Row;" ∈ wsX9_scheme := by decide +kernel
theorem kX9_scheme_19 : Cond.fieldLink RX9 19 "ScriptRoom" "draft" "LScriptRoom$Draft;" ∈ wsX9_scheme := by decide +kernel
theorem kX9_scheme_10 : Cond.fieldLink RX9 10 "ScriptRoom" "line" "LScriptRoom$Line;" ∈ wsX9_scheme := by decide +kernel
theorem kX9_scheme_ex2 : Cond.classLink RX9 87 (exN 2) ∈ wsX9_scheme := by decide +kernel
theorem kX9_scheme_ei2 : Cond.initialized (exN 2) ∈ wsX9_scheme := by decide +kernel
theorem kX9_scheme_ex3 : Cond.classLink RX9 98 (exN 3) ∈ wsX9_scheme := by decide +kernel
theorem kX9_scheme_ei3 : Cond.initialized (exN 3) ∈ wsX9_scheme := by decide +kernel
set_option maxHeartbeats 4000000 in
set_option maxRecDepth 100000 in
theorem c_X9_scheme (x1 : Int32) (l : Launch) (hfl : l.stackTraces = false) : Cte l yX9_scheme wsX9_scheme 6 129 (fun G => [.ref (G.1 (9)), .int (x1)]) (f_X9_scheme x1) := by
  refine mk_ei (cc := cX9_scheme) (nL := 4) hfl (by decide) rfl rfl (fun _ => Nat.le_of_ble_eq_true rfl) (Nat.le_of_ble_eq_true rfl) (Nat.le_of_ble_eq_true rfl) (fun X o σ rv C hR hT1 hT2 hT3 hf => ?_)
  show Bk X 4 o 0 0 0 [(0, .ref (ad X (9))), (1, .int (x1))] [] σ
  unfold f_X9_scheme at hf
  refine b_iload_n C dX9_scheme_0 rfl 1 rfl ?_
  obtain ⟨y1, τ2, hqy1, hf⟩ := bd_inv hf
  refine b_callSi (n := 1) C (fun _ => [.int (x1)]) (c_X9_isQuestion (x1)) hqy1 gX9_scheme_X9_isQuestion rfl (by decide +kernel) rfl (by decide) (by decide) (Nat.le_of_ble_eq_true rfl) dX9_scheme_1 ?_
  refine b_if_ne C 15 dX9_scheme_4 (by decide) hf (fun hf => ?_) (fun hf => ?_)
  · refine b_aload_n C dX9_scheme_15 rfl 0 rfl ?_
    refine b_getR C hiX9_scheme_9 9 2 (6) (by decide) (by decide) rfl (by decide) kX9_scheme_26 rfl rfl dX9_scheme_16 ?_
    refine b_getR C hiX9_scheme_6 6 0 (11 + 31) (by decide) (by decide) rfl (by decide) kX9_scheme_119 rfl rfl dX9_scheme_19 ?_
    refine b_iload_n C dX9_scheme_22 rfl 1 rfl ?_
    refine b_callVi (n := 1) C (11 + 31) 5 (isObj_r (by decide)) rfl (fun _ => [.int (x1)]) (c_X5_get 31 (by decide) (x1)) (e_get 31 (by decide) (x1) _) gX9_scheme_X5_get rfl (by decide +kernel) rfl (by decide) (by decide) (Nat.le_of_ble_eq_true rfl) dX9_scheme_23 ?_
    refine b_bipush C (v := 6) dX9_scheme_26 (by decide) ?_
    refine b_icmp_lt C 39 dX9_scheme_28 (by decide) hf (fun hf => ?_) (fun hf => ?_)
    · refine b_aload_n C dX9_scheme_39 rfl 0 rfl ?_
      refine b_getR C hiX9_scheme_9 9 1 (0) (by decide) (by decide) rfl (by decide) kX9_scheme_19 rfl rfl dX9_scheme_40 ?_
      refine b_aload_n C dX9_scheme_43 rfl 0 rfl ?_
      refine b_getR C hiX9_scheme_9 9 0 (1) (by decide) (by decide) rfl (by decide) kX9_scheme_10 rfl rfl dX9_scheme_44 ?_
      obtain ⟨y3, τ4, hqy3, hf⟩ := bd_inv hf
      refine b_callVi (n := 1) C (0) 0 (isObj_s (by decide) (by decide)) rfl (fun G => [.ref (G.1 (1))]) (c_X0_faultOf ) hqy3 gX9_scheme_X0_faultOf rfl (by decide +kernel) rfl (by decide) (by decide) (Nat.le_of_ble_eq_true rfl) dX9_scheme_47 ?_
      refine b_istore_n (lv' := [(2, .int (y3)), (0, .ref (ad X (9))), (1, .int (x1))]) C dX9_scheme_50 rfl (by decide) rfl ?_
      refine b_aload_n C dX9_scheme_51 rfl 1 rfl ?_
      refine b_getR C hiX9_scheme_9 9 0 (1) (by decide) (by decide) rfl (by decide) kX9_scheme_10 rfl rfl dX9_scheme_52 ?_
      obtain ⟨y5, τ6, hqy5, hf⟩ := bd_inv hf
      refine b_callVv (n := 0) C (1) 1 (isObj_s (by decide) (by decide)) rfl (fun _ => []) (c_X1_clear ) hqy5 gX9_scheme_X1_clear rfl (by decide +kernel) rfl (by decide) (by decide) (Nat.le_of_ble_eq_true rfl) dX9_scheme_55 ?_
      refine b_iload_n C dX9_scheme_58 rfl 0 rfl ?_
      refine b_iconst C (v := (-1)) dX9_scheme_59 (by decide) ?_
      refine b_icmp_eq C 67 dX9_scheme_60 (by decide) hf (fun hf => ?_) (fun hf => ?_)
      · refine b_aload_n C dX9_scheme_67 rfl 1 rfl ?_
        refine b_getR C hiX9_scheme_9 9 2 (6) (by decide) (by decide) rfl (by decide) kX9_scheme_26 rfl rfl dX9_scheme_68 ?_
        refine b_iload_n C dX9_scheme_71 rfl 2 rfl ?_
        refine b_aload_n C dX9_scheme_72 rfl 1 rfl ?_
        refine b_getR C hiX9_scheme_9 9 1 (0) (by decide) (by decide) rfl (by decide) kX9_scheme_19 rfl rfl dX9_scheme_73 ?_
        obtain ⟨y7, τ8, hqy7, hf⟩ := bd_inv hf
        refine b_callVi (n := 2) C (6) 6 (isObj_s (by decide) (by decide)) rfl (fun G => [.int (x1), .ref (G.1 (0))]) (c_X6_enter (x1)) hqy7 gX9_scheme_X6_enter rfl (by decide +kernel) rfl (by decide) (by decide) (Nat.le_of_ble_eq_true rfl) dX9_scheme_76 ?_
        refine b_istore_n (lv' := [(3, .int (y7)), (2, .int (y3)), (0, .ref (ad X (9))), (1, .int (x1))]) C dX9_scheme_79 rfl (by decide) rfl ?_
        refine b_aload_n C dX9_scheme_80 rfl 2 rfl ?_
        refine b_iload_n C dX9_scheme_81 rfl 3 rfl ?_
        obtain ⟨y9, τ10, hqy9, hf⟩ := bd_inv hf
        refine b_callVv (n := 1) C (9) 9 (isObj_s (by decide) (by decide)) rfl (fun _ => [.int (x1)]) (c_X9_weighReadings (x1)) hqy9 gX9_scheme_X9_weighReadings rfl (by decide +kernel) rfl (by decide) (by decide) (Nat.le_of_ble_eq_true rfl) dX9_scheme_82 ?_
        refine b_iload_n C dX9_scheme_85 rfl 0 rfl ?_
        exact hR _ _ _ _ dX9_scheme_86 hf
      · refine b_iconst C (v := (-1)) dX9_scheme_63 (by decide) ?_
        refine b_iload_n C dX9_scheme_64 rfl 0 rfl ?_
        refine b_isub C dX9_scheme_65 ?_
        exact hR _ _ _ _ dX9_scheme_66 hf
    · exact hT2 _ _ _ _ kX9_scheme_ex2 kX9_scheme_ei2 xaX9_scheme_2 dX9_scheme_31 dX9_scheme_34 dX9_scheme_35 dX9_scheme_38 (Nat.le_of_ble_eq_true rfl) hf
  · exact hT3 _ _ _ _ kX9_scheme_ex3 kX9_scheme_ei3 xaX9_scheme_3 dX9_scheme_7 dX9_scheme_10 dX9_scheme_11 dX9_scheme_14 (Nat.le_of_ble_eq_true rfl) hf
theorem hiX9_twice_9 : ∀ w ∈ wsX90, w ∈ wsX9_twice := by decide +kernel
theorem xaX9_twice_3 : ∀ w ∈ (vx_at0 RX9 100 (exN 3) exS).filter goodWord, w ∈ wsX9_twice := fun _ h => List.mem_cons_of_mem _ (List.mem_append_right _ h)
theorem kX9_twice_70 : Cond.fieldLink RX9 70 "ScriptRoom" "doubled" "LScriptRoom$Row;" ∈ wsX9_twice := by decide +kernel
theorem kX9_twice_ex3 : Cond.classLink RX9 98 (exN 3) ∈ wsX9_twice := by decide +kernel
theorem kX9_twice_ei3 : Cond.initialized (exN 3) ∈ wsX9_twice := by decide +kernel
set_option maxHeartbeats 4000000 in
set_option maxRecDepth 100000 in
theorem c_X9_twice (x1 x2 : Int32) (l : Launch) (hfl : l.stackTraces = false) : Cte l yX9_twice wsX9_twice 6 89 (fun G => [.ref (G.1 (9)), .int (x1), .int (x2)]) (f_X9_twice x1 x2) := by
  refine mk_ez (cc := cX9_twice) (nL := 4) hfl (by decide) rfl rfl (fun _ => Nat.le_of_ble_eq_true rfl) (Nat.le_of_ble_eq_true rfl) (Nat.le_of_ble_eq_true rfl) (fun X o σ rv C hR hT1 hT2 hT3 hf => ?_)
  show Bk X 4 o 0 0 0 [(0, .ref (ad X (9))), (1, .int (x1)), (2, .int (x2))] [] σ
  unfold f_X9_twice at hf
  refine b_iload_n C dX9_twice_0 rfl 1 rfl ?_
  obtain ⟨y1, τ2, hqy1, hf⟩ := bd_inv hf
  refine b_callSi (n := 1) C (fun _ => [.int (x1)]) (c_X9_isQuestion (x1)) hqy1 gX9_twice_X9_isQuestion rfl (by decide +kernel) rfl (by decide) (by decide) (Nat.le_of_ble_eq_true rfl) dX9_twice_1 ?_
  refine b_if_ne C 15 dX9_twice_4 (by decide) hf (fun hf => ?_) (fun hf => ?_)
  · refine b_aload_n C dX9_twice_15 rfl 0 rfl ?_
    refine b_getR C hiX9_twice_9 9 8 (11 + 41) (by decide) (by decide) rfl (by decide) kX9_twice_70 rfl rfl dX9_twice_16 ?_
    refine b_iload_n C dX9_twice_19 rfl 1 rfl ?_
    refine b_callVi (n := 1) C (11 + 41) 5 (isObj_r (by decide)) rfl (fun _ => [.int (x1)]) (c_X5_is 41 (by decide) (x1)) (e_is 41 (by decide) (x1) _) gX9_twice_X5_is rfl (by decide +kernel) rfl (by decide) (by decide) (Nat.le_of_ble_eq_true rfl) dX9_twice_20 ?_
    refine b_nv hf (fun y3 hf => ?_)
    refine b_istore_n (lv' := [(3, .int (y3)), (0, .ref (ad X (9))), (1, .int (x1)), (2, .int (x2))]) C dX9_twice_23 rfl (by decide) rfl ?_
    refine b_aload_n C dX9_twice_24 rfl 1 rfl ?_
    refine b_getR C hiX9_twice_9 9 8 (11 + 41) (by decide) (by decide) rfl (by decide) kX9_twice_70 rfl rfl dX9_twice_25 ?_
    refine b_iload_n C dX9_twice_28 rfl 2 rfl ?_
    refine b_iload_n C dX9_twice_29 rfl 3 rfl ?_
    refine b_callVv (n := 2) C (11 + 41) 5 (isObj_r (by decide)) rfl (fun _ => [.int (x1), .int (x2)]) (c_X5_put 41 (by decide) (x1) (x2)) (e_put 41 (by decide) (x1) (x2) _) gX9_twice_X5_put rfl (by decide +kernel) rfl (by decide) (by decide) (Nat.le_of_ble_eq_true rfl) dX9_twice_30 ?_
    refine b_nw hf (fun τ4 hf => ?_)
    refine b_iload_n C dX9_twice_33 rfl 0 rfl ?_
    exact hR _ _ _ _ dX9_twice_34 hf
  · exact hT3 _ _ _ _ kX9_twice_ex3 kX9_twice_ei3 xaX9_twice_3 dX9_twice_7 dX9_twice_10 dX9_twice_11 dX9_twice_14 (Nat.le_of_ble_eq_true rfl) hf
theorem hiX9_tolerance_9 : ∀ w ∈ wsX90, w ∈ wsX9_tolerance := by decide +kernel
theorem xaX9_tolerance_1 : ∀ w ∈ (vx_at0 RX9 83 (exN 1) exS).filter goodWord, w ∈ wsX9_tolerance := fun _ h => List.mem_cons_of_mem _ (List.mem_append_right _ h)
theorem kX9_tolerance_ex1 : Cond.classLink RX9 81 (exN 1) ∈ wsX9_tolerance := by decide +kernel
theorem kX9_tolerance_ei1 : Cond.initialized (exN 1) ∈ wsX9_tolerance := by decide +kernel
theorem kX9_tolerance_77 : Cond.fieldLink RX9 77 "ScriptRoom" "apartAtMost" "I" ∈ wsX9_tolerance := by decide +kernel
set_option maxHeartbeats 4000000 in
set_option maxRecDepth 100000 in
theorem w_X9_tolerance_10 {X : Ctx} {o : Int64} {rv : (Nat × Int32) × Mem} (C : Cx X cX9_tolerance RX9 wsX9_tolerance 3 6 89) (hR : Rxi X cX9_tolerance 3 o rv) (hT1 : Xt X 3 o rv RX9 1 81 83 cX9_tolerance wsX9_tolerance) (hT2 : Xt X 3 o rv RX9 2 87 89 cX9_tolerance wsX9_tolerance) (hT3 : Xt X 3 o rv RX9 3 98 100 cX9_tolerance wsX9_tolerance) : ∀ (σ : Mem), some rv = f_X9_tolerance_10 σ → Bk X 3 o 0 0 10 [] [] σ := by
  intro σ hf
  unfold f_X9_tolerance_10 at hf
  exact hT1 _ _ _ _ kX9_tolerance_ex1 kX9_tolerance_ei1 xaX9_tolerance_1 dX9_tolerance_10 dX9_tolerance_13 dX9_tolerance_14 dX9_tolerance_17 (Nat.le_of_ble_eq_true rfl) hf
set_option maxHeartbeats 4000000 in
set_option maxRecDepth 100000 in
theorem c_X9_tolerance (x1 : Int32) (l : Launch) (hfl : l.stackTraces = false) : Cte l yX9_tolerance wsX9_tolerance 6 89 (fun G => [.ref (G.1 (9)), .int (x1)]) (f_X9_tolerance x1) := by
  refine mk_ei (cc := cX9_tolerance) (nL := 3) hfl (by decide) rfl rfl (fun _ => Nat.le_of_ble_eq_true rfl) (Nat.le_of_ble_eq_true rfl) (Nat.le_of_ble_eq_true rfl) (fun X o σ rv C hR hT1 hT2 hT3 hf => ?_)
  show Bk X 3 o 0 0 0 [(0, .ref (ad X (9))), (1, .int (x1))] [] σ
  unfold f_X9_tolerance at hf
  refine b_iload_n C dX9_tolerance_0 rfl 1 rfl ?_
  refine b_if_lt C 10 dX9_tolerance_1 (by decide) hf (fun hf => ?_) (fun hf => ?_)
  · refine b_sub [] rfl ?_
    exact w_X9_tolerance_10 C hR hT1 hT2 hT3 _ hf
  · refine b_iload_n C dX9_tolerance_4 rfl 1 rfl ?_
    refine b_bipush C (v := 9) dX9_tolerance_5 (by decide) ?_
    refine b_icmp_le C 18 dX9_tolerance_7 (by decide) hf (fun hf => ?_) (fun hf => ?_)
    · refine b_aload_n C dX9_tolerance_18 rfl 0 rfl ?_
      refine b_getS C hiX9_tolerance_9 9 10 17 (by decide) (by decide) rfl (by decide) kX9_tolerance_77 rfl rfl dX9_tolerance_19 ?_
      refine b_nv hf (fun y1 hf => ?_)
      refine b_istore_n (lv' := [(2, .int (y1)), (0, .ref (ad X (9))), (1, .int (x1))]) C dX9_tolerance_22 rfl (by decide) rfl ?_
      refine b_aload_n C dX9_tolerance_23 rfl 1 rfl ?_
      refine b_iload_n C dX9_tolerance_24 rfl 2 rfl ?_
      refine b_putS C (ty := .int) hiX9_tolerance_9 tyX9 tyX9_ok nmX9 9 10 17 (by decide) (by decide) rfl (by decide) kX9_tolerance_77 rfl rfl (by decide +kernel) rfl rfl rfl dX9_tolerance_25 ?_
      refine b_nw hf (fun τ2 hf => ?_)
      refine b_iload_n C dX9_tolerance_28 rfl 0 rfl ?_
      exact hR _ _ _ _ dX9_tolerance_29 hf
    · refine b_sub [] rfl ?_
      exact w_X9_tolerance_10 C hR hT1 hT2 hT3 _ hf
theorem hiX9_reader_4 : ∀ w ∈ wsX40, w ∈ wsX9_reader := by decide +kernel
theorem hiX9_reader_9 : ∀ w ∈ wsX90, w ∈ wsX9_reader := by decide +kernel
theorem xaX9_reader_1 : ∀ w ∈ (vx_at0 RX9 83 (exN 1) exS).filter goodWord, w ∈ wsX9_reader := fun _ h => List.mem_cons_of_mem _ (List.mem_append_left _ (List.mem_append_right _ h))
theorem xaX9_reader_2 : ∀ w ∈ (vx_at0 RX9 89 (exN 2) exS).filter goodWord, w ∈ wsX9_reader := fun _ h => List.mem_cons_of_mem _ (List.mem_append_right _ h)
theorem kX9_reader_ex1 : Cond.classLink RX9 81 (exN 1) ∈ wsX9_reader := by decide +kernel
theorem kX9_reader_ei1 : Cond.initialized (exN 1) ∈ wsX9_reader := by decide +kernel
theorem kX9_reader_40 : Cond.fieldLink RX9 40 "ScriptRoom" "readers" "LScriptRoom$Readers;" ∈ wsX9_reader := by decide +kernel
theorem kX9_reader_142 : Cond.fieldLink RX9 142 "ScriptRoom$Readers" "count" "I" ∈ wsX9_reader := by decide +kernel
theorem kX9_reader_ex2 : Cond.classLink RX9 87 (exN 2) ∈ wsX9_reader := by decide +kernel
theorem kX9_reader_ei2 : Cond.initialized (exN 2) ∈ wsX9_reader := by decide +kernel
set_option maxHeartbeats 4000000 in
set_option maxRecDepth 100000 in
theorem w_X9_reader_21 {X : Ctx} {o : Int64} {rv : (Nat × Int32) × Mem} (C : Cx X cX9_reader RX9 wsX9_reader 4 6 89) (hR : Rxi X cX9_reader 4 o rv) (hT1 : Xt X 4 o rv RX9 1 81 83 cX9_reader wsX9_reader) (hT2 : Xt X 4 o rv RX9 2 87 89 cX9_reader wsX9_reader) (hT3 : Xt X 4 o rv RX9 3 98 100 cX9_reader wsX9_reader) : ∀ (σ : Mem), some rv = f_X9_reader_21 σ → Bk X 4 o 0 0 21 [] [] σ := by
  intro σ hf
  unfold f_X9_reader_21 at hf
  exact hT1 _ _ _ _ kX9_reader_ex1 kX9_reader_ei1 xaX9_reader_1 dX9_reader_21 dX9_reader_24 dX9_reader_25 dX9_reader_28 (Nat.le_of_ble_eq_true rfl) hf
set_option maxHeartbeats 4000000 in
set_option maxRecDepth 100000 in
theorem c_X9_reader (x1 x2 x3 : Int32) (l : Launch) (hfl : l.stackTraces = false) : Cte l yX9_reader wsX9_reader 6 89 (fun G => [.ref (G.1 (9)), .int (x1), .int (x2), .int (x3)]) (f_X9_reader x1 x2 x3) := by
  refine mk_ei (cc := cX9_reader) (nL := 4) hfl (by decide) rfl rfl (fun _ => Nat.le_of_ble_eq_true rfl) (Nat.le_of_ble_eq_true rfl) (Nat.le_of_ble_eq_true rfl) (fun X o σ rv C hR hT1 hT2 hT3 hf => ?_)
  show Bk X 4 o 0 0 0 [(0, .ref (ad X (9))), (1, .int (x1)), (2, .int (x2)), (3, .int (x3))] [] σ
  unfold f_X9_reader at hf
  refine b_iload_n C dX9_reader_0 rfl 1 rfl ?_
  refine b_iconst C (v := (-1)) dX9_reader_1 (by decide) ?_
  refine b_icmp_lt C 21 dX9_reader_2 (by decide) hf (fun hf => ?_) (fun hf => ?_)
  · refine b_sub [] rfl ?_
    exact w_X9_reader_21 C hR hT1 hT2 hT3 _ hf
  · refine b_iload_n C dX9_reader_5 rfl 1 rfl ?_
    refine b_iconst C (v := 4) dX9_reader_6 (by decide) ?_
    refine b_icmp_gt C 21 dX9_reader_7 (by decide) hf (fun hf => ?_) (fun hf => ?_)
    · refine b_sub [] rfl ?_
      exact w_X9_reader_21 C hR hT1 hT2 hT3 _ hf
    · refine b_iload_n C dX9_reader_10 rfl 2 rfl ?_
      refine b_iconst C (v := 1) dX9_reader_11 (by decide) ?_
      refine b_icmp_lt C 21 dX9_reader_12 (by decide) hf (fun hf => ?_) (fun hf => ?_)
      · refine b_sub [] rfl ?_
        exact w_X9_reader_21 C hR hT1 hT2 hT3 _ hf
      · refine b_iload_n C dX9_reader_15 rfl 2 rfl ?_
        refine b_bipush C (v := 15) dX9_reader_16 (by decide) ?_
        refine b_icmp_le C 29 dX9_reader_18 (by decide) hf (fun hf => ?_) (fun hf => ?_)
        · refine b_aload_n C dX9_reader_29 rfl 0 rfl ?_
          refine b_getR C hiX9_reader_9 9 4 (4) (by decide) (by decide) rfl (by decide) kX9_reader_40 rfl rfl dX9_reader_30 ?_
          refine b_getS C hiX9_reader_4 4 0 8 (by decide) (by decide) rfl (by decide) kX9_reader_142 rfl rfl dX9_reader_33 ?_
          refine b_bipush C (v := 6) dX9_reader_36 (by decide) ?_
          refine b_icmp_lt C 49 dX9_reader_38 (by decide) hf (fun hf => ?_) (fun hf => ?_)
          · refine b_aload_n C dX9_reader_49 rfl 0 rfl ?_
            refine b_getR C hiX9_reader_9 9 4 (4) (by decide) (by decide) rfl (by decide) kX9_reader_40 rfl rfl dX9_reader_50 ?_
            refine b_iload_n C dX9_reader_53 rfl 1 rfl ?_
            refine b_iload_n C dX9_reader_54 rfl 2 rfl ?_
            refine b_iload_n C dX9_reader_55 rfl 3 rfl ?_
            obtain ⟨y1, τ2, hqy1, hf⟩ := bd_inv hf
            refine b_callVi (n := 3) C (4) 4 (isObj_s (by decide) (by decide)) rfl (fun _ => [.int (x1), .int (x2), .int (x3)]) (c_X4_enter (x1) (x2) (x3)) hqy1 gX9_reader_X4_enter rfl (by decide +kernel) rfl (by decide) (by decide) (Nat.le_of_ble_eq_true rfl) dX9_reader_56 ?_
            exact hR _ _ _ _ dX9_reader_59 hf
          · exact hT2 _ _ _ _ kX9_reader_ex2 kX9_reader_ei2 xaX9_reader_2 dX9_reader_41 dX9_reader_44 dX9_reader_45 dX9_reader_48 (Nat.le_of_ble_eq_true rfl) hf
        · refine b_sub [] rfl ?_
          exact w_X9_reader_21 C hR hT1 hT2 hT3 _ hf
theorem hiX9_seed_7 : ∀ w ∈ wsX70, w ∈ wsX9_seed := by decide +kernel
theorem hiX9_seed_9 : ∀ w ∈ wsX90, w ∈ wsX9_seed := by decide +kernel
theorem xaX9_seed_1 : ∀ w ∈ (vx_at0 RX9 83 (exN 1) exS).filter goodWord, w ∈ wsX9_seed := fun _ h => List.mem_cons_of_mem _ (List.mem_append_left _ (List.mem_append_right _ h))
theorem xaX9_seed_2 : ∀ w ∈ (vx_at0 RX9 89 (exN 2) exS).filter goodWord, w ∈ wsX9_seed := fun _ h => List.mem_cons_of_mem _ (List.mem_append_right _ h)
theorem xaX9_seed_3 : ∀ w ∈ (vx_at0 RX9 100 (exN 3) exS).filter goodWord, w ∈ wsX9_seed := fun _ h => List.mem_cons_of_mem _ (List.mem_append_left _ (List.mem_append_left _ (List.mem_append_right _ h)))
theorem kX9_seed_ex2 : Cond.classLink RX9 87 (exN 2) ∈ wsX9_seed := by decide +kernel
theorem kX9_seed_ei2 : Cond.initialized (exN 2) ∈ wsX9_seed := by decide +kernel
theorem kX9_seed_47 : Cond.fieldLink RX9 47 "ScriptRoom" "seeds" "LScriptRoom$Seeds;" ∈ wsX9_seed := by decide +kernel
theorem kX9_seed_147 : Cond.fieldLink RX9 147 "ScriptRoom$Seeds" "count" "I" ∈ wsX9_seed := by decide +kernel
theorem kX9_seed_26 : Cond.fieldLink RX9 26 "ScriptRoom" "schemes" "LScriptRoom$Schemes;" ∈ wsX9_seed := by decide +kernel
theorem kX9_seed_ex1 : Cond.classLink RX9 81 (exN 1) ∈ wsX9_seed := by decide +kernel
theorem kX9_seed_ei1 : Cond.initialized (exN 1) ∈ wsX9_seed := by decide +kernel
theorem kX9_seed_ex3 : Cond.classLink RX9 98 (exN 3) ∈ wsX9_seed := by decide +kernel
theorem kX9_seed_ei3 : Cond.initialized (exN 3) ∈ wsX9_seed := by decide +kernel
set_option maxHeartbeats 4000000 in
set_option maxRecDepth 100000 in
theorem w_X9_seed_53 {X : Ctx} {o : Int64} {rv : (Nat × Int32) × Mem} (C : Cx X cX9_seed RX9 wsX9_seed 3 6 89) (hR : Rxi X cX9_seed 3 o rv) (hT1 : Xt X 3 o rv RX9 1 81 83 cX9_seed wsX9_seed) (hT2 : Xt X 3 o rv RX9 2 87 89 cX9_seed wsX9_seed) (hT3 : Xt X 3 o rv RX9 3 98 100 cX9_seed wsX9_seed) : ∀ (σ : Mem), some rv = f_X9_seed_53 σ → Bk X 3 o 0 0 53 [] [] σ := by
  intro σ hf
  unfold f_X9_seed_53 at hf
  exact hT2 _ _ _ _ kX9_seed_ex2 kX9_seed_ei2 xaX9_seed_2 dX9_seed_53 dX9_seed_56 dX9_seed_57 dX9_seed_60 (Nat.le_of_ble_eq_true rfl) hf
set_option maxHeartbeats 4000000 in
set_option maxRecDepth 100000 in
theorem c_X9_seed (x1 x2 : Int32) (l : Launch) (hfl : l.stackTraces = false) : Cte l yX9_seed wsX9_seed 6 89 (fun G => [.ref (G.1 (9)), .int (x1), .int (x2)]) (f_X9_seed x1 x2) := by
  refine mk_ei (cc := cX9_seed) (nL := 3) hfl (by decide) rfl rfl (fun _ => Nat.le_of_ble_eq_true rfl) (Nat.le_of_ble_eq_true rfl) (Nat.le_of_ble_eq_true rfl) (fun X o σ rv C hR hT1 hT2 hT3 hf => ?_)
  show Bk X 3 o 0 0 0 [(0, .ref (ad X (9))), (1, .int (x1)), (2, .int (x2))] [] σ
  unfold f_X9_seed at hf
  refine b_iload_n C dX9_seed_0 rfl 1 rfl ?_
  obtain ⟨y1, τ2, hqy1, hf⟩ := bd_inv hf
  refine b_callSi (n := 1) C (fun _ => [.int (x1)]) (c_X9_isQuestion (x1)) hqy1 gX9_seed_X9_isQuestion rfl (by decide +kernel) rfl (by decide) (by decide) (Nat.le_of_ble_eq_true rfl) dX9_seed_1 ?_
  refine b_if_ne C 15 dX9_seed_4 (by decide) hf (fun hf => ?_) (fun hf => ?_)
  · refine b_iload_n C dX9_seed_15 rfl 2 rfl ?_
    obtain ⟨y3, τ4, hqy3, hf⟩ := bd_inv hf
    refine b_callSi (n := 1) C (fun _ => [.int (x2)]) (c_X9_arePoints (x2)) hqy3 gX9_seed_X9_arePoints rfl (by decide +kernel) rfl (by decide) (by decide) (Nat.le_of_ble_eq_true rfl) dX9_seed_16 ?_
    refine b_if_ne C 30 dX9_seed_19 (by decide) hf (fun hf => ?_) (fun hf => ?_)
    · refine b_aload_n C dX9_seed_30 rfl 0 rfl ?_
      refine b_getR C hiX9_seed_9 9 5 (7) (by decide) (by decide) rfl (by decide) kX9_seed_47 rfl rfl dX9_seed_31 ?_
      refine b_getS C hiX9_seed_7 7 0 9 (by decide) (by decide) rfl (by decide) kX9_seed_147 rfl rfl dX9_seed_34 ?_
      refine b_bipush C (v := 8) dX9_seed_37 (by decide) ?_
      refine b_icmp_ge C 53 dX9_seed_39 (by decide) hf (fun hf => ?_) (fun hf => ?_)
      · refine b_sub [] rfl ?_
        exact w_X9_seed_53 C hR hT1 hT2 hT3 _ hf
      · refine b_aload_n C dX9_seed_42 rfl 0 rfl ?_
        refine b_getR C hiX9_seed_9 9 2 (6) (by decide) (by decide) rfl (by decide) kX9_seed_26 rfl rfl dX9_seed_43 ?_
        refine b_iload_n C dX9_seed_46 rfl 1 rfl ?_
        obtain ⟨y5, τ6, hqy5, hf⟩ := bd_inv hf
        refine b_callVi (n := 1) C (6) 6 (isObj_s (by decide) (by decide)) rfl (fun _ => [.int (x1)]) (c_X6_holdsFor (x1)) hqy5 gX9_seed_X6_holdsFor rfl (by decide +kernel) rfl (by decide) (by decide) (Nat.le_of_ble_eq_true rfl) dX9_seed_47 ?_
        refine b_if_ne C 61 dX9_seed_50 (by decide) hf (fun hf => ?_) (fun hf => ?_)
        · refine b_aload_n C dX9_seed_61 rfl 0 rfl ?_
          refine b_getR C hiX9_seed_9 9 5 (7) (by decide) (by decide) rfl (by decide) kX9_seed_47 rfl rfl dX9_seed_62 ?_
          refine b_iload_n C dX9_seed_65 rfl 1 rfl ?_
          refine b_iload_n C dX9_seed_66 rfl 2 rfl ?_
          obtain ⟨y7, τ8, hqy7, hf⟩ := bd_inv hf
          refine b_callVi (n := 2) C (7) 7 (isObj_s (by decide) (by decide)) rfl (fun _ => [.int (x1), .int (x2)]) (c_X7_enter (x1) (x2)) hqy7 gX9_seed_X7_enter rfl (by decide +kernel) rfl (by decide) (by decide) (Nat.le_of_ble_eq_true rfl) dX9_seed_67 ?_
          exact hR _ _ _ _ dX9_seed_70 hf
        · refine b_sub [] rfl ?_
          exact w_X9_seed_53 C hR hT1 hT2 hT3 _ hf
    · exact hT1 _ _ _ _ kX9_seed_ex1 kX9_seed_ei1 xaX9_seed_1 dX9_seed_22 dX9_seed_25 dX9_seed_26 dX9_seed_29 (Nat.le_of_ble_eq_true rfl) hf
  · exact hT3 _ _ _ _ kX9_seed_ex3 kX9_seed_ei3 xaX9_seed_3 dX9_seed_7 dX9_seed_10 dX9_seed_11 dX9_seed_14 (Nat.le_of_ble_eq_true rfl) hf
theorem hiX9_next_4 : ∀ w ∈ wsX40, w ∈ wsX9_next := by decide +kernel
theorem hiX9_next_9 : ∀ w ∈ wsX90, w ∈ wsX9_next := by decide +kernel
theorem xaX9_next_2 : ∀ w ∈ (vx_at0 RX9 89 (exN 2) exS).filter goodWord, w ∈ wsX9_next := fun _ h => List.mem_cons_of_mem _ (List.mem_append_right _ h)
theorem xaX9_next_3 : ∀ w ∈ (vx_at0 RX9 100 (exN 3) exS).filter goodWord, w ∈ wsX9_next := fun _ h => List.mem_cons_of_mem _ (List.mem_append_left _ (List.mem_append_right _ h))
theorem kX9_next_40 : Cond.fieldLink RX9 40 "ScriptRoom" "readers" "LScriptRoom$Readers;" ∈ wsX9_next := by decide +kernel
theorem kX9_next_158 : Cond.fieldLink RX9 158 "ScriptRoom$Readers" "hands" "LScriptRoom$Row;" ∈ wsX9_next := by decide +kernel
theorem kX9_next_155 : Cond.fieldLink RX9 155 "ScriptRoom$Readers" "stopped" "LScriptRoom$Row;" ∈ wsX9_next := by decide +kernel
theorem kX9_next_ex2 : Cond.classLink RX9 87 (exN 2) ∈ wsX9_next := by decide +kernel
theorem kX9_next_ei2 : Cond.initialized (exN 2) ∈ wsX9_next := by decide +kernel
theorem kX9_next_ex3 : Cond.classLink RX9 98 (exN 3) ∈ wsX9_next := by decide +kernel
theorem kX9_next_ei3 : Cond.initialized (exN 3) ∈ wsX9_next := by decide +kernel
set_option maxHeartbeats 4000000 in
set_option maxRecDepth 100000 in
theorem w_X9_next_61 {X : Ctx} {o : Int64} {rv : (Nat × Int32) × Mem} (C : Cx X cX9_next RX9 wsX9_next 2 6 142) (hR : Rxi X cX9_next 2 o rv) (hT1 : Xt X 2 o rv RX9 1 81 83 cX9_next wsX9_next) (hT2 : Xt X 2 o rv RX9 2 87 89 cX9_next wsX9_next) (hT3 : Xt X 2 o rv RX9 3 98 100 cX9_next wsX9_next) : ∀ (v1 : Int32) (σ : Mem), some rv = f_X9_next_61 v1 σ → Bk X 2 o 0 0 61 [(0, .ref (ad X (9))), (1, .int (v1))] [] σ := by
  intro v1 σ hf
  unfold f_X9_next_61 at hf
  refine b_aload_n C dX9_next_61 rfl 0 rfl ?_
  refine b_getR C hiX9_next_9 9 4 (4) (by decide) (by decide) rfl (by decide) kX9_next_40 rfl rfl dX9_next_62 ?_
  refine b_getR C hiX9_next_4 4 4 (11 + 22) (by decide) (by decide) rfl (by decide) kX9_next_158 rfl rfl dX9_next_65 ?_
  refine b_iload_n C dX9_next_68 rfl 1 rfl ?_
  refine b_callVi (n := 1) C (11 + 22) 5 (isObj_r (by decide)) rfl (fun _ => [.int (v1)]) (c_X5_get 22 (by decide) (v1)) (e_get 22 (by decide) (v1) _) gX9_next_X5_get rfl (by decide +kernel) rfl (by decide) (by decide) (Nat.le_of_ble_eq_true rfl) dX9_next_69 ?_
  exact hR _ _ _ _ dX9_next_72 hf
set_option maxHeartbeats 4000000 in
set_option maxRecDepth 100000 in
theorem c_X9_next (x1 : Int32) (l : Launch) (hfl : l.stackTraces = false) : Cte l yX9_next wsX9_next 6 142 (fun G => [.ref (G.1 (9)), .int (x1)]) (f_X9_next x1) := by
  refine mk_ei (cc := cX9_next) (nL := 2) hfl (by decide) rfl rfl (fun _ => Nat.le_of_ble_eq_true rfl) (Nat.le_of_ble_eq_true rfl) (Nat.le_of_ble_eq_true rfl) (fun X o σ rv C hR hT1 hT2 hT3 hf => ?_)
  show Bk X 2 o 0 0 0 [(0, .ref (ad X (9))), (1, .int (x1))] [] σ
  unfold f_X9_next at hf
  refine b_aload_n C dX9_next_0 rfl 0 rfl ?_
  refine b_getR C hiX9_next_9 9 4 (4) (by decide) (by decide) rfl (by decide) kX9_next_40 rfl rfl dX9_next_1 ?_
  refine b_iload_n C dX9_next_4 rfl 1 rfl ?_
  obtain ⟨y1, τ2, hqy1, hf⟩ := bd_inv hf
  refine b_callVi (n := 1) C (4) 4 (isObj_s (by decide) (by decide)) rfl (fun _ => [.int (x1)]) (c_X4_has (x1)) hqy1 gX9_next_X4_has rfl (by decide +kernel) rfl (by decide) (by decide) (Nat.le_of_ble_eq_true rfl) dX9_next_5 ?_
  refine b_if_ne C 19 dX9_next_8 (by decide) hf (fun hf => ?_) (fun hf => ?_)
  · refine b_aload_n C dX9_next_19 rfl 0 rfl ?_
    refine b_getR C hiX9_next_9 9 4 (4) (by decide) (by decide) rfl (by decide) kX9_next_40 rfl rfl dX9_next_20 ?_
    refine b_getR C hiX9_next_4 4 3 (11 + 21) (by decide) (by decide) rfl (by decide) kX9_next_155 rfl rfl dX9_next_23 ?_
    refine b_iload_n C dX9_next_26 rfl 1 rfl ?_
    refine b_callVi (n := 1) C (11 + 21) 5 (isObj_r (by decide)) rfl (fun _ => [.int (x1)]) (c_X5_is 21 (by decide) (x1)) (e_is 21 (by decide) (x1) _) gX9_next_X5_is rfl (by decide +kernel) rfl (by decide) (by decide) (Nat.le_of_ble_eq_true rfl) dX9_next_27 ?_
    refine b_if_eq C 41 dX9_next_30 (by decide) hf (fun hf => ?_) (fun hf => ?_)
    · refine b_aload_n C dX9_next_41 rfl 0 rfl ?_
      refine b_getR C hiX9_next_9 9 4 (4) (by decide) (by decide) rfl (by decide) kX9_next_40 rfl rfl dX9_next_42 ?_
      refine b_getR C hiX9_next_4 4 4 (11 + 22) (by decide) (by decide) rfl (by decide) kX9_next_158 rfl rfl dX9_next_45 ?_
      refine b_iload_n C dX9_next_48 rfl 1 rfl ?_
      refine b_callVi (n := 1) C (11 + 22) 5 (isObj_r (by decide)) rfl (fun _ => [.int (x1)]) (c_X5_get 22 (by decide) (x1)) (e_get 22 (by decide) (x1) _) gX9_next_X5_get rfl (by decide +kernel) rfl (by decide) (by decide) (Nat.le_of_ble_eq_true rfl) dX9_next_49 ?_
      refine b_iconst C (v := (-1)) dX9_next_52 (by decide) ?_
      refine b_icmp_ne C 61 dX9_next_53 (by decide) hf (fun hf => ?_) (fun hf => ?_)
      · exact w_X9_next_61 C hR hT1 hT2 hT3 _ _ hf
      · refine b_aload_n C dX9_next_56 rfl 0 rfl ?_
        refine b_iload_n C dX9_next_57 rfl 1 rfl ?_
        obtain ⟨y3, τ4, hqy3, hf⟩ := bd_inv hf
        refine b_callVv (n := 1) C (9) 9 (isObj_s (by decide) (by decide)) rfl (fun _ => [.int (x1)]) (c_X9_giveWhatIsNext (x1)) hqy3 gX9_next_X9_giveWhatIsNext rfl (by decide +kernel) rfl (by decide) (by decide) (Nat.le_of_ble_eq_true rfl) dX9_next_58 ?_
        exact w_X9_next_61 C hR hT1 hT2 hT3 _ _ hf
    · exact hT2 _ _ _ _ kX9_next_ex2 kX9_next_ei2 xaX9_next_2 dX9_next_33 dX9_next_36 dX9_next_37 dX9_next_40 (Nat.le_of_ble_eq_true rfl) hf
  · exact hT3 _ _ _ _ kX9_next_ex3 kX9_next_ei3 xaX9_next_3 dX9_next_11 dX9_next_14 dX9_next_15 dX9_next_18 (Nat.le_of_ble_eq_true rfl) hf
theorem hiX9_read_2 : ∀ w ∈ wsX20, w ∈ wsX9_read := by decide +kernel
theorem hiX9_read_4 : ∀ w ∈ wsX40, w ∈ wsX9_read := by decide +kernel
theorem hiX9_read_9 : ∀ w ∈ wsX90, w ∈ wsX9_read := by decide +kernel
theorem xaX9_read_1 : ∀ w ∈ (vx_at0 RX9 83 (exN 1) exS).filter goodWord, w ∈ wsX9_read := fun _ h => List.mem_cons_of_mem _ (List.mem_append_left _ (List.mem_append_right _ h))
theorem xaX9_read_2 : ∀ w ∈ (vx_at0 RX9 89 (exN 2) exS).filter goodWord, w ∈ wsX9_read := fun _ h => List.mem_cons_of_mem _ (List.mem_append_right _ h)
theorem xaX9_read_3 : ∀ w ∈ (vx_at0 RX9 100 (exN 3) exS).filter goodWord, w ∈ wsX9_read := fun _ h => List.mem_cons_of_mem _ (List.mem_append_left _ (List.mem_append_left _ (List.mem_append_right _ h)))
theorem kX9_read_ex2 : Cond.classLink RX9 87 (exN 2) ∈ wsX9_read := by decide +kernel
theorem kX9_read_ei2 : Cond.initialized (exN 2) ∈ wsX9_read := by decide +kernel
theorem kX9_read_54 : Cond.fieldLink RX9 54 "ScriptRoom" "log" "LScriptRoom$Log;" ∈ wsX9_read := by decide +kernel
theorem kX9_read_164 : Cond.fieldLink RX9 164 "ScriptRoom$Log" "count" "I" ∈ wsX9_read := by decide +kernel
theorem kX9_read_40 : Cond.fieldLink RX9 40 "ScriptRoom" "readers" "LScriptRoom$Readers;" ∈ wsX9_read := by decide +kernel
theorem kX9_read_158 : Cond.fieldLink RX9 158 "ScriptRoom$Readers" "hands" "LScriptRoom$Row;" ∈ wsX9_read := by decide +kernel
theorem kX9_read_ex1 : Cond.classLink RX9 81 (exN 1) ∈ wsX9_read := by decide +kernel
theorem kX9_read_ei1 : Cond.initialized (exN 1) ∈ wsX9_read := by decide +kernel
theorem kX9_read_ex3 : Cond.classLink RX9 98 (exN 3) ∈ wsX9_read := by decide +kernel
theorem kX9_read_ei3 : Cond.initialized (exN 3) ∈ wsX9_read := by decide +kernel
set_option maxHeartbeats 4000000 in
set_option maxRecDepth 100000 in
theorem w_X9_read_83 {X : Ctx} {o : Int64} {rv : (Nat × Int32) × Mem} (C : Cx X cX9_read RX9 wsX9_read 5 6 122) (hR : Rxi X cX9_read 5 o rv) (hT1 : Xt X 5 o rv RX9 1 81 83 cX9_read wsX9_read) (hT2 : Xt X 5 o rv RX9 2 87 89 cX9_read wsX9_read) (hT3 : Xt X 5 o rv RX9 3 98 100 cX9_read wsX9_read) : ∀ (σ : Mem), some rv = f_X9_read_83 σ → Bk X 5 o 0 0 83 [] [] σ := by
  intro σ hf
  unfold f_X9_read_83 at hf
  exact hT2 _ _ _ _ kX9_read_ex2 kX9_read_ei2 xaX9_read_2 dX9_read_83 dX9_read_86 dX9_read_87 dX9_read_90 (Nat.le_of_ble_eq_true rfl) hf
set_option maxHeartbeats 4000000 in
set_option maxRecDepth 100000 in
theorem w_X9_read_111 {X : Ctx} {o : Int64} {rv : (Nat × Int32) × Mem} (C : Cx X cX9_read RX9 wsX9_read 5 6 122) (hR : Rxi X cX9_read 5 o rv) (hT1 : Xt X 5 o rv RX9 1 81 83 cX9_read wsX9_read) (hT2 : Xt X 5 o rv RX9 2 87 89 cX9_read wsX9_read) (hT3 : Xt X 5 o rv RX9 3 98 100 cX9_read wsX9_read) : ∀ (s0 : Int32) (σ : Mem), some rv = f_X9_read_111 s0 σ → Bk X 5 o 0 0 111 [] [.int (s0)] σ := by
  intro s0 σ hf
  unfold f_X9_read_111 at hf
  exact hR _ _ _ _ dX9_read_111 hf
set_option maxHeartbeats 4000000 in
set_option maxRecDepth 100000 in
theorem w_X9_read_91 {X : Ctx} {o : Int64} {rv : (Nat × Int32) × Mem} (C : Cx X cX9_read RX9 wsX9_read 5 6 122) (hR : Rxi X cX9_read 5 o rv) (hT1 : Xt X 5 o rv RX9 1 81 83 cX9_read wsX9_read) (hT2 : Xt X 5 o rv RX9 2 87 89 cX9_read wsX9_read) (hT3 : Xt X 5 o rv RX9 3 98 100 cX9_read wsX9_read) : ∀ (v1 v2 v4 : Int32) (σ : Mem), some rv = f_X9_read_91 v1 v2 v4 σ → Bk X 5 o 0 0 91 [(0, .ref (ad X (9))), (1, .int (v1)), (2, .int (v2)), (4, .int (v4))] [] σ := by
  intro v1 v2 v4 σ hf
  unfold f_X9_read_91 at hf
  refine b_iload C dX9_read_91 3 rfl ?_
  refine b_if_eq C 105 dX9_read_93 (by decide) hf (fun hf => ?_) (fun hf => ?_)
  · refine b_aload_n C dX9_read_105 rfl 0 rfl ?_
    refine b_iload_n C dX9_read_106 rfl 1 rfl ?_
    refine b_iload_n C dX9_read_107 rfl 2 rfl ?_
    obtain ⟨y1, τ2, hqy1, hf⟩ := bd_inv hf
    refine b_callVi (n := 2) C (9) 9 (isObj_s (by decide) (by decide)) rfl (fun _ => [.int (v1), .int (v2)]) (c_X9_readAnswer (v1) (v2)) hqy1 gX9_read_X9_readAnswer rfl (by decide +kernel) rfl (by decide) (by decide) (Nat.le_of_ble_eq_true rfl) dX9_read_108 ?_
    refine b_sub [] rfl ?_
    exact w_X9_read_111 C hR hT1 hT2 hT3 _ _ hf
  · refine b_aload_n C dX9_read_96 rfl 0 rfl ?_
    refine b_iload_n C dX9_read_97 rfl 1 rfl ?_
    refine b_iload_n C dX9_read_98 rfl 2 rfl ?_
    obtain ⟨y3, τ4, hqy3, hf⟩ := bd_inv hf
    refine b_callVi (n := 2) C (9) 9 (isObj_s (by decide) (by decide)) rfl (fun _ => [.int (v1), .int (v2)]) (c_X9_readSeed (v1) (v2)) hqy3 gX9_read_X9_readSeed rfl (by decide +kernel) rfl (by decide) (by decide) (Nat.le_of_ble_eq_true rfl) dX9_read_99 ?_
    refine b_goto C 111 dX9_read_102 (by decide) ?_
    refine b_sub [] rfl ?_
    exact w_X9_read_111 C hR hT1 hT2 hT3 _ _ hf
set_option maxHeartbeats 4000000 in
set_option maxRecDepth 100000 in
theorem w_X9_read_58 {X : Ctx} {o : Int64} {rv : (Nat × Int32) × Mem} (C : Cx X cX9_read RX9 wsX9_read 5 6 122) (hR : Rxi X cX9_read 5 o rv) (hT1 : Xt X 5 o rv RX9 1 81 83 cX9_read wsX9_read) (hT2 : Xt X 5 o rv RX9 2 87 89 cX9_read wsX9_read) (hT3 : Xt X 5 o rv RX9 3 98 100 cX9_read wsX9_read) : ∀ (v1 v2 v3 s0 : Int32) (σ : Mem), some rv = f_X9_read_58 v1 v2 v3 s0 σ → Bk X 5 o 0 0 58 [(0, .ref (ad X (9))), (1, .int (v1)), (2, .int (v2)), (3, .int (v3))] [.int (s0)] σ := by
  intro v1 v2 v3 s0 σ hf
  unfold f_X9_read_58 at hf
  refine b_istore (lv' := [(4, .int (s0)), (0, .ref (ad X (9))), (1, .int (v1)), (2, .int (v2)), (3, .int (v3))]) C dX9_read_58 (by decide) rfl ?_
  refine b_iload_n C dX9_read_60 rfl 4 rfl ?_
  refine b_iconst C (v := (-1)) dX9_read_61 (by decide) ?_
  refine b_icmp_eq C 83 dX9_read_62 (by decide) hf (fun hf => ?_) (fun hf => ?_)
  · refine b_sub [] rfl ?_
    exact w_X9_read_83 C hR hT1 hT2 hT3 _ hf
  · refine b_iload C dX9_read_65 0 rfl ?_
    refine b_if_ne C 91 dX9_read_67 (by decide) hf (fun hf => ?_) (fun hf => ?_)
    · refine b_sub [1, 2, 3, 0] rfl ?_
      exact w_X9_read_91 C hR hT1 hT2 hT3 _ _ _ _ hf
    · refine b_aload_n C dX9_read_70 rfl 1 rfl ?_
      refine b_getR C hiX9_read_9 9 6 (2) (by decide) (by decide) rfl (by decide) kX9_read_54 rfl rfl dX9_read_71 ?_
      refine b_getS C hiX9_read_2 2 0 6 (by decide) (by decide) rfl (by decide) kX9_read_164 rfl rfl dX9_read_74 ?_
      refine b_sipush C (v := 300) dX9_read_77 (by decide) ?_
      refine b_icmp_lt C 91 dX9_read_80 (by decide) hf (fun hf => ?_) (fun hf => ?_)
      · refine b_sub [1, 2, 3, 0] rfl ?_
        exact w_X9_read_91 C hR hT1 hT2 hT3 _ _ _ _ hf
      · refine b_sub [] rfl ?_
        exact w_X9_read_83 C hR hT1 hT2 hT3 _ hf
set_option maxHeartbeats 4000000 in
set_option maxRecDepth 100000 in
theorem c_X9_read (x1 x2 : Int32) (l : Launch) (hfl : l.stackTraces = false) : Cte l yX9_read wsX9_read 6 122 (fun G => [.ref (G.1 (9)), .int (x1), .int (x2)]) (f_X9_read x1 x2) := by
  refine mk_ei (cc := cX9_read) (nL := 5) hfl (by decide) rfl rfl (fun _ => Nat.le_of_ble_eq_true rfl) (Nat.le_of_ble_eq_true rfl) (Nat.le_of_ble_eq_true rfl) (fun X o σ rv C hR hT1 hT2 hT3 hf => ?_)
  show Bk X 5 o 0 0 0 [(0, .ref (ad X (9))), (1, .int (x1)), (2, .int (x2))] [] σ
  unfold f_X9_read at hf
  refine b_aload_n C dX9_read_0 rfl 0 rfl ?_
  refine b_getR C hiX9_read_9 9 4 (4) (by decide) (by decide) rfl (by decide) kX9_read_40 rfl rfl dX9_read_1 ?_
  refine b_iload_n C dX9_read_4 rfl 1 rfl ?_
  obtain ⟨y5, τ6, hqy5, hf⟩ := bd_inv hf
  refine b_callVi (n := 1) C (4) 4 (isObj_s (by decide) (by decide)) rfl (fun _ => [.int (x1)]) (c_X4_has (x1)) hqy5 gX9_read_X4_has rfl (by decide +kernel) rfl (by decide) (by decide) (Nat.le_of_ble_eq_true rfl) dX9_read_5 ?_
  refine b_if_ne C 19 dX9_read_8 (by decide) hf (fun hf => ?_) (fun hf => ?_)
  · refine b_iload_n C dX9_read_19 rfl 2 rfl ?_
    obtain ⟨y7, τ8, hqy7, hf⟩ := bd_inv hf
    refine b_callSi (n := 1) C (fun _ => [.int (x2)]) (c_X9_arePoints (x2)) hqy7 gX9_read_X9_arePoints rfl (by decide +kernel) rfl (by decide) (by decide) (Nat.le_of_ble_eq_true rfl) dX9_read_20 ?_
    refine b_if_ne C 34 dX9_read_23 (by decide) hf (fun hf => ?_) (fun hf => ?_)
    · refine b_aload_n C dX9_read_34 rfl 0 rfl ?_
      refine b_getR C hiX9_read_9 9 4 (4) (by decide) (by decide) rfl (by decide) kX9_read_40 rfl rfl dX9_read_35 ?_
      refine b_getR C hiX9_read_4 4 4 (11 + 22) (by decide) (by decide) rfl (by decide) kX9_read_158 rfl rfl dX9_read_38 ?_
      refine b_iload_n C dX9_read_41 rfl 1 rfl ?_
      refine b_callVi (n := 1) C (11 + 22) 5 (isObj_r (by decide)) rfl (fun _ => [.int (x1)]) (c_X5_get 22 (by decide) (x1)) (e_get 22 (by decide) (x1) _) gX9_read_X5_get rfl (by decide +kernel) rfl (by decide) (by decide) (Nat.le_of_ble_eq_true rfl) dX9_read_42 ?_
      refine b_nv hf (fun y9 hf => ?_)
      refine b_istore_n (lv' := [(3, .int (y9)), (0, .ref (ad X (9))), (1, .int (x1)), (2, .int (x2))]) C dX9_read_45 rfl (by decide) rfl ?_
      refine b_iload_n C dX9_read_46 rfl 0 rfl ?_
      refine b_sipush C (v := 1000) dX9_read_47 (by decide) ?_
      refine b_icmp_lt C 57 dX9_read_50 (by decide) hf (fun hf => ?_) (fun hf => ?_)
      · refine b_iconst C (v := 0) dX9_read_57 (by decide) ?_
        refine b_sub [1, 2, 3, 0] rfl ?_
        exact w_X9_read_58 C hR hT1 hT2 hT3 _ _ _ _ _ hf
      · refine b_iconst C (v := 1) dX9_read_53 (by decide) ?_
        refine b_goto C 58 dX9_read_54 (by decide) ?_
        refine b_sub [1, 2, 3, 0] rfl ?_
        exact w_X9_read_58 C hR hT1 hT2 hT3 _ _ _ _ _ hf
    · exact hT1 _ _ _ _ kX9_read_ex1 kX9_read_ei1 xaX9_read_1 dX9_read_26 dX9_read_29 dX9_read_30 dX9_read_33 (Nat.le_of_ble_eq_true rfl) hf
  · exact hT3 _ _ _ _ kX9_read_ex3 kX9_read_ei3 xaX9_read_3 dX9_read_11 dX9_read_14 dX9_read_15 dX9_read_18 (Nat.le_of_ble_eq_true rfl) hf
theorem hiX9_goOn_2 : ∀ w ∈ wsX20, w ∈ wsX9_goOn := by decide +kernel
theorem hiX9_goOn_4 : ∀ w ∈ wsX40, w ∈ wsX9_goOn := by decide +kernel
theorem hiX9_goOn_9 : ∀ w ∈ wsX90, w ∈ wsX9_goOn := by decide +kernel
theorem xaX9_goOn_2 : ∀ w ∈ (vx_at0 RX9 89 (exN 2) exS).filter goodWord, w ∈ wsX9_goOn := fun _ h => List.mem_cons_of_mem _ (List.mem_append_right _ h)
theorem xaX9_goOn_3 : ∀ w ∈ (vx_at0 RX9 100 (exN 3) exS).filter goodWord, w ∈ wsX9_goOn := fun _ h => List.mem_cons_of_mem _ (List.mem_append_left _ (List.mem_append_right _ h))
theorem kX9_goOn_40 : Cond.fieldLink RX9 40 "ScriptRoom" "readers" "LScriptRoom$Readers;" ∈ wsX9_goOn := by decide +kernel
theorem kX9_goOn_155 : Cond.fieldLink RX9 155 "ScriptRoom$Readers" "stopped" "LScriptRoom$Row;" ∈ wsX9_goOn := by decide +kernel
theorem kX9_goOn_54 : Cond.fieldLink RX9 54 "ScriptRoom" "log" "LScriptRoom$Log;" ∈ wsX9_goOn := by decide +kernel
theorem kX9_goOn_164 : Cond.fieldLink RX9 164 "ScriptRoom$Log" "count" "I" ∈ wsX9_goOn := by decide +kernel
theorem kX9_goOn_174 : Cond.fieldLink RX9 174 "ScriptRoom$Readers" "voids" "LScriptRoom$Row;" ∈ wsX9_goOn := by decide +kernel
theorem kX9_goOn_ex2 : Cond.classLink RX9 87 (exN 2) ∈ wsX9_goOn := by decide +kernel
theorem kX9_goOn_ei2 : Cond.initialized (exN 2) ∈ wsX9_goOn := by decide +kernel
theorem kX9_goOn_ex3 : Cond.classLink RX9 98 (exN 3) ∈ wsX9_goOn := by decide +kernel
theorem kX9_goOn_ei3 : Cond.initialized (exN 3) ∈ wsX9_goOn := by decide +kernel
set_option maxHeartbeats 4000000 in
set_option maxRecDepth 100000 in
theorem c_X9_goOn (x1 : Int32) (l : Launch) (hfl : l.stackTraces = false) : Cte l yX9_goOn wsX9_goOn 6 89 (fun G => [.ref (G.1 (9)), .int (x1)]) (f_X9_goOn x1) := by
  refine mk_ei (cc := cX9_goOn) (nL := 2) hfl (by decide) rfl rfl (fun _ => Nat.le_of_ble_eq_true rfl) (Nat.le_of_ble_eq_true rfl) (Nat.le_of_ble_eq_true rfl) (fun X o σ rv C hR hT1 hT2 hT3 hf => ?_)
  show Bk X 2 o 0 0 0 [(0, .ref (ad X (9))), (1, .int (x1))] [] σ
  unfold f_X9_goOn at hf
  refine b_aload_n C dX9_goOn_0 rfl 0 rfl ?_
  refine b_getR C hiX9_goOn_9 9 4 (4) (by decide) (by decide) rfl (by decide) kX9_goOn_40 rfl rfl dX9_goOn_1 ?_
  refine b_iload_n C dX9_goOn_4 rfl 1 rfl ?_
  obtain ⟨y1, τ2, hqy1, hf⟩ := bd_inv hf
  refine b_callVi (n := 1) C (4) 4 (isObj_s (by decide) (by decide)) rfl (fun _ => [.int (x1)]) (c_X4_has (x1)) hqy1 gX9_goOn_X4_has rfl (by decide +kernel) rfl (by decide) (by decide) (Nat.le_of_ble_eq_true rfl) dX9_goOn_5 ?_
  refine b_if_ne C 19 dX9_goOn_8 (by decide) hf (fun hf => ?_) (fun hf => ?_)
  · refine b_aload_n C dX9_goOn_19 rfl 0 rfl ?_
    refine b_getR C hiX9_goOn_9 9 4 (4) (by decide) (by decide) rfl (by decide) kX9_goOn_40 rfl rfl dX9_goOn_20 ?_
    refine b_getR C hiX9_goOn_4 4 3 (11 + 21) (by decide) (by decide) rfl (by decide) kX9_goOn_155 rfl rfl dX9_goOn_23 ?_
    refine b_iload_n C dX9_goOn_26 rfl 1 rfl ?_
    refine b_callVi (n := 1) C (11 + 21) 5 (isObj_r (by decide)) rfl (fun _ => [.int (x1)]) (c_X5_is 21 (by decide) (x1)) (e_is 21 (by decide) (x1) _) gX9_goOn_X5_is rfl (by decide +kernel) rfl (by decide) (by decide) (Nat.le_of_ble_eq_true rfl) dX9_goOn_27 ?_
    refine b_if_ne C 41 dX9_goOn_30 (by decide) hf (fun hf => ?_) (fun hf => ?_)
    · refine b_aload_n C dX9_goOn_41 rfl 0 rfl ?_
      refine b_getR C hiX9_goOn_9 9 4 (4) (by decide) (by decide) rfl (by decide) kX9_goOn_40 rfl rfl dX9_goOn_42 ?_
      refine b_getR C hiX9_goOn_4 4 3 (11 + 21) (by decide) (by decide) rfl (by decide) kX9_goOn_155 rfl rfl dX9_goOn_45 ?_
      refine b_iload_n C dX9_goOn_48 rfl 1 rfl ?_
      refine b_iconst C (v := 0) dX9_goOn_49 (by decide) ?_
      refine b_callVv (n := 2) C (11 + 21) 5 (isObj_r (by decide)) rfl (fun _ => [.int (x1), .int (0)]) (c_X5_put 21 (by decide) (x1) (0)) (e_put 21 (by decide) (x1) (0) _) gX9_goOn_X5_put rfl (by decide +kernel) rfl (by decide) (by decide) (Nat.le_of_ble_eq_true rfl) dX9_goOn_50 ?_
      refine b_nw hf (fun τ3 hf => ?_)
      refine b_aload_n C dX9_goOn_53 rfl 0 rfl ?_
      refine b_getR C hiX9_goOn_9 9 4 (4) (by decide) (by decide) rfl (by decide) kX9_goOn_40 rfl rfl dX9_goOn_54 ?_
      refine b_iload_n C dX9_goOn_57 rfl 1 rfl ?_
      refine b_aload_n C dX9_goOn_58 rfl 0 rfl ?_
      refine b_getR C hiX9_goOn_9 9 6 (2) (by decide) (by decide) rfl (by decide) kX9_goOn_54 rfl rfl dX9_goOn_59 ?_
      refine b_getS C hiX9_goOn_2 2 0 6 (by decide) (by decide) rfl (by decide) kX9_goOn_164 rfl rfl dX9_goOn_62 ?_
      obtain ⟨y4, τ5, hqy4, hf⟩ := bd_inv hf
      refine b_callVv (n := 2) C (4) 4 (isObj_s (by decide) (by decide)) rfl (fun _ => [.int (x1), .int (τ3 76 6)]) (c_X4_startAnew (x1) (τ3 76 6)) hqy4 gX9_goOn_X4_startAnew rfl (by decide +kernel) rfl (by decide) (by decide) (Nat.le_of_ble_eq_true rfl) dX9_goOn_65 ?_
      refine b_aload_n C dX9_goOn_68 rfl 0 rfl ?_
      refine b_getR C hiX9_goOn_9 9 4 (4) (by decide) (by decide) rfl (by decide) kX9_goOn_40 rfl rfl dX9_goOn_69 ?_
      refine b_getR C hiX9_goOn_4 4 8 (11 + 26) (by decide) (by decide) rfl (by decide) kX9_goOn_174 rfl rfl dX9_goOn_72 ?_
      refine b_iload_n C dX9_goOn_75 rfl 1 rfl ?_
      refine b_callVi (n := 1) C (11 + 26) 5 (isObj_r (by decide)) rfl (fun _ => [.int (x1)]) (c_X5_get 26 (by decide) (x1)) (e_get 26 (by decide) (x1) _) gX9_goOn_X5_get rfl (by decide +kernel) rfl (by decide) (by decide) (Nat.le_of_ble_eq_true rfl) dX9_goOn_76 ?_
      exact hR _ _ _ _ dX9_goOn_79 hf
    · exact hT2 _ _ _ _ kX9_goOn_ex2 kX9_goOn_ei2 xaX9_goOn_2 dX9_goOn_33 dX9_goOn_36 dX9_goOn_37 dX9_goOn_40 (Nat.le_of_ble_eq_true rfl) hf
  · exact hT3 _ _ _ _ kX9_goOn_ex3 kX9_goOn_ei3 xaX9_goOn_3 dX9_goOn_11 dX9_goOn_14 dX9_goOn_15 dX9_goOn_18 (Nat.le_of_ble_eq_true rfl) hf
theorem hiX9_lines_9 : ∀ w ∈ wsX90, w ∈ wsX9_lines := by decide +kernel
theorem xaX9_lines_1 : ∀ w ∈ (vx_at0 RX9 83 (exN 1) exS).filter goodWord, w ∈ wsX9_lines := fun _ h => List.mem_cons_of_mem _ (List.mem_append_left _ (List.mem_append_right _ h))
theorem xaX9_lines_2 : ∀ w ∈ (vx_at0 RX9 89 (exN 2) exS).filter goodWord, w ∈ wsX9_lines := fun _ h => List.mem_cons_of_mem _ (List.mem_append_right _ h)
theorem kX9_lines_ex1 : Cond.classLink RX9 81 (exN 1) ∈ wsX9_lines := by decide +kernel
theorem kX9_lines_ei1 : Cond.initialized (exN 1) ∈ wsX9_lines := by decide +kernel
theorem kX9_lines_177 : Cond.fieldLink RX9 177 "ScriptRoom" "isReleased" "Z" ∈ wsX9_lines := by decide +kernel
theorem kX9_lines_181 : Cond.fieldLink RX9 181 "ScriptRoom" "firstLine" "I" ∈ wsX9_lines := by decide +kernel
theorem kX9_lines_184 : Cond.fieldLink RX9 184 "ScriptRoom" "secondLine" "I" ∈ wsX9_lines := by decide +kernel
theorem kX9_lines_187 : Cond.fieldLink RX9 187 "ScriptRoom" "thirdLine" "I" ∈ wsX9_lines := by decide +kernel
theorem kX9_lines_ex2 : Cond.classLink RX9 87 (exN 2) ∈ wsX9_lines := by decide +kernel
theorem kX9_lines_ei2 : Cond.initialized (exN 2) ∈ wsX9_lines := by decide +kernel
set_option maxHeartbeats 4000000 in
set_option maxRecDepth 100000 in
theorem w_X9_lines_11 {X : Ctx} {o : Int64} {rv : (Nat × Int32) × Mem} (C : Cx X cX9_lines RX9 wsX9_lines 4 6 137) (hR : Rxi X cX9_lines 4 o rv) (hT1 : Xt X 4 o rv RX9 1 81 83 cX9_lines wsX9_lines) (hT2 : Xt X 4 o rv RX9 2 87 89 cX9_lines wsX9_lines) (hT3 : Xt X 4 o rv RX9 3 98 100 cX9_lines wsX9_lines) : ∀ (σ : Mem), some rv = f_X9_lines_11 σ → Bk X 4 o 0 0 11 [] [] σ := by
  intro σ hf
  unfold f_X9_lines_11 at hf
  exact hT1 _ _ _ _ kX9_lines_ex1 kX9_lines_ei1 xaX9_lines_1 dX9_lines_11 dX9_lines_14 dX9_lines_15 dX9_lines_18 (Nat.le_of_ble_eq_true rfl) hf
set_option maxHeartbeats 4000000 in
set_option maxRecDepth 100000 in
theorem w_X9_lines_37 {X : Ctx} {o : Int64} {rv : (Nat × Int32) × Mem} (C : Cx X cX9_lines RX9 wsX9_lines 4 6 137) (hR : Rxi X cX9_lines 4 o rv) (hT1 : Xt X 4 o rv RX9 1 81 83 cX9_lines wsX9_lines) (hT2 : Xt X 4 o rv RX9 2 87 89 cX9_lines wsX9_lines) (hT3 : Xt X 4 o rv RX9 3 98 100 cX9_lines wsX9_lines) : ∀ (σ : Mem), some rv = f_X9_lines_37 σ → Bk X 4 o 0 0 37 [] [] σ := by
  intro σ hf
  unfold f_X9_lines_37 at hf
  exact hT1 _ _ _ _ kX9_lines_ex1 kX9_lines_ei1 xaX9_lines_1 dX9_lines_37 dX9_lines_40 dX9_lines_41 dX9_lines_44 (Nat.le_of_ble_eq_true rfl) hf
set_option maxHeartbeats 4000000 in
set_option maxRecDepth 100000 in
theorem c_X9_lines (x1 x2 x3 : Int32) (l : Launch) (hfl : l.stackTraces = false) : Cte l yX9_lines wsX9_lines 6 137 (fun G => [.ref (G.1 (9)), .int (x1), .int (x2), .int (x3)]) (f_X9_lines x1 x2 x3) := by
  refine mk_ei (cc := cX9_lines) (nL := 4) hfl (by decide) rfl rfl (fun _ => Nat.le_of_ble_eq_true rfl) (Nat.le_of_ble_eq_true rfl) (Nat.le_of_ble_eq_true rfl) (fun X o σ rv C hR hT1 hT2 hT3 hf => ?_)
  show Bk X 4 o 0 0 0 [(0, .ref (ad X (9))), (1, .int (x1)), (2, .int (x2)), (3, .int (x3))] [] σ
  unfold f_X9_lines at hf
  refine b_iload_n C dX9_lines_0 rfl 1 rfl ?_
  refine b_if_lt C 11 dX9_lines_1 (by decide) hf (fun hf => ?_) (fun hf => ?_)
  · refine b_sub [] rfl ?_
    exact w_X9_lines_11 C hR hT1 hT2 hT3 _ hf
  · refine b_iload_n C dX9_lines_4 rfl 1 rfl ?_
    refine b_sipush C (v := 999) dX9_lines_5 (by decide) ?_
    refine b_icmp_le C 19 dX9_lines_8 (by decide) hf (fun hf => ?_) (fun hf => ?_)
    · refine b_iload_n C dX9_lines_19 rfl 2 rfl ?_
      refine b_if_lt C 37 dX9_lines_20 (by decide) hf (fun hf => ?_) (fun hf => ?_)
      · refine b_sub [] rfl ?_
        exact w_X9_lines_37 C hR hT1 hT2 hT3 _ hf
      · refine b_iload_n C dX9_lines_23 rfl 2 rfl ?_
        refine b_iload_n C dX9_lines_24 rfl 1 rfl ?_
        refine b_icmp_gt C 37 dX9_lines_25 (by decide) hf (fun hf => ?_) (fun hf => ?_)
        · refine b_sub [] rfl ?_
          exact w_X9_lines_37 C hR hT1 hT2 hT3 _ hf
        · refine b_iload_n C dX9_lines_28 rfl 3 rfl ?_
          refine b_if_lt C 37 dX9_lines_29 (by decide) hf (fun hf => ?_) (fun hf => ?_)
          · refine b_sub [] rfl ?_
            exact w_X9_lines_37 C hR hT1 hT2 hT3 _ hf
          · refine b_iload_n C dX9_lines_32 rfl 3 rfl ?_
            refine b_iload_n C dX9_lines_33 rfl 2 rfl ?_
            refine b_icmp_le C 45 dX9_lines_34 (by decide) hf (fun hf => ?_) (fun hf => ?_)
            · refine b_aload_n C dX9_lines_45 rfl 0 rfl ?_
              refine b_getS C hiX9_lines_9 9 14 21 (by decide) (by decide) rfl (by decide) kX9_lines_177 rfl rfl dX9_lines_46 ?_
              refine b_if_eq C 60 dX9_lines_49 (by decide) hf (fun hf => ?_) (fun hf => ?_)
              · refine b_aload_n C dX9_lines_60 rfl 0 rfl ?_
                refine b_iload_n C dX9_lines_61 rfl 1 rfl ?_
                refine b_putS C (ty := .int) hiX9_lines_9 tyX9 tyX9_ok nmX9 9 11 18 (by decide) (by decide) rfl (by decide) kX9_lines_181 rfl rfl (by decide +kernel) rfl rfl rfl dX9_lines_62 ?_
                refine b_nw hf (fun τ1 hf => ?_)
                refine b_aload_n C dX9_lines_65 rfl 0 rfl ?_
                refine b_iload_n C dX9_lines_66 rfl 2 rfl ?_
                refine b_putS C (ty := .int) hiX9_lines_9 tyX9 tyX9_ok nmX9 9 12 19 (by decide) (by decide) rfl (by decide) kX9_lines_184 rfl rfl (by decide +kernel) rfl rfl rfl dX9_lines_67 ?_
                refine b_nw hf (fun τ2 hf => ?_)
                refine b_aload_n C dX9_lines_70 rfl 0 rfl ?_
                refine b_iload_n C dX9_lines_71 rfl 3 rfl ?_
                refine b_putS C (ty := .int) hiX9_lines_9 tyX9 tyX9_ok nmX9 9 13 20 (by decide) (by decide) rfl (by decide) kX9_lines_187 rfl rfl (by decide +kernel) rfl rfl rfl dX9_lines_72 ?_
                refine b_nw hf (fun τ3 hf => ?_)
                refine b_aload_n C dX9_lines_75 rfl 0 rfl ?_
                refine b_iload_n C dX9_lines_76 rfl 1 rfl ?_
                refine b_aload_n C dX9_lines_77 rfl 0 rfl ?_
                obtain ⟨y4, τ5, hqy4, hf⟩ := bd_inv hf
                refine b_callVi (n := 0) C (9) 9 (isObj_s (by decide) (by decide)) rfl (fun _ => []) (c_X9_gatherTotals ) hqy4 gX9_lines_X9_gatherTotals rfl (by decide +kernel) rfl (by decide) (by decide) (Nat.le_of_ble_eq_true rfl) dX9_lines_78 ?_
                obtain ⟨y6, τ7, hqy6, hf⟩ := bd_inv hf
                refine b_callVi (n := 2) C (9) 9 (isObj_s (by decide) (by decide)) rfl (fun _ => [.int (x1), .int (y4)]) (c_X9_pupilsFrom (x1) (y4)) hqy6 gX9_lines_X9_pupilsFrom rfl (by decide +kernel) rfl (by decide) (by decide) (Nat.le_of_ble_eq_true rfl) dX9_lines_81 ?_
                exact hR _ _ _ _ dX9_lines_84 hf
              · exact hT2 _ _ _ _ kX9_lines_ex2 kX9_lines_ei2 xaX9_lines_2 dX9_lines_52 dX9_lines_55 dX9_lines_56 dX9_lines_59 (Nat.le_of_ble_eq_true rfl) hf
            · refine b_sub [] rfl ?_
              exact w_X9_lines_37 C hR hT1 hT2 hT3 _ hf
    · refine b_sub [] rfl ?_
      exact w_X9_lines_11 C hR hT1 hT2 hT3 _ hf
theorem hiX9_release_3 : ∀ w ∈ wsX30, w ∈ wsX9_release := by decide +kernel
theorem hiX9_release_9 : ∀ w ∈ wsX90, w ∈ wsX9_release := by decide +kernel
theorem xaX9_release_2 : ∀ w ∈ (vx_at0 RX9 89 (exN 2) exS).filter goodWord, w ∈ wsX9_release := fun _ h => List.mem_cons_of_mem _ (List.mem_append_right _ h)
theorem kX9_release_ex2 : Cond.classLink RX9 87 (exN 2) ∈ wsX9_release := by decide +kernel
theorem kX9_release_ei2 : Cond.initialized (exN 2) ∈ wsX9_release := by decide +kernel
theorem kX9_release_33 : Cond.fieldLink RX9 33 "ScriptRoom" "pupils" "LScriptRoom$Pupils;" ∈ wsX9_release := by decide +kernel
theorem kX9_release_84 : Cond.fieldLink RX9 84 "ScriptRoom$Pupils" "count" "I" ∈ wsX9_release := by decide +kernel
theorem kX9_release_200 : Cond.fieldLink RX9 200 "ScriptRoom$Pupils" "grades" "LScriptRoom$Row;" ∈ wsX9_release := by decide +kernel
theorem kX9_release_177 : Cond.fieldLink RX9 177 "ScriptRoom" "isReleased" "Z" ∈ wsX9_release := by decide +kernel
set_option maxHeartbeats 4000000 in
set_option maxRecDepth 100000 in
theorem w_X9_release_31 {X : Ctx} {o : Int64} {rv : (Nat × Int32) × Mem} (C : Cx X cX9_release RX9 wsX9_release 4 6 137) (hR : Rxi X cX9_release 4 o rv) (hT1 : Xt X 4 o rv RX9 1 81 83 cX9_release wsX9_release) (hT2 : Xt X 4 o rv RX9 2 87 89 cX9_release wsX9_release) (hT3 : Xt X 4 o rv RX9 3 98 100 cX9_release wsX9_release) : ∀ (σ : Mem), some rv = f_X9_release_31 σ → Bk X 4 o 0 0 31 [] [] σ := by
  intro σ hf
  unfold f_X9_release_31 at hf
  exact hT2 _ _ _ _ kX9_release_ex2 kX9_release_ei2 xaX9_release_2 dX9_release_31 dX9_release_34 dX9_release_35 dX9_release_38 (Nat.le_of_ble_eq_true rfl) hf
set_option maxHeartbeats 4000000 in
set_option maxRecDepth 100000 in
theorem w_X9_release_84 {X : Ctx} {o : Int64} {rv : (Nat × Int32) × Mem} (C : Cx X cX9_release RX9 wsX9_release 4 6 137) (hR : Rxi X cX9_release 4 o rv) (hT1 : Xt X 4 o rv RX9 1 81 83 cX9_release wsX9_release) (hT2 : Xt X 4 o rv RX9 2 87 89 cX9_release wsX9_release) (hT3 : Xt X 4 o rv RX9 3 98 100 cX9_release wsX9_release) (k48 : Int32 → Int32 → Mem → Option ((Nat × Int32) × Mem)) (h48 : ∀ (v1 v2 : Int32) (σ : Mem), some rv = k48 v1 v2 σ → Bk X 4 o 0 0 48 [(0, .ref (ad X (9))), (1, .int (v1)), (2, .int (v2))] [] σ) : ∀ (v1 v2 : Int32) (σ : Mem), some rv = f_X9_release_84 k48 v1 v2 σ → Bk X 4 o 0 0 84 [(0, .ref (ad X (9))), (1, .int (v1)), (2, .int (v2))] [] σ := by
  intro v1 v2 σ hf
  unfold f_X9_release_84 at hf
  refine b_iinc (v := (v2) + (1)) (lv' := [(2, .int ((v2) + (1))), (0, .ref (ad X (9))), (1, .int (v1))]) C dX9_release_84 2 rfl rfl (by decide) rfl ?_
  refine b_goto C 48 dX9_release_87 (by decide) ?_
  refine b_sub [1, 2, 0] rfl ?_
  exact h48 _ _ _ hf
set_option maxHeartbeats 4000000 in
set_option maxRecDepth 100000 in
theorem w_X9_release_48 {X : Ctx} {o : Int64} {rv : (Nat × Int32) × Mem} (C : Cx X cX9_release RX9 wsX9_release 4 6 137) (hR : Rxi X cX9_release 4 o rv) (hT1 : Xt X 4 o rv RX9 1 81 83 cX9_release wsX9_release) (hT2 : Xt X 4 o rv RX9 2 87 89 cX9_release wsX9_release) (hT3 : Xt X 4 o rv RX9 3 98 100 cX9_release wsX9_release) : ∀ (n : Nat) (v1 v2 : Int32) (σ : Mem), some rv = f_X9_release_48 n v1 v2 σ → Bk X 4 o 0 0 48 [(0, .ref (ad X (9))), (1, .int (v1)), (2, .int (v2))] [] σ := by
  intro n
  induction n with
  | zero =>
    intro v1 v2 σ hf
    rw [f_X9_release_48] at hf
    cases hf
  | succ n ih =>
    intro v1 v2 σ hf
    rw [f_X9_release_48] at hf
    refine b_iload_n C dX9_release_48 rfl 2 rfl ?_
    refine b_aload_n C dX9_release_49 rfl 0 rfl ?_
    refine b_getR C hiX9_release_9 9 3 (3) (by decide) (by decide) rfl (by decide) kX9_release_33 rfl rfl dX9_release_50 ?_
    refine b_getS C hiX9_release_3 3 0 7 (by decide) (by decide) rfl (by decide) kX9_release_84 rfl rfl dX9_release_53 ?_
    refine b_icmp_ge C 90 dX9_release_56 (by decide) hf (fun hf => ?_) (fun hf => ?_)
    · refine b_iload_n C dX9_release_90 rfl 1 rfl ?_
      exact hR _ _ _ _ dX9_release_91 hf
    · refine b_aload_n C dX9_release_59 rfl 0 rfl ?_
      refine b_iload_n C dX9_release_60 rfl 2 rfl ?_
      obtain ⟨y1, τ2, hqy1, hf⟩ := bd_inv hf
      refine b_callVi (n := 1) C (9) 9 (isObj_s (by decide) (by decide)) rfl (fun _ => [.int (v2)]) (c_X9_gradeNow (v2)) hqy1 gX9_release_X9_gradeNow rfl (by decide +kernel) rfl (by decide) (by decide) (Nat.le_of_ble_eq_true rfl) dX9_release_61 ?_
      refine b_istore_n (lv' := [(3, .int (y1)), (0, .ref (ad X (9))), (1, .int (v1)), (2, .int (v2))]) C dX9_release_64 rfl (by decide) rfl ?_
      refine b_aload_n C dX9_release_65 rfl 1 rfl ?_
      refine b_getR C hiX9_release_9 9 3 (3) (by decide) (by decide) rfl (by decide) kX9_release_33 rfl rfl dX9_release_66 ?_
      refine b_getR C hiX9_release_3 3 4 (11 + 16) (by decide) (by decide) rfl (by decide) kX9_release_200 rfl rfl dX9_release_69 ?_
      refine b_iload_n C dX9_release_72 rfl 3 rfl ?_
      refine b_iload_n C dX9_release_73 rfl 0 rfl ?_
      refine b_callVv (n := 2) C (11 + 16) 5 (isObj_r (by decide)) rfl (fun _ => [.int (v2), .int (y1)]) (c_X5_set 16 (by decide) (v2) (y1)) (e_set 16 (by decide) (v2) (y1) _) gX9_release_X5_set rfl (by decide +kernel) rfl (by decide) (by decide) (Nat.le_of_ble_eq_true rfl) dX9_release_74 ?_
      refine b_nw hf (fun τ3 hf => ?_)
      refine b_iload_n C dX9_release_77 rfl 0 rfl ?_
      refine b_if_le C 84 dX9_release_78 (by decide) hf (fun hf => ?_) (fun hf => ?_)
      · refine b_sub [1, 2, 3] rfl ?_
        exact w_X9_release_84 C hR hT1 hT2 hT3 (f_X9_release_48 n) ih _ _ _ hf
      · refine b_iinc (v := (v1) + (1)) (lv' := [(1, .int ((v1) + (1))), (3, .int (y1)), (0, .ref (ad X (9))), (2, .int (v2))]) C dX9_release_81 2 rfl rfl (by decide) rfl ?_
        refine b_sub [2, 0, 3] rfl ?_
        exact w_X9_release_84 C hR hT1 hT2 hT3 (f_X9_release_48 n) ih _ _ _ hf
set_option maxHeartbeats 4000000 in
set_option maxRecDepth 100000 in
theorem c_X9_release (l : Launch) (hfl : l.stackTraces = false) : Cte l yX9_release wsX9_release 6 137 (fun G => [.ref (G.1 (9))]) (f_X9_release ) := by
  refine mk_ei (cc := cX9_release) (nL := 4) hfl (by decide) rfl rfl (fun _ => Nat.le_of_ble_eq_true rfl) (Nat.le_of_ble_eq_true rfl) (Nat.le_of_ble_eq_true rfl) (fun X o σ rv C hR hT1 hT2 hT3 hf => ?_)
  show Bk X 4 o 0 0 0 [(0, .ref (ad X (9)))] [] σ
  unfold f_X9_release at hf
  refine b_aload_n C dX9_release_0 rfl 0 rfl ?_
  refine b_getS C hiX9_release_9 9 14 21 (by decide) (by decide) rfl (by decide) kX9_release_177 rfl rfl dX9_release_1 ?_
  refine b_if_ne C 31 dX9_release_4 (by decide) hf (fun hf => ?_) (fun hf => ?_)
  · refine b_sub [] rfl ?_
    exact w_X9_release_31 C hR hT1 hT2 hT3 _ hf
  · refine b_aload_n C dX9_release_7 rfl 0 rfl ?_
    refine b_getR C hiX9_release_9 9 3 (3) (by decide) (by decide) rfl (by decide) kX9_release_33 rfl rfl dX9_release_8 ?_
    refine b_getS C hiX9_release_3 3 0 7 (by decide) (by decide) rfl (by decide) kX9_release_84 rfl rfl dX9_release_11 ?_
    refine b_if_eq C 31 dX9_release_14 (by decide) hf (fun hf => ?_) (fun hf => ?_)
    · refine b_sub [] rfl ?_
      exact w_X9_release_31 C hR hT1 hT2 hT3 _ hf
    · refine b_aload_n C dX9_release_17 rfl 0 rfl ?_
      obtain ⟨y4, τ5, hqy4, hf⟩ := bd_inv hf
      refine b_callVi (n := 0) C (9) 9 (isObj_s (by decide) (by decide)) rfl (fun _ => []) (c_X9_gatherTotals ) hqy4 gX9_release_X9_gatherTotals rfl (by decide +kernel) rfl (by decide) (by decide) (Nat.le_of_ble_eq_true rfl) dX9_release_18 ?_
      refine b_aload_n C dX9_release_21 rfl 0 rfl ?_
      refine b_getR C hiX9_release_9 9 3 (3) (by decide) (by decide) rfl (by decide) kX9_release_33 rfl rfl dX9_release_22 ?_
      refine b_getS C hiX9_release_3 3 0 7 (by decide) (by decide) rfl (by decide) kX9_release_84 rfl rfl dX9_release_25 ?_
      refine b_icmp_ge C 39 dX9_release_28 (by decide) hf (fun hf => ?_) (fun hf => ?_)
      · refine b_aload_n C dX9_release_39 rfl 0 rfl ?_
        refine b_iconst C (v := 1) dX9_release_40 (by decide) ?_
        refine b_putS C (ty := .boolean) hiX9_release_9 tyX9 tyX9_ok nmX9 9 14 21 (by decide) (by decide) rfl (by decide) kX9_release_177 rfl rfl (by decide +kernel) rfl rfl rfl dX9_release_41 ?_
        refine b_nw hf (fun τ6 hf => ?_)
        refine b_iconst C (v := 0) dX9_release_44 (by decide) ?_
        refine b_istore_n (lv' := [(1, .int (0)), (0, .ref (ad X (9)))]) C dX9_release_45 rfl (by decide) rfl ?_
        refine b_iconst C (v := 0) dX9_release_46 (by decide) ?_
        refine b_istore_n (lv' := [(2, .int (0)), (1, .int (0)), (0, .ref (ad X (9)))]) C dX9_release_47 rfl (by decide) rfl ?_
        refine b_sub [2, 1, 0] rfl ?_
        exact w_X9_release_48 C hR hT1 hT2 hT3 FUEL _ _ _ hf
      · refine b_sub [] rfl ?_
        exact w_X9_release_31 C hR hT1 hT2 hT3 _ hf
theorem hiX9_appeal_9 : ∀ w ∈ wsX90, w ∈ wsX9_appeal := by decide +kernel
theorem xaX9_appeal_2 : ∀ w ∈ (vx_at0 RX9 89 (exN 2) exS).filter goodWord, w ∈ wsX9_appeal := fun _ h => List.mem_cons_of_mem _ (List.mem_append_right _ h)
theorem xaX9_appeal_3 : ∀ w ∈ (vx_at0 RX9 100 (exN 3) exS).filter goodWord, w ∈ wsX9_appeal := fun _ h => List.mem_cons_of_mem _ (List.mem_append_left _ (List.mem_append_right _ h))
theorem kX9_appeal_ex3 : Cond.classLink RX9 98 (exN 3) ∈ wsX9_appeal := by decide +kernel
theorem kX9_appeal_ei3 : Cond.initialized (exN 3) ∈ wsX9_appeal := by decide +kernel
theorem kX9_appeal_ex2 : Cond.classLink RX9 87 (exN 2) ∈ wsX9_appeal := by decide +kernel
theorem kX9_appeal_ei2 : Cond.initialized (exN 2) ∈ wsX9_appeal := by decide +kernel
theorem kX9_appeal_33 : Cond.fieldLink RX9 33 "ScriptRoom" "pupils" "LScriptRoom$Pupils;" ∈ wsX9_appeal := by decide +kernel
theorem kX9_appeal_177 : Cond.fieldLink RX9 177 "ScriptRoom" "isReleased" "Z" ∈ wsX9_appeal := by decide +kernel
set_option maxHeartbeats 4000000 in
set_option maxRecDepth 100000 in
theorem w_X9_appeal_18 {X : Ctx} {o : Int64} {rv : (Nat × Int32) × Mem} (C : Cx X cX9_appeal RX9 wsX9_appeal 4 6 89) (hR : Rxi X cX9_appeal 4 o rv) (hT1 : Xt X 4 o rv RX9 1 81 83 cX9_appeal wsX9_appeal) (hT2 : Xt X 4 o rv RX9 2 87 89 cX9_appeal wsX9_appeal) (hT3 : Xt X 4 o rv RX9 3 98 100 cX9_appeal wsX9_appeal) : ∀ (σ : Mem), some rv = f_X9_appeal_18 σ → Bk X 4 o 0 0 18 [] [] σ := by
  intro σ hf
  unfold f_X9_appeal_18 at hf
  exact hT3 _ _ _ _ kX9_appeal_ex3 kX9_appeal_ei3 xaX9_appeal_3 dX9_appeal_18 dX9_appeal_21 dX9_appeal_22 dX9_appeal_25 (Nat.le_of_ble_eq_true rfl) hf
set_option maxHeartbeats 4000000 in
set_option maxRecDepth 100000 in
theorem w_X9_appeal_45 {X : Ctx} {o : Int64} {rv : (Nat × Int32) × Mem} (C : Cx X cX9_appeal RX9 wsX9_appeal 4 6 89) (hR : Rxi X cX9_appeal 4 o rv) (hT1 : Xt X 4 o rv RX9 1 81 83 cX9_appeal wsX9_appeal) (hT2 : Xt X 4 o rv RX9 2 87 89 cX9_appeal wsX9_appeal) (hT3 : Xt X 4 o rv RX9 3 98 100 cX9_appeal wsX9_appeal) : ∀ (σ : Mem), some rv = f_X9_appeal_45 σ → Bk X 4 o 0 0 45 [] [] σ := by
  intro σ hf
  unfold f_X9_appeal_45 at hf
  exact hT2 _ _ _ _ kX9_appeal_ex2 kX9_appeal_ei2 xaX9_appeal_2 dX9_appeal_45 dX9_appeal_48 dX9_appeal_49 dX9_appeal_52 (Nat.le_of_ble_eq_true rfl) hf
set_option maxHeartbeats 4000000 in
set_option maxRecDepth 100000 in
theorem w_X9_appeal_77 {X : Ctx} {o : Int64} {rv : (Nat × Int32) × Mem} (C : Cx X cX9_appeal RX9 wsX9_appeal 4 6 89) (hR : Rxi X cX9_appeal 4 o rv) (hT1 : Xt X 4 o rv RX9 1 81 83 cX9_appeal wsX9_appeal) (hT2 : Xt X 4 o rv RX9 2 87 89 cX9_appeal wsX9_appeal) (hT3 : Xt X 4 o rv RX9 3 98 100 cX9_appeal wsX9_appeal) : ∀ (σ : Mem), some rv = f_X9_appeal_77 σ → Bk X 4 o 0 0 77 [] [] σ := by
  intro σ hf
  unfold f_X9_appeal_77 at hf
  exact hT2 _ _ _ _ kX9_appeal_ex2 kX9_appeal_ei2 xaX9_appeal_2 dX9_appeal_77 dX9_appeal_80 dX9_appeal_81 dX9_appeal_84 (Nat.le_of_ble_eq_true rfl) hf
set_option maxHeartbeats 4000000 in
set_option maxRecDepth 100000 in
theorem c_X9_appeal (x1 x2 : Int32) (l : Launch) (hfl : l.stackTraces = false) : Cte l yX9_appeal wsX9_appeal 6 89 (fun G => [.ref (G.1 (9)), .int (x1), .int (x2)]) (f_X9_appeal x1 x2) := by
  refine mk_ei (cc := cX9_appeal) (nL := 4) hfl (by decide) rfl rfl (fun _ => Nat.le_of_ble_eq_true rfl) (Nat.le_of_ble_eq_true rfl) (Nat.le_of_ble_eq_true rfl) (fun X o σ rv C hR hT1 hT2 hT3 hf => ?_)
  show Bk X 4 o 0 0 0 [(0, .ref (ad X (9))), (1, .int (x1)), (2, .int (x2))] [] σ
  unfold f_X9_appeal at hf
  refine b_aload_n C dX9_appeal_0 rfl 0 rfl ?_
  refine b_getR C hiX9_appeal_9 9 3 (3) (by decide) (by decide) rfl (by decide) kX9_appeal_33 rfl rfl dX9_appeal_1 ?_
  refine b_iload_n C dX9_appeal_4 rfl 1 rfl ?_
  obtain ⟨y1, τ2, hqy1, hf⟩ := bd_inv hf
  refine b_callVi (n := 1) C (3) 3 (isObj_s (by decide) (by decide)) rfl (fun _ => [.int (x1)]) (c_X3_has (x1)) hqy1 gX9_appeal_X3_has rfl (by decide +kernel) rfl (by decide) (by decide) (Nat.le_of_ble_eq_true rfl) dX9_appeal_5 ?_
  refine b_if_eq C 18 dX9_appeal_8 (by decide) hf (fun hf => ?_) (fun hf => ?_)
  · refine b_sub [] rfl ?_
    exact w_X9_appeal_18 C hR hT1 hT2 hT3 _ hf
  · refine b_iload_n C dX9_appeal_11 rfl 2 rfl ?_
    obtain ⟨y3, τ4, hqy3, hf⟩ := bd_inv hf
    refine b_callSi (n := 1) C (fun _ => [.int (x2)]) (c_X9_isQuestion (x2)) hqy3 gX9_appeal_X9_isQuestion rfl (by decide +kernel) rfl (by decide) (by decide) (Nat.le_of_ble_eq_true rfl) dX9_appeal_12 ?_
    refine b_if_ne C 26 dX9_appeal_15 (by decide) hf (fun hf => ?_) (fun hf => ?_)
    · refine b_aload_n C dX9_appeal_26 rfl 0 rfl ?_
      refine b_getS C hiX9_appeal_9 9 14 21 (by decide) (by decide) rfl (by decide) kX9_appeal_177 rfl rfl dX9_appeal_27 ?_
      refine b_if_eq C 45 dX9_appeal_30 (by decide) hf (fun hf => ?_) (fun hf => ?_)
      · refine b_sub [] rfl ?_
        exact w_X9_appeal_45 C hR hT1 hT2 hT3 _ hf
      · refine b_aload_n C dX9_appeal_33 rfl 0 rfl ?_
        refine b_getR C hiX9_appeal_9 9 3 (3) (by decide) (by decide) rfl (by decide) kX9_appeal_33 rfl rfl dX9_appeal_34 ?_
        refine b_iload_n C dX9_appeal_37 rfl 1 rfl ?_
        refine b_iload_n C dX9_appeal_38 rfl 2 rfl ?_
        obtain ⟨y5, τ6, hqy5, hf⟩ := bd_inv hf
        refine b_callVi (n := 2) C (3) 3 (isObj_s (by decide) (by decide)) rfl (fun _ => [.int (x1), .int (x2)]) (c_X3_isLacking (x1) (x2)) hqy5 gX9_appeal_X3_isLacking rfl (by decide +kernel) rfl (by decide) (by decide) (Nat.le_of_ble_eq_true rfl) dX9_appeal_39 ?_
        refine b_if_eq C 53 dX9_appeal_42 (by decide) hf (fun hf => ?_) (fun hf => ?_)
        · refine b_aload_n C dX9_appeal_53 rfl 0 rfl ?_
          refine b_iload_n C dX9_appeal_54 rfl 1 rfl ?_
          refine b_iload_n C dX9_appeal_55 rfl 2 rfl ?_
          obtain ⟨y7, τ8, hqy7, hf⟩ := bd_inv hf
          refine b_callVi (n := 2) C (9) 9 (isObj_s (by decide) (by decide)) rfl (fun _ => [.int (x1), .int (x2)]) (c_X9_markNow (x1) (x2)) hqy7 gX9_appeal_X9_markNow rfl (by decide +kernel) rfl (by decide) (by decide) (Nat.le_of_ble_eq_true rfl) dX9_appeal_56 ?_
          refine b_istore_n (lv' := [(3, .int (y7)), (0, .ref (ad X (9))), (1, .int (x1)), (2, .int (x2))]) C dX9_appeal_59 rfl (by decide) rfl ?_
          refine b_aload_n C dX9_appeal_60 rfl 1 rfl ?_
          refine b_getR C hiX9_appeal_9 9 3 (3) (by decide) (by decide) rfl (by decide) kX9_appeal_33 rfl rfl dX9_appeal_61 ?_
          refine b_iload_n C dX9_appeal_64 rfl 2 rfl ?_
          refine b_iload_n C dX9_appeal_65 rfl 3 rfl ?_
          obtain ⟨y9, τ10, hqy9, hf⟩ := bd_inv hf
          refine b_callVi (n := 2) C (3) 3 (isObj_s (by decide) (by decide)) rfl (fun _ => [.int (x1), .int (x2)]) (c_X3_isAppealed (x1) (x2)) hqy9 gX9_appeal_X3_isAppealed rfl (by decide +kernel) rfl (by decide) (by decide) (Nat.le_of_ble_eq_true rfl) dX9_appeal_66 ?_
          refine b_if_ne C 77 dX9_appeal_69 (by decide) hf (fun hf => ?_) (fun hf => ?_)
          · refine b_sub [] rfl ?_
            exact w_X9_appeal_77 C hR hT1 hT2 hT3 _ hf
          · refine b_iload_n C dX9_appeal_72 rfl 0 rfl ?_
            refine b_iconst C (v := (-1)) dX9_appeal_73 (by decide) ?_
            refine b_icmp_ne C 85 dX9_appeal_74 (by decide) hf (fun hf => ?_) (fun hf => ?_)
            · refine b_aload_n C dX9_appeal_85 rfl 1 rfl ?_
              refine b_getR C hiX9_appeal_9 9 3 (3) (by decide) (by decide) rfl (by decide) kX9_appeal_33 rfl rfl dX9_appeal_86 ?_
              refine b_iload_n C dX9_appeal_89 rfl 2 rfl ?_
              refine b_iload_n C dX9_appeal_90 rfl 3 rfl ?_
              obtain ⟨y11, τ12, hqy11, hf⟩ := bd_inv hf
              refine b_callVv (n := 2) C (3) 3 (isObj_s (by decide) (by decide)) rfl (fun _ => [.int (x1), .int (x2)]) (c_X3_noteAppeal (x1) (x2)) hqy11 gX9_appeal_X3_noteAppeal rfl (by decide +kernel) rfl (by decide) (by decide) (Nat.le_of_ble_eq_true rfl) dX9_appeal_91 ?_
              refine b_iload_n C dX9_appeal_94 rfl 0 rfl ?_
              exact hR _ _ _ _ dX9_appeal_95 hf
            · refine b_sub [] rfl ?_
              exact w_X9_appeal_77 C hR hT1 hT2 hT3 _ hf
        · refine b_sub [] rfl ?_
          exact w_X9_appeal_45 C hR hT1 hT2 hT3 _ hf
    · refine b_sub [] rfl ?_
      exact w_X9_appeal_18 C hR hT1 hT2 hT3 _ hf
theorem hiX9_versions_6 : ∀ w ∈ wsX60, w ∈ wsX9_versions := by decide +kernel
theorem hiX9_versions_9 : ∀ w ∈ wsX90, w ∈ wsX9_versions := by decide +kernel
theorem xaX9_versions_3 : ∀ w ∈ (vx_at0 RX9 100 (exN 3) exS).filter goodWord, w ∈ wsX9_versions := fun _ h => List.mem_cons_of_mem _ (List.mem_append_right _ h)
theorem kX9_versions_26 : Cond.fieldLink RX9 26 "ScriptRoom" "schemes" "LScriptRoom$Schemes;" ∈ wsX9_versions := by decide +kernel
theorem kX9_versions_119 : Cond.fieldLink RX9 119 "ScriptRoom$Schemes" "counts" "LScriptRoom$Row;" ∈ wsX9_versions := by decide +kernel
theorem kX9_versions_ex3 : Cond.classLink RX9 98 (exN 3) ∈ wsX9_versions := by decide +kernel
theorem kX9_versions_ei3 : Cond.initialized (exN 3) ∈ wsX9_versions := by decide +kernel
set_option maxHeartbeats 4000000 in
set_option maxRecDepth 100000 in
theorem c_X9_versions (x1 : Int32) (l : Launch) (hfl : l.stackTraces = false) : Cte l yX9_versions wsX9_versions 6 89 (fun G => [.ref (G.1 (9)), .int (x1)]) (f_X9_versions x1) := by
  refine mk_ei (cc := cX9_versions) (nL := 2) hfl (by decide) rfl rfl (fun _ => Nat.le_of_ble_eq_true rfl) (Nat.le_of_ble_eq_true rfl) (Nat.le_of_ble_eq_true rfl) (fun X o σ rv C hR hT1 hT2 hT3 hf => ?_)
  show Bk X 2 o 0 0 0 [(0, .ref (ad X (9))), (1, .int (x1))] [] σ
  unfold f_X9_versions at hf
  refine b_iload_n C dX9_versions_0 rfl 1 rfl ?_
  obtain ⟨y1, τ2, hqy1, hf⟩ := bd_inv hf
  refine b_callSi (n := 1) C (fun _ => [.int (x1)]) (c_X9_isQuestion (x1)) hqy1 gX9_versions_X9_isQuestion rfl (by decide +kernel) rfl (by decide) (by decide) (Nat.le_of_ble_eq_true rfl) dX9_versions_1 ?_
  refine b_if_ne C 15 dX9_versions_4 (by decide) hf (fun hf => ?_) (fun hf => ?_)
  · refine b_aload_n C dX9_versions_15 rfl 0 rfl ?_
    refine b_getR C hiX9_versions_9 9 2 (6) (by decide) (by decide) rfl (by decide) kX9_versions_26 rfl rfl dX9_versions_16 ?_
    refine b_getR C hiX9_versions_6 6 0 (11 + 31) (by decide) (by decide) rfl (by decide) kX9_versions_119 rfl rfl dX9_versions_19 ?_
    refine b_iload_n C dX9_versions_22 rfl 1 rfl ?_
    refine b_callVi (n := 1) C (11 + 31) 5 (isObj_r (by decide)) rfl (fun _ => [.int (x1)]) (c_X5_get 31 (by decide) (x1)) (e_get 31 (by decide) (x1) _) gX9_versions_X5_get rfl (by decide +kernel) rfl (by decide) (by decide) (Nat.le_of_ble_eq_true rfl) dX9_versions_23 ?_
    exact hR _ _ _ _ dX9_versions_26 hf
  · exact hT3 _ _ _ _ kX9_versions_ex3 kX9_versions_ei3 xaX9_versions_3 dX9_versions_7 dX9_versions_10 dX9_versions_11 dX9_versions_14 (Nat.le_of_ble_eq_true rfl) hf
theorem hiX9_markOf_9 : ∀ w ∈ wsX90, w ∈ wsX9_markOf := by decide +kernel
theorem xaX9_markOf_1 : ∀ w ∈ (vx_at0 RX9 83 (exN 1) exS).filter goodWord, w ∈ wsX9_markOf := fun _ h => List.mem_cons_of_mem _ (List.mem_append_right _ h)
theorem xaX9_markOf_3 : ∀ w ∈ (vx_at0 RX9 100 (exN 3) exS).filter goodWord, w ∈ wsX9_markOf := fun _ h => List.mem_cons_of_mem _ (List.mem_append_left _ (List.mem_append_right _ h))
theorem kX9_markOf_ex3 : Cond.classLink RX9 98 (exN 3) ∈ wsX9_markOf := by decide +kernel
theorem kX9_markOf_ei3 : Cond.initialized (exN 3) ∈ wsX9_markOf := by decide +kernel
theorem kX9_markOf_26 : Cond.fieldLink RX9 26 "ScriptRoom" "schemes" "LScriptRoom$Schemes;" ∈ wsX9_markOf := by decide +kernel
theorem kX9_markOf_ex1 : Cond.classLink RX9 81 (exN 1) ∈ wsX9_markOf := by decide +kernel
theorem kX9_markOf_ei1 : Cond.initialized (exN 1) ∈ wsX9_markOf := by decide +kernel
set_option maxHeartbeats 4000000 in
set_option maxRecDepth 100000 in
theorem w_X9_markOf_19 {X : Ctx} {o : Int64} {rv : (Nat × Int32) × Mem} (C : Cx X cX9_markOf RX9 wsX9_markOf 4 6 89) (hR : Rxi X cX9_markOf 4 o rv) (hT1 : Xt X 4 o rv RX9 1 81 83 cX9_markOf wsX9_markOf) (hT2 : Xt X 4 o rv RX9 2 87 89 cX9_markOf wsX9_markOf) (hT3 : Xt X 4 o rv RX9 3 98 100 cX9_markOf wsX9_markOf) : ∀ (σ : Mem), some rv = f_X9_markOf_19 σ → Bk X 4 o 0 0 19 [] [] σ := by
  intro σ hf
  unfold f_X9_markOf_19 at hf
  exact hT3 _ _ _ _ kX9_markOf_ex3 kX9_markOf_ei3 xaX9_markOf_3 dX9_markOf_19 dX9_markOf_22 dX9_markOf_23 dX9_markOf_26 (Nat.le_of_ble_eq_true rfl) hf
set_option maxHeartbeats 4000000 in
set_option maxRecDepth 100000 in
theorem c_X9_markOf (x1 x2 x3 : Int32) (l : Launch) (hfl : l.stackTraces = false) : Cte l yX9_markOf wsX9_markOf 6 89 (fun G => [.ref (G.1 (9)), .int (x1), .int (x2), .int (x3)]) (f_X9_markOf x1 x2 x3) := by
  refine mk_ei (cc := cX9_markOf) (nL := 4) hfl (by decide) rfl rfl (fun _ => Nat.le_of_ble_eq_true rfl) (Nat.le_of_ble_eq_true rfl) (Nat.le_of_ble_eq_true rfl) (fun X o σ rv C hR hT1 hT2 hT3 hf => ?_)
  show Bk X 4 o 0 0 0 [(0, .ref (ad X (9))), (1, .int (x1)), (2, .int (x2)), (3, .int (x3))] [] σ
  unfold f_X9_markOf at hf
  refine b_iload_n C dX9_markOf_0 rfl 1 rfl ?_
  obtain ⟨y1, τ2, hqy1, hf⟩ := bd_inv hf
  refine b_callSi (n := 1) C (fun _ => [.int (x1)]) (c_X9_isQuestion (x1)) hqy1 gX9_markOf_X9_isQuestion rfl (by decide +kernel) rfl (by decide) (by decide) (Nat.le_of_ble_eq_true rfl) dX9_markOf_1 ?_
  refine b_if_eq C 19 dX9_markOf_4 (by decide) hf (fun hf => ?_) (fun hf => ?_)
  · refine b_sub [] rfl ?_
    exact w_X9_markOf_19 C hR hT1 hT2 hT3 _ hf
  · refine b_aload_n C dX9_markOf_7 rfl 0 rfl ?_
    refine b_getR C hiX9_markOf_9 9 2 (6) (by decide) (by decide) rfl (by decide) kX9_markOf_26 rfl rfl dX9_markOf_8 ?_
    refine b_iload_n C dX9_markOf_11 rfl 1 rfl ?_
    refine b_iload_n C dX9_markOf_12 rfl 2 rfl ?_
    obtain ⟨y3, τ4, hqy3, hf⟩ := bd_inv hf
    refine b_callVi (n := 2) C (6) 6 (isObj_s (by decide) (by decide)) rfl (fun _ => [.int (x1), .int (x2)]) (c_X6_has (x1) (x2)) hqy3 gX9_markOf_X6_has rfl (by decide +kernel) rfl (by decide) (by decide) (Nat.le_of_ble_eq_true rfl) dX9_markOf_13 ?_
    refine b_if_ne C 27 dX9_markOf_16 (by decide) hf (fun hf => ?_) (fun hf => ?_)
    · refine b_iload_n C dX9_markOf_27 rfl 3 rfl ?_
      obtain ⟨y5, τ6, hqy5, hf⟩ := bd_inv hf
      refine b_callSi (n := 1) C (fun _ => [.int (x3)]) (c_X9_arePoints (x3)) hqy5 gX9_markOf_X9_arePoints rfl (by decide +kernel) rfl (by decide) (by decide) (Nat.le_of_ble_eq_true rfl) dX9_markOf_28 ?_
      refine b_if_ne C 42 dX9_markOf_31 (by decide) hf (fun hf => ?_) (fun hf => ?_)
      · refine b_aload_n C dX9_markOf_42 rfl 0 rfl ?_
        refine b_getR C hiX9_markOf_9 9 2 (6) (by decide) (by decide) rfl (by decide) kX9_markOf_26 rfl rfl dX9_markOf_43 ?_
        refine b_iload_n C dX9_markOf_46 rfl 1 rfl ?_
        refine b_iload_n C dX9_markOf_47 rfl 2 rfl ?_
        refine b_iload_n C dX9_markOf_48 rfl 3 rfl ?_
        obtain ⟨y7, τ8, hqy7, hf⟩ := bd_inv hf
        refine b_callVi (n := 3) C (6) 6 (isObj_s (by decide) (by decide)) rfl (fun _ => [.int (x1), .int (x2), .int (x3)]) (c_X6_markBy (x1) (x2) (x3)) hqy7 gX9_markOf_X6_markBy rfl (by decide +kernel) rfl (by decide) (by decide) (Nat.le_of_ble_eq_true rfl) dX9_markOf_49 ?_
        exact hR _ _ _ _ dX9_markOf_52 hf
      · exact hT1 _ _ _ _ kX9_markOf_ex1 kX9_markOf_ei1 xaX9_markOf_1 dX9_markOf_34 dX9_markOf_37 dX9_markOf_38 dX9_markOf_41 (Nat.le_of_ble_eq_true rfl) hf
    · refine b_sub [] rfl ?_
      exact w_X9_markOf_19 C hR hT1 hT2 hT3 _ hf
theorem hiX9_written_9 : ∀ w ∈ wsX90, w ∈ wsX9_written := by decide +kernel
theorem xaX9_written_3 : ∀ w ∈ (vx_at0 RX9 100 (exN 3) exS).filter goodWord, w ∈ wsX9_written := fun _ h => List.mem_cons_of_mem _ (List.mem_append_right _ h)
theorem kX9_written_ex3 : Cond.classLink RX9 98 (exN 3) ∈ wsX9_written := by decide +kernel
theorem kX9_written_ei3 : Cond.initialized (exN 3) ∈ wsX9_written := by decide +kernel
theorem kX9_written_26 : Cond.fieldLink RX9 26 "ScriptRoom" "schemes" "LScriptRoom$Schemes;" ∈ wsX9_written := by decide +kernel
set_option maxHeartbeats 4000000 in
set_option maxRecDepth 100000 in
theorem w_X9_written_23 {X : Ctx} {o : Int64} {rv : (Nat × Int32) × Mem} (C : Cx X cX9_written RX9 wsX9_written 4 6 89) (hR : Rxc X cX9_written 4 o rv) (hT1 : Xt X 4 o rv RX9 1 81 83 cX9_written wsX9_written) (hT2 : Xt X 4 o rv RX9 2 87 89 cX9_written wsX9_written) (hT3 : Xt X 4 o rv RX9 3 98 100 cX9_written wsX9_written) : ∀ (σ : Mem), some rv = f_X9_written_23 σ → Bk X 4 o 0 0 23 [] [] σ := by
  intro σ hf
  unfold f_X9_written_23 at hf
  exact hT3 _ _ _ _ kX9_written_ex3 kX9_written_ei3 xaX9_written_3 dX9_written_23 dX9_written_26 dX9_written_27 dX9_written_30 (Nat.le_of_ble_eq_true rfl) hf
set_option maxHeartbeats 4000000 in
set_option maxRecDepth 100000 in
theorem c_X9_written (x1 x2 x3 : Int32) (l : Launch) (hfl : l.stackTraces = false) : Cte l yX9_written wsX9_written 6 89 (fun G => [.ref (G.1 (9)), .int (x1), .int (x2), .int (x3)]) (f_X9_written x1 x2 x3) := by
  refine mk_ec (cc := cX9_written) (nL := 4) hfl (by decide) rfl rfl (fun _ => Nat.le_of_ble_eq_true rfl) (Nat.le_of_ble_eq_true rfl) (Nat.le_of_ble_eq_true rfl) (fun X o σ rv C hR hT1 hT2 hT3 hf => ?_)
  show Bk X 4 o 0 0 0 [(0, .ref (ad X (9))), (1, .int (x1)), (2, .int (x2)), (3, .int (x3))] [] σ
  unfold f_X9_written at hf
  refine b_iload_n C dX9_written_0 rfl 1 rfl ?_
  obtain ⟨y1, τ2, hqy1, hf⟩ := bd_inv hf
  refine b_callSi (n := 1) C (fun _ => [.int (x1)]) (c_X9_isQuestion (x1)) hqy1 gX9_written_X9_isQuestion rfl (by decide +kernel) rfl (by decide) (by decide) (Nat.le_of_ble_eq_true rfl) dX9_written_1 ?_
  refine b_if_eq C 23 dX9_written_4 (by decide) hf (fun hf => ?_) (fun hf => ?_)
  · refine b_sub [] rfl ?_
    exact w_X9_written_23 C hR hT1 hT2 hT3 _ hf
  · refine b_aload_n C dX9_written_7 rfl 0 rfl ?_
    refine b_getR C hiX9_written_9 9 2 (6) (by decide) (by decide) rfl (by decide) kX9_written_26 rfl rfl dX9_written_8 ?_
    refine b_iload_n C dX9_written_11 rfl 1 rfl ?_
    refine b_iload_n C dX9_written_12 rfl 2 rfl ?_
    obtain ⟨y3, τ4, hqy3, hf⟩ := bd_inv hf
    refine b_callVi (n := 2) C (6) 6 (isObj_s (by decide) (by decide)) rfl (fun _ => [.int (x1), .int (x2)]) (c_X6_has (x1) (x2)) hqy3 gX9_written_X6_has rfl (by decide +kernel) rfl (by decide) (by decide) (Nat.le_of_ble_eq_true rfl) dX9_written_13 ?_
    refine b_if_eq C 23 dX9_written_16 (by decide) hf (fun hf => ?_) (fun hf => ?_)
    · refine b_sub [] rfl ?_
      exact w_X9_written_23 C hR hT1 hT2 hT3 _ hf
    · refine b_iload_n C dX9_written_19 rfl 3 rfl ?_
      refine b_if_ge C 31 dX9_written_20 (by decide) hf (fun hf => ?_) (fun hf => ?_)
      · refine b_aload_n C dX9_written_31 rfl 0 rfl ?_
        refine b_getR C hiX9_written_9 9 2 (6) (by decide) (by decide) rfl (by decide) kX9_written_26 rfl rfl dX9_written_32 ?_
        refine b_iload_n C dX9_written_35 rfl 1 rfl ?_
        refine b_iload_n C dX9_written_36 rfl 2 rfl ?_
        refine b_iload_n C dX9_written_37 rfl 3 rfl ?_
        obtain ⟨y5, τ6, hqy5, hf⟩ := bd_inv hf
        refine b_callVi (n := 3) C (6) 6 (isObj_s (by decide) (by decide)) rfl (fun _ => [.int (x1), .int (x2), .int (x3)]) (c_X6_signAt (x1) (x2) (x3)) hqy5 gX9_written_X6_signAt rfl (by decide +kernel) rfl (by decide) (by decide) (Nat.le_of_ble_eq_true rfl) dX9_written_38 ?_
        refine b_i2c C dX9_written_41 ?_
        exact hR _ _ _ _ dX9_written_42 hf
      · refine b_sub [] rfl ?_
        exact w_X9_written_23 C hR hT1 hT2 hT3 _ hf
theorem hiX9_mark_9 : ∀ w ∈ wsX90, w ∈ wsX9_mark := by decide +kernel
theorem xaX9_mark_3 : ∀ w ∈ (vx_at0 RX9 100 (exN 3) exS).filter goodWord, w ∈ wsX9_mark := fun _ h => List.mem_cons_of_mem _ (List.mem_append_right _ h)
theorem kX9_mark_ex3 : Cond.classLink RX9 98 (exN 3) ∈ wsX9_mark := by decide +kernel
theorem kX9_mark_ei3 : Cond.initialized (exN 3) ∈ wsX9_mark := by decide +kernel
theorem kX9_mark_33 : Cond.fieldLink RX9 33 "ScriptRoom" "pupils" "LScriptRoom$Pupils;" ∈ wsX9_mark := by decide +kernel
set_option maxHeartbeats 4000000 in
set_option maxRecDepth 100000 in
theorem w_X9_mark_18 {X : Ctx} {o : Int64} {rv : (Nat × Int32) × Mem} (C : Cx X cX9_mark RX9 wsX9_mark 3 6 89) (hR : Rxi X cX9_mark 3 o rv) (hT1 : Xt X 3 o rv RX9 1 81 83 cX9_mark wsX9_mark) (hT2 : Xt X 3 o rv RX9 2 87 89 cX9_mark wsX9_mark) (hT3 : Xt X 3 o rv RX9 3 98 100 cX9_mark wsX9_mark) : ∀ (σ : Mem), some rv = f_X9_mark_18 σ → Bk X 3 o 0 0 18 [] [] σ := by
  intro σ hf
  unfold f_X9_mark_18 at hf
  exact hT3 _ _ _ _ kX9_mark_ex3 kX9_mark_ei3 xaX9_mark_3 dX9_mark_18 dX9_mark_21 dX9_mark_22 dX9_mark_25 (Nat.le_of_ble_eq_true rfl) hf
set_option maxHeartbeats 4000000 in
set_option maxRecDepth 100000 in
theorem c_X9_mark (x1 x2 : Int32) (l : Launch) (hfl : l.stackTraces = false) : Cte l yX9_mark wsX9_mark 6 89 (fun G => [.ref (G.1 (9)), .int (x1), .int (x2)]) (f_X9_mark x1 x2) := by
  refine mk_ei (cc := cX9_mark) (nL := 3) hfl (by decide) rfl rfl (fun _ => Nat.le_of_ble_eq_true rfl) (Nat.le_of_ble_eq_true rfl) (Nat.le_of_ble_eq_true rfl) (fun X o σ rv C hR hT1 hT2 hT3 hf => ?_)
  show Bk X 3 o 0 0 0 [(0, .ref (ad X (9))), (1, .int (x1)), (2, .int (x2))] [] σ
  unfold f_X9_mark at hf
  refine b_aload_n C dX9_mark_0 rfl 0 rfl ?_
  refine b_getR C hiX9_mark_9 9 3 (3) (by decide) (by decide) rfl (by decide) kX9_mark_33 rfl rfl dX9_mark_1 ?_
  refine b_iload_n C dX9_mark_4 rfl 1 rfl ?_
  obtain ⟨y1, τ2, hqy1, hf⟩ := bd_inv hf
  refine b_callVi (n := 1) C (3) 3 (isObj_s (by decide) (by decide)) rfl (fun _ => [.int (x1)]) (c_X3_has (x1)) hqy1 gX9_mark_X3_has rfl (by decide +kernel) rfl (by decide) (by decide) (Nat.le_of_ble_eq_true rfl) dX9_mark_5 ?_
  refine b_if_eq C 18 dX9_mark_8 (by decide) hf (fun hf => ?_) (fun hf => ?_)
  · refine b_sub [] rfl ?_
    exact w_X9_mark_18 C hR hT1 hT2 hT3 _ hf
  · refine b_iload_n C dX9_mark_11 rfl 2 rfl ?_
    obtain ⟨y3, τ4, hqy3, hf⟩ := bd_inv hf
    refine b_callSi (n := 1) C (fun _ => [.int (x2)]) (c_X9_isQuestion (x2)) hqy3 gX9_mark_X9_isQuestion rfl (by decide +kernel) rfl (by decide) (by decide) (Nat.le_of_ble_eq_true rfl) dX9_mark_12 ?_
    refine b_if_ne C 26 dX9_mark_15 (by decide) hf (fun hf => ?_) (fun hf => ?_)
    · refine b_aload_n C dX9_mark_26 rfl 0 rfl ?_
      refine b_iload_n C dX9_mark_27 rfl 1 rfl ?_
      refine b_iload_n C dX9_mark_28 rfl 2 rfl ?_
      obtain ⟨y5, τ6, hqy5, hf⟩ := bd_inv hf
      refine b_callVi (n := 2) C (9) 9 (isObj_s (by decide) (by decide)) rfl (fun _ => [.int (x1), .int (x2)]) (c_X9_markNow (x1) (x2)) hqy5 gX9_mark_X9_markNow rfl (by decide +kernel) rfl (by decide) (by decide) (Nat.le_of_ble_eq_true rfl) dX9_mark_29 ?_
      exact hR _ _ _ _ dX9_mark_32 hf
    · refine b_sub [] rfl ?_
      exact w_X9_mark_18 C hR hT1 hT2 hT3 _ hf
theorem hiX9_markAnew_9 : ∀ w ∈ wsX90, w ∈ wsX9_markAnew := by decide +kernel
theorem xaX9_markAnew_3 : ∀ w ∈ (vx_at0 RX9 100 (exN 3) exS).filter goodWord, w ∈ wsX9_markAnew := fun _ h => List.mem_cons_of_mem _ (List.mem_append_right _ h)
theorem kX9_markAnew_ex3 : Cond.classLink RX9 98 (exN 3) ∈ wsX9_markAnew := by decide +kernel
theorem kX9_markAnew_ei3 : Cond.initialized (exN 3) ∈ wsX9_markAnew := by decide +kernel
theorem kX9_markAnew_77 : Cond.fieldLink RX9 77 "ScriptRoom" "apartAtMost" "I" ∈ wsX9_markAnew := by decide +kernel
theorem kX9_markAnew_33 : Cond.fieldLink RX9 33 "ScriptRoom" "pupils" "LScriptRoom$Pupils;" ∈ wsX9_markAnew := by decide +kernel
theorem kX9_markAnew_70 : Cond.fieldLink RX9 70 "ScriptRoom" "doubled" "LScriptRoom$Row;" ∈ wsX9_markAnew := by decide +kernel
set_option maxHeartbeats 4000000 in
set_option maxRecDepth 100000 in
theorem w_X9_markAnew_18 {X : Ctx} {o : Int64} {rv : (Nat × Int32) × Mem} (C : Cx X cX9_markAnew RX9 wsX9_markAnew 6 6 141) (hR : Rxi X cX9_markAnew 6 o rv) (hT1 : Xt X 6 o rv RX9 1 81 83 cX9_markAnew wsX9_markAnew) (hT2 : Xt X 6 o rv RX9 2 87 89 cX9_markAnew wsX9_markAnew) (hT3 : Xt X 6 o rv RX9 3 98 100 cX9_markAnew wsX9_markAnew) : ∀ (σ : Mem), some rv = f_X9_markAnew_18 σ → Bk X 6 o 0 0 18 [] [] σ := by
  intro σ hf
  unfold f_X9_markAnew_18 at hf
  exact hT3 _ _ _ _ kX9_markAnew_ex3 kX9_markAnew_ei3 xaX9_markAnew_3 dX9_markAnew_18 dX9_markAnew_21 dX9_markAnew_22 dX9_markAnew_25 (Nat.le_of_ble_eq_true rfl) hf
set_option maxHeartbeats 4000000 in
set_option maxRecDepth 100000 in
theorem w_X9_markAnew_126 {X : Ctx} {o : Int64} {rv : (Nat × Int32) × Mem} (C : Cx X cX9_markAnew RX9 wsX9_markAnew 6 6 141) (hR : Rxi X cX9_markAnew 6 o rv) (hT1 : Xt X 6 o rv RX9 1 81 83 cX9_markAnew wsX9_markAnew) (hT2 : Xt X 6 o rv RX9 2 87 89 cX9_markAnew wsX9_markAnew) (hT3 : Xt X 6 o rv RX9 3 98 100 cX9_markAnew wsX9_markAnew) : ∀ (s0 : Int32) (σ : Mem), some rv = f_X9_markAnew_126 s0 σ → Bk X 6 o 0 0 126 [] [.int (s0)] σ := by
  intro s0 σ hf
  unfold f_X9_markAnew_126 at hf
  exact hR _ _ _ _ dX9_markAnew_126 hf
set_option maxHeartbeats 4000000 in
set_option maxRecDepth 100000 in
theorem w_X9_markAnew_124 {X : Ctx} {o : Int64} {rv : (Nat × Int32) × Mem} (C : Cx X cX9_markAnew RX9 wsX9_markAnew 6 6 141) (hR : Rxi X cX9_markAnew 6 o rv) (hT1 : Xt X 6 o rv RX9 1 81 83 cX9_markAnew wsX9_markAnew) (hT2 : Xt X 6 o rv RX9 2 87 89 cX9_markAnew wsX9_markAnew) (hT3 : Xt X 6 o rv RX9 3 98 100 cX9_markAnew wsX9_markAnew) : ∀ (v4 : Int32) (σ : Mem), some rv = f_X9_markAnew_124 v4 σ → Bk X 6 o 0 0 124 [(4, .int (v4))] [] σ := by
  intro v4 σ hf
  unfold f_X9_markAnew_124 at hf
  refine b_iload C dX9_markAnew_124 0 rfl ?_
  refine b_sub [] rfl ?_
  exact w_X9_markAnew_126 C hR hT1 hT2 hT3 _ _ hf
set_option maxHeartbeats 4000000 in
set_option maxRecDepth 100000 in
theorem w_X9_markAnew_77 {X : Ctx} {o : Int64} {rv : (Nat × Int32) × Mem} (C : Cx X cX9_markAnew RX9 wsX9_markAnew 6 6 141) (hR : Rxi X cX9_markAnew 6 o rv) (hT1 : Xt X 6 o rv RX9 1 81 83 cX9_markAnew wsX9_markAnew) (hT2 : Xt X 6 o rv RX9 2 87 89 cX9_markAnew wsX9_markAnew) (hT3 : Xt X 6 o rv RX9 3 98 100 cX9_markAnew wsX9_markAnew) : ∀ (v3 s0 : Int32) (σ : Mem), some rv = f_X9_markAnew_77 v3 s0 σ → Bk X 6 o 0 0 77 [(0, .ref (ad X (9))), (3, .int (v3))] [.int (s0)] σ := by
  intro v3 s0 σ hf
  unfold f_X9_markAnew_77 at hf
  refine b_istore (lv' := [(4, .int (s0)), (0, .ref (ad X (9))), (3, .int (v3))]) C dX9_markAnew_77 (by decide) rfl ?_
  refine b_aload_n C dX9_markAnew_79 rfl 1 rfl ?_
  refine b_aload_n C dX9_markAnew_80 rfl 1 rfl ?_
  refine b_iload_n C dX9_markAnew_81 rfl 2 rfl ?_
  refine b_iconst C (v := 0) dX9_markAnew_82 (by decide) ?_
  refine b_iconst C (v := 1) dX9_markAnew_83 (by decide) ?_
  refine b_iconst C (v := 0) dX9_markAnew_84 (by decide) ?_
  obtain ⟨y1, τ2, hqy1, hf⟩ := bd_inv hf
  refine b_callVi (n := 4) C (9) 9 (isObj_s (by decide) (by decide)) rfl (fun _ => [.int (v3), .int (0), .int (1), .int (0)]) (c_X9_findReading (v3) (0) (1) (0)) hqy1 gX9_markAnew_X9_findReading rfl (by decide +kernel) rfl (by decide) (by decide) (Nat.le_of_ble_eq_true rfl) dX9_markAnew_85 ?_
  obtain ⟨y3, τ4, hqy3, hf⟩ := bd_inv hf
  refine b_callVi (n := 1) C (9) 9 (isObj_s (by decide) (by decide)) rfl (fun _ => [.int (y1)]) (c_X9_markFound (y1)) hqy3 gX9_markAnew_X9_markFound rfl (by decide +kernel) rfl (by decide) (by decide) (Nat.le_of_ble_eq_true rfl) dX9_markAnew_88 ?_
  refine b_istore (lv' := [(5, .int (y3)), (4, .int (s0)), (0, .ref (ad X (9))), (3, .int (v3))]) C dX9_markAnew_91 (by decide) rfl ?_
  refine b_iload C dX9_markAnew_93 1 rfl ?_
  refine b_iconst C (v := (-1)) dX9_markAnew_95 (by decide) ?_
  refine b_icmp_eq C 124 dX9_markAnew_96 (by decide) hf (fun hf => ?_) (fun hf => ?_)
  · refine b_sub [1] rfl ?_
    exact w_X9_markAnew_124 C hR hT1 hT2 hT3 _ _ hf
  · refine b_iload C dX9_markAnew_99 0 rfl ?_
    refine b_iconst C (v := (-1)) dX9_markAnew_101 (by decide) ?_
    refine b_icmp_eq C 124 dX9_markAnew_102 (by decide) hf (fun hf => ?_) (fun hf => ?_)
    · refine b_sub [1] rfl ?_
      exact w_X9_markAnew_124 C hR hT1 hT2 hT3 _ _ hf
    · refine b_iload C dX9_markAnew_105 1 rfl ?_
      refine b_iload C dX9_markAnew_107 0 rfl ?_
      refine b_aload_n C dX9_markAnew_109 rfl 2 rfl ?_
      refine b_getS C hiX9_markAnew_9 9 10 17 (by decide) (by decide) rfl (by decide) kX9_markAnew_77 rfl rfl dX9_markAnew_110 ?_
      obtain ⟨y5, τ6, hqy5, hf⟩ := bd_inv hf
      refine b_callSi (n := 3) C (fun _ => [.int (s0), .int (y3), .int (τ4 76 17)]) (c_X9_areApart (s0) (y3) (τ4 76 17)) hqy5 gX9_markAnew_X9_areApart rfl (by decide +kernel) rfl (by decide) (by decide) (Nat.le_of_ble_eq_true rfl) dX9_markAnew_113 ?_
      refine b_if_eq C 124 dX9_markAnew_116 (by decide) hf (fun hf => ?_) (fun hf => ?_)
      · refine b_sub [1] rfl ?_
        exact w_X9_markAnew_124 C hR hT1 hT2 hT3 _ _ hf
      · refine b_iload C dX9_markAnew_119 0 rfl ?_
        refine b_goto C 126 dX9_markAnew_121 (by decide) ?_
        refine b_sub [] rfl ?_
        exact w_X9_markAnew_126 C hR hT1 hT2 hT3 _ _ hf
set_option maxHeartbeats 4000000 in
set_option maxRecDepth 100000 in
theorem c_X9_markAnew (x1 x2 : Int32) (l : Launch) (hfl : l.stackTraces = false) : Cte l yX9_markAnew wsX9_markAnew 6 141 (fun G => [.ref (G.1 (9)), .int (x1), .int (x2)]) (f_X9_markAnew x1 x2) := by
  refine mk_ei (cc := cX9_markAnew) (nL := 6) hfl (by decide) rfl rfl (fun _ => Nat.le_of_ble_eq_true rfl) (Nat.le_of_ble_eq_true rfl) (Nat.le_of_ble_eq_true rfl) (fun X o σ rv C hR hT1 hT2 hT3 hf => ?_)
  show Bk X 6 o 0 0 0 [(0, .ref (ad X (9))), (1, .int (x1)), (2, .int (x2))] [] σ
  unfold f_X9_markAnew at hf
  refine b_aload_n C dX9_markAnew_0 rfl 0 rfl ?_
  refine b_getR C hiX9_markAnew_9 9 3 (3) (by decide) (by decide) rfl (by decide) kX9_markAnew_33 rfl rfl dX9_markAnew_1 ?_
  refine b_iload_n C dX9_markAnew_4 rfl 1 rfl ?_
  obtain ⟨y7, τ8, hqy7, hf⟩ := bd_inv hf
  refine b_callVi (n := 1) C (3) 3 (isObj_s (by decide) (by decide)) rfl (fun _ => [.int (x1)]) (c_X3_has (x1)) hqy7 gX9_markAnew_X3_has rfl (by decide +kernel) rfl (by decide) (by decide) (Nat.le_of_ble_eq_true rfl) dX9_markAnew_5 ?_
  refine b_if_eq C 18 dX9_markAnew_8 (by decide) hf (fun hf => ?_) (fun hf => ?_)
  · refine b_sub [] rfl ?_
    exact w_X9_markAnew_18 C hR hT1 hT2 hT3 _ hf
  · refine b_iload_n C dX9_markAnew_11 rfl 2 rfl ?_
    obtain ⟨y9, τ10, hqy9, hf⟩ := bd_inv hf
    refine b_callSi (n := 1) C (fun _ => [.int (x2)]) (c_X9_isQuestion (x2)) hqy9 gX9_markAnew_X9_isQuestion rfl (by decide +kernel) rfl (by decide) (by decide) (Nat.le_of_ble_eq_true rfl) dX9_markAnew_12 ?_
    refine b_if_ne C 26 dX9_markAnew_15 (by decide) hf (fun hf => ?_) (fun hf => ?_)
    · refine b_aload_n C dX9_markAnew_26 rfl 0 rfl ?_
      refine b_getR C hiX9_markAnew_9 9 3 (3) (by decide) (by decide) rfl (by decide) kX9_markAnew_33 rfl rfl dX9_markAnew_27 ?_
      refine b_iload_n C dX9_markAnew_30 rfl 1 rfl ?_
      refine b_iload_n C dX9_markAnew_31 rfl 2 rfl ?_
      obtain ⟨y11, τ12, hqy11, hf⟩ := bd_inv hf
      refine b_callVi (n := 2) C (3) 3 (isObj_s (by decide) (by decide)) rfl (fun _ => [.int (x1), .int (x2)]) (c_X3_isLacking (x1) (x2)) hqy11 gX9_markAnew_X3_isLacking rfl (by decide +kernel) rfl (by decide) (by decide) (Nat.le_of_ble_eq_true rfl) dX9_markAnew_32 ?_
      refine b_if_eq C 40 dX9_markAnew_35 (by decide) hf (fun hf => ?_) (fun hf => ?_)
      · refine b_iload_n C dX9_markAnew_40 rfl 1 rfl ?_
        refine b_iload_n C dX9_markAnew_41 rfl 2 rfl ?_
        obtain ⟨y13, τ14, hqy13, hf⟩ := bd_inv hf
        refine b_callSi (n := 2) C (fun _ => [.int (x1), .int (x2)]) (c_X9_answerOf (x1) (x2)) hqy13 gX9_markAnew_X9_answerOf rfl (by decide +kernel) rfl (by decide) (by decide) (Nat.le_of_ble_eq_true rfl) dX9_markAnew_42 ?_
        refine b_istore_n (lv' := [(3, .int (y13)), (0, .ref (ad X (9))), (1, .int (x1)), (2, .int (x2))]) C dX9_markAnew_45 rfl (by decide) rfl ?_
        refine b_aload_n C dX9_markAnew_46 rfl 1 rfl ?_
        refine b_getR C hiX9_markAnew_9 9 8 (11 + 41) (by decide) (by decide) rfl (by decide) kX9_markAnew_70 rfl rfl dX9_markAnew_47 ?_
        refine b_iload_n C dX9_markAnew_50 rfl 3 rfl ?_
        refine b_callVi (n := 1) C (11 + 41) 5 (isObj_r (by decide)) rfl (fun _ => [.int (x2)]) (c_X5_is 41 (by decide) (x2)) (e_is 41 (by decide) (x2) _) gX9_markAnew_X5_is rfl (by decide +kernel) rfl (by decide) (by decide) (Nat.le_of_ble_eq_true rfl) dX9_markAnew_51 ?_
        refine b_if_eq C 65 dX9_markAnew_54 (by decide) hf (fun hf => ?_) (fun hf => ?_)
        · refine b_aload_n C dX9_markAnew_65 rfl 1 rfl ?_
          refine b_aload_n C dX9_markAnew_66 rfl 1 rfl ?_
          refine b_iload_n C dX9_markAnew_67 rfl 0 rfl ?_
          refine b_iconst C (v := 0) dX9_markAnew_68 (by decide) ?_
          refine b_iconst C (v := 0) dX9_markAnew_69 (by decide) ?_
          refine b_iconst C (v := 0) dX9_markAnew_70 (by decide) ?_
          obtain ⟨y15, τ16, hqy15, hf⟩ := bd_inv hf
          refine b_callVi (n := 4) C (9) 9 (isObj_s (by decide) (by decide)) rfl (fun _ => [.int (y13), .int (0), .int (0), .int (0)]) (c_X9_findReading (y13) (0) (0) (0)) hqy15 gX9_markAnew_X9_findReading rfl (by decide +kernel) rfl (by decide) (by decide) (Nat.le_of_ble_eq_true rfl) dX9_markAnew_71 ?_
          obtain ⟨y17, τ18, hqy17, hf⟩ := bd_inv hf
          refine b_callVi (n := 1) C (9) 9 (isObj_s (by decide) (by decide)) rfl (fun _ => [.int (y15)]) (c_X9_markFound (y15)) hqy17 gX9_markAnew_X9_markFound rfl (by decide +kernel) rfl (by decide) (by decide) (Nat.le_of_ble_eq_true rfl) dX9_markAnew_74 ?_
          refine b_sub [1, 0] rfl ?_
          exact w_X9_markAnew_77 C hR hT1 hT2 hT3 _ _ _ hf
        · refine b_aload_n C dX9_markAnew_57 rfl 1 rfl ?_
          refine b_iload_n C dX9_markAnew_58 rfl 0 rfl ?_
          obtain ⟨y19, τ20, hqy19, hf⟩ := bd_inv hf
          refine b_callVi (n := 1) C (9) 9 (isObj_s (by decide) (by decide)) rfl (fun _ => [.int (y13)]) (c_X9_doubleFromLog (y13)) hqy19 gX9_markAnew_X9_doubleFromLog rfl (by decide +kernel) rfl (by decide) (by decide) (Nat.le_of_ble_eq_true rfl) dX9_markAnew_59 ?_
          refine b_goto C 77 dX9_markAnew_62 (by decide) ?_
          refine b_sub [1, 0] rfl ?_
          exact w_X9_markAnew_77 C hR hT1 hT2 hT3 _ _ _ hf
      · refine b_iconst C (v := 0) dX9_markAnew_38 (by decide) ?_
        exact hR _ _ _ _ dX9_markAnew_39 hf
    · refine b_sub [] rfl ?_
      exact w_X9_markAnew_18 C hR hT1 hT2 hT3 _ hf
theorem hiX9_answer_8 : ∀ w ∈ wsX80, w ∈ wsX9_answer := by decide +kernel
theorem hiX9_answer_9 : ∀ w ∈ wsX90, w ∈ wsX9_answer := by decide +kernel
theorem xaX9_answer_1 : ∀ w ∈ (vx_at0 RX9 83 (exN 1) exS).filter goodWord, w ∈ wsX9_answer := fun _ h => List.mem_cons_of_mem _ (List.mem_append_right _ h)
theorem xaX9_answer_3 : ∀ w ∈ (vx_at0 RX9 100 (exN 3) exS).filter goodWord, w ∈ wsX9_answer := fun _ h => List.mem_cons_of_mem _ (List.mem_append_left _ (List.mem_append_right _ h))
theorem kX9_answer_ex3 : Cond.classLink RX9 98 (exN 3) ∈ wsX9_answer := by decide +kernel
theorem kX9_answer_ei3 : Cond.initialized (exN 3) ∈ wsX9_answer := by decide +kernel
theorem kX9_answer_ex1 : Cond.classLink RX9 81 (exN 1) ∈ wsX9_answer := by decide +kernel
theorem kX9_answer_ei1 : Cond.initialized (exN 1) ∈ wsX9_answer := by decide +kernel
theorem kX9_answer_33 : Cond.fieldLink RX9 33 "ScriptRoom" "pupils" "LScriptRoom$Pupils;" ∈ wsX9_answer := by decide +kernel
theorem kX9_answer_61 : Cond.fieldLink RX9 61 "ScriptRoom" "tally" "LScriptRoom$Tally;" ∈ wsX9_answer := by decide +kernel
theorem kX9_answer_251 : Cond.fieldLink RX9 251 "ScriptRoom$Tally" "all" "I" ∈ wsX9_answer := by decide +kernel
theorem kX9_answer_248 : Cond.fieldLink RX9 248 "ScriptRoom$Tally" "counting" "I" ∈ wsX9_answer := by decide +kernel
set_option maxHeartbeats 4000000 in
set_option maxRecDepth 100000 in
theorem w_X9_answer_18 {X : Ctx} {o : Int64} {rv : (Nat × Int32) × Mem} (C : Cx X cX9_answer RX9 wsX9_answer 4 6 89) (hR : Rxi X cX9_answer 4 o rv) (hT1 : Xt X 4 o rv RX9 1 81 83 cX9_answer wsX9_answer) (hT2 : Xt X 4 o rv RX9 2 87 89 cX9_answer wsX9_answer) (hT3 : Xt X 4 o rv RX9 3 98 100 cX9_answer wsX9_answer) : ∀ (σ : Mem), some rv = f_X9_answer_18 σ → Bk X 4 o 0 0 18 [] [] σ := by
  intro σ hf
  unfold f_X9_answer_18 at hf
  exact hT3 _ _ _ _ kX9_answer_ex3 kX9_answer_ei3 xaX9_answer_3 dX9_answer_18 dX9_answer_21 dX9_answer_22 dX9_answer_25 (Nat.le_of_ble_eq_true rfl) hf
set_option maxHeartbeats 4000000 in
set_option maxRecDepth 100000 in
theorem w_X9_answer_35 {X : Ctx} {o : Int64} {rv : (Nat × Int32) × Mem} (C : Cx X cX9_answer RX9 wsX9_answer 4 6 89) (hR : Rxi X cX9_answer 4 o rv) (hT1 : Xt X 4 o rv RX9 1 81 83 cX9_answer wsX9_answer) (hT2 : Xt X 4 o rv RX9 2 87 89 cX9_answer wsX9_answer) (hT3 : Xt X 4 o rv RX9 3 98 100 cX9_answer wsX9_answer) : ∀ (σ : Mem), some rv = f_X9_answer_35 σ → Bk X 4 o 0 0 35 [] [] σ := by
  intro σ hf
  unfold f_X9_answer_35 at hf
  exact hT1 _ _ _ _ kX9_answer_ex1 kX9_answer_ei1 xaX9_answer_1 dX9_answer_35 dX9_answer_38 dX9_answer_39 dX9_answer_42 (Nat.le_of_ble_eq_true rfl) hf
set_option maxHeartbeats 4000000 in
set_option maxRecDepth 100000 in
theorem w_X9_answer_77 {X : Ctx} {o : Int64} {rv : (Nat × Int32) × Mem} (C : Cx X cX9_answer RX9 wsX9_answer 4 6 89) (hR : Rxi X cX9_answer 4 o rv) (hT1 : Xt X 4 o rv RX9 1 81 83 cX9_answer wsX9_answer) (hT2 : Xt X 4 o rv RX9 2 87 89 cX9_answer wsX9_answer) (hT3 : Xt X 4 o rv RX9 3 98 100 cX9_answer wsX9_answer) : ∀ (s0 : Int32) (σ : Mem), some rv = f_X9_answer_77 s0 σ → Bk X 4 o 0 0 77 [] [.int (s0)] σ := by
  intro s0 σ hf
  unfold f_X9_answer_77 at hf
  exact hR _ _ _ _ dX9_answer_77 hf
set_option maxHeartbeats 4000000 in
set_option maxRecDepth 100000 in
theorem w_X9_answer_105 {X : Ctx} {o : Int64} {rv : (Nat × Int32) × Mem} (C : Cx X cX9_answer RX9 wsX9_answer 4 6 89) (hR : Rxi X cX9_answer 4 o rv) (hT1 : Xt X 4 o rv RX9 1 81 83 cX9_answer wsX9_answer) (hT2 : Xt X 4 o rv RX9 2 87 89 cX9_answer wsX9_answer) (hT3 : Xt X 4 o rv RX9 3 98 100 cX9_answer wsX9_answer) : ∀ (s0 : Int32) (σ : Mem), some rv = f_X9_answer_105 s0 σ → Bk X 4 o 0 0 105 [] [.int (s0)] σ := by
  intro s0 σ hf
  unfold f_X9_answer_105 at hf
  exact hR _ _ _ _ dX9_answer_105 hf
set_option maxHeartbeats 4000000 in
set_option maxRecDepth 100000 in
theorem c_X9_answer (x1 x2 x3 : Int32) (l : Launch) (hfl : l.stackTraces = false) : Cte l yX9_answer wsX9_answer 6 89 (fun G => [.ref (G.1 (9)), .int (x1), .int (x2), .int (x3)]) (f_X9_answer x1 x2 x3) := by
  refine mk_ei (cc := cX9_answer) (nL := 4) hfl (by decide) rfl rfl (fun _ => Nat.le_of_ble_eq_true rfl) (Nat.le_of_ble_eq_true rfl) (Nat.le_of_ble_eq_true rfl) (fun X o σ rv C hR hT1 hT2 hT3 hf => ?_)
  show Bk X 4 o 0 0 0 [(0, .ref (ad X (9))), (1, .int (x1)), (2, .int (x2)), (3, .int (x3))] [] σ
  unfold f_X9_answer at hf
  refine b_aload_n C dX9_answer_0 rfl 0 rfl ?_
  refine b_getR C hiX9_answer_9 9 3 (3) (by decide) (by decide) rfl (by decide) kX9_answer_33 rfl rfl dX9_answer_1 ?_
  refine b_iload_n C dX9_answer_4 rfl 1 rfl ?_
  obtain ⟨y1, τ2, hqy1, hf⟩ := bd_inv hf
  refine b_callVi (n := 1) C (3) 3 (isObj_s (by decide) (by decide)) rfl (fun _ => [.int (x1)]) (c_X3_has (x1)) hqy1 gX9_answer_X3_has rfl (by decide +kernel) rfl (by decide) (by decide) (Nat.le_of_ble_eq_true rfl) dX9_answer_5 ?_
  refine b_if_eq C 18 dX9_answer_8 (by decide) hf (fun hf => ?_) (fun hf => ?_)
  · refine b_sub [] rfl ?_
    exact w_X9_answer_18 C hR hT1 hT2 hT3 _ hf
  · refine b_iload_n C dX9_answer_11 rfl 2 rfl ?_
    obtain ⟨y3, τ4, hqy3, hf⟩ := bd_inv hf
    refine b_callSi (n := 1) C (fun _ => [.int (x2)]) (c_X9_isQuestion (x2)) hqy3 gX9_answer_X9_isQuestion rfl (by decide +kernel) rfl (by decide) (by decide) (Nat.le_of_ble_eq_true rfl) dX9_answer_12 ?_
    refine b_if_ne C 26 dX9_answer_15 (by decide) hf (fun hf => ?_) (fun hf => ?_)
    · refine b_iload_n C dX9_answer_26 rfl 3 rfl ?_
      refine b_if_lt C 35 dX9_answer_27 (by decide) hf (fun hf => ?_) (fun hf => ?_)
      · refine b_sub [] rfl ?_
        exact w_X9_answer_35 C hR hT1 hT2 hT3 _ hf
      · refine b_iload_n C dX9_answer_30 rfl 3 rfl ?_
        refine b_iconst C (v := 3) dX9_answer_31 (by decide) ?_
        refine b_icmp_le C 43 dX9_answer_32 (by decide) hf (fun hf => ?_) (fun hf => ?_)
        · refine b_iload_n C dX9_answer_43 rfl 3 rfl ?_
          refine b_iconst C (v := 2) dX9_answer_44 (by decide) ?_
          refine b_icmp_ne C 55 dX9_answer_45 (by decide) hf (fun hf => ?_) (fun hf => ?_)
          · refine b_iload_n C dX9_answer_55 rfl 3 rfl ?_
            refine b_iconst C (v := 3) dX9_answer_56 (by decide) ?_
            refine b_icmp_ne C 78 dX9_answer_57 (by decide) hf (fun hf => ?_) (fun hf => ?_)
            · refine b_aload_n C dX9_answer_78 rfl 0 rfl ?_
              refine b_iload_n C dX9_answer_79 rfl 1 rfl ?_
              refine b_iload_n C dX9_answer_80 rfl 2 rfl ?_
              obtain ⟨y5, τ6, hqy5, hf⟩ := bd_inv hf
              refine b_callVv (n := 2) C (9) 9 (isObj_s (by decide) (by decide)) rfl (fun _ => [.int (x1), .int (x2)]) (c_X9_tallyUp (x1) (x2)) hqy5 gX9_answer_X9_tallyUp rfl (by decide +kernel) rfl (by decide) (by decide) (Nat.le_of_ble_eq_true rfl) dX9_answer_81 ?_
              refine b_iload_n C dX9_answer_84 rfl 3 rfl ?_
              refine b_if_ne C 98 dX9_answer_85 (by decide) hf (fun hf => ?_) (fun hf => ?_)
              · refine b_aload_n C dX9_answer_98 rfl 0 rfl ?_
                refine b_getR C hiX9_answer_9 9 7 (8) (by decide) (by decide) rfl (by decide) kX9_answer_61 rfl rfl dX9_answer_99 ?_
                refine b_getS C hiX9_answer_8 8 0 10 (by decide) (by decide) rfl (by decide) kX9_answer_251 rfl rfl dX9_answer_102 ?_
                refine b_sub [] rfl ?_
                exact w_X9_answer_105 C hR hT1 hT2 hT3 _ _ hf
              · refine b_aload_n C dX9_answer_88 rfl 0 rfl ?_
                refine b_getR C hiX9_answer_9 9 7 (8) (by decide) (by decide) rfl (by decide) kX9_answer_61 rfl rfl dX9_answer_89 ?_
                refine b_getS C hiX9_answer_8 8 1 11 (by decide) (by decide) rfl (by decide) kX9_answer_248 rfl rfl dX9_answer_92 ?_
                refine b_goto C 105 dX9_answer_95 (by decide) ?_
                refine b_sub [] rfl ?_
                exact w_X9_answer_105 C hR hT1 hT2 hT3 _ _ hf
            · refine b_aload_n C dX9_answer_60 rfl 0 rfl ?_
              refine b_getR C hiX9_answer_9 9 3 (3) (by decide) (by decide) rfl (by decide) kX9_answer_33 rfl rfl dX9_answer_61 ?_
              refine b_iload_n C dX9_answer_64 rfl 1 rfl ?_
              refine b_iload_n C dX9_answer_65 rfl 2 rfl ?_
              obtain ⟨y7, τ8, hqy7, hf⟩ := bd_inv hf
              refine b_callVi (n := 2) C (3) 3 (isObj_s (by decide) (by decide)) rfl (fun _ => [.int (x1), .int (x2)]) (c_X3_isAppealed (x1) (x2)) hqy7 gX9_answer_X3_isAppealed rfl (by decide +kernel) rfl (by decide) (by decide) (Nat.le_of_ble_eq_true rfl) dX9_answer_66 ?_
              refine b_if_eq C 76 dX9_answer_69 (by decide) hf (fun hf => ?_) (fun hf => ?_)
              · refine b_iconst C (v := 0) dX9_answer_76 (by decide) ?_
                refine b_sub [] rfl ?_
                exact w_X9_answer_77 C hR hT1 hT2 hT3 _ _ hf
              · refine b_iconst C (v := 1) dX9_answer_72 (by decide) ?_
                refine b_goto C 77 dX9_answer_73 (by decide) ?_
                refine b_sub [] rfl ?_
                exact w_X9_answer_77 C hR hT1 hT2 hT3 _ _ hf
          · refine b_aload_n C dX9_answer_48 rfl 0 rfl ?_
            refine b_iload_n C dX9_answer_49 rfl 1 rfl ?_
            refine b_iload_n C dX9_answer_50 rfl 2 rfl ?_
            obtain ⟨y9, τ10, hqy9, hf⟩ := bd_inv hf
            refine b_callVi (n := 2) C (9) 9 (isObj_s (by decide) (by decide)) rfl (fun _ => [.int (x1), .int (x2)]) (c_X9_wantedBy (x1) (x2)) hqy9 gX9_answer_X9_wantedBy rfl (by decide +kernel) rfl (by decide) (by decide) (Nat.le_of_ble_eq_true rfl) dX9_answer_51 ?_
            exact hR _ _ _ _ dX9_answer_54 hf
        · refine b_sub [] rfl ?_
          exact w_X9_answer_35 C hR hT1 hT2 hT3 _ hf
    · refine b_sub [] rfl ?_
      exact w_X9_answer_18 C hR hT1 hT2 hT3 _ hf
theorem hiX9_total_9 : ∀ w ∈ wsX90, w ∈ wsX9_total := by decide +kernel
theorem xaX9_total_3 : ∀ w ∈ (vx_at0 RX9 100 (exN 3) exS).filter goodWord, w ∈ wsX9_total := fun _ h => List.mem_cons_of_mem _ (List.mem_append_right _ h)
theorem kX9_total_33 : Cond.fieldLink RX9 33 "ScriptRoom" "pupils" "LScriptRoom$Pupils;" ∈ wsX9_total := by decide +kernel
theorem kX9_total_ex3 : Cond.classLink RX9 98 (exN 3) ∈ wsX9_total := by decide +kernel
theorem kX9_total_ei3 : Cond.initialized (exN 3) ∈ wsX9_total := by decide +kernel
set_option maxHeartbeats 4000000 in
set_option maxRecDepth 100000 in
theorem c_X9_total (x1 : Int32) (l : Launch) (hfl : l.stackTraces = false) : Cte l yX9_total wsX9_total 6 114 (fun G => [.ref (G.1 (9)), .int (x1)]) (f_X9_total x1) := by
  refine mk_ei (cc := cX9_total) (nL := 2) hfl (by decide) rfl rfl (fun _ => Nat.le_of_ble_eq_true rfl) (Nat.le_of_ble_eq_true rfl) (Nat.le_of_ble_eq_true rfl) (fun X o σ rv C hR hT1 hT2 hT3 hf => ?_)
  show Bk X 2 o 0 0 0 [(0, .ref (ad X (9))), (1, .int (x1))] [] σ
  unfold f_X9_total at hf
  refine b_aload_n C dX9_total_0 rfl 0 rfl ?_
  refine b_getR C hiX9_total_9 9 3 (3) (by decide) (by decide) rfl (by decide) kX9_total_33 rfl rfl dX9_total_1 ?_
  refine b_iload_n C dX9_total_4 rfl 1 rfl ?_
  obtain ⟨y1, τ2, hqy1, hf⟩ := bd_inv hf
  refine b_callVi (n := 1) C (3) 3 (isObj_s (by decide) (by decide)) rfl (fun _ => [.int (x1)]) (c_X3_has (x1)) hqy1 gX9_total_X3_has rfl (by decide +kernel) rfl (by decide) (by decide) (Nat.le_of_ble_eq_true rfl) dX9_total_5 ?_
  refine b_if_ne C 19 dX9_total_8 (by decide) hf (fun hf => ?_) (fun hf => ?_)
  · refine b_aload_n C dX9_total_19 rfl 0 rfl ?_
    refine b_iload_n C dX9_total_20 rfl 1 rfl ?_
    obtain ⟨y3, τ4, hqy3, hf⟩ := bd_inv hf
    refine b_callVi (n := 1) C (9) 9 (isObj_s (by decide) (by decide)) rfl (fun _ => [.int (x1)]) (c_X9_totalNow (x1)) hqy3 gX9_total_X9_totalNow rfl (by decide +kernel) rfl (by decide) (by decide) (Nat.le_of_ble_eq_true rfl) dX9_total_21 ?_
    exact hR _ _ _ _ dX9_total_24 hf
  · exact hT3 _ _ _ _ kX9_total_ex3 kX9_total_ei3 xaX9_total_3 dX9_total_11 dX9_total_14 dX9_total_15 dX9_total_18 (Nat.le_of_ble_eq_true rfl) hf
theorem hiX9_grade_3 : ∀ w ∈ wsX30, w ∈ wsX9_grade := by decide +kernel
theorem hiX9_grade_9 : ∀ w ∈ wsX90, w ∈ wsX9_grade := by decide +kernel
theorem xaX9_grade_3 : ∀ w ∈ (vx_at0 RX9 100 (exN 3) exS).filter goodWord, w ∈ wsX9_grade := fun _ h => List.mem_cons_of_mem _ (List.mem_append_right _ h)
theorem kX9_grade_33 : Cond.fieldLink RX9 33 "ScriptRoom" "pupils" "LScriptRoom$Pupils;" ∈ wsX9_grade := by decide +kernel
theorem kX9_grade_200 : Cond.fieldLink RX9 200 "ScriptRoom$Pupils" "grades" "LScriptRoom$Row;" ∈ wsX9_grade := by decide +kernel
theorem kX9_grade_ex3 : Cond.classLink RX9 98 (exN 3) ∈ wsX9_grade := by decide +kernel
theorem kX9_grade_ei3 : Cond.initialized (exN 3) ∈ wsX9_grade := by decide +kernel
set_option maxHeartbeats 4000000 in
set_option maxRecDepth 100000 in
theorem w_X9_grade_42 {X : Ctx} {o : Int64} {rv : (Nat × Int32) × Mem} (C : Cx X cX9_grade RX9 wsX9_grade 3 6 136) (hR : Rxi X cX9_grade 3 o rv) (hT1 : Xt X 3 o rv RX9 1 81 83 cX9_grade wsX9_grade) (hT2 : Xt X 3 o rv RX9 2 87 89 cX9_grade wsX9_grade) (hT3 : Xt X 3 o rv RX9 3 98 100 cX9_grade wsX9_grade) : ∀ (s0 : Int32) (σ : Mem), some rv = f_X9_grade_42 s0 σ → Bk X 3 o 0 0 42 [] [.int (s0)] σ := by
  intro s0 σ hf
  unfold f_X9_grade_42 at hf
  exact hR _ _ _ _ dX9_grade_42 hf
set_option maxHeartbeats 4000000 in
set_option maxRecDepth 100000 in
theorem c_X9_grade (x1 x2 : Int32) (l : Launch) (hfl : l.stackTraces = false) : Cte l yX9_grade wsX9_grade 6 136 (fun G => [.ref (G.1 (9)), .int (x1), .int (x2)]) (f_X9_grade x1 x2) := by
  refine mk_ei (cc := cX9_grade) (nL := 3) hfl (by decide) rfl rfl (fun _ => Nat.le_of_ble_eq_true rfl) (Nat.le_of_ble_eq_true rfl) (Nat.le_of_ble_eq_true rfl) (fun X o σ rv C hR hT1 hT2 hT3 hf => ?_)
  show Bk X 3 o 0 0 0 [(0, .ref (ad X (9))), (1, .int (x1)), (2, .int (x2))] [] σ
  unfold f_X9_grade at hf
  refine b_aload_n C dX9_grade_0 rfl 0 rfl ?_
  refine b_getR C hiX9_grade_9 9 3 (3) (by decide) (by decide) rfl (by decide) kX9_grade_33 rfl rfl dX9_grade_1 ?_
  refine b_iload_n C dX9_grade_4 rfl 1 rfl ?_
  obtain ⟨y1, τ2, hqy1, hf⟩ := bd_inv hf
  refine b_callVi (n := 1) C (3) 3 (isObj_s (by decide) (by decide)) rfl (fun _ => [.int (x1)]) (c_X3_has (x1)) hqy1 gX9_grade_X3_has rfl (by decide +kernel) rfl (by decide) (by decide) (Nat.le_of_ble_eq_true rfl) dX9_grade_5 ?_
  refine b_if_ne C 19 dX9_grade_8 (by decide) hf (fun hf => ?_) (fun hf => ?_)
  · refine b_iload_n C dX9_grade_19 rfl 2 rfl ?_
    refine b_if_eq C 37 dX9_grade_20 (by decide) hf (fun hf => ?_) (fun hf => ?_)
    · refine b_aload_n C dX9_grade_37 rfl 0 rfl ?_
      refine b_iload_n C dX9_grade_38 rfl 1 rfl ?_
      obtain ⟨y3, τ4, hqy3, hf⟩ := bd_inv hf
      refine b_callVi (n := 1) C (9) 9 (isObj_s (by decide) (by decide)) rfl (fun _ => [.int (x1)]) (c_X9_gradeNow (x1)) hqy3 gX9_grade_X9_gradeNow rfl (by decide +kernel) rfl (by decide) (by decide) (Nat.le_of_ble_eq_true rfl) dX9_grade_39 ?_
      refine b_sub [] rfl ?_
      exact w_X9_grade_42 C hR hT1 hT2 hT3 _ _ hf
    · refine b_aload_n C dX9_grade_23 rfl 0 rfl ?_
      refine b_getR C hiX9_grade_9 9 3 (3) (by decide) (by decide) rfl (by decide) kX9_grade_33 rfl rfl dX9_grade_24 ?_
      refine b_getR C hiX9_grade_3 3 4 (11 + 16) (by decide) (by decide) rfl (by decide) kX9_grade_200 rfl rfl dX9_grade_27 ?_
      refine b_iload_n C dX9_grade_30 rfl 1 rfl ?_
      refine b_callVi (n := 1) C (11 + 16) 5 (isObj_r (by decide)) rfl (fun _ => [.int (x1)]) (c_X5_get 16 (by decide) (x1)) (e_get 16 (by decide) (x1) _) gX9_grade_X5_get rfl (by decide +kernel) rfl (by decide) (by decide) (Nat.le_of_ble_eq_true rfl) dX9_grade_31 ?_
      refine b_goto C 42 dX9_grade_34 (by decide) ?_
      refine b_sub [] rfl ?_
      exact w_X9_grade_42 C hR hT1 hT2 hT3 _ _ hf
  · exact hT3 _ _ _ _ kX9_grade_ex3 kX9_grade_ei3 xaX9_grade_3 dX9_grade_11 dX9_grade_14 dX9_grade_15 dX9_grade_18 (Nat.le_of_ble_eq_true rfl) hf
theorem hiX9_lineOf_9 : ∀ w ∈ wsX90, w ∈ wsX9_lineOf := by decide +kernel
theorem xaX9_lineOf_1 : ∀ w ∈ (vx_at0 RX9 83 (exN 1) exS).filter goodWord, w ∈ wsX9_lineOf := fun _ h => List.mem_cons_of_mem _ (List.mem_append_right _ h)
theorem kX9_lineOf_ex1 : Cond.classLink RX9 81 (exN 1) ∈ wsX9_lineOf := by decide +kernel
theorem kX9_lineOf_ei1 : Cond.initialized (exN 1) ∈ wsX9_lineOf := by decide +kernel
theorem kX9_lineOf_74 : Cond.fieldLink RX9 74 "ScriptRoom" "totals" "LScriptRoom$Row;" ∈ wsX9_lineOf := by decide +kernel
set_option maxHeartbeats 4000000 in
set_option maxRecDepth 100000 in
theorem w_X9_lineOf_10 {X : Ctx} {o : Int64} {rv : (Nat × Int32) × Mem} (C : Cx X cX9_lineOf RX9 wsX9_lineOf 6 6 137) (hR : Rxi X cX9_lineOf 6 o rv) (hT1 : Xt X 6 o rv RX9 1 81 83 cX9_lineOf wsX9_lineOf) (hT2 : Xt X 6 o rv RX9 2 87 89 cX9_lineOf wsX9_lineOf) (hT3 : Xt X 6 o rv RX9 3 98 100 cX9_lineOf wsX9_lineOf) : ∀ (σ : Mem), some rv = f_X9_lineOf_10 σ → Bk X 6 o 0 0 10 [] [] σ := by
  intro σ hf
  unfold f_X9_lineOf_10 at hf
  exact hT1 _ _ _ _ kX9_lineOf_ex1 kX9_lineOf_ei1 xaX9_lineOf_1 dX9_lineOf_10 dX9_lineOf_13 dX9_lineOf_14 dX9_lineOf_17 (Nat.le_of_ble_eq_true rfl) hf
set_option maxHeartbeats 4000000 in
set_option maxRecDepth 100000 in
theorem w_X9_lineOf_81 {X : Ctx} {o : Int64} {rv : (Nat × Int32) × Mem} (C : Cx X cX9_lineOf RX9 wsX9_lineOf 6 6 137) (hR : Rxi X cX9_lineOf 6 o rv) (hT1 : Xt X 6 o rv RX9 1 81 83 cX9_lineOf wsX9_lineOf) (hT2 : Xt X 6 o rv RX9 2 87 89 cX9_lineOf wsX9_lineOf) (hT3 : Xt X 6 o rv RX9 3 98 100 cX9_lineOf wsX9_lineOf) (k42 : Int32 → Int32 → Int32 → Int32 → Mem → Option ((Nat × Int32) × Mem)) (h42 : ∀ (v1 v2 v3 v4 : Int32) (σ : Mem), some rv = k42 v1 v2 v3 v4 σ → Bk X 6 o 0 0 42 [(0, .ref (ad X (9))), (1, .int (v1)), (2, .int (v2)), (3, .int (v3)), (4, .int (v4))] [] σ) : ∀ (v1 v2 v3 v4 : Int32) (σ : Mem), some rv = f_X9_lineOf_81 k42 v1 v2 v3 v4 σ → Bk X 6 o 0 0 81 [(0, .ref (ad X (9))), (1, .int (v1)), (2, .int (v2)), (3, .int (v3)), (4, .int (v4))] [] σ := by
  intro v1 v2 v3 v4 σ hf
  unfold f_X9_lineOf_81 at hf
  refine b_iinc (v := (v4) + (1)) (lv' := [(4, .int ((v4) + (1))), (0, .ref (ad X (9))), (1, .int (v1)), (2, .int (v2)), (3, .int (v3))]) C dX9_lineOf_81 4 rfl rfl (by decide) rfl ?_
  refine b_goto C 42 dX9_lineOf_84 (by decide) ?_
  refine b_sub [1, 2, 3, 4, 0] rfl ?_
  exact h42 _ _ _ _ _ hf
set_option maxHeartbeats 4000000 in
set_option maxRecDepth 100000 in
theorem w_X9_lineOf_42 {X : Ctx} {o : Int64} {rv : (Nat × Int32) × Mem} (C : Cx X cX9_lineOf RX9 wsX9_lineOf 6 6 137) (hR : Rxi X cX9_lineOf 6 o rv) (hT1 : Xt X 6 o rv RX9 1 81 83 cX9_lineOf wsX9_lineOf) (hT2 : Xt X 6 o rv RX9 2 87 89 cX9_lineOf wsX9_lineOf) (hT3 : Xt X 6 o rv RX9 3 98 100 cX9_lineOf wsX9_lineOf) : ∀ (n : Nat) (v1 v2 v3 v4 : Int32) (σ : Mem), some rv = f_X9_lineOf_42 n v1 v2 v3 v4 σ → Bk X 6 o 0 0 42 [(0, .ref (ad X (9))), (1, .int (v1)), (2, .int (v2)), (3, .int (v3)), (4, .int (v4))] [] σ := by
  intro n
  induction n with
  | zero =>
    intro v1 v2 v3 v4 σ hf
    rw [f_X9_lineOf_42] at hf
    cases hf
  | succ n ih =>
    intro v1 v2 v3 v4 σ hf
    rw [f_X9_lineOf_42] at hf
    refine b_iload C dX9_lineOf_42 4 rfl ?_
    refine b_iload_n C dX9_lineOf_44 rfl 2 rfl ?_
    refine b_icmp_ge C 87 dX9_lineOf_45 (by decide) hf (fun hf => ?_) (fun hf => ?_)
    · refine b_iload_n C dX9_lineOf_87 rfl 3 rfl ?_
      exact hR _ _ _ _ dX9_lineOf_88 hf
    · refine b_aload_n C dX9_lineOf_48 rfl 0 rfl ?_
      refine b_getR C hiX9_lineOf_9 9 9 (11 + 42) (by decide) (by decide) rfl (by decide) kX9_lineOf_74 rfl rfl dX9_lineOf_49 ?_
      refine b_iload C dX9_lineOf_52 4 rfl ?_
      refine b_callVi (n := 1) C (11 + 42) 5 (isObj_r (by decide)) rfl (fun _ => [.int (v4)]) (c_X5_get 42 (by decide) (v4)) (e_get 42 (by decide) (v4) _) gX9_lineOf_X5_get rfl (by decide +kernel) rfl (by decide) (by decide) (Nat.le_of_ble_eq_true rfl) dX9_lineOf_54 ?_
      refine b_iconst C (v := 1) dX9_lineOf_57 (by decide) ?_
      refine b_iadd C dX9_lineOf_58 ?_
      refine b_nv hf (fun y1 hf => ?_)
      refine b_istore (lv' := [(5, .int (y1)), (0, .ref (ad X (9))), (1, .int (v1)), (2, .int (v2)), (3, .int (v3)), (4, .int (v4))]) C dX9_lineOf_59 (by decide) rfl ?_
      refine b_iload C dX9_lineOf_61 0 rfl ?_
      refine b_iload_n C dX9_lineOf_63 rfl 4 rfl ?_
      refine b_icmp_ge C 81 dX9_lineOf_64 (by decide) hf (fun hf => ?_) (fun hf => ?_)
      · refine b_sub [1, 2, 3, 4, 5] rfl ?_
        exact w_X9_lineOf_81 C hR hT1 hT2 hT3 (f_X9_lineOf_42 n) ih _ _ _ _ _ hf
      · refine b_aload_n C dX9_lineOf_67 rfl 1 rfl ?_
        refine b_iload C dX9_lineOf_68 0 rfl ?_
        refine b_iload_n C dX9_lineOf_70 rfl 2 rfl ?_
        refine b_iload_n C dX9_lineOf_71 rfl 3 rfl ?_
        obtain ⟨y2, τ3, hqy2, hf⟩ := bd_inv hf
        refine b_callVi (n := 3) C (9) 9 (isObj_s (by decide) (by decide)) rfl (fun _ => [.int (y1), .int (v1), .int (v2)]) (c_X9_isWithin (y1) (v1) (v2)) hqy2 gX9_lineOf_X9_isWithin rfl (by decide +kernel) rfl (by decide) (by decide) (Nat.le_of_ble_eq_true rfl) dX9_lineOf_72 ?_
        refine b_if_eq C 81 dX9_lineOf_75 (by decide) hf (fun hf => ?_) (fun hf => ?_)
        · refine b_sub [1, 2, 3, 4, 5] rfl ?_
          exact w_X9_lineOf_81 C hR hT1 hT2 hT3 (f_X9_lineOf_42 n) ih _ _ _ _ _ hf
        · refine b_iload C dX9_lineOf_78 0 rfl ?_
          refine b_istore_n (lv' := [(3, .int (y1)), (5, .int (y1)), (0, .ref (ad X (9))), (1, .int (v1)), (2, .int (v2)), (4, .int (v4))]) C dX9_lineOf_80 rfl (by decide) rfl ?_
          refine b_sub [2, 3, 4, 0, 5] rfl ?_
          exact w_X9_lineOf_81 C hR hT1 hT2 hT3 (f_X9_lineOf_42 n) ih _ _ _ _ _ hf
set_option maxHeartbeats 4000000 in
set_option maxRecDepth 100000 in
theorem c_X9_lineOf (x1 : Int32) (l : Launch) (hfl : l.stackTraces = false) : Cte l yX9_lineOf wsX9_lineOf 6 137 (fun G => [.ref (G.1 (9)), .int (x1)]) (f_X9_lineOf x1) := by
  refine mk_ei (cc := cX9_lineOf) (nL := 6) hfl (by decide) rfl rfl (fun _ => Nat.le_of_ble_eq_true rfl) (Nat.le_of_ble_eq_true rfl) (Nat.le_of_ble_eq_true rfl) (fun X o σ rv C hR hT1 hT2 hT3 hf => ?_)
  show Bk X 6 o 0 0 0 [(0, .ref (ad X (9))), (1, .int (x1))] [] σ
  unfold f_X9_lineOf at hf
  refine b_iload_n C dX9_lineOf_0 rfl 1 rfl ?_
  refine b_if_lt C 10 dX9_lineOf_1 (by decide) hf (fun hf => ?_) (fun hf => ?_)
  · refine b_sub [] rfl ?_
    exact w_X9_lineOf_10 C hR hT1 hT2 hT3 _ hf
  · refine b_iload_n C dX9_lineOf_4 rfl 1 rfl ?_
    refine b_bipush C (v := 100) dX9_lineOf_5 (by decide) ?_
    refine b_icmp_le C 18 dX9_lineOf_7 (by decide) hf (fun hf => ?_) (fun hf => ?_)
    · refine b_aload_n C dX9_lineOf_18 rfl 0 rfl ?_
      obtain ⟨y4, τ5, hqy4, hf⟩ := bd_inv hf
      refine b_callVi (n := 0) C (9) 9 (isObj_s (by decide) (by decide)) rfl (fun _ => []) (c_X9_gatherTotals ) hqy4 gX9_lineOf_X9_gatherTotals rfl (by decide +kernel) rfl (by decide) (by decide) (Nat.le_of_ble_eq_true rfl) dX9_lineOf_19 ?_
      refine b_istore_n (lv' := [(2, .int (y4)), (0, .ref (ad X (9))), (1, .int (x1))]) C dX9_lineOf_22 rfl (by decide) rfl ?_
      refine b_aload_n C dX9_lineOf_23 rfl 1 rfl ?_
      refine b_iconst C (v := 0) dX9_lineOf_24 (by decide) ?_
      refine b_iload_n C dX9_lineOf_25 rfl 2 rfl ?_
      refine b_iload_n C dX9_lineOf_26 rfl 0 rfl ?_
      obtain ⟨y6, τ7, hqy6, hf⟩ := bd_inv hf
      refine b_callVi (n := 3) C (9) 9 (isObj_s (by decide) (by decide)) rfl (fun _ => [.int (0), .int (x1), .int (y4)]) (c_X9_isWithin (0) (x1) (y4)) hqy6 gX9_lineOf_X9_isWithin rfl (by decide +kernel) rfl (by decide) (by decide) (Nat.le_of_ble_eq_true rfl) dX9_lineOf_27 ?_
      refine b_if_eq C 35 dX9_lineOf_30 (by decide) hf (fun hf => ?_) (fun hf => ?_)
      · refine b_sipush C (v := 999) dX9_lineOf_35 (by decide) ?_
        refine b_istore_n (lv' := [(3, .int (999)), (2, .int (y4)), (0, .ref (ad X (9))), (1, .int (x1))]) C dX9_lineOf_38 rfl (by decide) rfl ?_
        refine b_iconst C (v := 0) dX9_lineOf_39 (by decide) ?_
        refine b_istore (lv' := [(4, .int (0)), (3, .int (999)), (2, .int (y4)), (0, .ref (ad X (9))), (1, .int (x1))]) C dX9_lineOf_40 (by decide) rfl ?_
        refine b_sub [3, 4, 2, 1, 0] rfl ?_
        exact w_X9_lineOf_42 C hR hT1 hT2 hT3 FUEL _ _ _ _ _ hf
      · refine b_iconst C (v := 0) dX9_lineOf_33 (by decide) ?_
        exact hR _ _ _ _ dX9_lineOf_34 hf
    · refine b_sub [] rfl ?_
      exact w_X9_lineOf_10 C hR hT1 hT2 hT3 _ hf
theorem xaX9_lineAnew_1 : ∀ w ∈ (vx_at0 RX9 83 (exN 1) exS).filter goodWord, w ∈ wsX9_lineAnew := fun _ h => List.mem_cons_of_mem _ (List.mem_append_right _ h)
theorem kX9_lineAnew_ex1 : Cond.classLink RX9 81 (exN 1) ∈ wsX9_lineAnew := by decide +kernel
theorem kX9_lineAnew_ei1 : Cond.initialized (exN 1) ∈ wsX9_lineAnew := by decide +kernel
set_option maxHeartbeats 4000000 in
set_option maxRecDepth 100000 in
theorem w_X9_lineAnew_10 {X : Ctx} {o : Int64} {rv : (Nat × Int32) × Mem} (C : Cx X cX9_lineAnew RX9 wsX9_lineAnew 4 6 137) (hR : Rxi X cX9_lineAnew 4 o rv) (hT1 : Xt X 4 o rv RX9 1 81 83 cX9_lineAnew wsX9_lineAnew) (hT2 : Xt X 4 o rv RX9 2 87 89 cX9_lineAnew wsX9_lineAnew) (hT3 : Xt X 4 o rv RX9 3 98 100 cX9_lineAnew wsX9_lineAnew) : ∀ (σ : Mem), some rv = f_X9_lineAnew_10 σ → Bk X 4 o 0 0 10 [] [] σ := by
  intro σ hf
  unfold f_X9_lineAnew_10 at hf
  exact hT1 _ _ _ _ kX9_lineAnew_ex1 kX9_lineAnew_ei1 xaX9_lineAnew_1 dX9_lineAnew_10 dX9_lineAnew_13 dX9_lineAnew_14 dX9_lineAnew_17 (Nat.le_of_ble_eq_true rfl) hf
set_option maxHeartbeats 4000000 in
set_option maxRecDepth 100000 in
theorem w_X9_lineAnew_25 {X : Ctx} {o : Int64} {rv : (Nat × Int32) × Mem} (C : Cx X cX9_lineAnew RX9 wsX9_lineAnew 4 6 137) (hR : Rxi X cX9_lineAnew 4 o rv) (hT1 : Xt X 4 o rv RX9 1 81 83 cX9_lineAnew wsX9_lineAnew) (hT2 : Xt X 4 o rv RX9 2 87 89 cX9_lineAnew wsX9_lineAnew) (hT3 : Xt X 4 o rv RX9 3 98 100 cX9_lineAnew wsX9_lineAnew) : ∀ (n : Nat) (v1 v2 v3 : Int32) (σ : Mem), some rv = f_X9_lineAnew_25 n v1 v2 v3 σ → Bk X 4 o 0 0 25 [(0, .ref (ad X (9))), (1, .int (v1)), (2, .int (v2)), (3, .int (v3))] [] σ := by
  intro n
  induction n with
  | zero =>
    intro v1 v2 v3 σ hf
    rw [f_X9_lineAnew_25] at hf
    cases hf
  | succ n ih =>
    intro v1 v2 v3 σ hf
    rw [f_X9_lineAnew_25] at hf
    refine b_iload_n C dX9_lineAnew_25 rfl 3 rfl ?_
    refine b_sipush C (v := 999) dX9_lineAnew_26 (by decide) ?_
    refine b_icmp_ge C 50 dX9_lineAnew_29 (by decide) hf (fun hf => ?_) (fun hf => ?_)
    · refine b_sipush C (v := 999) dX9_lineAnew_50 (by decide) ?_
      exact hR _ _ _ _ dX9_lineAnew_53 hf
    · refine b_aload_n C dX9_lineAnew_32 rfl 0 rfl ?_
      refine b_iload_n C dX9_lineAnew_33 rfl 3 rfl ?_
      refine b_iload_n C dX9_lineAnew_34 rfl 1 rfl ?_
      refine b_iload_n C dX9_lineAnew_35 rfl 2 rfl ?_
      obtain ⟨y1, τ2, hqy1, hf⟩ := bd_inv hf
      refine b_callVi (n := 3) C (9) 9 (isObj_s (by decide) (by decide)) rfl (fun _ => [.int (v3), .int (v1), .int (v2)]) (c_X9_isWithin (v3) (v1) (v2)) hqy1 gX9_lineAnew_X9_isWithin rfl (by decide +kernel) rfl (by decide) (by decide) (Nat.le_of_ble_eq_true rfl) dX9_lineAnew_36 ?_
      refine b_if_eq C 44 dX9_lineAnew_39 (by decide) hf (fun hf => ?_) (fun hf => ?_)
      · refine b_iinc (v := (v3) + (1)) (lv' := [(3, .int ((v3) + (1))), (0, .ref (ad X (9))), (1, .int (v1)), (2, .int (v2))]) C dX9_lineAnew_44 3 rfl rfl (by decide) rfl ?_
        refine b_goto C 25 dX9_lineAnew_47 (by decide) ?_
        refine b_sub [1, 2, 3, 0] rfl ?_
        exact ih _ _ _ _ hf
      · refine b_iload_n C dX9_lineAnew_42 rfl 3 rfl ?_
        exact hR _ _ _ _ dX9_lineAnew_43 hf
set_option maxHeartbeats 4000000 in
set_option maxRecDepth 100000 in
theorem c_X9_lineAnew (x1 : Int32) (l : Launch) (hfl : l.stackTraces = false) : Cte l yX9_lineAnew wsX9_lineAnew 6 137 (fun G => [.ref (G.1 (9)), .int (x1)]) (f_X9_lineAnew x1) := by
  refine mk_ei (cc := cX9_lineAnew) (nL := 4) hfl (by decide) rfl rfl (fun _ => Nat.le_of_ble_eq_true rfl) (Nat.le_of_ble_eq_true rfl) (Nat.le_of_ble_eq_true rfl) (fun X o σ rv C hR hT1 hT2 hT3 hf => ?_)
  show Bk X 4 o 0 0 0 [(0, .ref (ad X (9))), (1, .int (x1))] [] σ
  unfold f_X9_lineAnew at hf
  refine b_iload_n C dX9_lineAnew_0 rfl 1 rfl ?_
  refine b_if_lt C 10 dX9_lineAnew_1 (by decide) hf (fun hf => ?_) (fun hf => ?_)
  · refine b_sub [] rfl ?_
    exact w_X9_lineAnew_10 C hR hT1 hT2 hT3 _ hf
  · refine b_iload_n C dX9_lineAnew_4 rfl 1 rfl ?_
    refine b_bipush C (v := 100) dX9_lineAnew_5 (by decide) ?_
    refine b_icmp_le C 18 dX9_lineAnew_7 (by decide) hf (fun hf => ?_) (fun hf => ?_)
    · refine b_aload_n C dX9_lineAnew_18 rfl 0 rfl ?_
      obtain ⟨y3, τ4, hqy3, hf⟩ := bd_inv hf
      refine b_callVi (n := 0) C (9) 9 (isObj_s (by decide) (by decide)) rfl (fun _ => []) (c_X9_gatherTotals ) hqy3 gX9_lineAnew_X9_gatherTotals rfl (by decide +kernel) rfl (by decide) (by decide) (Nat.le_of_ble_eq_true rfl) dX9_lineAnew_19 ?_
      refine b_istore_n (lv' := [(2, .int (y3)), (0, .ref (ad X (9))), (1, .int (x1))]) C dX9_lineAnew_22 rfl (by decide) rfl ?_
      refine b_iconst C (v := 0) dX9_lineAnew_23 (by decide) ?_
      refine b_istore_n (lv' := [(3, .int (0)), (2, .int (y3)), (0, .ref (ad X (9))), (1, .int (x1))]) C dX9_lineAnew_24 rfl (by decide) rfl ?_
      refine b_sub [2, 3, 1, 0] rfl ?_
      exact w_X9_lineAnew_25 C hR hT1 hT2 hT3 FUEL _ _ _ _ hf
    · refine b_sub [] rfl ?_
      exact w_X9_lineAnew_10 C hR hT1 hT2 hT3 _ hf
theorem hiX9_ofReader_4 : ∀ w ∈ wsX40, w ∈ wsX9_ofReader := by decide +kernel
theorem hiX9_ofReader_9 : ∀ w ∈ wsX90, w ∈ wsX9_ofReader := by decide +kernel
theorem xaX9_ofReader_1 : ∀ w ∈ (vx_at0 RX9 83 (exN 1) exS).filter goodWord, w ∈ wsX9_ofReader := fun _ h => List.mem_cons_of_mem _ (List.mem_append_right _ h)
theorem xaX9_ofReader_3 : ∀ w ∈ (vx_at0 RX9 100 (exN 3) exS).filter goodWord, w ∈ wsX9_ofReader := fun _ h => List.mem_cons_of_mem _ (List.mem_append_left _ (List.mem_append_right _ h))
theorem kX9_ofReader_40 : Cond.fieldLink RX9 40 "ScriptRoom" "readers" "LScriptRoom$Readers;" ∈ wsX9_ofReader := by decide +kernel
theorem kX9_ofReader_155 : Cond.fieldLink RX9 155 "ScriptRoom$Readers" "stopped" "LScriptRoom$Row;" ∈ wsX9_ofReader := by decide +kernel
theorem kX9_ofReader_158 : Cond.fieldLink RX9 158 "ScriptRoom$Readers" "hands" "LScriptRoom$Row;" ∈ wsX9_ofReader := by decide +kernel
theorem kX9_ofReader_260 : Cond.fieldLink RX9 260 "ScriptRoom$Readers" "reads" "LScriptRoom$Row;" ∈ wsX9_ofReader := by decide +kernel
theorem kX9_ofReader_174 : Cond.fieldLink RX9 174 "ScriptRoom$Readers" "voids" "LScriptRoom$Row;" ∈ wsX9_ofReader := by decide +kernel
theorem kX9_ofReader_263 : Cond.fieldLink RX9 263 "ScriptRoom$Readers" "sinces" "LScriptRoom$Row;" ∈ wsX9_ofReader := by decide +kernel
theorem kX9_ofReader_266 : Cond.fieldLink RX9 266 "ScriptRoom$Readers" "given" "LScriptRoom$Row;" ∈ wsX9_ofReader := by decide +kernel
theorem kX9_ofReader_ex1 : Cond.classLink RX9 81 (exN 1) ∈ wsX9_ofReader := by decide +kernel
theorem kX9_ofReader_ei1 : Cond.initialized (exN 1) ∈ wsX9_ofReader := by decide +kernel
theorem kX9_ofReader_ex3 : Cond.classLink RX9 98 (exN 3) ∈ wsX9_ofReader := by decide +kernel
theorem kX9_ofReader_ei3 : Cond.initialized (exN 3) ∈ wsX9_ofReader := by decide +kernel
set_option maxHeartbeats 4000000 in
set_option maxRecDepth 100000 in
theorem c_X9_ofReader (x1 x2 : Int32) (l : Launch) (hfl : l.stackTraces = false) : Cte l yX9_ofReader wsX9_ofReader 6 89 (fun G => [.ref (G.1 (9)), .int (x1), .int (x2)]) (f_X9_ofReader x1 x2) := by
  refine mk_ei (cc := cX9_ofReader) (nL := 3) hfl (by decide) rfl rfl (fun _ => Nat.le_of_ble_eq_true rfl) (Nat.le_of_ble_eq_true rfl) (Nat.le_of_ble_eq_true rfl) (fun X o σ rv C hR hT1 hT2 hT3 hf => ?_)
  show Bk X 3 o 0 0 0 [(0, .ref (ad X (9))), (1, .int (x1)), (2, .int (x2))] [] σ
  unfold f_X9_ofReader at hf
  refine b_aload_n C dX9_ofReader_0 rfl 0 rfl ?_
  refine b_getR C hiX9_ofReader_9 9 4 (4) (by decide) (by decide) rfl (by decide) kX9_ofReader_40 rfl rfl dX9_ofReader_1 ?_
  refine b_iload_n C dX9_ofReader_4 rfl 1 rfl ?_
  obtain ⟨y1, τ2, hqy1, hf⟩ := bd_inv hf
  refine b_callVi (n := 1) C (4) 4 (isObj_s (by decide) (by decide)) rfl (fun _ => [.int (x1)]) (c_X4_has (x1)) hqy1 gX9_ofReader_X4_has rfl (by decide +kernel) rfl (by decide) (by decide) (Nat.le_of_ble_eq_true rfl) dX9_ofReader_5 ?_
  refine b_if_ne C 19 dX9_ofReader_8 (by decide) hf (fun hf => ?_) (fun hf => ?_)
  · refine b_iload_n C dX9_ofReader_19 rfl 2 rfl ?_
    have ht0 : ∀ k, k < 0 → (x2 : Int32) ≠ nI k := tb_c0
    by_cases hc0 : (x2 : Int32) = 0
    · rw [if_pos hc0] at hf
      refine b_tableIn C 60 dX9_ofReader_20 (by rw [hc0]; decide) (by rw [hc0]; decide) (by rw [hc0]; rfl) (by decide) ?_
      refine b_aload_n C dX9_ofReader_60 rfl 0 rfl ?_
      refine b_getR C hiX9_ofReader_9 9 4 (4) (by decide) (by decide) rfl (by decide) kX9_ofReader_40 rfl rfl dX9_ofReader_61 ?_
      refine b_getR C hiX9_ofReader_4 4 3 (11 + 21) (by decide) (by decide) rfl (by decide) kX9_ofReader_155 rfl rfl dX9_ofReader_64 ?_
      refine b_iload_n C dX9_ofReader_67 rfl 1 rfl ?_
      refine b_callVi (n := 1) C (11 + 21) 5 (isObj_r (by decide)) rfl (fun _ => [.int (x1)]) (c_X5_get 21 (by decide) (x1)) (e_get 21 (by decide) (x1) _) gX9_ofReader_X5_get rfl (by decide +kernel) rfl (by decide) (by decide) (Nat.le_of_ble_eq_true rfl) dX9_ofReader_68 ?_
      exact hR _ _ _ _ dX9_ofReader_71 hf
    rw [if_neg hc0] at hf
    have ht1 := tb_cs ht0 hc0
    by_cases hc1 : (x2 : Int32) = 1
    · rw [if_pos hc1] at hf
      refine b_tableIn C 72 dX9_ofReader_20 (by rw [hc1]; decide) (by rw [hc1]; decide) (by rw [hc1]; rfl) (by decide) ?_
      refine b_aload_n C dX9_ofReader_72 rfl 0 rfl ?_
      refine b_getR C hiX9_ofReader_9 9 4 (4) (by decide) (by decide) rfl (by decide) kX9_ofReader_40 rfl rfl dX9_ofReader_73 ?_
      refine b_getR C hiX9_ofReader_4 4 4 (11 + 22) (by decide) (by decide) rfl (by decide) kX9_ofReader_158 rfl rfl dX9_ofReader_76 ?_
      refine b_iload_n C dX9_ofReader_79 rfl 1 rfl ?_
      refine b_callVi (n := 1) C (11 + 22) 5 (isObj_r (by decide)) rfl (fun _ => [.int (x1)]) (c_X5_get 22 (by decide) (x1)) (e_get 22 (by decide) (x1) _) gX9_ofReader_X5_get rfl (by decide +kernel) rfl (by decide) (by decide) (Nat.le_of_ble_eq_true rfl) dX9_ofReader_80 ?_
      exact hR _ _ _ _ dX9_ofReader_83 hf
    rw [if_neg hc1] at hf
    have ht2 := tb_cs ht1 hc1
    by_cases hc2 : (x2 : Int32) = 2
    · rw [if_pos hc2] at hf
      refine b_tableIn C 84 dX9_ofReader_20 (by rw [hc2]; decide) (by rw [hc2]; decide) (by rw [hc2]; rfl) (by decide) ?_
      refine b_aload_n C dX9_ofReader_84 rfl 0 rfl ?_
      refine b_getR C hiX9_ofReader_9 9 4 (4) (by decide) (by decide) rfl (by decide) kX9_ofReader_40 rfl rfl dX9_ofReader_85 ?_
      refine b_getR C hiX9_ofReader_4 4 7 (11 + 25) (by decide) (by decide) rfl (by decide) kX9_ofReader_260 rfl rfl dX9_ofReader_88 ?_
      refine b_iload_n C dX9_ofReader_91 rfl 1 rfl ?_
      refine b_callVi (n := 1) C (11 + 25) 5 (isObj_r (by decide)) rfl (fun _ => [.int (x1)]) (c_X5_get 25 (by decide) (x1)) (e_get 25 (by decide) (x1) _) gX9_ofReader_X5_get rfl (by decide +kernel) rfl (by decide) (by decide) (Nat.le_of_ble_eq_true rfl) dX9_ofReader_92 ?_
      exact hR _ _ _ _ dX9_ofReader_95 hf
    rw [if_neg hc2] at hf
    have ht3 := tb_cs ht2 hc2
    by_cases hc3 : (x2 : Int32) = 3
    · rw [if_pos hc3] at hf
      refine b_tableIn C 96 dX9_ofReader_20 (by rw [hc3]; decide) (by rw [hc3]; decide) (by rw [hc3]; rfl) (by decide) ?_
      refine b_aload_n C dX9_ofReader_96 rfl 0 rfl ?_
      refine b_getR C hiX9_ofReader_9 9 4 (4) (by decide) (by decide) rfl (by decide) kX9_ofReader_40 rfl rfl dX9_ofReader_97 ?_
      refine b_getR C hiX9_ofReader_4 4 8 (11 + 26) (by decide) (by decide) rfl (by decide) kX9_ofReader_174 rfl rfl dX9_ofReader_100 ?_
      refine b_iload_n C dX9_ofReader_103 rfl 1 rfl ?_
      refine b_callVi (n := 1) C (11 + 26) 5 (isObj_r (by decide)) rfl (fun _ => [.int (x1)]) (c_X5_get 26 (by decide) (x1)) (e_get 26 (by decide) (x1) _) gX9_ofReader_X5_get rfl (by decide +kernel) rfl (by decide) (by decide) (Nat.le_of_ble_eq_true rfl) dX9_ofReader_104 ?_
      exact hR _ _ _ _ dX9_ofReader_107 hf
    rw [if_neg hc3] at hf
    have ht4 := tb_cs ht3 hc3
    by_cases hc4 : (x2 : Int32) = 4
    · rw [if_pos hc4] at hf
      refine b_tableIn C 108 dX9_ofReader_20 (by rw [hc4]; decide) (by rw [hc4]; decide) (by rw [hc4]; rfl) (by decide) ?_
      refine b_aload_n C dX9_ofReader_108 rfl 0 rfl ?_
      refine b_getR C hiX9_ofReader_9 9 4 (4) (by decide) (by decide) rfl (by decide) kX9_ofReader_40 rfl rfl dX9_ofReader_109 ?_
      refine b_getR C hiX9_ofReader_4 4 9 (11 + 27) (by decide) (by decide) rfl (by decide) kX9_ofReader_263 rfl rfl dX9_ofReader_112 ?_
      refine b_iload_n C dX9_ofReader_115 rfl 1 rfl ?_
      refine b_callVi (n := 1) C (11 + 27) 5 (isObj_r (by decide)) rfl (fun _ => [.int (x1)]) (c_X5_get 27 (by decide) (x1)) (e_get 27 (by decide) (x1) _) gX9_ofReader_X5_get rfl (by decide +kernel) rfl (by decide) (by decide) (Nat.le_of_ble_eq_true rfl) dX9_ofReader_116 ?_
      exact hR _ _ _ _ dX9_ofReader_119 hf
    rw [if_neg hc4] at hf
    have ht5 := tb_cs ht4 hc4
    by_cases hc5 : (x2 : Int32) = 5
    · rw [if_pos hc5] at hf
      refine b_tableIn C 120 dX9_ofReader_20 (by rw [hc5]; decide) (by rw [hc5]; decide) (by rw [hc5]; rfl) (by decide) ?_
      refine b_aload_n C dX9_ofReader_120 rfl 0 rfl ?_
      refine b_getR C hiX9_ofReader_9 9 4 (4) (by decide) (by decide) rfl (by decide) kX9_ofReader_40 rfl rfl dX9_ofReader_121 ?_
      refine b_getR C hiX9_ofReader_4 4 11 (11 + 29) (by decide) (by decide) rfl (by decide) kX9_ofReader_266 rfl rfl dX9_ofReader_124 ?_
      refine b_iload_n C dX9_ofReader_127 rfl 1 rfl ?_
      refine b_callVi (n := 1) C (11 + 29) 5 (isObj_r (by decide)) rfl (fun _ => [.int (x1)]) (c_X5_get 29 (by decide) (x1)) (e_get 29 (by decide) (x1) _) gX9_ofReader_X5_get rfl (by decide +kernel) rfl (by decide) (by decide) (Nat.le_of_ble_eq_true rfl) dX9_ofReader_128 ?_
      obtain ⟨y3, τ4, hqy3, hf⟩ := bd_inv hf
      refine b_callSi (n := 1) C (fun _ => [.int (rget 29 (x1) τ2)]) (c_J6_bitCount_0f7a4 (rget 29 (x1) τ2)) hqy3 gX9_ofReader_J6_bitCount_0f7a4 rfl (by decide +kernel) rfl (by decide) (by decide) (Nat.le_of_ble_eq_true rfl) dX9_ofReader_131 ?_
      exact hR _ _ _ _ dX9_ofReader_134 hf
    rw [if_neg hc5] at hf
    have ht6 := tb_cs ht5 hc5
    refine b_tableOut C 135 dX9_ofReader_20 (tb_out 6 (by decide) ht6) (by decide) ?_
    exact hT1 _ _ _ _ kX9_ofReader_ex1 kX9_ofReader_ei1 xaX9_ofReader_1 dX9_ofReader_135 dX9_ofReader_138 dX9_ofReader_139 dX9_ofReader_142 (Nat.le_of_ble_eq_true rfl) hf
  · exact hT3 _ _ _ _ kX9_ofReader_ex3 kX9_ofReader_ei3 xaX9_ofReader_3 dX9_ofReader_11 dX9_ofReader_14 dX9_ofReader_15 dX9_ofReader_18 (Nat.le_of_ble_eq_true rfl) hf
