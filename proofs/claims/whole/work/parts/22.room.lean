/-! printed by wip/whole/gen/gen.py -/
def f_X9_isQuestion_14  (s0 : Int32) (σ : Mem) : Option (Int32 × Mem) := gd (isZ (s0)) (some (s0, σ))
def f_X9_isQuestion_13  (σ : Mem) : Option (Int32 × Mem) := (f_X9_isQuestion_14 (0) σ)
def f_X9_isQuestion (x1 : Int32) (σ : Mem) : Option (Int32 × Mem) := (if (x1) < 0 then (f_X9_isQuestion_13 σ)
  else (if (4) ≤ (x1) then (f_X9_isQuestion_13 σ)
    else (f_X9_isQuestion_14 (1) σ)))
def f_X9_isCounting_44  (s0 : Int32) (σ : Mem) : Option (Int32 × Mem) := gd (isZ (s0)) (some (s0, σ))
def f_X9_isCounting_43  (σ : Mem) : Option (Int32 × Mem) := (f_X9_isCounting_44 (0) σ)
def f_X9_isCounting (x1 x2 : Int32) (σ : Mem) : Option (Int32 × Mem) := (if (ris 6 (x1) σ) = 0 then bd (f_X6_lettersOfLatest (x2) σ) (fun y1 τ2 => (if ((y1) &&& ((rget 5 (x1) τ2) ^^^ ((-1)))) = 0 then (f_X9_isCounting_44 (1) τ2)
    else (f_X9_isCounting_43 τ2)))
  else (f_X9_isCounting_43 σ))
def f_X9_weighReadings_76  (k2 : Int32 → Int32 → Mem → Option (Int32 × Mem)) (v1 v2 : Int32) (σ : Mem) : Option (Int32 × Mem) := (k2 (v1) ((v2) + (1)) σ)
def f_X9_weighReadings_73  (k2 : Int32 → Int32 → Mem → Option (Int32 × Mem)) (v1 v2 s0 s1 : Int32) (σ : Mem) : Option (Int32 × Mem) := nw (rset 8 (s1) (s0) σ) (fun τ1 => (f_X9_weighReadings_76 k2 (v1) (v2) τ1))
def f_X9_weighReadings_2  : Nat → Int32 → Int32 → Mem → Option (Int32 × Mem)
  | 0, _, _, _ => none
  | n + 1, v1, v2, σ => (if (σ 76 6) ≤ (v2) then some (0, σ)
    else (if ((rget 2 (v2) σ) - (rget 2 (v2) σ) / (4) * (4)) = (v1) then bd (f_X9_isCounting (v2) (v1) σ) (fun y2 τ3 => (if (y2) = 0 then (f_X9_weighReadings_73 (f_X9_weighReadings_2 n) (v1) (v2) ((-1)) (v2) τ3)
        else bd (f_X6_markByLatest (v1) (rget 4 (v2) τ3) τ3) (fun y4 τ5 => (f_X9_weighReadings_73 (f_X9_weighReadings_2 n) (v1) (v2) (y4) (v2) τ5))))
      else (f_X9_weighReadings_76 (f_X9_weighReadings_2 n) (v1) (v2) σ)))
def f_X9_weighReadings (x1 : Int32) (σ : Mem) : Option (Int32 × Mem) := (f_X9_weighReadings_2 FUEL (x1) (0) σ)
def f_X9_arePoints_16  (s0 : Int32) (σ : Mem) : Option (Int32 × Mem) := gd (isZ (s0)) (some (s0, σ))
def f_X9_arePoints_15  (σ : Mem) : Option (Int32 × Mem) := (f_X9_arePoints_16 (0) σ)
def f_X9_arePoints (x1 : Int32) (σ : Mem) : Option (Int32 × Mem) := (if (x1) < 0 then (f_X9_arePoints_15 σ)
  else (if (255) < (x1) then (f_X9_arePoints_15 σ)
    else (f_X9_arePoints_16 (1) σ)))
def f_X9_seedDue_74  (k19 : Int32 → Int32 → Mem → Option (Int32 × Mem)) (v1 v2 : Int32) (σ : Mem) : Option (Int32 × Mem) := (k19 (v1) ((v2) + (1)) σ)
def f_X9_seedDue_19  : Nat → Int32 → Int32 → Mem → Option (Int32 × Mem)
  | 0, _, _, _ => none
  | n + 1, v1, v2, σ => (if (σ 76 9) ≤ (v2) then some ((-1), σ)
    else bd (f_X4_isFor (v1) (rget 39 (v2) σ) σ) (fun y1 τ2 => (if (y1) = 0 then (f_X9_seedDue_74 (f_X9_seedDue_19 n) (v1) (v2) τ2)
      else (if (((rget 29 (v1) τ2) >>> ((v2) &&& 31)) &&& (1)) = 0 then some (v2, τ2)
        else (f_X9_seedDue_74 (f_X9_seedDue_19 n) (v1) (v2) τ2)))))
def f_X9_seedDue (x1 : Int32) (σ : Mem) : Option (Int32 × Mem) := (if (3) ≤ (rget 27 (x1) σ) then (f_X9_seedDue_19 FUEL (x1) (0) σ)
  else some ((-1), σ))
def f_X9_answerOf (x1 x2 : Int32) (σ : Mem) : Option (Int32 × Mem) := some (((x1) * (4)) + (x2), σ)
def f_X9_hasReadingBy_68  (k28 : Int32 → Int32 → Int32 → Int32 → Mem → Option (Int32 × Mem)) (v1 v3 v4 v5 : Int32) (σ : Mem) : Option (Int32 × Mem) := nv (rget 9 (v4) σ) (fun y1 => (k28 (v1) (v3) (y1) ((v5) + (1)) σ))
def f_X9_hasReadingBy_28  : Nat → Int32 → Int32 → Int32 → Int32 → Mem → Option (Int32 × Mem)
  | 0, _, _, _, _, _ => none
  | n + 1, v1, v3, v4, v5, σ => (if (v3) ≤ (v5) then gd (isZ (0)) (some (0, σ))
    else (if (rget 3 (v4) σ) = (v1) then (if (rget 8 (v4) σ) = ((-1)) then (f_X9_hasReadingBy_68 (f_X9_hasReadingBy_28 n) (v1) (v3) (v4) (v5) σ)
        else gd (isZ (1)) (some (1, σ)))
      else (f_X9_hasReadingBy_68 (f_X9_hasReadingBy_28 n) (v1) (v3) (v4) (v5) σ)))
def f_X9_hasReadingBy (x1 x2 : Int32) (σ : Mem) : Option (Int32 × Mem) := nv (rget 11 (x2) σ) (fun y2 => nv (rget 10 (x2) σ) (fun y3 => (f_X9_hasReadingBy_28 FUEL (x1) (y2) (y3) (0) σ)))
def f_X9_tallyUp_42  : Nat → Int32 → Int32 → Int32 → Mem → Option (Int32 × Mem)
  | 0, _, _, _, _ => none
  | n + 1, v4, v5, v6, σ => (if (v4) ≤ (v6) then some (0, σ)
    else bd (f_X8_take (rget 8 (v5) σ) (ris 20 (rget 3 (v5) σ) σ) (ris 7 (v5) σ) σ) (fun _ τ2 => nv (rget 9 (v5) τ2) (fun y3 => (f_X9_tallyUp_42 n (v4) (y3) ((v6) + (1)) τ2))))
def f_X9_tallyUp (x1 x2 : Int32) (σ : Mem) : Option (Int32 × Mem) := bd (f_X8_clear  σ) (fun _ τ5 => bd (f_X9_answerOf (x1) (x2) τ5) (fun y6 τ7 => nv (rget 11 (y6) τ7) (fun y8 => nv (rget 10 (y6) τ7) (fun y9 => (f_X9_tallyUp_42 FUEL (y8) (y9) (0) τ7)))))
def f_X9_wantedBy_74  (s0 : Int32) (σ : Mem) : Option (Int32 × Mem) := some (s0, σ)
def f_X9_wantedBy_73  (σ : Mem) : Option (Int32 × Mem) := (f_X9_wantedBy_74 (0) σ)
def f_X9_wantedBy (x1 x2 : Int32) (σ : Mem) : Option (Int32 × Mem) := bd (f_X3_isLacking (x1) (x2) σ) (fun y1 τ2 => (if (y1) = 0 then bd (f_X9_tallyUp (x1) (x2) τ2) (fun _ τ4 => bd (f_X8_lackingAsPlain (ris 41 (x2) τ4) (τ4 76 17) τ4) (fun y5 τ6 => (if (y5) ≤ 0 then bd (f_X3_isAppealed (x1) (x2) τ6) (fun y7 τ8 => (if (y7) = 0 then (f_X9_wantedBy_73 τ8)
      else (if (τ8 76 12) = ((-1)) then (f_X9_wantedBy_74 (1) τ8)
        else (f_X9_wantedBy_73 τ8))))
    else some (y5, τ6))))
  else some (0, τ2)))
def f_X9_codeOf (x1 x2 : Int32) (σ : Mem) : Option (Int32 × Mem) := some (((10) * (x1)) + (x2), σ)
def f_X9_canBeGiven_37  (σ : Mem) : Option (Int32 × Mem) := gd (isZ (0)) (some (0, σ))
def f_X9_canBeGiven_62  (σ : Mem) : Option (Int32 × Mem) := gd (isZ (0)) (some (0, σ))
def f_X9_canBeGiven_139  (s0 : Int32) (σ : Mem) : Option (Int32 × Mem) := gd (isZ (s0)) (some (s0, σ))
def f_X9_canBeGiven_134  (σ : Mem) : Option (Int32 × Mem) := (f_X9_canBeGiven_139 (1) σ)
def f_X9_canBeGiven (x1 x2 x3 : Int32) (σ : Mem) : Option (Int32 × Mem) := bd (f_X3_isLacking (x2) (x3) σ) (fun y1 τ2 => (if (y1) = 0 then (if (rget 13 (x2) τ2) = (rget 19 (x1) τ2) then (f_X9_canBeGiven_37 τ2)
    else bd (f_X4_isFor (x1) (x3) τ2) (fun y3 τ4 => (if (y3) = 0 then (f_X9_canBeGiven_62 τ4)
      else bd (f_X6_holdsFor (x3) τ4) (fun y5 τ6 => (if (y5) = 0 then (f_X9_canBeGiven_62 τ6)
        else bd (f_X9_answerOf (x2) (x3) τ6) (fun y7 τ8 => bd (f_X9_hasReadingBy (x1) (y7) τ8) (fun y9 τ10 => (if (y9) = 0 then bd (f_X9_wantedBy (x2) (x3) τ10) (fun y11 τ12 => bd (f_X9_codeOf (x2) (x3) τ12) (fun y13 τ14 => bd (f_X4_holding (y13) τ14) (fun y15 τ16 => (if (y15) < (y11) then (if (ris 20 (x1) τ16) = 0 then bd (f_X8_isPastDue (ris 41 (x3) τ16) τ16) (fun y17 τ18 => (if (y17) = 0 then (f_X9_canBeGiven_134 τ18)
                else (f_X9_canBeGiven_139 (0) τ18)))
              else (f_X9_canBeGiven_134 τ16))
            else gd (isZ (0)) (some (0, τ16))))))
          else gd (isZ (0)) (some (0, τ10))))))))))
  else (f_X9_canBeGiven_37 τ2)))
def f_X9_giveAnswer_108  (k2 : Int32 → Int32 → Int32 → Mem → Option (Int32 × Mem)) (v1 v2 v3 : Int32) (σ : Mem) : Option (Int32 × Mem) := (k2 (v1) (v2) ((v3) + (1)) σ)
def f_X9_giveAnswer_82  (v1 v3 v4 s0 : Int32) (σ : Mem) : Option (Int32 × Mem) := bd (f_X9_codeOf (v3) (v4) σ) (fun y1 τ2 => bd (f_X4_handAnswer (v1) (y1) (s0) τ2) (fun _ τ4 => gd (isZ (1)) (some (1, τ4))))
def f_X9_giveAnswer_34  (k2 : Int32 → Int32 → Int32 → Mem → Option (Int32 × Mem)) : Nat → Int32 → Int32 → Int32 → Int32 → Mem → Option (Int32 × Mem)
  | 0, _, _, _, _, _ => none
  | n + 1, v1, v2, v3, v4, σ => (if (4) ≤ (v4) then (f_X9_giveAnswer_108 k2 (v1) (v2) (v3) σ)
    else bd (f_X9_canBeGiven (v1) (v3) (v4) σ) (fun y5 τ6 => (if (y5) = 0 then (f_X9_giveAnswer_34 k2 n (v1) (v2) (v3) ((v4) + (1)) τ6)
      else bd (f_X8_lackingAsPlain (ris 41 (v4) τ6) (τ6 76 17) τ6) (fun y7 τ8 => (if (y7) = 0 then (f_X9_giveAnswer_82 (v1) (v3) (v4) (1) τ8)
        else (f_X9_giveAnswer_82 (v1) (v3) (v4) (0) τ8))))))
def f_X9_giveAnswer_2  : Nat → Int32 → Int32 → Int32 → Mem → Option (Int32 × Mem)
  | 0, _, _, _, _ => none
  | n + 1, v1, v2, v3, σ => (if (σ 76 7) ≤ (v3) then gd (isZ (0)) (some (0, σ))
    else (if (ris 14 (v3) σ) = (v2) then (f_X9_giveAnswer_34 (f_X9_giveAnswer_2 n) FUEL (v1) (v2) (v3) (0) σ)
      else (f_X9_giveAnswer_108 (f_X9_giveAnswer_2 n) (v1) (v2) (v3) σ)))
def f_X9_giveAnswer (x1 x2 : Int32) (σ : Mem) : Option (Int32 × Mem) := (f_X9_giveAnswer_2 FUEL (x1) (x2) (0) σ)
def f_X9_giveWhatIsNext_52  (σ : Mem) : Option (Int32 × Mem) := some (0, σ)
def f_X9_giveWhatIsNext (x1 : Int32) (σ : Mem) : Option (Int32 × Mem) := bd (f_X9_seedDue (x1) σ) (fun y1 τ2 => (if (y1) = ((-1)) then bd (f_X9_giveAnswer (x1) (1) τ2) (fun y3 τ4 => (if (y3) = 0 then bd (f_X9_giveAnswer (x1) (0) τ4) (fun y5 τ6 => (f_X9_giveWhatIsNext_52 τ6))
    else (f_X9_giveWhatIsNext_52 τ4)))
  else bd (f_X4_handSeed (x1) (y1) ((1000) + (rget 39 (y1) τ2)) τ2) (fun _ τ8 => some (0, τ8))))
def f_X9_stop_89  (k24 : Int32 → Int32 → Mem → Option (Int32 × Mem)) (v1 v2 : Int32) (σ : Mem) : Option (Int32 × Mem) := (k24 (v1) ((v2) + (1)) σ)
def f_X9_stop_24  : Nat → Int32 → Int32 → Mem → Option (Int32 × Mem)
  | 0, _, _, _ => none
  | n + 1, v1, v2, σ => (if (σ 76 6) ≤ (v2) then some (0, σ)
    else (if (rget 3 (v2) σ) = (v1) then nw (rput 6 (v2) (1) σ) (fun τ1 => nw (rset 8 (v2) ((-1)) τ1) (fun τ2 => nw (radd 26 (v1) (1) τ2) (fun τ3 => (f_X9_stop_89 (f_X9_stop_24 n) (v1) (v2) τ3))))
      else (f_X9_stop_89 (f_X9_stop_24 n) (v1) (v2) σ)))
def f_X9_stop (x1 : Int32) (σ : Mem) : Option (Int32 × Mem) := nw (rput 21 (x1) (1) σ) (fun τ4 => nv (rget 28 (x1) τ4) (fun y5 => (f_X9_stop_24 FUEL (x1) (y5) τ4)))
def f_X9_readSeed_78  (v1 v5 : Int32) (σ : Mem) : Option (Int32 × Mem) := bd (f_X4_emptyHand (v1) σ) (fun _ τ2 => bd (f_X4_startAnew (v1) (τ2 76 6) τ2) (fun _ τ4 => some (v5, τ4)))
def f_X9_readSeed (x1 x2 : Int32) (σ : Mem) : Option (Int32 × Mem) := nv (rget 23 (x1) σ) (fun y5 => nv (rget 39 (y5) σ) (fun y6 => bd (f_X6_markByLatest (y6) (x2) σ) (fun y7 τ8 => bd (f_X6_markByLatest (y6) (rget 40 (y5) τ8) τ8) (fun y9 τ10 => bd (f_X9_areApart (y7) (y9) (τ10 76 17) τ10) (fun y11 τ12 => (if (y11) = 0 then (f_X9_readSeed_78 (x1) (y7) τ12)
  else bd (f_X9_stop (x1) τ12) (fun _ τ14 => (f_X9_readSeed_78 (x1) (y7) τ14))))))))
def f_X9_readAnswer (x1 x2 : Int32) (σ : Mem) : Option (Int32 × Mem) := nv (rget 22 (x1) σ) (fun y1 => nv ((y1) - (y1) / (10) * (10)) (fun y2 => bd (f_X6_lettersOfLatest (y2) σ) (fun y3 τ4 => bd (f_X6_markByLatest (y2) ((x2) &&& (y3)) τ4) (fun y5 τ6 => bd (f_X9_answerOf ((y1) / (10)) (y2) τ6) (fun y7 τ8 => bd (f_X2_enter (y7) (x1) τ8) (fun y9 τ10 => nw (rset 4 (y9) ((x2) &&& (y3)) τ10) (fun τ11 => nw (rset 5 (y9) (y3) τ11) (fun τ12 => nw (rput 7 (y9) (ris 24 (x1) τ12) τ12) (fun τ13 => nw (rset 8 (y9) (y5) τ13) (fun τ14 => bd (f_X4_emptyHand (x1) τ14) (fun _ τ16 => nw (radd 25 (x1) (1) τ16) (fun τ17 => nw (radd 27 (x1) (1) τ17) (fun τ18 => some (y5, τ18))))))))))))))
def f_X9_markNow (x1 x2 : Int32) (σ : Mem) : Option (Int32 × Mem) := bd (f_X3_isLacking (x1) (x2) σ) (fun y1 τ2 => (if (y1) = 0 then bd (f_X9_tallyUp (x1) (x2) τ2) (fun _ τ4 => bd (f_X8_outcome (ris 41 (x2) τ4) (τ4 76 17) τ4) (fun y5 τ6 => some (y5, τ6)))
  else some (0, τ2)))
def f_X9_totalNow_52  (σ : Mem) : Option (Int32 × Mem) := some ((-1), σ)
def f_X9_totalNow (x1 : Int32) (σ : Mem) : Option (Int32 × Mem) := bd (f_X9_markNow (x1) (0) σ) (fun y1 τ2 => bd (f_X9_markNow (x1) (1) τ2) (fun y3 τ4 => bd (f_X9_markNow (x1) (2) τ4) (fun y5 τ6 => bd (f_X9_markNow (x1) (3) τ6) (fun y7 τ8 => (if (y1) = ((-1)) then (f_X9_totalNow_52 τ8)
  else (if (y3) = ((-1)) then (f_X9_totalNow_52 τ8)
    else (if (y5) = ((-1)) then (f_X9_totalNow_52 τ8)
      else (if (y7) = ((-1)) then (f_X9_totalNow_52 τ8)
        else some ((((y1) + (y3)) + (if (y5) < (y7) then (y7) else (y5))) + (rget 15 (x1) τ8), τ8)))))))))
def f_X9_gatherTotals_41  (k4 : Int32 → Int32 → Mem → Option (Int32 × Mem)) (v1 v2 : Int32) (σ : Mem) : Option (Int32 × Mem) := (k4 (v1) ((v2) + (1)) σ)
def f_X9_gatherTotals_4  : Nat → Int32 → Int32 → Mem → Option (Int32 × Mem)
  | 0, _, _, _ => none
  | n + 1, v1, v2, σ => (if (σ 76 7) ≤ (v2) then some (v1, σ)
    else bd (f_X9_totalNow (v2) σ) (fun y1 τ2 => (if (y1) = ((-1)) then (f_X9_gatherTotals_41 (f_X9_gatherTotals_4 n) (v1) (v2) τ2)
      else nw (rset 42 (v1) (y1) τ2) (fun τ3 => (f_X9_gatherTotals_41 (f_X9_gatherTotals_4 n) ((v1) + (1)) (v2) τ3)))))
def f_X9_gatherTotals (σ : Mem) : Option (Int32 × Mem) := (f_X9_gatherTotals_4 FUEL (0) (0) σ)
def f_X9_pupilsFrom_27  (k5 : Int32 → Int32 → Int32 → Int32 → Mem → Option (Int32 × Mem)) (v1 v2 v3 v4 : Int32) (σ : Mem) : Option (Int32 × Mem) := (k5 (v1) (v2) (v3) ((v4) + (1)) σ)
def f_X9_pupilsFrom_5  : Nat → Int32 → Int32 → Int32 → Int32 → Mem → Option (Int32 × Mem)
  | 0, _, _, _, _, _ => none
  | n + 1, v1, v2, v3, v4, σ => (if (v2) ≤ (v4) then some (v3, σ)
    else (if (rget 42 (v4) σ) < (v1) then (f_X9_pupilsFrom_27 (f_X9_pupilsFrom_5 n) (v1) (v2) (v3) (v4) σ)
      else (f_X9_pupilsFrom_27 (f_X9_pupilsFrom_5 n) (v1) (v2) ((v3) + (1)) (v4) σ)))
def f_X9_pupilsFrom (x1 x2 : Int32) (σ : Mem) : Option (Int32 × Mem) := (f_X9_pupilsFrom_5 FUEL (x1) (x2) (0) (0) σ)
def f_X9_gradeNow_46  (s0 : Int32) (σ : Mem) : Option (Int32 × Mem) := some (s0, σ)
def f_X9_gradeNow (x1 : Int32) (σ : Mem) : Option (Int32 × Mem) := bd (f_X9_totalNow (x1) σ) (fun y1 τ2 => (if (y1) = ((-1)) then some ((-1), τ2)
  else (if (y1) < (τ2 76 18) then (if (y1) < (τ2 76 19) then (if (y1) < (τ2 76 20) then (f_X9_gradeNow_46 (0) τ2)
        else (f_X9_gradeNow_46 (1) τ2))
      else some (2, τ2))
    else some (3, τ2))))
def f_X9_findReading_98  (k3 : Int32 → Int32 → Int32 → Int32 → Mem → Option (Int32 × Mem)) (v1 v3 v4 v5 : Int32) (σ : Mem) : Option (Int32 × Mem) := (k3 (v1) (v3) (v4) ((v5) + (1)) σ)
def f_X9_findReading_83  (k3 : Int32 → Int32 → Int32 → Int32 → Mem → Option (Int32 × Mem)) (v1 v3 v4 v5 : Int32) (σ : Mem) : Option (Int32 × Mem) := bd (f_X9_isCounting (v5) ((v1) - (v1) / (4) * (4)) σ) (fun y1 τ2 => (if (y1) = 0 then (f_X9_findReading_98 k3 (v1) (v3) (v4) (v5) τ2)
  else some (v5, τ2)))
def f_X9_findReading_3  : Nat → Int32 → Int32 → Int32 → Int32 → Mem → Option (Int32 × Mem)
  | 0, _, _, _, _, _ => none
  | n + 1, v1, v3, v4, v5, σ => (if (σ 76 6) ≤ (v5) then some (σ 76 6, σ)
    else (if (rget 2 (v5) σ) = (v1) then (if (ris 7 (v5) σ) = (v3) then (if (v4) = 0 then (f_X9_findReading_83 (f_X9_findReading_3 n) (v1) (v3) (v4) (v5) σ)
          else (if (ris 20 (rget 3 (v5) σ) σ) = 0 then (f_X9_findReading_98 (f_X9_findReading_3 n) (v1) (v3) (v4) (v5) σ)
            else (f_X9_findReading_83 (f_X9_findReading_3 n) (v1) (v3) (v4) (v5) σ)))
        else (f_X9_findReading_98 (f_X9_findReading_3 n) (v1) (v3) (v4) (v5) σ))
      else (f_X9_findReading_98 (f_X9_findReading_3 n) (v1) (v3) (v4) (v5) σ)))
def f_X9_findReading (x1 x2 x3 x4 : Int32) (σ : Mem) : Option (Int32 × Mem) := (f_X9_findReading_3 FUEL (x1) (x3) (x4) (x2) σ)
def f_X9_markFound_46  (s0 : Int32) (σ : Mem) : Option (Int32 × Mem) := some (s0, σ)
def f_X9_markFound (x1 : Int32) (σ : Mem) : Option (Int32 × Mem) := (if (σ 76 6) ≤ (x1) then (f_X9_markFound_46 ((-1)) σ)
  else bd (f_X6_markByLatest ((rget 2 (x1) σ) - (rget 2 (x1) σ) / (4) * (4)) (rget 4 (x1) σ) σ) (fun y1 τ2 => (f_X9_markFound_46 (y1) τ2)))
def f_X9_doubleFromLog_46  (σ : Mem) : Option (Int32 × Mem) := some ((-1), σ)
def f_X9_doubleFromLog (x1 : Int32) (σ : Mem) : Option (Int32 × Mem) := bd (f_X9_findReading (x1) (0) (0) (0) σ) (fun y1 τ2 => bd (f_X9_findReading (x1) ((y1) + (1)) (0) (0) τ2) (fun y3 τ4 => bd (f_X9_markFound (y1) τ4) (fun y5 τ6 => bd (f_X9_markFound (y3) τ6) (fun y7 τ8 => (if (y5) = ((-1)) then (f_X9_doubleFromLog_46 τ8)
  else (if (y7) = ((-1)) then (f_X9_doubleFromLog_46 τ8)
    else bd (f_X9_areApart (y5) (y7) (τ8 76 17) τ8) (fun y9 τ10 => (if (y9) = 0 then some ((((y5) + (y7)) + (1)) / (2), τ10)
      else bd (f_X9_findReading (x1) ((y3) + (1)) (0) (1) τ10) (fun y11 τ12 => bd (f_X9_markFound (y11) τ12) (fun y13 τ14 => some (y13, τ14)))))))))))
def f_X9_changed_44  (k4 : Int32 → Int32 → Mem → Option (Int32 × Mem)) (v1 v2 : Int32) (σ : Mem) : Option (Int32 × Mem) := (k4 (v1) ((v2) + (1)) σ)
def f_X9_changed_4  : Nat → Int32 → Int32 → Mem → Option (Int32 × Mem)
  | 0, _, _, _ => none
  | n + 1, v1, v2, σ => (if (σ 76 7) ≤ (v2) then some (v1, σ)
    else nv (rget 16 (v2) σ) (fun y1 => (if (y1) = ((-1)) then (f_X9_changed_44 (f_X9_changed_4 n) (v1) (v2) σ)
      else bd (f_X9_gradeNow (v2) σ) (fun y2 τ3 => (if (y1) = (y2) then (f_X9_changed_44 (f_X9_changed_4 n) (v1) (v2) τ3)
        else (f_X9_changed_44 (f_X9_changed_4 n) ((v1) + (1)) (v2) τ3))))))
def f_X9_changed (σ : Mem) : Option (Int32 × Mem) := (f_X9_changed_4 FUEL (0) (0) σ)
def f_X9_isWithin_20  (s0 : Int32) (σ : Mem) : Option (Int32 × Mem) := gd (isZ (s0)) (some (s0, σ))
def f_X9_isWithin (x1 x2 x3 : Int32) (σ : Mem) : Option (Int32 × Mem) := bd (f_X9_pupilsFrom (x1) (x3) σ) (fun y1 τ2 => (if ((x2) * (x3)) < ((y1) * (100)) then (f_X9_isWithin_20 (0) τ2)
  else (f_X9_isWithin_20 (1) τ2)))
def f_X9_wanted_17  (k4 : Int32 → Int32 → Mem → Option (Int32 × Mem)) : Nat → Int32 → Int32 → Int32 → Mem → Option (Int32 × Mem)
  | 0, _, _, _, _ => none
  | n + 1, v1, v2, v3, σ => (if (4) ≤ (v3) then (k4 (v1) ((v2) + (1)) σ)
    else bd (f_X9_wantedBy (v2) (v3) σ) (fun y1 τ2 => nv ((v1) + (y1)) (fun y3 => (f_X9_wanted_17 k4 n (y3) (v2) ((v3) + (1)) τ2))))
def f_X9_wanted_4  : Nat → Int32 → Int32 → Mem → Option (Int32 × Mem)
  | 0, _, _, _ => none
  | n + 1, v1, v2, σ => (if (σ 76 7) ≤ (v2) then some (v1, σ)
    else (f_X9_wanted_17 (f_X9_wanted_4 n) FUEL (v1) (v2) (0) σ))
def f_X9_wanted (σ : Mem) : Option (Int32 × Mem) := (f_X9_wanted_4 FUEL (0) (0) σ)
set_option maxHeartbeats 4000000 in
set_option maxRecDepth 100000 in
theorem w_X9_isQuestion_14 {X : Ctx} {o : Int64} {rv : Int32 × Mem} (C : Cx X cX9_isQuestion RX9 wsX9_isQuestion 1 0 0) (hR : Rz X cX9_isQuestion 1 o rv) : ∀ (s0 : Int32) (σ : Mem), some rv = f_X9_isQuestion_14 s0 σ → Bk X 1 o 0 0 14 [] [.int (s0)] σ := by
  intro s0 σ hf
  unfold f_X9_isQuestion_14 at hf
  exact hR _ _ _ _ dX9_isQuestion_14 hf
set_option maxHeartbeats 4000000 in
set_option maxRecDepth 100000 in
theorem w_X9_isQuestion_13 {X : Ctx} {o : Int64} {rv : Int32 × Mem} (C : Cx X cX9_isQuestion RX9 wsX9_isQuestion 1 0 0) (hR : Rz X cX9_isQuestion 1 o rv) : ∀ (σ : Mem), some rv = f_X9_isQuestion_13 σ → Bk X 1 o 0 0 13 [] [] σ := by
  intro σ hf
  unfold f_X9_isQuestion_13 at hf
  refine b_iconst C (v := 0) dX9_isQuestion_13 (by decide) ?_
  exact w_X9_isQuestion_14 C hR _ _ hf
set_option maxHeartbeats 4000000 in
set_option maxRecDepth 100000 in
theorem c_X9_isQuestion (x1 : Int32) (l : Launch) : Cti l yX9_isQuestion wsX9_isQuestion 0 0 (fun G => [.int (x1)]) (f_X9_isQuestion x1) := by
  refine mk_z (cc := cX9_isQuestion) (nL := 1) (own := RX9) (by decide) rfl rfl (fun _ => Nat.le_of_ble_eq_true rfl) (fun X o σ rv C hR hf => ?_)
  show Bk X 1 o 0 0 0 [(0, .int (x1))] [] σ
  unfold f_X9_isQuestion at hf
  refine b_iload_n C dX9_isQuestion_0 rfl 0 rfl ?_
  refine b_if_lt C 13 dX9_isQuestion_1 (by decide) hf (fun hf => ?_) (fun hf => ?_)
  · refine b_sub [] rfl ?_
    exact w_X9_isQuestion_13 C hR _ hf
  · refine b_iload_n C dX9_isQuestion_4 rfl 0 rfl ?_
    refine b_iconst C (v := 4) dX9_isQuestion_5 (by decide) ?_
    refine b_icmp_ge C 13 dX9_isQuestion_6 (by decide) hf (fun hf => ?_) (fun hf => ?_)
    · refine b_sub [] rfl ?_
      exact w_X9_isQuestion_13 C hR _ hf
    · refine b_iconst C (v := 1) dX9_isQuestion_9 (by decide) ?_
      refine b_goto C 14 dX9_isQuestion_10 (by decide) ?_
      refine b_sub [] rfl ?_
      exact w_X9_isQuestion_14 C hR _ _ hf
theorem hiX9_isCounting_2 : ∀ w ∈ wsX20, w ∈ wsX9_isCounting := by decide +kernel
theorem hiX9_isCounting_9 : ∀ w ∈ wsX90, w ∈ wsX9_isCounting := by decide +kernel
theorem kX9_isCounting_54 : Cond.fieldLink RX9 54 "ScriptRoom" "log" "LScriptRoom$Log;" ∈ wsX9_isCounting := by decide +kernel
theorem kX9_isCounting_357 : Cond.fieldLink RX9 357 "ScriptRoom$Log" "voids" "LScriptRoom$Row;" ∈ wsX9_isCounting := by decide +kernel
theorem kX9_isCounting_26 : Cond.fieldLink RX9 26 "ScriptRoom" "schemes" "LScriptRoom$Schemes;" ∈ wsX9_isCounting := by decide +kernel
theorem kX9_isCounting_366 : Cond.fieldLink RX9 366 "ScriptRoom$Log" "letters" "LScriptRoom$Row;" ∈ wsX9_isCounting := by decide +kernel
set_option maxHeartbeats 4000000 in
set_option maxRecDepth 100000 in
theorem w_X9_isCounting_44 {X : Ctx} {o : Int64} {rv : Int32 × Mem} (C : Cx X cX9_isCounting RX9 wsX9_isCounting 3 2 42) (hR : Rz X cX9_isCounting 3 o rv) : ∀ (s0 : Int32) (σ : Mem), some rv = f_X9_isCounting_44 s0 σ → Bk X 3 o 0 0 44 [] [.int (s0)] σ := by
  intro s0 σ hf
  unfold f_X9_isCounting_44 at hf
  exact hR _ _ _ _ dX9_isCounting_44 hf
set_option maxHeartbeats 4000000 in
set_option maxRecDepth 100000 in
theorem w_X9_isCounting_43 {X : Ctx} {o : Int64} {rv : Int32 × Mem} (C : Cx X cX9_isCounting RX9 wsX9_isCounting 3 2 42) (hR : Rz X cX9_isCounting 3 o rv) : ∀ (σ : Mem), some rv = f_X9_isCounting_43 σ → Bk X 3 o 0 0 43 [] [] σ := by
  intro σ hf
  unfold f_X9_isCounting_43 at hf
  refine b_iconst C (v := 0) dX9_isCounting_43 (by decide) ?_
  exact w_X9_isCounting_44 C hR _ _ hf
set_option maxHeartbeats 4000000 in
set_option maxRecDepth 100000 in
theorem c_X9_isCounting (x1 x2 : Int32) (l : Launch) : Cti l yX9_isCounting wsX9_isCounting 2 42 (fun G => [.ref (G.1 (9)), .int (x1), .int (x2)]) (f_X9_isCounting x1 x2) := by
  refine mk_z (cc := cX9_isCounting) (nL := 3) (own := RX9) (by decide) rfl rfl (fun _ => Nat.le_of_ble_eq_true rfl) (fun X o σ rv C hR hf => ?_)
  show Bk X 3 o 0 0 0 [(0, .ref (ad X (9))), (1, .int (x1)), (2, .int (x2))] [] σ
  unfold f_X9_isCounting at hf
  refine b_aload_n C dX9_isCounting_0 rfl 0 rfl ?_
  refine b_getR C hiX9_isCounting_9 9 6 (2) (by decide) (by decide) rfl (by decide) kX9_isCounting_54 rfl rfl dX9_isCounting_1 ?_
  refine b_getR C hiX9_isCounting_2 2 5 (11 + 6) (by decide) (by decide) rfl (by decide) kX9_isCounting_357 rfl rfl dX9_isCounting_4 ?_
  refine b_iload_n C dX9_isCounting_7 rfl 1 rfl ?_
  refine b_callVi (n := 1) C (11 + 6) 5 (isObj_r (by decide)) rfl (fun _ => [.int (x1)]) (c_X5_is 6 (by decide) (x1)) (e_is 6 (by decide) (x1) _) gX9_isCounting_X5_is rfl (by decide +kernel) rfl (by decide) (by decide) (Nat.le_of_ble_eq_true rfl) dX9_isCounting_8 ?_
  refine b_if_ne C 43 dX9_isCounting_11 (by decide) hf (fun hf => ?_) (fun hf => ?_)
  · refine b_sub [] rfl ?_
    exact w_X9_isCounting_43 C hR _ hf
  · refine b_aload_n C dX9_isCounting_14 rfl 0 rfl ?_
    refine b_getR C hiX9_isCounting_9 9 2 (6) (by decide) (by decide) rfl (by decide) kX9_isCounting_26 rfl rfl dX9_isCounting_15 ?_
    refine b_iload_n C dX9_isCounting_18 rfl 2 rfl ?_
    obtain ⟨y1, τ2, hqy1, hf⟩ := bd_inv hf
    refine b_callVi (n := 1) C (6) 6 (isObj_s (by decide) (by decide)) rfl (fun _ => [.int (x2)]) (c_X6_lettersOfLatest (x2)) hqy1 gX9_isCounting_X6_lettersOfLatest rfl (by decide +kernel) rfl (by decide) (by decide) (Nat.le_of_ble_eq_true rfl) dX9_isCounting_19 ?_
    refine b_aload_n C dX9_isCounting_22 rfl 0 rfl ?_
    refine b_getR C hiX9_isCounting_9 9 6 (2) (by decide) (by decide) rfl (by decide) kX9_isCounting_54 rfl rfl dX9_isCounting_23 ?_
    refine b_getR C hiX9_isCounting_2 2 4 (11 + 5) (by decide) (by decide) rfl (by decide) kX9_isCounting_366 rfl rfl dX9_isCounting_26 ?_
    refine b_iload_n C dX9_isCounting_29 rfl 1 rfl ?_
    refine b_callVi (n := 1) C (11 + 5) 5 (isObj_r (by decide)) rfl (fun _ => [.int (x1)]) (c_X5_get 5 (by decide) (x1)) (e_get 5 (by decide) (x1) _) gX9_isCounting_X5_get rfl (by decide +kernel) rfl (by decide) (by decide) (Nat.le_of_ble_eq_true rfl) dX9_isCounting_30 ?_
    refine b_iconst C (v := (-1)) dX9_isCounting_33 (by decide) ?_
    refine b_ixor C dX9_isCounting_34 ?_
    refine b_iand C dX9_isCounting_35 ?_
    refine b_if_ne C 43 dX9_isCounting_36 (by decide) hf (fun hf => ?_) (fun hf => ?_)
    · refine b_sub [] rfl ?_
      exact w_X9_isCounting_43 C hR _ hf
    · refine b_iconst C (v := 1) dX9_isCounting_39 (by decide) ?_
      refine b_goto C 44 dX9_isCounting_40 (by decide) ?_
      refine b_sub [] rfl ?_
      exact w_X9_isCounting_44 C hR _ _ hf
theorem hiX9_weighReadings_2 : ∀ w ∈ wsX20, w ∈ wsX9_weighReadings := by decide +kernel
theorem hiX9_weighReadings_9 : ∀ w ∈ wsX90, w ∈ wsX9_weighReadings := by decide +kernel
theorem kX9_weighReadings_54 : Cond.fieldLink RX9 54 "ScriptRoom" "log" "LScriptRoom$Log;" ∈ wsX9_weighReadings := by decide +kernel
theorem kX9_weighReadings_164 : Cond.fieldLink RX9 164 "ScriptRoom$Log" "count" "I" ∈ wsX9_weighReadings := by decide +kernel
theorem kX9_weighReadings_375 : Cond.fieldLink RX9 375 "ScriptRoom$Log" "answers" "LScriptRoom$Row;" ∈ wsX9_weighReadings := by decide +kernel
theorem kX9_weighReadings_333 : Cond.fieldLink RX9 333 "ScriptRoom$Log" "worths" "LScriptRoom$Row;" ∈ wsX9_weighReadings := by decide +kernel
theorem kX9_weighReadings_26 : Cond.fieldLink RX9 26 "ScriptRoom" "schemes" "LScriptRoom$Schemes;" ∈ wsX9_weighReadings := by decide +kernel
theorem kX9_weighReadings_365 : Cond.fieldLink RX9 365 "ScriptRoom$Log" "points" "LScriptRoom$Row;" ∈ wsX9_weighReadings := by decide +kernel
set_option maxHeartbeats 4000000 in
set_option maxRecDepth 100000 in
theorem w_X9_weighReadings_76 {X : Ctx} {o : Int64} {rv : Int32 × Mem} (C : Cx X cX9_weighReadings RX9 wsX9_weighReadings 3 4 95) (hR : Rv X cX9_weighReadings 3 o rv) (k2 : Int32 → Int32 → Mem → Option (Int32 × Mem)) (h2 : ∀ (v1 v2 : Int32) (σ : Mem), some rv = k2 v1 v2 σ → Bk X 3 o 0 0 2 [(0, .ref (ad X (9))), (1, .int (v1)), (2, .int (v2))] [] σ) : ∀ (v1 v2 : Int32) (σ : Mem), some rv = f_X9_weighReadings_76 k2 v1 v2 σ → Bk X 3 o 0 0 76 [(0, .ref (ad X (9))), (1, .int (v1)), (2, .int (v2))] [] σ := by
  intro v1 v2 σ hf
  unfold f_X9_weighReadings_76 at hf
  refine b_iinc (v := (v2) + (1)) (lv' := [(2, .int ((v2) + (1))), (0, .ref (ad X (9))), (1, .int (v1))]) C dX9_weighReadings_76 2 rfl rfl (by decide) rfl ?_
  refine b_goto C 2 dX9_weighReadings_79 (by decide) ?_
  refine b_sub [1, 2, 0] rfl ?_
  exact h2 _ _ _ hf
set_option maxHeartbeats 4000000 in
set_option maxRecDepth 100000 in
theorem w_X9_weighReadings_73 {X : Ctx} {o : Int64} {rv : Int32 × Mem} (C : Cx X cX9_weighReadings RX9 wsX9_weighReadings 3 4 95) (hR : Rv X cX9_weighReadings 3 o rv) (k2 : Int32 → Int32 → Mem → Option (Int32 × Mem)) (h2 : ∀ (v1 v2 : Int32) (σ : Mem), some rv = k2 v1 v2 σ → Bk X 3 o 0 0 2 [(0, .ref (ad X (9))), (1, .int (v1)), (2, .int (v2))] [] σ) : ∀ (v1 v2 s0 s1 : Int32) (σ : Mem), some rv = f_X9_weighReadings_73 k2 v1 v2 s0 s1 σ → Bk X 3 o 0 0 73 [(0, .ref (ad X (9))), (1, .int (v1)), (2, .int (v2))] [.int (s0), .int (s1), .ref (ad X (11 + 8))] σ := by
  intro v1 v2 s0 s1 σ hf
  unfold f_X9_weighReadings_73 at hf
  refine b_callVv (n := 2) C (11 + 8) 5 (isObj_r (by decide)) rfl (fun _ => [.int (s1), .int (s0)]) (c_X5_set 8 (by decide) (s1) (s0)) (e_set 8 (by decide) (s1) (s0) _) gX9_weighReadings_X5_set rfl (by decide +kernel) rfl (by decide) (by decide) (Nat.le_of_ble_eq_true rfl) dX9_weighReadings_73 ?_
  refine b_nw hf (fun τ1 hf => ?_)
  exact w_X9_weighReadings_76 C hR k2 h2 _ _ _ hf
set_option maxHeartbeats 4000000 in
set_option maxRecDepth 100000 in
theorem w_X9_weighReadings_2 {X : Ctx} {o : Int64} {rv : Int32 × Mem} (C : Cx X cX9_weighReadings RX9 wsX9_weighReadings 3 4 95) (hR : Rv X cX9_weighReadings 3 o rv) : ∀ (n : Nat) (v1 v2 : Int32) (σ : Mem), some rv = f_X9_weighReadings_2 n v1 v2 σ → Bk X 3 o 0 0 2 [(0, .ref (ad X (9))), (1, .int (v1)), (2, .int (v2))] [] σ := by
  intro n
  induction n with
  | zero =>
    intro v1 v2 σ hf
    rw [f_X9_weighReadings_2] at hf
    cases hf
  | succ n ih =>
    intro v1 v2 σ hf
    rw [f_X9_weighReadings_2] at hf
    refine b_iload_n C dX9_weighReadings_2 rfl 2 rfl ?_
    refine b_aload_n C dX9_weighReadings_3 rfl 0 rfl ?_
    refine b_getR C hiX9_weighReadings_9 9 6 (2) (by decide) (by decide) rfl (by decide) kX9_weighReadings_54 rfl rfl dX9_weighReadings_4 ?_
    refine b_getS C hiX9_weighReadings_2 2 0 6 (by decide) (by decide) rfl (by decide) kX9_weighReadings_164 rfl rfl dX9_weighReadings_7 ?_
    refine b_icmp_ge C 82 dX9_weighReadings_10 (by decide) hf (fun hf => ?_) (fun hf => ?_)
    · exact hR _ _ _ _ dX9_weighReadings_82 hf
    · refine b_aload_n C dX9_weighReadings_13 rfl 0 rfl ?_
      refine b_getR C hiX9_weighReadings_9 9 6 (2) (by decide) (by decide) rfl (by decide) kX9_weighReadings_54 rfl rfl dX9_weighReadings_14 ?_
      refine b_getR C hiX9_weighReadings_2 2 1 (11 + 2) (by decide) (by decide) rfl (by decide) kX9_weighReadings_375 rfl rfl dX9_weighReadings_17 ?_
      refine b_iload_n C dX9_weighReadings_20 rfl 2 rfl ?_
      refine b_callVi (n := 1) C (11 + 2) 5 (isObj_r (by decide)) rfl (fun _ => [.int (v2)]) (c_X5_get 2 (by decide) (v2)) (e_get 2 (by decide) (v2) _) gX9_weighReadings_X5_get rfl (by decide +kernel) rfl (by decide) (by decide) (Nat.le_of_ble_eq_true rfl) dX9_weighReadings_21 ?_
      refine b_iconst C (v := 4) dX9_weighReadings_24 (by decide) ?_
      refine b_irem C dX9_weighReadings_25 (by decide) ?_
      refine b_iload_n C dX9_weighReadings_26 rfl 1 rfl ?_
      refine b_icmp_eq C 33 dX9_weighReadings_27 (by decide) hf (fun hf => ?_) (fun hf => ?_)
      · refine b_aload_n C dX9_weighReadings_33 rfl 0 rfl ?_
        refine b_getR C hiX9_weighReadings_9 9 6 (2) (by decide) (by decide) rfl (by decide) kX9_weighReadings_54 rfl rfl dX9_weighReadings_34 ?_
        refine b_getR C hiX9_weighReadings_2 2 7 (11 + 8) (by decide) (by decide) rfl (by decide) kX9_weighReadings_333 rfl rfl dX9_weighReadings_37 ?_
        refine b_iload_n C dX9_weighReadings_40 rfl 2 rfl ?_
        refine b_aload_n C dX9_weighReadings_41 rfl 0 rfl ?_
        refine b_iload_n C dX9_weighReadings_42 rfl 2 rfl ?_
        refine b_iload_n C dX9_weighReadings_43 rfl 1 rfl ?_
        obtain ⟨y2, τ3, hqy2, hf⟩ := bd_inv hf
        refine b_callVi (n := 2) C (9) 9 (isObj_s (by decide) (by decide)) rfl (fun _ => [.int (v2), .int (v1)]) (c_X9_isCounting (v2) (v1)) hqy2 gX9_weighReadings_X9_isCounting rfl (by decide +kernel) rfl (by decide) (by decide) (Nat.le_of_ble_eq_true rfl) dX9_weighReadings_44 ?_
        refine b_if_eq C 72 dX9_weighReadings_47 (by decide) hf (fun hf => ?_) (fun hf => ?_)
        · refine b_iconst C (v := (-1)) dX9_weighReadings_72 (by decide) ?_
          exact w_X9_weighReadings_73 C hR (f_X9_weighReadings_2 n) ih _ _ _ _ _ hf
        · refine b_aload_n C dX9_weighReadings_50 rfl 0 rfl ?_
          refine b_getR C hiX9_weighReadings_9 9 2 (6) (by decide) (by decide) rfl (by decide) kX9_weighReadings_26 rfl rfl dX9_weighReadings_51 ?_
          refine b_iload_n C dX9_weighReadings_54 rfl 1 rfl ?_
          refine b_aload_n C dX9_weighReadings_55 rfl 0 rfl ?_
          refine b_getR C hiX9_weighReadings_9 9 6 (2) (by decide) (by decide) rfl (by decide) kX9_weighReadings_54 rfl rfl dX9_weighReadings_56 ?_
          refine b_getR C hiX9_weighReadings_2 2 3 (11 + 4) (by decide) (by decide) rfl (by decide) kX9_weighReadings_365 rfl rfl dX9_weighReadings_59 ?_
          refine b_iload_n C dX9_weighReadings_62 rfl 2 rfl ?_
          refine b_callVi (n := 1) C (11 + 4) 5 (isObj_r (by decide)) rfl (fun _ => [.int (v2)]) (c_X5_get 4 (by decide) (v2)) (e_get 4 (by decide) (v2) _) gX9_weighReadings_X5_get rfl (by decide +kernel) rfl (by decide) (by decide) (Nat.le_of_ble_eq_true rfl) dX9_weighReadings_63 ?_
          obtain ⟨y4, τ5, hqy4, hf⟩ := bd_inv hf
          refine b_callVi (n := 2) C (6) 6 (isObj_s (by decide) (by decide)) rfl (fun _ => [.int (v1), .int (rget 4 (v2) τ3)]) (c_X6_markByLatest (v1) (rget 4 (v2) τ3)) hqy4 gX9_weighReadings_X6_markByLatest rfl (by decide +kernel) rfl (by decide) (by decide) (Nat.le_of_ble_eq_true rfl) dX9_weighReadings_66 ?_
          refine b_goto C 73 dX9_weighReadings_69 (by decide) ?_
          exact w_X9_weighReadings_73 C hR (f_X9_weighReadings_2 n) ih _ _ _ _ _ hf
      · refine b_goto C 76 dX9_weighReadings_30 (by decide) ?_
        exact w_X9_weighReadings_76 C hR (f_X9_weighReadings_2 n) ih _ _ _ hf
set_option maxHeartbeats 4000000 in
set_option maxRecDepth 100000 in
theorem c_X9_weighReadings (x1 : Int32) (l : Launch) : Ctv l yX9_weighReadings wsX9_weighReadings 4 95 (fun G => [.ref (G.1 (9)), .int (x1)]) (f_X9_weighReadings x1) := by
  refine mk_v (cc := cX9_weighReadings) (nL := 3) (own := RX9) (by decide) rfl rfl (fun _ => Nat.le_of_ble_eq_true rfl) (fun X o σ rv C hR hf => ?_)
  show Bk X 3 o 0 0 0 [(0, .ref (ad X (9))), (1, .int (x1))] [] σ
  unfold f_X9_weighReadings at hf
  refine b_iconst C (v := 0) dX9_weighReadings_0 (by decide) ?_
  refine b_istore_n (lv' := [(2, .int (0)), (0, .ref (ad X (9))), (1, .int (x1))]) C dX9_weighReadings_1 rfl (by decide) rfl ?_
  refine b_sub [1, 2, 0] rfl ?_
  exact w_X9_weighReadings_2 C hR FUEL _ _ _ hf
set_option maxHeartbeats 4000000 in
set_option maxRecDepth 100000 in
theorem w_X9_arePoints_16 {X : Ctx} {o : Int64} {rv : Int32 × Mem} (C : Cx X cX9_arePoints RX9 wsX9_arePoints 1 0 0) (hR : Rz X cX9_arePoints 1 o rv) : ∀ (s0 : Int32) (σ : Mem), some rv = f_X9_arePoints_16 s0 σ → Bk X 1 o 0 0 16 [] [.int (s0)] σ := by
  intro s0 σ hf
  unfold f_X9_arePoints_16 at hf
  exact hR _ _ _ _ dX9_arePoints_16 hf
set_option maxHeartbeats 4000000 in
set_option maxRecDepth 100000 in
theorem w_X9_arePoints_15 {X : Ctx} {o : Int64} {rv : Int32 × Mem} (C : Cx X cX9_arePoints RX9 wsX9_arePoints 1 0 0) (hR : Rz X cX9_arePoints 1 o rv) : ∀ (σ : Mem), some rv = f_X9_arePoints_15 σ → Bk X 1 o 0 0 15 [] [] σ := by
  intro σ hf
  unfold f_X9_arePoints_15 at hf
  refine b_iconst C (v := 0) dX9_arePoints_15 (by decide) ?_
  exact w_X9_arePoints_16 C hR _ _ hf
set_option maxHeartbeats 4000000 in
set_option maxRecDepth 100000 in
theorem c_X9_arePoints (x1 : Int32) (l : Launch) : Cti l yX9_arePoints wsX9_arePoints 0 0 (fun G => [.int (x1)]) (f_X9_arePoints x1) := by
  refine mk_z (cc := cX9_arePoints) (nL := 1) (own := RX9) (by decide) rfl rfl (fun _ => Nat.le_of_ble_eq_true rfl) (fun X o σ rv C hR hf => ?_)
  show Bk X 1 o 0 0 0 [(0, .int (x1))] [] σ
  unfold f_X9_arePoints at hf
  refine b_iload_n C dX9_arePoints_0 rfl 0 rfl ?_
  refine b_if_lt C 15 dX9_arePoints_1 (by decide) hf (fun hf => ?_) (fun hf => ?_)
  · refine b_sub [] rfl ?_
    exact w_X9_arePoints_15 C hR _ hf
  · refine b_iload_n C dX9_arePoints_4 rfl 0 rfl ?_
    refine b_sipush C (v := 255) dX9_arePoints_5 (by decide) ?_
    refine b_icmp_gt C 15 dX9_arePoints_8 (by decide) hf (fun hf => ?_) (fun hf => ?_)
    · refine b_sub [] rfl ?_
      exact w_X9_arePoints_15 C hR _ hf
    · refine b_iconst C (v := 1) dX9_arePoints_11 (by decide) ?_
      refine b_goto C 16 dX9_arePoints_12 (by decide) ?_
      refine b_sub [] rfl ?_
      exact w_X9_arePoints_16 C hR _ _ hf
theorem hiX9_seedDue_4 : ∀ w ∈ wsX40, w ∈ wsX9_seedDue := by decide +kernel
theorem hiX9_seedDue_7 : ∀ w ∈ wsX70, w ∈ wsX9_seedDue := by decide +kernel
theorem hiX9_seedDue_9 : ∀ w ∈ wsX90, w ∈ wsX9_seedDue := by decide +kernel
theorem kX9_seedDue_47 : Cond.fieldLink RX9 47 "ScriptRoom" "seeds" "LScriptRoom$Seeds;" ∈ wsX9_seedDue := by decide +kernel
theorem kX9_seedDue_147 : Cond.fieldLink RX9 147 "ScriptRoom$Seeds" "count" "I" ∈ wsX9_seedDue := by decide +kernel
theorem kX9_seedDue_40 : Cond.fieldLink RX9 40 "ScriptRoom" "readers" "LScriptRoom$Readers;" ∈ wsX9_seedDue := by decide +kernel
theorem kX9_seedDue_277 : Cond.fieldLink RX9 277 "ScriptRoom$Seeds" "questions" "LScriptRoom$Row;" ∈ wsX9_seedDue := by decide +kernel
theorem kX9_seedDue_266 : Cond.fieldLink RX9 266 "ScriptRoom$Readers" "given" "LScriptRoom$Row;" ∈ wsX9_seedDue := by decide +kernel
theorem kX9_seedDue_263 : Cond.fieldLink RX9 263 "ScriptRoom$Readers" "sinces" "LScriptRoom$Row;" ∈ wsX9_seedDue := by decide +kernel
set_option maxHeartbeats 4000000 in
set_option maxRecDepth 100000 in
theorem w_X9_seedDue_74 {X : Ctx} {o : Int64} {rv : Int32 × Mem} (C : Cx X cX9_seedDue RX9 wsX9_seedDue 4 2 43) (hR : Rt X cX9_seedDue 4 o rv) (k19 : Int32 → Int32 → Mem → Option (Int32 × Mem)) (h19 : ∀ (v1 v2 : Int32) (σ : Mem), some rv = k19 v1 v2 σ → Bk X 4 o 0 0 19 [(0, .ref (ad X (9))), (1, .int (v1)), (2, .int (v2))] [] σ) : ∀ (v1 v2 : Int32) (σ : Mem), some rv = f_X9_seedDue_74 k19 v1 v2 σ → Bk X 4 o 0 0 74 [(0, .ref (ad X (9))), (1, .int (v1)), (2, .int (v2))] [] σ := by
  intro v1 v2 σ hf
  unfold f_X9_seedDue_74 at hf
  refine b_iinc (v := (v2) + (1)) (lv' := [(2, .int ((v2) + (1))), (0, .ref (ad X (9))), (1, .int (v1))]) C dX9_seedDue_74 2 rfl rfl (by decide) rfl ?_
  refine b_goto C 19 dX9_seedDue_77 (by decide) ?_
  refine b_sub [1, 2, 0] rfl ?_
  exact h19 _ _ _ hf
set_option maxHeartbeats 4000000 in
set_option maxRecDepth 100000 in
theorem w_X9_seedDue_19 {X : Ctx} {o : Int64} {rv : Int32 × Mem} (C : Cx X cX9_seedDue RX9 wsX9_seedDue 4 2 43) (hR : Rt X cX9_seedDue 4 o rv) : ∀ (n : Nat) (v1 v2 : Int32) (σ : Mem), some rv = f_X9_seedDue_19 n v1 v2 σ → Bk X 4 o 0 0 19 [(0, .ref (ad X (9))), (1, .int (v1)), (2, .int (v2))] [] σ := by
  intro n
  induction n with
  | zero =>
    intro v1 v2 σ hf
    rw [f_X9_seedDue_19] at hf
    cases hf
  | succ n ih =>
    intro v1 v2 σ hf
    rw [f_X9_seedDue_19] at hf
    refine b_iload_n C dX9_seedDue_19 rfl 2 rfl ?_
    refine b_aload_n C dX9_seedDue_20 rfl 0 rfl ?_
    refine b_getR C hiX9_seedDue_9 9 5 (7) (by decide) (by decide) rfl (by decide) kX9_seedDue_47 rfl rfl dX9_seedDue_21 ?_
    refine b_getS C hiX9_seedDue_7 7 0 9 (by decide) (by decide) rfl (by decide) kX9_seedDue_147 rfl rfl dX9_seedDue_24 ?_
    refine b_icmp_ge C 80 dX9_seedDue_27 (by decide) hf (fun hf => ?_) (fun hf => ?_)
    · refine b_iconst C (v := (-1)) dX9_seedDue_80 (by decide) ?_
      exact hR _ _ _ _ dX9_seedDue_81 hf
    · refine b_aload_n C dX9_seedDue_30 rfl 0 rfl ?_
      refine b_getR C hiX9_seedDue_9 9 4 (4) (by decide) (by decide) rfl (by decide) kX9_seedDue_40 rfl rfl dX9_seedDue_31 ?_
      refine b_iload_n C dX9_seedDue_34 rfl 1 rfl ?_
      refine b_aload_n C dX9_seedDue_35 rfl 0 rfl ?_
      refine b_getR C hiX9_seedDue_9 9 5 (7) (by decide) (by decide) rfl (by decide) kX9_seedDue_47 rfl rfl dX9_seedDue_36 ?_
      refine b_getR C hiX9_seedDue_7 7 1 (11 + 39) (by decide) (by decide) rfl (by decide) kX9_seedDue_277 rfl rfl dX9_seedDue_39 ?_
      refine b_iload_n C dX9_seedDue_42 rfl 2 rfl ?_
      refine b_callVi (n := 1) C (11 + 39) 5 (isObj_r (by decide)) rfl (fun _ => [.int (v2)]) (c_X5_get 39 (by decide) (v2)) (e_get 39 (by decide) (v2) _) gX9_seedDue_X5_get rfl (by decide +kernel) rfl (by decide) (by decide) (Nat.le_of_ble_eq_true rfl) dX9_seedDue_43 ?_
      obtain ⟨y1, τ2, hqy1, hf⟩ := bd_inv hf
      refine b_callVi (n := 2) C (4) 4 (isObj_s (by decide) (by decide)) rfl (fun _ => [.int (v1), .int (rget 39 (v2) σ)]) (c_X4_isFor (v1) (rget 39 (v2) σ)) hqy1 gX9_seedDue_X4_isFor rfl (by decide +kernel) rfl (by decide) (by decide) (Nat.le_of_ble_eq_true rfl) dX9_seedDue_46 ?_
      refine b_istore_n (lv' := [(3, .int (y1)), (0, .ref (ad X (9))), (1, .int (v1)), (2, .int (v2))]) C dX9_seedDue_49 rfl (by decide) rfl ?_
      refine b_iload_n C dX9_seedDue_50 rfl 0 rfl ?_
      refine b_if_eq C 74 dX9_seedDue_51 (by decide) hf (fun hf => ?_) (fun hf => ?_)
      · refine b_sub [1, 2, 3] rfl ?_
        exact w_X9_seedDue_74 C hR (f_X9_seedDue_19 n) ih _ _ _ hf
      · refine b_aload_n C dX9_seedDue_54 rfl 1 rfl ?_
        refine b_getR C hiX9_seedDue_9 9 4 (4) (by decide) (by decide) rfl (by decide) kX9_seedDue_40 rfl rfl dX9_seedDue_55 ?_
        refine b_getR C hiX9_seedDue_4 4 11 (11 + 29) (by decide) (by decide) rfl (by decide) kX9_seedDue_266 rfl rfl dX9_seedDue_58 ?_
        refine b_iload_n C dX9_seedDue_61 rfl 2 rfl ?_
        refine b_callVi (n := 1) C (11 + 29) 5 (isObj_r (by decide)) rfl (fun _ => [.int (v1)]) (c_X5_get 29 (by decide) (v1)) (e_get 29 (by decide) (v1) _) gX9_seedDue_X5_get rfl (by decide +kernel) rfl (by decide) (by decide) (Nat.le_of_ble_eq_true rfl) dX9_seedDue_62 ?_
        refine b_iload_n C dX9_seedDue_65 rfl 3 rfl ?_
        refine b_ishr C dX9_seedDue_66 ?_
        refine b_iconst C (v := 1) dX9_seedDue_67 (by decide) ?_
        refine b_iand C dX9_seedDue_68 ?_
        refine b_if_ne C 74 dX9_seedDue_69 (by decide) hf (fun hf => ?_) (fun hf => ?_)
        · refine b_sub [1, 2, 3] rfl ?_
          exact w_X9_seedDue_74 C hR (f_X9_seedDue_19 n) ih _ _ _ hf
        · refine b_iload_n C dX9_seedDue_72 rfl 3 rfl ?_
          exact hR _ _ _ _ dX9_seedDue_73 hf
set_option maxHeartbeats 4000000 in
set_option maxRecDepth 100000 in
theorem c_X9_seedDue (x1 : Int32) (l : Launch) : Cti l yX9_seedDue wsX9_seedDue 2 43 (fun G => [.ref (G.1 (9)), .int (x1)]) (f_X9_seedDue x1) := by
  refine mk_i (cc := cX9_seedDue) (nL := 4) (own := RX9) (by decide) rfl rfl (fun _ => Nat.le_of_ble_eq_true rfl) (fun X o σ rv C hR hf => ?_)
  show Bk X 4 o 0 0 0 [(0, .ref (ad X (9))), (1, .int (x1))] [] σ
  unfold f_X9_seedDue at hf
  refine b_aload_n C dX9_seedDue_0 rfl 0 rfl ?_
  refine b_getR C hiX9_seedDue_9 9 4 (4) (by decide) (by decide) rfl (by decide) kX9_seedDue_40 rfl rfl dX9_seedDue_1 ?_
  refine b_getR C hiX9_seedDue_4 4 9 (11 + 27) (by decide) (by decide) rfl (by decide) kX9_seedDue_263 rfl rfl dX9_seedDue_4 ?_
  refine b_iload_n C dX9_seedDue_7 rfl 1 rfl ?_
  refine b_callVi (n := 1) C (11 + 27) 5 (isObj_r (by decide)) rfl (fun _ => [.int (x1)]) (c_X5_get 27 (by decide) (x1)) (e_get 27 (by decide) (x1) _) gX9_seedDue_X5_get rfl (by decide +kernel) rfl (by decide) (by decide) (Nat.le_of_ble_eq_true rfl) dX9_seedDue_8 ?_
  refine b_iconst C (v := 3) dX9_seedDue_11 (by decide) ?_
  refine b_icmp_ge C 17 dX9_seedDue_12 (by decide) hf (fun hf => ?_) (fun hf => ?_)
  · refine b_iconst C (v := 0) dX9_seedDue_17 (by decide) ?_
    refine b_istore_n (lv' := [(2, .int (0)), (0, .ref (ad X (9))), (1, .int (x1))]) C dX9_seedDue_18 rfl (by decide) rfl ?_
    refine b_sub [1, 2, 0] rfl ?_
    exact w_X9_seedDue_19 C hR FUEL _ _ _ hf
  · refine b_iconst C (v := (-1)) dX9_seedDue_15 (by decide) ?_
    exact hR _ _ _ _ dX9_seedDue_16 hf
set_option maxHeartbeats 4000000 in
set_option maxRecDepth 100000 in
theorem c_X9_answerOf (x1 x2 : Int32) (l : Launch) : Cti l yX9_answerOf wsX9_answerOf 0 0 (fun G => [.int (x1), .int (x2)]) (f_X9_answerOf x1 x2) := by
  refine mk_i (cc := cX9_answerOf) (nL := 2) (own := RX9) (by decide) rfl rfl (fun _ => Nat.le_of_ble_eq_true rfl) (fun X o σ rv C hR hf => ?_)
  show Bk X 2 o 0 0 0 [(0, .int (x1)), (1, .int (x2))] [] σ
  unfold f_X9_answerOf at hf
  refine b_iload_n C dX9_answerOf_0 rfl 0 rfl ?_
  refine b_iconst C (v := 4) dX9_answerOf_1 (by decide) ?_
  refine b_imul C dX9_answerOf_2 ?_
  refine b_iload_n C dX9_answerOf_3 rfl 1 rfl ?_
  refine b_iadd C dX9_answerOf_4 ?_
  exact hR _ _ _ _ dX9_answerOf_5 hf
theorem hiX9_hasReadingBy_2 : ∀ w ∈ wsX20, w ∈ wsX9_hasReadingBy := by decide +kernel
theorem hiX9_hasReadingBy_9 : ∀ w ∈ wsX90, w ∈ wsX9_hasReadingBy := by decide +kernel
theorem kX9_hasReadingBy_54 : Cond.fieldLink RX9 54 "ScriptRoom" "log" "LScriptRoom$Log;" ∈ wsX9_hasReadingBy := by decide +kernel
theorem kX9_hasReadingBy_336 : Cond.fieldLink RX9 336 "ScriptRoom$Log" "follows" "LScriptRoom$Row;" ∈ wsX9_hasReadingBy := by decide +kernel
theorem kX9_hasReadingBy_331 : Cond.fieldLink RX9 331 "ScriptRoom$Log" "readers" "LScriptRoom$Row;" ∈ wsX9_hasReadingBy := by decide +kernel
theorem kX9_hasReadingBy_333 : Cond.fieldLink RX9 333 "ScriptRoom$Log" "worths" "LScriptRoom$Row;" ∈ wsX9_hasReadingBy := by decide +kernel
theorem kX9_hasReadingBy_325 : Cond.fieldLink RX9 325 "ScriptRoom$Log" "numbers" "LScriptRoom$Row;" ∈ wsX9_hasReadingBy := by decide +kernel
theorem kX9_hasReadingBy_328 : Cond.fieldLink RX9 328 "ScriptRoom$Log" "heads" "LScriptRoom$Row;" ∈ wsX9_hasReadingBy := by decide +kernel
set_option maxHeartbeats 4000000 in
set_option maxRecDepth 100000 in
theorem w_X9_hasReadingBy_68 {X : Ctx} {o : Int64} {rv : Int32 × Mem} (C : Cx X cX9_hasReadingBy RX9 wsX9_hasReadingBy 6 1 21) (hR : Rz X cX9_hasReadingBy 6 o rv) (k28 : Int32 → Int32 → Int32 → Int32 → Mem → Option (Int32 × Mem)) (h28 : ∀ (v1 v3 v4 v5 : Int32) (σ : Mem), some rv = k28 v1 v3 v4 v5 σ → Bk X 6 o 0 0 28 [(0, .ref (ad X (9))), (1, .int (v1)), (3, .int (v3)), (4, .int (v4)), (5, .int (v5))] [] σ) : ∀ (v1 v3 v4 v5 : Int32) (σ : Mem), some rv = f_X9_hasReadingBy_68 k28 v1 v3 v4 v5 σ → Bk X 6 o 0 0 68 [(0, .ref (ad X (9))), (1, .int (v1)), (3, .int (v3)), (4, .int (v4)), (5, .int (v5))] [] σ := by
  intro v1 v3 v4 v5 σ hf
  unfold f_X9_hasReadingBy_68 at hf
  refine b_aload_n C dX9_hasReadingBy_68 rfl 0 rfl ?_
  refine b_getR C hiX9_hasReadingBy_9 9 6 (2) (by decide) (by decide) rfl (by decide) kX9_hasReadingBy_54 rfl rfl dX9_hasReadingBy_69 ?_
  refine b_getR C hiX9_hasReadingBy_2 2 8 (11 + 9) (by decide) (by decide) rfl (by decide) kX9_hasReadingBy_336 rfl rfl dX9_hasReadingBy_72 ?_
  refine b_iload C dX9_hasReadingBy_75 3 rfl ?_
  refine b_callVi (n := 1) C (11 + 9) 5 (isObj_r (by decide)) rfl (fun _ => [.int (v4)]) (c_X5_get 9 (by decide) (v4)) (e_get 9 (by decide) (v4) _) gX9_hasReadingBy_X5_get rfl (by decide +kernel) rfl (by decide) (by decide) (Nat.le_of_ble_eq_true rfl) dX9_hasReadingBy_77 ?_
  refine b_nv hf (fun y1 hf => ?_)
  refine b_istore (lv' := [(4, .int (y1)), (0, .ref (ad X (9))), (1, .int (v1)), (3, .int (v3)), (5, .int (v5))]) C dX9_hasReadingBy_80 (by decide) rfl ?_
  refine b_iinc (v := (v5) + (1)) (lv' := [(5, .int ((v5) + (1))), (4, .int (y1)), (0, .ref (ad X (9))), (1, .int (v1)), (3, .int (v3))]) C dX9_hasReadingBy_82 4 rfl rfl (by decide) rfl ?_
  refine b_goto C 28 dX9_hasReadingBy_85 (by decide) ?_
  refine b_sub [2, 3, 4, 1, 0] rfl ?_
  exact h28 _ _ _ _ _ hf
set_option maxHeartbeats 4000000 in
set_option maxRecDepth 100000 in
theorem w_X9_hasReadingBy_28 {X : Ctx} {o : Int64} {rv : Int32 × Mem} (C : Cx X cX9_hasReadingBy RX9 wsX9_hasReadingBy 6 1 21) (hR : Rz X cX9_hasReadingBy 6 o rv) : ∀ (n : Nat) (v1 v3 v4 v5 : Int32) (σ : Mem), some rv = f_X9_hasReadingBy_28 n v1 v3 v4 v5 σ → Bk X 6 o 0 0 28 [(0, .ref (ad X (9))), (1, .int (v1)), (3, .int (v3)), (4, .int (v4)), (5, .int (v5))] [] σ := by
  intro n
  induction n with
  | zero =>
    intro v1 v3 v4 v5 σ hf
    rw [f_X9_hasReadingBy_28] at hf
    cases hf
  | succ n ih =>
    intro v1 v3 v4 v5 σ hf
    rw [f_X9_hasReadingBy_28] at hf
    refine b_iload C dX9_hasReadingBy_28 4 rfl ?_
    refine b_iload_n C dX9_hasReadingBy_30 rfl 2 rfl ?_
    refine b_icmp_ge C 88 dX9_hasReadingBy_31 (by decide) hf (fun hf => ?_) (fun hf => ?_)
    · refine b_iconst C (v := 0) dX9_hasReadingBy_88 (by decide) ?_
      exact hR _ _ _ _ dX9_hasReadingBy_89 hf
    · refine b_aload_n C dX9_hasReadingBy_34 rfl 0 rfl ?_
      refine b_getR C hiX9_hasReadingBy_9 9 6 (2) (by decide) (by decide) rfl (by decide) kX9_hasReadingBy_54 rfl rfl dX9_hasReadingBy_35 ?_
      refine b_getR C hiX9_hasReadingBy_2 2 2 (11 + 3) (by decide) (by decide) rfl (by decide) kX9_hasReadingBy_331 rfl rfl dX9_hasReadingBy_38 ?_
      refine b_iload C dX9_hasReadingBy_41 3 rfl ?_
      refine b_callVi (n := 1) C (11 + 3) 5 (isObj_r (by decide)) rfl (fun _ => [.int (v4)]) (c_X5_get 3 (by decide) (v4)) (e_get 3 (by decide) (v4) _) gX9_hasReadingBy_X5_get rfl (by decide +kernel) rfl (by decide) (by decide) (Nat.le_of_ble_eq_true rfl) dX9_hasReadingBy_43 ?_
      refine b_iload_n C dX9_hasReadingBy_46 rfl 1 rfl ?_
      refine b_icmp_ne C 68 dX9_hasReadingBy_47 (by decide) hf (fun hf => ?_) (fun hf => ?_)
      · exact w_X9_hasReadingBy_68 C hR (f_X9_hasReadingBy_28 n) ih _ _ _ _ _ hf
      · refine b_aload_n C dX9_hasReadingBy_50 rfl 0 rfl ?_
        refine b_getR C hiX9_hasReadingBy_9 9 6 (2) (by decide) (by decide) rfl (by decide) kX9_hasReadingBy_54 rfl rfl dX9_hasReadingBy_51 ?_
        refine b_getR C hiX9_hasReadingBy_2 2 7 (11 + 8) (by decide) (by decide) rfl (by decide) kX9_hasReadingBy_333 rfl rfl dX9_hasReadingBy_54 ?_
        refine b_iload C dX9_hasReadingBy_57 3 rfl ?_
        refine b_callVi (n := 1) C (11 + 8) 5 (isObj_r (by decide)) rfl (fun _ => [.int (v4)]) (c_X5_get 8 (by decide) (v4)) (e_get 8 (by decide) (v4) _) gX9_hasReadingBy_X5_get rfl (by decide +kernel) rfl (by decide) (by decide) (Nat.le_of_ble_eq_true rfl) dX9_hasReadingBy_59 ?_
        refine b_iconst C (v := (-1)) dX9_hasReadingBy_62 (by decide) ?_
        refine b_icmp_eq C 68 dX9_hasReadingBy_63 (by decide) hf (fun hf => ?_) (fun hf => ?_)
        · exact w_X9_hasReadingBy_68 C hR (f_X9_hasReadingBy_28 n) ih _ _ _ _ _ hf
        · refine b_iconst C (v := 1) dX9_hasReadingBy_66 (by decide) ?_
          exact hR _ _ _ _ dX9_hasReadingBy_67 hf
set_option maxHeartbeats 4000000 in
set_option maxRecDepth 100000 in
theorem c_X9_hasReadingBy (x1 x2 : Int32) (l : Launch) : Cti l yX9_hasReadingBy wsX9_hasReadingBy 1 21 (fun G => [.ref (G.1 (9)), .int (x1), .int (x2)]) (f_X9_hasReadingBy x1 x2) := by
  refine mk_z (cc := cX9_hasReadingBy) (nL := 6) (own := RX9) (by decide) rfl rfl (fun _ => Nat.le_of_ble_eq_true rfl) (fun X o σ rv C hR hf => ?_)
  show Bk X 6 o 0 0 0 [(0, .ref (ad X (9))), (1, .int (x1)), (2, .int (x2))] [] σ
  unfold f_X9_hasReadingBy at hf
  refine b_aload_n C dX9_hasReadingBy_0 rfl 0 rfl ?_
  refine b_getR C hiX9_hasReadingBy_9 9 6 (2) (by decide) (by decide) rfl (by decide) kX9_hasReadingBy_54 rfl rfl dX9_hasReadingBy_1 ?_
  refine b_getR C hiX9_hasReadingBy_2 2 10 (11 + 11) (by decide) (by decide) rfl (by decide) kX9_hasReadingBy_325 rfl rfl dX9_hasReadingBy_4 ?_
  refine b_iload_n C dX9_hasReadingBy_7 rfl 2 rfl ?_
  refine b_callVi (n := 1) C (11 + 11) 5 (isObj_r (by decide)) rfl (fun _ => [.int (x2)]) (c_X5_get 11 (by decide) (x2)) (e_get 11 (by decide) (x2) _) gX9_hasReadingBy_X5_get rfl (by decide +kernel) rfl (by decide) (by decide) (Nat.le_of_ble_eq_true rfl) dX9_hasReadingBy_8 ?_
  refine b_nv hf (fun y2 hf => ?_)
  refine b_istore_n (lv' := [(3, .int (y2)), (0, .ref (ad X (9))), (1, .int (x1)), (2, .int (x2))]) C dX9_hasReadingBy_11 rfl (by decide) rfl ?_
  refine b_aload_n C dX9_hasReadingBy_12 rfl 1 rfl ?_
  refine b_getR C hiX9_hasReadingBy_9 9 6 (2) (by decide) (by decide) rfl (by decide) kX9_hasReadingBy_54 rfl rfl dX9_hasReadingBy_13 ?_
  refine b_getR C hiX9_hasReadingBy_2 2 9 (11 + 10) (by decide) (by decide) rfl (by decide) kX9_hasReadingBy_328 rfl rfl dX9_hasReadingBy_16 ?_
  refine b_iload_n C dX9_hasReadingBy_19 rfl 3 rfl ?_
  refine b_callVi (n := 1) C (11 + 10) 5 (isObj_r (by decide)) rfl (fun _ => [.int (x2)]) (c_X5_get 10 (by decide) (x2)) (e_get 10 (by decide) (x2) _) gX9_hasReadingBy_X5_get rfl (by decide +kernel) rfl (by decide) (by decide) (Nat.le_of_ble_eq_true rfl) dX9_hasReadingBy_20 ?_
  refine b_nv hf (fun y3 hf => ?_)
  refine b_istore (lv' := [(4, .int (y3)), (3, .int (y2)), (0, .ref (ad X (9))), (1, .int (x1)), (2, .int (x2))]) C dX9_hasReadingBy_23 (by decide) rfl ?_
  refine b_iconst C (v := 0) dX9_hasReadingBy_25 (by decide) ?_
  refine b_istore (lv' := [(5, .int (0)), (4, .int (y3)), (3, .int (y2)), (0, .ref (ad X (9))), (1, .int (x1)), (2, .int (x2))]) C dX9_hasReadingBy_26 (by decide) rfl ?_
  refine b_sub [3, 4, 2, 1, 0] rfl ?_
  exact w_X9_hasReadingBy_28 C hR FUEL _ _ _ _ _ hf
theorem hiX9_tallyUp_2 : ∀ w ∈ wsX20, w ∈ wsX9_tallyUp := by decide +kernel
theorem hiX9_tallyUp_4 : ∀ w ∈ wsX40, w ∈ wsX9_tallyUp := by decide +kernel
theorem hiX9_tallyUp_9 : ∀ w ∈ wsX90, w ∈ wsX9_tallyUp := by decide +kernel
theorem kX9_tallyUp_61 : Cond.fieldLink RX9 61 "ScriptRoom" "tally" "LScriptRoom$Tally;" ∈ wsX9_tallyUp := by decide +kernel
theorem kX9_tallyUp_54 : Cond.fieldLink RX9 54 "ScriptRoom" "log" "LScriptRoom$Log;" ∈ wsX9_tallyUp := by decide +kernel
theorem kX9_tallyUp_333 : Cond.fieldLink RX9 333 "ScriptRoom$Log" "worths" "LScriptRoom$Row;" ∈ wsX9_tallyUp := by decide +kernel
theorem kX9_tallyUp_40 : Cond.fieldLink RX9 40 "ScriptRoom" "readers" "LScriptRoom$Readers;" ∈ wsX9_tallyUp := by decide +kernel
theorem kX9_tallyUp_318 : Cond.fieldLink RX9 318 "ScriptRoom$Readers" "senior" "LScriptRoom$Row;" ∈ wsX9_tallyUp := by decide +kernel
theorem kX9_tallyUp_331 : Cond.fieldLink RX9 331 "ScriptRoom$Log" "readers" "LScriptRoom$Row;" ∈ wsX9_tallyUp := by decide +kernel
theorem kX9_tallyUp_369 : Cond.fieldLink RX9 369 "ScriptRoom$Log" "appeals" "LScriptRoom$Row;" ∈ wsX9_tallyUp := by decide +kernel
theorem kX9_tallyUp_336 : Cond.fieldLink RX9 336 "ScriptRoom$Log" "follows" "LScriptRoom$Row;" ∈ wsX9_tallyUp := by decide +kernel
theorem kX9_tallyUp_325 : Cond.fieldLink RX9 325 "ScriptRoom$Log" "numbers" "LScriptRoom$Row;" ∈ wsX9_tallyUp := by decide +kernel
theorem kX9_tallyUp_328 : Cond.fieldLink RX9 328 "ScriptRoom$Log" "heads" "LScriptRoom$Row;" ∈ wsX9_tallyUp := by decide +kernel
set_option maxHeartbeats 4000000 in
set_option maxRecDepth 100000 in
theorem w_X9_tallyUp_42 {X : Ctx} {o : Int64} {rv : Int32 × Mem} (C : Cx X cX9_tallyUp RX9 wsX9_tallyUp 7 1 23) (hR : Rv X cX9_tallyUp 7 o rv) : ∀ (n : Nat) (v4 v5 v6 : Int32) (σ : Mem), some rv = f_X9_tallyUp_42 n v4 v5 v6 σ → Bk X 7 o 0 0 42 [(0, .ref (ad X (9))), (4, .int (v4)), (5, .int (v5)), (6, .int (v6))] [] σ := by
  intro n
  induction n with
  | zero =>
    intro v4 v5 v6 σ hf
    rw [f_X9_tallyUp_42] at hf
    cases hf
  | succ n ih =>
    intro v4 v5 v6 σ hf
    rw [f_X9_tallyUp_42] at hf
    refine b_iload C dX9_tallyUp_42 3 rfl ?_
    refine b_iload C dX9_tallyUp_44 1 rfl ?_
    refine b_icmp_ge C 122 dX9_tallyUp_46 (by decide) hf (fun hf => ?_) (fun hf => ?_)
    · exact hR _ _ _ _ dX9_tallyUp_122 hf
    · refine b_aload_n C dX9_tallyUp_49 rfl 0 rfl ?_
      refine b_getR C hiX9_tallyUp_9 9 7 (8) (by decide) (by decide) rfl (by decide) kX9_tallyUp_61 rfl rfl dX9_tallyUp_50 ?_
      refine b_aload_n C dX9_tallyUp_53 rfl 0 rfl ?_
      refine b_getR C hiX9_tallyUp_9 9 6 (2) (by decide) (by decide) rfl (by decide) kX9_tallyUp_54 rfl rfl dX9_tallyUp_54 ?_
      refine b_getR C hiX9_tallyUp_2 2 7 (11 + 8) (by decide) (by decide) rfl (by decide) kX9_tallyUp_333 rfl rfl dX9_tallyUp_57 ?_
      refine b_iload C dX9_tallyUp_60 2 rfl ?_
      refine b_callVi (n := 1) C (11 + 8) 5 (isObj_r (by decide)) rfl (fun _ => [.int (v5)]) (c_X5_get 8 (by decide) (v5)) (e_get 8 (by decide) (v5) _) gX9_tallyUp_X5_get rfl (by decide +kernel) rfl (by decide) (by decide) (Nat.le_of_ble_eq_true rfl) dX9_tallyUp_62 ?_
      refine b_aload_n C dX9_tallyUp_65 rfl 0 rfl ?_
      refine b_getR C hiX9_tallyUp_9 9 4 (4) (by decide) (by decide) rfl (by decide) kX9_tallyUp_40 rfl rfl dX9_tallyUp_66 ?_
      refine b_getR C hiX9_tallyUp_4 4 2 (11 + 20) (by decide) (by decide) rfl (by decide) kX9_tallyUp_318 rfl rfl dX9_tallyUp_69 ?_
      refine b_aload_n C dX9_tallyUp_72 rfl 0 rfl ?_
      refine b_getR C hiX9_tallyUp_9 9 6 (2) (by decide) (by decide) rfl (by decide) kX9_tallyUp_54 rfl rfl dX9_tallyUp_73 ?_
      refine b_getR C hiX9_tallyUp_2 2 2 (11 + 3) (by decide) (by decide) rfl (by decide) kX9_tallyUp_331 rfl rfl dX9_tallyUp_76 ?_
      refine b_iload C dX9_tallyUp_79 2 rfl ?_
      refine b_callVi (n := 1) C (11 + 3) 5 (isObj_r (by decide)) rfl (fun _ => [.int (v5)]) (c_X5_get 3 (by decide) (v5)) (e_get 3 (by decide) (v5) _) gX9_tallyUp_X5_get rfl (by decide +kernel) rfl (by decide) (by decide) (Nat.le_of_ble_eq_true rfl) dX9_tallyUp_81 ?_
      refine b_callVi (n := 1) C (11 + 20) 5 (isObj_r (by decide)) rfl (fun _ => [.int (rget 3 (v5) σ)]) (c_X5_is 20 (by decide) (rget 3 (v5) σ)) (e_is 20 (by decide) (rget 3 (v5) σ) _) gX9_tallyUp_X5_is rfl (by decide +kernel) rfl (by decide) (by decide) (Nat.le_of_ble_eq_true rfl) dX9_tallyUp_84 ?_
      refine b_aload_n C dX9_tallyUp_87 rfl 0 rfl ?_
      refine b_getR C hiX9_tallyUp_9 9 6 (2) (by decide) (by decide) rfl (by decide) kX9_tallyUp_54 rfl rfl dX9_tallyUp_88 ?_
      refine b_getR C hiX9_tallyUp_2 2 6 (11 + 7) (by decide) (by decide) rfl (by decide) kX9_tallyUp_369 rfl rfl dX9_tallyUp_91 ?_
      refine b_iload C dX9_tallyUp_94 2 rfl ?_
      refine b_callVi (n := 1) C (11 + 7) 5 (isObj_r (by decide)) rfl (fun _ => [.int (v5)]) (c_X5_is 7 (by decide) (v5)) (e_is 7 (by decide) (v5) _) gX9_tallyUp_X5_is rfl (by decide +kernel) rfl (by decide) (by decide) (Nat.le_of_ble_eq_true rfl) dX9_tallyUp_96 ?_
      obtain ⟨y1, τ2, hqy1, hf⟩ := bd_inv hf
      refine b_callVv (n := 3) C (8) 8 (isObj_s (by decide) (by decide)) rfl (fun _ => [.int (rget 8 (v5) σ), .int (ris 20 (rget 3 (v5) σ) σ), .int (ris 7 (v5) σ)]) (c_X8_take (rget 8 (v5) σ) (ris 20 (rget 3 (v5) σ) σ) (ris 7 (v5) σ)) hqy1 gX9_tallyUp_X8_take rfl (by decide +kernel) rfl (by decide) (by decide) (Nat.le_of_ble_eq_true rfl) dX9_tallyUp_99 ?_
      refine b_aload_n C dX9_tallyUp_102 rfl 0 rfl ?_
      refine b_getR C hiX9_tallyUp_9 9 6 (2) (by decide) (by decide) rfl (by decide) kX9_tallyUp_54 rfl rfl dX9_tallyUp_103 ?_
      refine b_getR C hiX9_tallyUp_2 2 8 (11 + 9) (by decide) (by decide) rfl (by decide) kX9_tallyUp_336 rfl rfl dX9_tallyUp_106 ?_
      refine b_iload C dX9_tallyUp_109 2 rfl ?_
      refine b_callVi (n := 1) C (11 + 9) 5 (isObj_r (by decide)) rfl (fun _ => [.int (v5)]) (c_X5_get 9 (by decide) (v5)) (e_get 9 (by decide) (v5) _) gX9_tallyUp_X5_get rfl (by decide +kernel) rfl (by decide) (by decide) (Nat.le_of_ble_eq_true rfl) dX9_tallyUp_111 ?_
      refine b_nv hf (fun y3 hf => ?_)
      refine b_istore (lv' := [(5, .int (y3)), (0, .ref (ad X (9))), (4, .int (v4)), (6, .int (v6))]) C dX9_tallyUp_114 (by decide) rfl ?_
      refine b_iinc (v := (v6) + (1)) (lv' := [(6, .int ((v6) + (1))), (5, .int (y3)), (0, .ref (ad X (9))), (4, .int (v4))]) C dX9_tallyUp_116 3 rfl rfl (by decide) rfl ?_
      refine b_goto C 42 dX9_tallyUp_119 (by decide) ?_
      refine b_sub [2, 3, 1, 0] rfl ?_
      exact ih _ _ _ _ hf
set_option maxHeartbeats 4000000 in
set_option maxRecDepth 100000 in
theorem c_X9_tallyUp (x1 x2 : Int32) (l : Launch) : Ctv l yX9_tallyUp wsX9_tallyUp 1 23 (fun G => [.ref (G.1 (9)), .int (x1), .int (x2)]) (f_X9_tallyUp x1 x2) := by
  refine mk_v (cc := cX9_tallyUp) (nL := 7) (own := RX9) (by decide) rfl rfl (fun _ => Nat.le_of_ble_eq_true rfl) (fun X o σ rv C hR hf => ?_)
  show Bk X 7 o 0 0 0 [(0, .ref (ad X (9))), (1, .int (x1)), (2, .int (x2))] [] σ
  unfold f_X9_tallyUp at hf
  refine b_aload_n C dX9_tallyUp_0 rfl 0 rfl ?_
  refine b_getR C hiX9_tallyUp_9 9 7 (8) (by decide) (by decide) rfl (by decide) kX9_tallyUp_61 rfl rfl dX9_tallyUp_1 ?_
  obtain ⟨y4, τ5, hqy4, hf⟩ := bd_inv hf
  refine b_callVv (n := 0) C (8) 8 (isObj_s (by decide) (by decide)) rfl (fun _ => []) (c_X8_clear ) hqy4 gX9_tallyUp_X8_clear rfl (by decide +kernel) rfl (by decide) (by decide) (Nat.le_of_ble_eq_true rfl) dX9_tallyUp_4 ?_
  refine b_iload_n C dX9_tallyUp_7 rfl 1 rfl ?_
  refine b_iload_n C dX9_tallyUp_8 rfl 2 rfl ?_
  obtain ⟨y6, τ7, hqy6, hf⟩ := bd_inv hf
  refine b_callSi (n := 2) C (fun _ => [.int (x1), .int (x2)]) (c_X9_answerOf (x1) (x2)) hqy6 gX9_tallyUp_X9_answerOf rfl (by decide +kernel) rfl (by decide) (by decide) (Nat.le_of_ble_eq_true rfl) dX9_tallyUp_9 ?_
  refine b_istore_n (lv' := [(3, .int (y6)), (0, .ref (ad X (9))), (1, .int (x1)), (2, .int (x2))]) C dX9_tallyUp_12 rfl (by decide) rfl ?_
  refine b_aload_n C dX9_tallyUp_13 rfl 1 rfl ?_
  refine b_getR C hiX9_tallyUp_9 9 6 (2) (by decide) (by decide) rfl (by decide) kX9_tallyUp_54 rfl rfl dX9_tallyUp_14 ?_
  refine b_getR C hiX9_tallyUp_2 2 10 (11 + 11) (by decide) (by decide) rfl (by decide) kX9_tallyUp_325 rfl rfl dX9_tallyUp_17 ?_
  refine b_iload_n C dX9_tallyUp_20 rfl 0 rfl ?_
  refine b_callVi (n := 1) C (11 + 11) 5 (isObj_r (by decide)) rfl (fun _ => [.int (y6)]) (c_X5_get 11 (by decide) (y6)) (e_get 11 (by decide) (y6) _) gX9_tallyUp_X5_get rfl (by decide +kernel) rfl (by decide) (by decide) (Nat.le_of_ble_eq_true rfl) dX9_tallyUp_21 ?_
  refine b_nv hf (fun y8 hf => ?_)
  refine b_istore (lv' := [(4, .int (y8)), (3, .int (y6)), (0, .ref (ad X (9))), (1, .int (x1)), (2, .int (x2))]) C dX9_tallyUp_24 (by decide) rfl ?_
  refine b_aload_n C dX9_tallyUp_26 rfl 2 rfl ?_
  refine b_getR C hiX9_tallyUp_9 9 6 (2) (by decide) (by decide) rfl (by decide) kX9_tallyUp_54 rfl rfl dX9_tallyUp_27 ?_
  refine b_getR C hiX9_tallyUp_2 2 9 (11 + 10) (by decide) (by decide) rfl (by decide) kX9_tallyUp_328 rfl rfl dX9_tallyUp_30 ?_
  refine b_iload_n C dX9_tallyUp_33 rfl 1 rfl ?_
  refine b_callVi (n := 1) C (11 + 10) 5 (isObj_r (by decide)) rfl (fun _ => [.int (y6)]) (c_X5_get 10 (by decide) (y6)) (e_get 10 (by decide) (y6) _) gX9_tallyUp_X5_get rfl (by decide +kernel) rfl (by decide) (by decide) (Nat.le_of_ble_eq_true rfl) dX9_tallyUp_34 ?_
  refine b_nv hf (fun y9 hf => ?_)
  refine b_istore (lv' := [(5, .int (y9)), (4, .int (y8)), (3, .int (y6)), (0, .ref (ad X (9))), (1, .int (x1)), (2, .int (x2))]) C dX9_tallyUp_37 (by decide) rfl ?_
  refine b_iconst C (v := 0) dX9_tallyUp_39 (by decide) ?_
  refine b_istore (lv' := [(6, .int (0)), (5, .int (y9)), (4, .int (y8)), (3, .int (y6)), (0, .ref (ad X (9))), (1, .int (x1)), (2, .int (x2))]) C dX9_tallyUp_40 (by decide) rfl ?_
  refine b_sub [4, 2, 1, 0] rfl ?_
  exact w_X9_tallyUp_42 C hR FUEL _ _ _ _ hf
theorem hiX9_wantedBy_8 : ∀ w ∈ wsX80, w ∈ wsX9_wantedBy := by decide +kernel
theorem hiX9_wantedBy_9 : ∀ w ∈ wsX90, w ∈ wsX9_wantedBy := by decide +kernel
theorem kX9_wantedBy_33 : Cond.fieldLink RX9 33 "ScriptRoom" "pupils" "LScriptRoom$Pupils;" ∈ wsX9_wantedBy := by decide +kernel
theorem kX9_wantedBy_61 : Cond.fieldLink RX9 61 "ScriptRoom" "tally" "LScriptRoom$Tally;" ∈ wsX9_wantedBy := by decide +kernel
theorem kX9_wantedBy_70 : Cond.fieldLink RX9 70 "ScriptRoom" "doubled" "LScriptRoom$Row;" ∈ wsX9_wantedBy := by decide +kernel
theorem kX9_wantedBy_77 : Cond.fieldLink RX9 77 "ScriptRoom" "apartAtMost" "I" ∈ wsX9_wantedBy := by decide +kernel
theorem kX9_wantedBy_386 : Cond.fieldLink RX9 386 "ScriptRoom$Tally" "appealed" "I" ∈ wsX9_wantedBy := by decide +kernel
set_option maxHeartbeats 4000000 in
set_option maxRecDepth 100000 in
theorem w_X9_wantedBy_74 {X : Ctx} {o : Int64} {rv : Int32 × Mem} (C : Cx X cX9_wantedBy RX9 wsX9_wantedBy 4 2 49) (hR : Rt X cX9_wantedBy 4 o rv) : ∀ (s0 : Int32) (σ : Mem), some rv = f_X9_wantedBy_74 s0 σ → Bk X 4 o 0 0 74 [] [.int (s0)] σ := by
  intro s0 σ hf
  unfold f_X9_wantedBy_74 at hf
  exact hR _ _ _ _ dX9_wantedBy_74 hf
set_option maxHeartbeats 4000000 in
set_option maxRecDepth 100000 in
theorem w_X9_wantedBy_73 {X : Ctx} {o : Int64} {rv : Int32 × Mem} (C : Cx X cX9_wantedBy RX9 wsX9_wantedBy 4 2 49) (hR : Rt X cX9_wantedBy 4 o rv) : ∀ (σ : Mem), some rv = f_X9_wantedBy_73 σ → Bk X 4 o 0 0 73 [] [] σ := by
  intro σ hf
  unfold f_X9_wantedBy_73 at hf
  refine b_iconst C (v := 0) dX9_wantedBy_73 (by decide) ?_
  exact w_X9_wantedBy_74 C hR _ _ hf
set_option maxHeartbeats 4000000 in
set_option maxRecDepth 100000 in
theorem c_X9_wantedBy (x1 x2 : Int32) (l : Launch) : Cti l yX9_wantedBy wsX9_wantedBy 2 49 (fun G => [.ref (G.1 (9)), .int (x1), .int (x2)]) (f_X9_wantedBy x1 x2) := by
  refine mk_i (cc := cX9_wantedBy) (nL := 4) (own := RX9) (by decide) rfl rfl (fun _ => Nat.le_of_ble_eq_true rfl) (fun X o σ rv C hR hf => ?_)
  show Bk X 4 o 0 0 0 [(0, .ref (ad X (9))), (1, .int (x1)), (2, .int (x2))] [] σ
  unfold f_X9_wantedBy at hf
  refine b_aload_n C dX9_wantedBy_0 rfl 0 rfl ?_
  refine b_getR C hiX9_wantedBy_9 9 3 (3) (by decide) (by decide) rfl (by decide) kX9_wantedBy_33 rfl rfl dX9_wantedBy_1 ?_
  refine b_iload_n C dX9_wantedBy_4 rfl 1 rfl ?_
  refine b_iload_n C dX9_wantedBy_5 rfl 2 rfl ?_
  obtain ⟨y1, τ2, hqy1, hf⟩ := bd_inv hf
  refine b_callVi (n := 2) C (3) 3 (isObj_s (by decide) (by decide)) rfl (fun _ => [.int (x1), .int (x2)]) (c_X3_isLacking (x1) (x2)) hqy1 gX9_wantedBy_X3_isLacking rfl (by decide +kernel) rfl (by decide) (by decide) (Nat.le_of_ble_eq_true rfl) dX9_wantedBy_6 ?_
  refine b_if_eq C 14 dX9_wantedBy_9 (by decide) hf (fun hf => ?_) (fun hf => ?_)
  · refine b_aload_n C dX9_wantedBy_14 rfl 0 rfl ?_
    refine b_iload_n C dX9_wantedBy_15 rfl 1 rfl ?_
    refine b_iload_n C dX9_wantedBy_16 rfl 2 rfl ?_
    obtain ⟨y3, τ4, hqy3, hf⟩ := bd_inv hf
    refine b_callVv (n := 2) C (9) 9 (isObj_s (by decide) (by decide)) rfl (fun _ => [.int (x1), .int (x2)]) (c_X9_tallyUp (x1) (x2)) hqy3 gX9_wantedBy_X9_tallyUp rfl (by decide +kernel) rfl (by decide) (by decide) (Nat.le_of_ble_eq_true rfl) dX9_wantedBy_17 ?_
    refine b_aload_n C dX9_wantedBy_20 rfl 0 rfl ?_
    refine b_getR C hiX9_wantedBy_9 9 7 (8) (by decide) (by decide) rfl (by decide) kX9_wantedBy_61 rfl rfl dX9_wantedBy_21 ?_
    refine b_aload_n C dX9_wantedBy_24 rfl 0 rfl ?_
    refine b_getR C hiX9_wantedBy_9 9 8 (11 + 41) (by decide) (by decide) rfl (by decide) kX9_wantedBy_70 rfl rfl dX9_wantedBy_25 ?_
    refine b_iload_n C dX9_wantedBy_28 rfl 2 rfl ?_
    refine b_callVi (n := 1) C (11 + 41) 5 (isObj_r (by decide)) rfl (fun _ => [.int (x2)]) (c_X5_is 41 (by decide) (x2)) (e_is 41 (by decide) (x2) _) gX9_wantedBy_X5_is rfl (by decide +kernel) rfl (by decide) (by decide) (Nat.le_of_ble_eq_true rfl) dX9_wantedBy_29 ?_
    refine b_aload_n C dX9_wantedBy_32 rfl 0 rfl ?_
    refine b_getS C hiX9_wantedBy_9 9 10 17 (by decide) (by decide) rfl (by decide) kX9_wantedBy_77 rfl rfl dX9_wantedBy_33 ?_
    obtain ⟨y5, τ6, hqy5, hf⟩ := bd_inv hf
    refine b_callVi (n := 2) C (8) 8 (isObj_s (by decide) (by decide)) rfl (fun _ => [.int (ris 41 (x2) τ4), .int (τ4 76 17)]) (c_X8_lackingAsPlain (ris 41 (x2) τ4) (τ4 76 17)) hqy5 gX9_wantedBy_X8_lackingAsPlain rfl (by decide +kernel) rfl (by decide) (by decide) (Nat.le_of_ble_eq_true rfl) dX9_wantedBy_36 ?_
    refine b_istore_n (lv' := [(3, .int (y5)), (0, .ref (ad X (9))), (1, .int (x1)), (2, .int (x2))]) C dX9_wantedBy_39 rfl (by decide) rfl ?_
    refine b_iload_n C dX9_wantedBy_40 rfl 0 rfl ?_
    refine b_if_le C 46 dX9_wantedBy_41 (by decide) hf (fun hf => ?_) (fun hf => ?_)
    · refine b_aload_n C dX9_wantedBy_46 rfl 1 rfl ?_
      refine b_getR C hiX9_wantedBy_9 9 3 (3) (by decide) (by decide) rfl (by decide) kX9_wantedBy_33 rfl rfl dX9_wantedBy_47 ?_
      refine b_iload_n C dX9_wantedBy_50 rfl 2 rfl ?_
      refine b_iload_n C dX9_wantedBy_51 rfl 3 rfl ?_
      obtain ⟨y7, τ8, hqy7, hf⟩ := bd_inv hf
      refine b_callVi (n := 2) C (3) 3 (isObj_s (by decide) (by decide)) rfl (fun _ => [.int (x1), .int (x2)]) (c_X3_isAppealed (x1) (x2)) hqy7 gX9_wantedBy_X3_isAppealed rfl (by decide +kernel) rfl (by decide) (by decide) (Nat.le_of_ble_eq_true rfl) dX9_wantedBy_52 ?_
      refine b_if_eq C 73 dX9_wantedBy_55 (by decide) hf (fun hf => ?_) (fun hf => ?_)
      · refine b_sub [] rfl ?_
        exact w_X9_wantedBy_73 C hR _ hf
      · refine b_aload_n C dX9_wantedBy_58 rfl 1 rfl ?_
        refine b_getR C hiX9_wantedBy_9 9 7 (8) (by decide) (by decide) rfl (by decide) kX9_wantedBy_61 rfl rfl dX9_wantedBy_59 ?_
        refine b_getS C hiX9_wantedBy_8 8 2 12 (by decide) (by decide) rfl (by decide) kX9_wantedBy_386 rfl rfl dX9_wantedBy_62 ?_
        refine b_iconst C (v := (-1)) dX9_wantedBy_65 (by decide) ?_
        refine b_icmp_ne C 73 dX9_wantedBy_66 (by decide) hf (fun hf => ?_) (fun hf => ?_)
        · refine b_sub [] rfl ?_
          exact w_X9_wantedBy_73 C hR _ hf
        · refine b_iconst C (v := 1) dX9_wantedBy_69 (by decide) ?_
          refine b_goto C 74 dX9_wantedBy_70 (by decide) ?_
          refine b_sub [] rfl ?_
          exact w_X9_wantedBy_74 C hR _ _ hf
    · refine b_iload_n C dX9_wantedBy_44 rfl 0 rfl ?_
      exact hR _ _ _ _ dX9_wantedBy_45 hf
  · refine b_iconst C (v := 0) dX9_wantedBy_12 (by decide) ?_
    exact hR _ _ _ _ dX9_wantedBy_13 hf
set_option maxHeartbeats 4000000 in
set_option maxRecDepth 100000 in
theorem c_X9_codeOf (x1 x2 : Int32) (l : Launch) : Cti l yX9_codeOf wsX9_codeOf 0 0 (fun G => [.int (x1), .int (x2)]) (f_X9_codeOf x1 x2) := by
  refine mk_i (cc := cX9_codeOf) (nL := 2) (own := RX9) (by decide) rfl rfl (fun _ => Nat.le_of_ble_eq_true rfl) (fun X o σ rv C hR hf => ?_)
  show Bk X 2 o 0 0 0 [(0, .int (x1)), (1, .int (x2))] [] σ
  unfold f_X9_codeOf at hf
  refine b_bipush C (v := 10) dX9_codeOf_0 (by decide) ?_
  refine b_iload_n C dX9_codeOf_2 rfl 0 rfl ?_
  refine b_imul C dX9_codeOf_3 ?_
  refine b_iload_n C dX9_codeOf_4 rfl 1 rfl ?_
  refine b_iadd C dX9_codeOf_5 ?_
  exact hR _ _ _ _ dX9_codeOf_6 hf
theorem hiX9_canBeGiven_3 : ∀ w ∈ wsX30, w ∈ wsX9_canBeGiven := by decide +kernel
theorem hiX9_canBeGiven_4 : ∀ w ∈ wsX40, w ∈ wsX9_canBeGiven := by decide +kernel
theorem hiX9_canBeGiven_9 : ∀ w ∈ wsX90, w ∈ wsX9_canBeGiven := by decide +kernel
theorem kX9_canBeGiven_33 : Cond.fieldLink RX9 33 "ScriptRoom" "pupils" "LScriptRoom$Pupils;" ∈ wsX9_canBeGiven := by decide +kernel
theorem kX9_canBeGiven_308 : Cond.fieldLink RX9 308 "ScriptRoom$Pupils" "schools" "LScriptRoom$Row;" ∈ wsX9_canBeGiven := by decide +kernel
theorem kX9_canBeGiven_40 : Cond.fieldLink RX9 40 "ScriptRoom" "readers" "LScriptRoom$Readers;" ∈ wsX9_canBeGiven := by decide +kernel
theorem kX9_canBeGiven_311 : Cond.fieldLink RX9 311 "ScriptRoom$Readers" "schools" "LScriptRoom$Row;" ∈ wsX9_canBeGiven := by decide +kernel
theorem kX9_canBeGiven_26 : Cond.fieldLink RX9 26 "ScriptRoom" "schemes" "LScriptRoom$Schemes;" ∈ wsX9_canBeGiven := by decide +kernel
theorem kX9_canBeGiven_318 : Cond.fieldLink RX9 318 "ScriptRoom$Readers" "senior" "LScriptRoom$Row;" ∈ wsX9_canBeGiven := by decide +kernel
theorem kX9_canBeGiven_61 : Cond.fieldLink RX9 61 "ScriptRoom" "tally" "LScriptRoom$Tally;" ∈ wsX9_canBeGiven := by decide +kernel
theorem kX9_canBeGiven_70 : Cond.fieldLink RX9 70 "ScriptRoom" "doubled" "LScriptRoom$Row;" ∈ wsX9_canBeGiven := by decide +kernel
set_option maxHeartbeats 4000000 in
set_option maxRecDepth 100000 in
theorem w_X9_canBeGiven_37 {X : Ctx} {o : Int64} {rv : Int32 × Mem} (C : Cx X cX9_canBeGiven RX9 wsX9_canBeGiven 4 3 72) (hR : Rz X cX9_canBeGiven 4 o rv) : ∀ (σ : Mem), some rv = f_X9_canBeGiven_37 σ → Bk X 4 o 0 0 37 [] [] σ := by
  intro σ hf
  unfold f_X9_canBeGiven_37 at hf
  refine b_iconst C (v := 0) dX9_canBeGiven_37 (by decide) ?_
  exact hR _ _ _ _ dX9_canBeGiven_38 hf
set_option maxHeartbeats 4000000 in
set_option maxRecDepth 100000 in
theorem w_X9_canBeGiven_62 {X : Ctx} {o : Int64} {rv : Int32 × Mem} (C : Cx X cX9_canBeGiven RX9 wsX9_canBeGiven 4 3 72) (hR : Rz X cX9_canBeGiven 4 o rv) : ∀ (σ : Mem), some rv = f_X9_canBeGiven_62 σ → Bk X 4 o 0 0 62 [] [] σ := by
  intro σ hf
  unfold f_X9_canBeGiven_62 at hf
  refine b_iconst C (v := 0) dX9_canBeGiven_62 (by decide) ?_
  exact hR _ _ _ _ dX9_canBeGiven_63 hf
set_option maxHeartbeats 4000000 in
set_option maxRecDepth 100000 in
theorem w_X9_canBeGiven_139 {X : Ctx} {o : Int64} {rv : Int32 × Mem} (C : Cx X cX9_canBeGiven RX9 wsX9_canBeGiven 4 3 72) (hR : Rz X cX9_canBeGiven 4 o rv) : ∀ (s0 : Int32) (σ : Mem), some rv = f_X9_canBeGiven_139 s0 σ → Bk X 4 o 0 0 139 [] [.int (s0)] σ := by
  intro s0 σ hf
  unfold f_X9_canBeGiven_139 at hf
  exact hR _ _ _ _ dX9_canBeGiven_139 hf
set_option maxHeartbeats 4000000 in
set_option maxRecDepth 100000 in
theorem w_X9_canBeGiven_134 {X : Ctx} {o : Int64} {rv : Int32 × Mem} (C : Cx X cX9_canBeGiven RX9 wsX9_canBeGiven 4 3 72) (hR : Rz X cX9_canBeGiven 4 o rv) : ∀ (σ : Mem), some rv = f_X9_canBeGiven_134 σ → Bk X 4 o 0 0 134 [] [] σ := by
  intro σ hf
  unfold f_X9_canBeGiven_134 at hf
  refine b_iconst C (v := 1) dX9_canBeGiven_134 (by decide) ?_
  refine b_goto C 139 dX9_canBeGiven_135 (by decide) ?_
  exact w_X9_canBeGiven_139 C hR _ _ hf
set_option maxHeartbeats 4000000 in
set_option maxRecDepth 100000 in
theorem c_X9_canBeGiven (x1 x2 x3 : Int32) (l : Launch) : Cti l yX9_canBeGiven wsX9_canBeGiven 3 72 (fun G => [.ref (G.1 (9)), .int (x1), .int (x2), .int (x3)]) (f_X9_canBeGiven x1 x2 x3) := by
  refine mk_z (cc := cX9_canBeGiven) (nL := 4) (own := RX9) (by decide) rfl rfl (fun _ => Nat.le_of_ble_eq_true rfl) (fun X o σ rv C hR hf => ?_)
  show Bk X 4 o 0 0 0 [(0, .ref (ad X (9))), (1, .int (x1)), (2, .int (x2)), (3, .int (x3))] [] σ
  unfold f_X9_canBeGiven at hf
  refine b_aload_n C dX9_canBeGiven_0 rfl 0 rfl ?_
  refine b_getR C hiX9_canBeGiven_9 9 3 (3) (by decide) (by decide) rfl (by decide) kX9_canBeGiven_33 rfl rfl dX9_canBeGiven_1 ?_
  refine b_iload_n C dX9_canBeGiven_4 rfl 2 rfl ?_
  refine b_iload_n C dX9_canBeGiven_5 rfl 3 rfl ?_
  obtain ⟨y1, τ2, hqy1, hf⟩ := bd_inv hf
  refine b_callVi (n := 2) C (3) 3 (isObj_s (by decide) (by decide)) rfl (fun _ => [.int (x2), .int (x3)]) (c_X3_isLacking (x2) (x3)) hqy1 gX9_canBeGiven_X3_isLacking rfl (by decide +kernel) rfl (by decide) (by decide) (Nat.le_of_ble_eq_true rfl) dX9_canBeGiven_6 ?_
  refine b_if_ne C 37 dX9_canBeGiven_9 (by decide) hf (fun hf => ?_) (fun hf => ?_)
  · refine b_sub [] rfl ?_
    exact w_X9_canBeGiven_37 C hR _ hf
  · refine b_aload_n C dX9_canBeGiven_12 rfl 0 rfl ?_
    refine b_getR C hiX9_canBeGiven_9 9 3 (3) (by decide) (by decide) rfl (by decide) kX9_canBeGiven_33 rfl rfl dX9_canBeGiven_13 ?_
    refine b_getR C hiX9_canBeGiven_3 3 1 (11 + 13) (by decide) (by decide) rfl (by decide) kX9_canBeGiven_308 rfl rfl dX9_canBeGiven_16 ?_
    refine b_iload_n C dX9_canBeGiven_19 rfl 2 rfl ?_
    refine b_callVi (n := 1) C (11 + 13) 5 (isObj_r (by decide)) rfl (fun _ => [.int (x2)]) (c_X5_get 13 (by decide) (x2)) (e_get 13 (by decide) (x2) _) gX9_canBeGiven_X5_get rfl (by decide +kernel) rfl (by decide) (by decide) (Nat.le_of_ble_eq_true rfl) dX9_canBeGiven_20 ?_
    refine b_aload_n C dX9_canBeGiven_23 rfl 0 rfl ?_
    refine b_getR C hiX9_canBeGiven_9 9 4 (4) (by decide) (by decide) rfl (by decide) kX9_canBeGiven_40 rfl rfl dX9_canBeGiven_24 ?_
    refine b_getR C hiX9_canBeGiven_4 4 1 (11 + 19) (by decide) (by decide) rfl (by decide) kX9_canBeGiven_311 rfl rfl dX9_canBeGiven_27 ?_
    refine b_iload_n C dX9_canBeGiven_30 rfl 1 rfl ?_
    refine b_callVi (n := 1) C (11 + 19) 5 (isObj_r (by decide)) rfl (fun _ => [.int (x1)]) (c_X5_get 19 (by decide) (x1)) (e_get 19 (by decide) (x1) _) gX9_canBeGiven_X5_get rfl (by decide +kernel) rfl (by decide) (by decide) (Nat.le_of_ble_eq_true rfl) dX9_canBeGiven_31 ?_
    refine b_icmp_ne C 39 dX9_canBeGiven_34 (by decide) hf (fun hf => ?_) (fun hf => ?_)
    · refine b_aload_n C dX9_canBeGiven_39 rfl 0 rfl ?_
      refine b_getR C hiX9_canBeGiven_9 9 4 (4) (by decide) (by decide) rfl (by decide) kX9_canBeGiven_40 rfl rfl dX9_canBeGiven_40 ?_
      refine b_iload_n C dX9_canBeGiven_43 rfl 1 rfl ?_
      refine b_iload_n C dX9_canBeGiven_44 rfl 3 rfl ?_
      obtain ⟨y3, τ4, hqy3, hf⟩ := bd_inv hf
      refine b_callVi (n := 2) C (4) 4 (isObj_s (by decide) (by decide)) rfl (fun _ => [.int (x1), .int (x3)]) (c_X4_isFor (x1) (x3)) hqy3 gX9_canBeGiven_X4_isFor rfl (by decide +kernel) rfl (by decide) (by decide) (Nat.le_of_ble_eq_true rfl) dX9_canBeGiven_45 ?_
      refine b_if_eq C 62 dX9_canBeGiven_48 (by decide) hf (fun hf => ?_) (fun hf => ?_)
      · refine b_sub [] rfl ?_
        exact w_X9_canBeGiven_62 C hR _ hf
      · refine b_aload_n C dX9_canBeGiven_51 rfl 0 rfl ?_
        refine b_getR C hiX9_canBeGiven_9 9 2 (6) (by decide) (by decide) rfl (by decide) kX9_canBeGiven_26 rfl rfl dX9_canBeGiven_52 ?_
        refine b_iload_n C dX9_canBeGiven_55 rfl 3 rfl ?_
        obtain ⟨y5, τ6, hqy5, hf⟩ := bd_inv hf
        refine b_callVi (n := 1) C (6) 6 (isObj_s (by decide) (by decide)) rfl (fun _ => [.int (x3)]) (c_X6_holdsFor (x3)) hqy5 gX9_canBeGiven_X6_holdsFor rfl (by decide +kernel) rfl (by decide) (by decide) (Nat.le_of_ble_eq_true rfl) dX9_canBeGiven_56 ?_
        refine b_if_ne C 64 dX9_canBeGiven_59 (by decide) hf (fun hf => ?_) (fun hf => ?_)
        · refine b_aload_n C dX9_canBeGiven_64 rfl 0 rfl ?_
          refine b_iload_n C dX9_canBeGiven_65 rfl 1 rfl ?_
          refine b_iload_n C dX9_canBeGiven_66 rfl 2 rfl ?_
          refine b_iload_n C dX9_canBeGiven_67 rfl 3 rfl ?_
          obtain ⟨y7, τ8, hqy7, hf⟩ := bd_inv hf
          refine b_callSi (n := 2) C (fun _ => [.int (x2), .int (x3)]) (c_X9_answerOf (x2) (x3)) hqy7 gX9_canBeGiven_X9_answerOf rfl (by decide +kernel) rfl (by decide) (by decide) (Nat.le_of_ble_eq_true rfl) dX9_canBeGiven_68 ?_
          obtain ⟨y9, τ10, hqy9, hf⟩ := bd_inv hf
          refine b_callVi (n := 2) C (9) 9 (isObj_s (by decide) (by decide)) rfl (fun _ => [.int (x1), .int (y7)]) (c_X9_hasReadingBy (x1) (y7)) hqy9 gX9_canBeGiven_X9_hasReadingBy rfl (by decide +kernel) rfl (by decide) (by decide) (Nat.le_of_ble_eq_true rfl) dX9_canBeGiven_71 ?_
          refine b_if_eq C 79 dX9_canBeGiven_74 (by decide) hf (fun hf => ?_) (fun hf => ?_)
          · refine b_aload_n C dX9_canBeGiven_79 rfl 0 rfl ?_
            refine b_iload_n C dX9_canBeGiven_80 rfl 2 rfl ?_
            refine b_iload_n C dX9_canBeGiven_81 rfl 3 rfl ?_
            obtain ⟨y11, τ12, hqy11, hf⟩ := bd_inv hf
            refine b_callVi (n := 2) C (9) 9 (isObj_s (by decide) (by decide)) rfl (fun _ => [.int (x2), .int (x3)]) (c_X9_wantedBy (x2) (x3)) hqy11 gX9_canBeGiven_X9_wantedBy rfl (by decide +kernel) rfl (by decide) (by decide) (Nat.le_of_ble_eq_true rfl) dX9_canBeGiven_82 ?_
            refine b_aload_n C dX9_canBeGiven_85 rfl 0 rfl ?_
            refine b_getR C hiX9_canBeGiven_9 9 4 (4) (by decide) (by decide) rfl (by decide) kX9_canBeGiven_40 rfl rfl dX9_canBeGiven_86 ?_
            refine b_iload_n C dX9_canBeGiven_89 rfl 2 rfl ?_
            refine b_iload_n C dX9_canBeGiven_90 rfl 3 rfl ?_
            obtain ⟨y13, τ14, hqy13, hf⟩ := bd_inv hf
            refine b_callSi (n := 2) C (fun _ => [.int (x2), .int (x3)]) (c_X9_codeOf (x2) (x3)) hqy13 gX9_canBeGiven_X9_codeOf rfl (by decide +kernel) rfl (by decide) (by decide) (Nat.le_of_ble_eq_true rfl) dX9_canBeGiven_91 ?_
            obtain ⟨y15, τ16, hqy15, hf⟩ := bd_inv hf
            refine b_callVi (n := 1) C (4) 4 (isObj_s (by decide) (by decide)) rfl (fun _ => [.int (y13)]) (c_X4_holding (y13)) hqy15 gX9_canBeGiven_X4_holding rfl (by decide +kernel) rfl (by decide) (by decide) (Nat.le_of_ble_eq_true rfl) dX9_canBeGiven_94 ?_
            refine b_icmp_gt C 102 dX9_canBeGiven_97 (by decide) hf (fun hf => ?_) (fun hf => ?_)
            · refine b_aload_n C dX9_canBeGiven_102 rfl 0 rfl ?_
              refine b_getR C hiX9_canBeGiven_9 9 4 (4) (by decide) (by decide) rfl (by decide) kX9_canBeGiven_40 rfl rfl dX9_canBeGiven_103 ?_
              refine b_getR C hiX9_canBeGiven_4 4 2 (11 + 20) (by decide) (by decide) rfl (by decide) kX9_canBeGiven_318 rfl rfl dX9_canBeGiven_106 ?_
              refine b_iload_n C dX9_canBeGiven_109 rfl 1 rfl ?_
              refine b_callVi (n := 1) C (11 + 20) 5 (isObj_r (by decide)) rfl (fun _ => [.int (x1)]) (c_X5_is 20 (by decide) (x1)) (e_is 20 (by decide) (x1) _) gX9_canBeGiven_X5_is rfl (by decide +kernel) rfl (by decide) (by decide) (Nat.le_of_ble_eq_true rfl) dX9_canBeGiven_110 ?_
              refine b_if_ne C 134 dX9_canBeGiven_113 (by decide) hf (fun hf => ?_) (fun hf => ?_)
              · refine b_sub [] rfl ?_
                exact w_X9_canBeGiven_134 C hR _ hf
              · refine b_aload_n C dX9_canBeGiven_116 rfl 0 rfl ?_
                refine b_getR C hiX9_canBeGiven_9 9 7 (8) (by decide) (by decide) rfl (by decide) kX9_canBeGiven_61 rfl rfl dX9_canBeGiven_117 ?_
                refine b_aload_n C dX9_canBeGiven_120 rfl 0 rfl ?_
                refine b_getR C hiX9_canBeGiven_9 9 8 (11 + 41) (by decide) (by decide) rfl (by decide) kX9_canBeGiven_70 rfl rfl dX9_canBeGiven_121 ?_
                refine b_iload_n C dX9_canBeGiven_124 rfl 3 rfl ?_
                refine b_callVi (n := 1) C (11 + 41) 5 (isObj_r (by decide)) rfl (fun _ => [.int (x3)]) (c_X5_is 41 (by decide) (x3)) (e_is 41 (by decide) (x3) _) gX9_canBeGiven_X5_is rfl (by decide +kernel) rfl (by decide) (by decide) (Nat.le_of_ble_eq_true rfl) dX9_canBeGiven_125 ?_
                obtain ⟨y17, τ18, hqy17, hf⟩ := bd_inv hf
                refine b_callVi (n := 1) C (8) 8 (isObj_s (by decide) (by decide)) rfl (fun _ => [.int (ris 41 (x3) τ16)]) (c_X8_isPastDue (ris 41 (x3) τ16)) hqy17 gX9_canBeGiven_X8_isPastDue rfl (by decide +kernel) rfl (by decide) (by decide) (Nat.le_of_ble_eq_true rfl) dX9_canBeGiven_128 ?_
                refine b_if_ne C 138 dX9_canBeGiven_131 (by decide) hf (fun hf => ?_) (fun hf => ?_)
                · refine b_iconst C (v := 0) dX9_canBeGiven_138 (by decide) ?_
                  refine b_sub [] rfl ?_
                  exact w_X9_canBeGiven_139 C hR _ _ hf
                · refine b_sub [] rfl ?_
                  exact w_X9_canBeGiven_134 C hR _ hf
            · refine b_iconst C (v := 0) dX9_canBeGiven_100 (by decide) ?_
              exact hR _ _ _ _ dX9_canBeGiven_101 hf
          · refine b_iconst C (v := 0) dX9_canBeGiven_77 (by decide) ?_
            exact hR _ _ _ _ dX9_canBeGiven_78 hf
        · refine b_sub [] rfl ?_
          exact w_X9_canBeGiven_62 C hR _ hf
    · refine b_sub [] rfl ?_
      exact w_X9_canBeGiven_37 C hR _ hf
theorem hiX9_giveAnswer_3 : ∀ w ∈ wsX30, w ∈ wsX9_giveAnswer := by decide +kernel
theorem hiX9_giveAnswer_9 : ∀ w ∈ wsX90, w ∈ wsX9_giveAnswer := by decide +kernel
theorem kX9_giveAnswer_40 : Cond.fieldLink RX9 40 "ScriptRoom" "readers" "LScriptRoom$Readers;" ∈ wsX9_giveAnswer := by decide +kernel
theorem kX9_giveAnswer_61 : Cond.fieldLink RX9 61 "ScriptRoom" "tally" "LScriptRoom$Tally;" ∈ wsX9_giveAnswer := by decide +kernel
theorem kX9_giveAnswer_70 : Cond.fieldLink RX9 70 "ScriptRoom" "doubled" "LScriptRoom$Row;" ∈ wsX9_giveAnswer := by decide +kernel
theorem kX9_giveAnswer_77 : Cond.fieldLink RX9 77 "ScriptRoom" "apartAtMost" "I" ∈ wsX9_giveAnswer := by decide +kernel
theorem kX9_giveAnswer_33 : Cond.fieldLink RX9 33 "ScriptRoom" "pupils" "LScriptRoom$Pupils;" ∈ wsX9_giveAnswer := by decide +kernel
theorem kX9_giveAnswer_84 : Cond.fieldLink RX9 84 "ScriptRoom$Pupils" "count" "I" ∈ wsX9_giveAnswer := by decide +kernel
theorem kX9_giveAnswer_291 : Cond.fieldLink RX9 291 "ScriptRoom$Pupils" "urgent" "LScriptRoom$Row;" ∈ wsX9_giveAnswer := by decide +kernel
set_option maxHeartbeats 4000000 in
set_option maxRecDepth 100000 in
theorem w_X9_giveAnswer_108 {X : Ctx} {o : Int64} {rv : Int32 × Mem} (C : Cx X cX9_giveAnswer RX9 wsX9_giveAnswer 6 4 95) (hR : Rz X cX9_giveAnswer 6 o rv) (k2 : Int32 → Int32 → Int32 → Mem → Option (Int32 × Mem)) (h2 : ∀ (v1 v2 v3 : Int32) (σ : Mem), some rv = k2 v1 v2 v3 σ → Bk X 6 o 0 0 2 [(0, .ref (ad X (9))), (1, .int (v1)), (2, .int (v2)), (3, .int (v3))] [] σ) : ∀ (v1 v2 v3 : Int32) (σ : Mem), some rv = f_X9_giveAnswer_108 k2 v1 v2 v3 σ → Bk X 6 o 0 0 108 [(0, .ref (ad X (9))), (1, .int (v1)), (2, .int (v2)), (3, .int (v3))] [] σ := by
  intro v1 v2 v3 σ hf
  unfold f_X9_giveAnswer_108 at hf
  refine b_iinc (v := (v3) + (1)) (lv' := [(3, .int ((v3) + (1))), (0, .ref (ad X (9))), (1, .int (v1)), (2, .int (v2))]) C dX9_giveAnswer_108 3 rfl rfl (by decide) rfl ?_
  refine b_goto C 2 dX9_giveAnswer_111 (by decide) ?_
  refine b_sub [1, 2, 3, 0] rfl ?_
  exact h2 _ _ _ _ hf
set_option maxHeartbeats 4000000 in
set_option maxRecDepth 100000 in
theorem w_X9_giveAnswer_82 {X : Ctx} {o : Int64} {rv : Int32 × Mem} (C : Cx X cX9_giveAnswer RX9 wsX9_giveAnswer 6 4 95) (hR : Rz X cX9_giveAnswer 6 o rv) : ∀ (v1 v3 v4 s0 : Int32) (σ : Mem), some rv = f_X9_giveAnswer_82 v1 v3 v4 s0 σ → Bk X 6 o 0 0 82 [(0, .ref (ad X (9))), (1, .int (v1)), (3, .int (v3)), (4, .int (v4))] [.int (s0)] σ := by
  intro v1 v3 v4 s0 σ hf
  unfold f_X9_giveAnswer_82 at hf
  refine b_istore (lv' := [(5, .int (s0)), (0, .ref (ad X (9))), (1, .int (v1)), (3, .int (v3)), (4, .int (v4))]) C dX9_giveAnswer_82 (by decide) rfl ?_
  refine b_aload_n C dX9_giveAnswer_84 rfl 1 rfl ?_
  refine b_getR C hiX9_giveAnswer_9 9 4 (4) (by decide) (by decide) rfl (by decide) kX9_giveAnswer_40 rfl rfl dX9_giveAnswer_85 ?_
  refine b_iload_n C dX9_giveAnswer_88 rfl 2 rfl ?_
  refine b_iload_n C dX9_giveAnswer_89 rfl 3 rfl ?_
  refine b_iload C dX9_giveAnswer_90 4 rfl ?_
  obtain ⟨y1, τ2, hqy1, hf⟩ := bd_inv hf
  refine b_callSi (n := 2) C (fun _ => [.int (v3), .int (v4)]) (c_X9_codeOf (v3) (v4)) hqy1 gX9_giveAnswer_X9_codeOf rfl (by decide +kernel) rfl (by decide) (by decide) (Nat.le_of_ble_eq_true rfl) dX9_giveAnswer_92 ?_
  refine b_iload C dX9_giveAnswer_95 0 rfl ?_
  obtain ⟨y3, τ4, hqy3, hf⟩ := bd_inv hf
  refine b_callVv (n := 3) C (4) 4 (isObj_s (by decide) (by decide)) rfl (fun _ => [.int (v1), .int (y1), .int (s0)]) (c_X4_handAnswer (v1) (y1) (s0)) hqy3 gX9_giveAnswer_X4_handAnswer rfl (by decide +kernel) rfl (by decide) (by decide) (Nat.le_of_ble_eq_true rfl) dX9_giveAnswer_97 ?_
  refine b_iconst C (v := 1) dX9_giveAnswer_100 (by decide) ?_
  exact hR _ _ _ _ dX9_giveAnswer_101 hf
set_option maxHeartbeats 4000000 in
set_option maxRecDepth 100000 in
theorem w_X9_giveAnswer_34 {X : Ctx} {o : Int64} {rv : Int32 × Mem} (C : Cx X cX9_giveAnswer RX9 wsX9_giveAnswer 6 4 95) (hR : Rz X cX9_giveAnswer 6 o rv) (k2 : Int32 → Int32 → Int32 → Mem → Option (Int32 × Mem)) (h2 : ∀ (v1 v2 v3 : Int32) (σ : Mem), some rv = k2 v1 v2 v3 σ → Bk X 6 o 0 0 2 [(0, .ref (ad X (9))), (1, .int (v1)), (2, .int (v2)), (3, .int (v3))] [] σ) : ∀ (n : Nat) (v1 v2 v3 v4 : Int32) (σ : Mem), some rv = f_X9_giveAnswer_34 k2 n v1 v2 v3 v4 σ → Bk X 6 o 0 0 34 [(0, .ref (ad X (9))), (1, .int (v1)), (2, .int (v2)), (3, .int (v3)), (4, .int (v4))] [] σ := by
  intro n
  induction n with
  | zero =>
    intro v1 v2 v3 v4 σ hf
    rw [f_X9_giveAnswer_34] at hf
    cases hf
  | succ n ih =>
    intro v1 v2 v3 v4 σ hf
    rw [f_X9_giveAnswer_34] at hf
    refine b_iload C dX9_giveAnswer_34 4 rfl ?_
    refine b_iconst C (v := 4) dX9_giveAnswer_36 (by decide) ?_
    refine b_icmp_ge C 108 dX9_giveAnswer_37 (by decide) hf (fun hf => ?_) (fun hf => ?_)
    · refine b_sub [0, 1, 2, 3] rfl ?_
      exact w_X9_giveAnswer_108 C hR k2 h2 _ _ _ _ hf
    · refine b_aload_n C dX9_giveAnswer_40 rfl 0 rfl ?_
      refine b_iload_n C dX9_giveAnswer_41 rfl 1 rfl ?_
      refine b_iload_n C dX9_giveAnswer_42 rfl 3 rfl ?_
      refine b_iload C dX9_giveAnswer_43 4 rfl ?_
      obtain ⟨y5, τ6, hqy5, hf⟩ := bd_inv hf
      refine b_callVi (n := 3) C (9) 9 (isObj_s (by decide) (by decide)) rfl (fun _ => [.int (v1), .int (v3), .int (v4)]) (c_X9_canBeGiven (v1) (v3) (v4)) hqy5 gX9_giveAnswer_X9_canBeGiven rfl (by decide +kernel) rfl (by decide) (by decide) (Nat.le_of_ble_eq_true rfl) dX9_giveAnswer_45 ?_
      refine b_if_ne C 54 dX9_giveAnswer_48 (by decide) hf (fun hf => ?_) (fun hf => ?_)
      · refine b_aload_n C dX9_giveAnswer_54 rfl 0 rfl ?_
        refine b_getR C hiX9_giveAnswer_9 9 7 (8) (by decide) (by decide) rfl (by decide) kX9_giveAnswer_61 rfl rfl dX9_giveAnswer_55 ?_
        refine b_aload_n C dX9_giveAnswer_58 rfl 0 rfl ?_
        refine b_getR C hiX9_giveAnswer_9 9 8 (11 + 41) (by decide) (by decide) rfl (by decide) kX9_giveAnswer_70 rfl rfl dX9_giveAnswer_59 ?_
        refine b_iload C dX9_giveAnswer_62 4 rfl ?_
        refine b_callVi (n := 1) C (11 + 41) 5 (isObj_r (by decide)) rfl (fun _ => [.int (v4)]) (c_X5_is 41 (by decide) (v4)) (e_is 41 (by decide) (v4) _) gX9_giveAnswer_X5_is rfl (by decide +kernel) rfl (by decide) (by decide) (Nat.le_of_ble_eq_true rfl) dX9_giveAnswer_64 ?_
        refine b_aload_n C dX9_giveAnswer_67 rfl 0 rfl ?_
        refine b_getS C hiX9_giveAnswer_9 9 10 17 (by decide) (by decide) rfl (by decide) kX9_giveAnswer_77 rfl rfl dX9_giveAnswer_68 ?_
        obtain ⟨y7, τ8, hqy7, hf⟩ := bd_inv hf
        refine b_callVi (n := 2) C (8) 8 (isObj_s (by decide) (by decide)) rfl (fun _ => [.int (ris 41 (v4) τ6), .int (τ6 76 17)]) (c_X8_lackingAsPlain (ris 41 (v4) τ6) (τ6 76 17)) hqy7 gX9_giveAnswer_X8_lackingAsPlain rfl (by decide +kernel) rfl (by decide) (by decide) (Nat.le_of_ble_eq_true rfl) dX9_giveAnswer_71 ?_
        refine b_if_ne C 81 dX9_giveAnswer_74 (by decide) hf (fun hf => ?_) (fun hf => ?_)
        · refine b_iconst C (v := 0) dX9_giveAnswer_81 (by decide) ?_
          refine b_sub [0, 1, 3, 4] rfl ?_
          exact w_X9_giveAnswer_82 C hR _ _ _ _ _ hf
        · refine b_iconst C (v := 1) dX9_giveAnswer_77 (by decide) ?_
          refine b_goto C 82 dX9_giveAnswer_78 (by decide) ?_
          refine b_sub [0, 1, 3, 4] rfl ?_
          exact w_X9_giveAnswer_82 C hR _ _ _ _ _ hf
      · refine b_goto C 102 dX9_giveAnswer_51 (by decide) ?_
        refine b_iinc (v := (v4) + (1)) (lv' := [(4, .int ((v4) + (1))), (0, .ref (ad X (9))), (1, .int (v1)), (2, .int (v2)), (3, .int (v3))]) C dX9_giveAnswer_102 4 rfl rfl (by decide) rfl ?_
        refine b_goto C 34 dX9_giveAnswer_105 (by decide) ?_
        refine b_sub [1, 2, 3, 4, 0] rfl ?_
        exact ih _ _ _ _ _ hf
set_option maxHeartbeats 4000000 in
set_option maxRecDepth 100000 in
theorem w_X9_giveAnswer_2 {X : Ctx} {o : Int64} {rv : Int32 × Mem} (C : Cx X cX9_giveAnswer RX9 wsX9_giveAnswer 6 4 95) (hR : Rz X cX9_giveAnswer 6 o rv) : ∀ (n : Nat) (v1 v2 v3 : Int32) (σ : Mem), some rv = f_X9_giveAnswer_2 n v1 v2 v3 σ → Bk X 6 o 0 0 2 [(0, .ref (ad X (9))), (1, .int (v1)), (2, .int (v2)), (3, .int (v3))] [] σ := by
  intro n
  induction n with
  | zero =>
    intro v1 v2 v3 σ hf
    rw [f_X9_giveAnswer_2] at hf
    cases hf
  | succ n ih =>
    intro v1 v2 v3 σ hf
    rw [f_X9_giveAnswer_2] at hf
    refine b_iload_n C dX9_giveAnswer_2 rfl 3 rfl ?_
    refine b_aload_n C dX9_giveAnswer_3 rfl 0 rfl ?_
    refine b_getR C hiX9_giveAnswer_9 9 3 (3) (by decide) (by decide) rfl (by decide) kX9_giveAnswer_33 rfl rfl dX9_giveAnswer_4 ?_
    refine b_getS C hiX9_giveAnswer_3 3 0 7 (by decide) (by decide) rfl (by decide) kX9_giveAnswer_84 rfl rfl dX9_giveAnswer_7 ?_
    refine b_icmp_ge C 114 dX9_giveAnswer_10 (by decide) hf (fun hf => ?_) (fun hf => ?_)
    · refine b_iconst C (v := 0) dX9_giveAnswer_114 (by decide) ?_
      exact hR _ _ _ _ dX9_giveAnswer_115 hf
    · refine b_aload_n C dX9_giveAnswer_13 rfl 0 rfl ?_
      refine b_getR C hiX9_giveAnswer_9 9 3 (3) (by decide) (by decide) rfl (by decide) kX9_giveAnswer_33 rfl rfl dX9_giveAnswer_14 ?_
      refine b_getR C hiX9_giveAnswer_3 3 2 (11 + 14) (by decide) (by decide) rfl (by decide) kX9_giveAnswer_291 rfl rfl dX9_giveAnswer_17 ?_
      refine b_iload_n C dX9_giveAnswer_20 rfl 3 rfl ?_
      refine b_callVi (n := 1) C (11 + 14) 5 (isObj_r (by decide)) rfl (fun _ => [.int (v3)]) (c_X5_is 14 (by decide) (v3)) (e_is 14 (by decide) (v3) _) gX9_giveAnswer_X5_is rfl (by decide +kernel) rfl (by decide) (by decide) (Nat.le_of_ble_eq_true rfl) dX9_giveAnswer_21 ?_
      refine b_iload_n C dX9_giveAnswer_24 rfl 2 rfl ?_
      refine b_icmp_eq C 31 dX9_giveAnswer_25 (by decide) hf (fun hf => ?_) (fun hf => ?_)
      · refine b_iconst C (v := 0) dX9_giveAnswer_31 (by decide) ?_
        refine b_istore (lv' := [(4, .int (0)), (0, .ref (ad X (9))), (1, .int (v1)), (2, .int (v2)), (3, .int (v3))]) C dX9_giveAnswer_32 (by decide) rfl ?_
        refine b_sub [1, 2, 3, 4, 0] rfl ?_
        exact w_X9_giveAnswer_34 C hR (f_X9_giveAnswer_2 n) ih FUEL _ _ _ _ _ hf
      · refine b_goto C 108 dX9_giveAnswer_28 (by decide) ?_
        exact w_X9_giveAnswer_108 C hR (f_X9_giveAnswer_2 n) ih _ _ _ _ hf
set_option maxHeartbeats 4000000 in
set_option maxRecDepth 100000 in
theorem c_X9_giveAnswer (x1 x2 : Int32) (l : Launch) : Cti l yX9_giveAnswer wsX9_giveAnswer 4 95 (fun G => [.ref (G.1 (9)), .int (x1), .int (x2)]) (f_X9_giveAnswer x1 x2) := by
  refine mk_z (cc := cX9_giveAnswer) (nL := 6) (own := RX9) (by decide) rfl rfl (fun _ => Nat.le_of_ble_eq_true rfl) (fun X o σ rv C hR hf => ?_)
  show Bk X 6 o 0 0 0 [(0, .ref (ad X (9))), (1, .int (x1)), (2, .int (x2))] [] σ
  unfold f_X9_giveAnswer at hf
  refine b_iconst C (v := 0) dX9_giveAnswer_0 (by decide) ?_
  refine b_istore_n (lv' := [(3, .int (0)), (0, .ref (ad X (9))), (1, .int (x1)), (2, .int (x2))]) C dX9_giveAnswer_1 rfl (by decide) rfl ?_
  refine b_sub [1, 2, 3, 0] rfl ?_
  exact w_X9_giveAnswer_2 C hR FUEL _ _ _ _ hf
theorem hiX9_giveWhatIsNext_7 : ∀ w ∈ wsX70, w ∈ wsX9_giveWhatIsNext := by decide +kernel
theorem hiX9_giveWhatIsNext_9 : ∀ w ∈ wsX90, w ∈ wsX9_giveWhatIsNext := by decide +kernel
theorem kX9_giveWhatIsNext_40 : Cond.fieldLink RX9 40 "ScriptRoom" "readers" "LScriptRoom$Readers;" ∈ wsX9_giveWhatIsNext := by decide +kernel
theorem kX9_giveWhatIsNext_47 : Cond.fieldLink RX9 47 "ScriptRoom" "seeds" "LScriptRoom$Seeds;" ∈ wsX9_giveWhatIsNext := by decide +kernel
theorem kX9_giveWhatIsNext_277 : Cond.fieldLink RX9 277 "ScriptRoom$Seeds" "questions" "LScriptRoom$Row;" ∈ wsX9_giveWhatIsNext := by decide +kernel
set_option maxHeartbeats 4000000 in
set_option maxRecDepth 100000 in
theorem w_X9_giveWhatIsNext_52 {X : Ctx} {o : Int64} {rv : Int32 × Mem} (C : Cx X cX9_giveWhatIsNext RX9 wsX9_giveWhatIsNext 3 5 120) (hR : Rv X cX9_giveWhatIsNext 3 o rv) : ∀ (σ : Mem), some rv = f_X9_giveWhatIsNext_52 σ → Bk X 3 o 0 0 52 [] [] σ := by
  intro σ hf
  unfold f_X9_giveWhatIsNext_52 at hf
  exact hR _ _ _ _ dX9_giveWhatIsNext_52 hf
set_option maxHeartbeats 4000000 in
set_option maxRecDepth 100000 in
theorem c_X9_giveWhatIsNext (x1 : Int32) (l : Launch) : Ctv l yX9_giveWhatIsNext wsX9_giveWhatIsNext 5 120 (fun G => [.ref (G.1 (9)), .int (x1)]) (f_X9_giveWhatIsNext x1) := by
  refine mk_v (cc := cX9_giveWhatIsNext) (nL := 3) (own := RX9) (by decide) rfl rfl (fun _ => Nat.le_of_ble_eq_true rfl) (fun X o σ rv C hR hf => ?_)
  show Bk X 3 o 0 0 0 [(0, .ref (ad X (9))), (1, .int (x1))] [] σ
  unfold f_X9_giveWhatIsNext at hf
  refine b_aload_n C dX9_giveWhatIsNext_0 rfl 0 rfl ?_
  refine b_iload_n C dX9_giveWhatIsNext_1 rfl 1 rfl ?_
  obtain ⟨y1, τ2, hqy1, hf⟩ := bd_inv hf
  refine b_callVi (n := 1) C (9) 9 (isObj_s (by decide) (by decide)) rfl (fun _ => [.int (x1)]) (c_X9_seedDue (x1)) hqy1 gX9_giveWhatIsNext_X9_seedDue rfl (by decide +kernel) rfl (by decide) (by decide) (Nat.le_of_ble_eq_true rfl) dX9_giveWhatIsNext_2 ?_
  refine b_istore_n (lv' := [(2, .int (y1)), (0, .ref (ad X (9))), (1, .int (x1))]) C dX9_giveWhatIsNext_5 rfl (by decide) rfl ?_
  refine b_iload_n C dX9_giveWhatIsNext_6 rfl 0 rfl ?_
  refine b_iconst C (v := (-1)) dX9_giveWhatIsNext_7 (by decide) ?_
  refine b_icmp_eq C 36 dX9_giveWhatIsNext_8 (by decide) hf (fun hf => ?_) (fun hf => ?_)
  · refine b_aload_n C dX9_giveWhatIsNext_36 rfl 1 rfl ?_
    refine b_iload_n C dX9_giveWhatIsNext_37 rfl 2 rfl ?_
    refine b_iconst C (v := 1) dX9_giveWhatIsNext_38 (by decide) ?_
    obtain ⟨y3, τ4, hqy3, hf⟩ := bd_inv hf
    refine b_callVi (n := 2) C (9) 9 (isObj_s (by decide) (by decide)) rfl (fun _ => [.int (x1), .int (1)]) (c_X9_giveAnswer (x1) (1)) hqy3 gX9_giveWhatIsNext_X9_giveAnswer rfl (by decide +kernel) rfl (by decide) (by decide) (Nat.le_of_ble_eq_true rfl) dX9_giveWhatIsNext_39 ?_
    refine b_if_ne C 52 dX9_giveWhatIsNext_42 (by decide) hf (fun hf => ?_) (fun hf => ?_)
    · refine b_sub [] rfl ?_
      exact w_X9_giveWhatIsNext_52 C hR _ hf
    · refine b_aload_n C dX9_giveWhatIsNext_45 rfl 1 rfl ?_
      refine b_iload_n C dX9_giveWhatIsNext_46 rfl 2 rfl ?_
      refine b_iconst C (v := 0) dX9_giveWhatIsNext_47 (by decide) ?_
      obtain ⟨y5, τ6, hqy5, hf⟩ := bd_inv hf
      refine b_callVi (n := 2) C (9) 9 (isObj_s (by decide) (by decide)) rfl (fun _ => [.int (x1), .int (0)]) (c_X9_giveAnswer (x1) (0)) hqy5 gX9_giveWhatIsNext_X9_giveAnswer rfl (by decide +kernel) rfl (by decide) (by decide) (Nat.le_of_ble_eq_true rfl) dX9_giveWhatIsNext_48 ?_
      refine b_pop C dX9_giveWhatIsNext_51 rfl ?_
      refine b_sub [] rfl ?_
      exact w_X9_giveWhatIsNext_52 C hR _ hf
  · refine b_aload_n C dX9_giveWhatIsNext_11 rfl 1 rfl ?_
    refine b_getR C hiX9_giveWhatIsNext_9 9 4 (4) (by decide) (by decide) rfl (by decide) kX9_giveWhatIsNext_40 rfl rfl dX9_giveWhatIsNext_12 ?_
    refine b_iload_n C dX9_giveWhatIsNext_15 rfl 2 rfl ?_
    refine b_iload_n C dX9_giveWhatIsNext_16 rfl 0 rfl ?_
    refine b_sipush C (v := 1000) dX9_giveWhatIsNext_17 (by decide) ?_
    refine b_aload_n C dX9_giveWhatIsNext_20 rfl 1 rfl ?_
    refine b_getR C hiX9_giveWhatIsNext_9 9 5 (7) (by decide) (by decide) rfl (by decide) kX9_giveWhatIsNext_47 rfl rfl dX9_giveWhatIsNext_21 ?_
    refine b_getR C hiX9_giveWhatIsNext_7 7 1 (11 + 39) (by decide) (by decide) rfl (by decide) kX9_giveWhatIsNext_277 rfl rfl dX9_giveWhatIsNext_24 ?_
    refine b_iload_n C dX9_giveWhatIsNext_27 rfl 0 rfl ?_
    refine b_callVi (n := 1) C (11 + 39) 5 (isObj_r (by decide)) rfl (fun _ => [.int (y1)]) (c_X5_get 39 (by decide) (y1)) (e_get 39 (by decide) (y1) _) gX9_giveWhatIsNext_X5_get rfl (by decide +kernel) rfl (by decide) (by decide) (Nat.le_of_ble_eq_true rfl) dX9_giveWhatIsNext_28 ?_
    refine b_iadd C dX9_giveWhatIsNext_31 ?_
    obtain ⟨y7, τ8, hqy7, hf⟩ := bd_inv hf
    refine b_callVv (n := 3) C (4) 4 (isObj_s (by decide) (by decide)) rfl (fun _ => [.int (x1), .int (y1), .int ((1000) + (rget 39 (y1) τ2))]) (c_X4_handSeed (x1) (y1) ((1000) + (rget 39 (y1) τ2))) hqy7 gX9_giveWhatIsNext_X4_handSeed rfl (by decide +kernel) rfl (by decide) (by decide) (Nat.le_of_ble_eq_true rfl) dX9_giveWhatIsNext_32 ?_
    exact hR _ _ _ _ dX9_giveWhatIsNext_35 hf
theorem hiX9_stop_2 : ∀ w ∈ wsX20, w ∈ wsX9_stop := by decide +kernel
theorem hiX9_stop_4 : ∀ w ∈ wsX40, w ∈ wsX9_stop := by decide +kernel
theorem hiX9_stop_9 : ∀ w ∈ wsX90, w ∈ wsX9_stop := by decide +kernel
theorem kX9_stop_54 : Cond.fieldLink RX9 54 "ScriptRoom" "log" "LScriptRoom$Log;" ∈ wsX9_stop := by decide +kernel
theorem kX9_stop_164 : Cond.fieldLink RX9 164 "ScriptRoom$Log" "count" "I" ∈ wsX9_stop := by decide +kernel
theorem kX9_stop_331 : Cond.fieldLink RX9 331 "ScriptRoom$Log" "readers" "LScriptRoom$Row;" ∈ wsX9_stop := by decide +kernel
theorem kX9_stop_357 : Cond.fieldLink RX9 357 "ScriptRoom$Log" "voids" "LScriptRoom$Row;" ∈ wsX9_stop := by decide +kernel
theorem kX9_stop_333 : Cond.fieldLink RX9 333 "ScriptRoom$Log" "worths" "LScriptRoom$Row;" ∈ wsX9_stop := by decide +kernel
theorem kX9_stop_40 : Cond.fieldLink RX9 40 "ScriptRoom" "readers" "LScriptRoom$Readers;" ∈ wsX9_stop := by decide +kernel
theorem kX9_stop_174 : Cond.fieldLink RX9 174 "ScriptRoom$Readers" "voids" "LScriptRoom$Row;" ∈ wsX9_stop := by decide +kernel
theorem kX9_stop_155 : Cond.fieldLink RX9 155 "ScriptRoom$Readers" "stopped" "LScriptRoom$Row;" ∈ wsX9_stop := by decide +kernel
theorem kX9_stop_354 : Cond.fieldLink RX9 354 "ScriptRoom$Readers" "starts" "LScriptRoom$Row;" ∈ wsX9_stop := by decide +kernel
set_option maxHeartbeats 4000000 in
set_option maxRecDepth 100000 in
theorem w_X9_stop_89 {X : Ctx} {o : Int64} {rv : Int32 × Mem} (C : Cx X cX9_stop RX9 wsX9_stop 3 1 22) (hR : Rv X cX9_stop 3 o rv) (k24 : Int32 → Int32 → Mem → Option (Int32 × Mem)) (h24 : ∀ (v1 v2 : Int32) (σ : Mem), some rv = k24 v1 v2 σ → Bk X 3 o 0 0 24 [(0, .ref (ad X (9))), (1, .int (v1)), (2, .int (v2))] [] σ) : ∀ (v1 v2 : Int32) (σ : Mem), some rv = f_X9_stop_89 k24 v1 v2 σ → Bk X 3 o 0 0 89 [(0, .ref (ad X (9))), (1, .int (v1)), (2, .int (v2))] [] σ := by
  intro v1 v2 σ hf
  unfold f_X9_stop_89 at hf
  refine b_iinc (v := (v2) + (1)) (lv' := [(2, .int ((v2) + (1))), (0, .ref (ad X (9))), (1, .int (v1))]) C dX9_stop_89 2 rfl rfl (by decide) rfl ?_
  refine b_goto C 24 dX9_stop_92 (by decide) ?_
  refine b_sub [1, 2, 0] rfl ?_
  exact h24 _ _ _ hf
set_option maxHeartbeats 4000000 in
set_option maxRecDepth 100000 in
theorem w_X9_stop_24 {X : Ctx} {o : Int64} {rv : Int32 × Mem} (C : Cx X cX9_stop RX9 wsX9_stop 3 1 22) (hR : Rv X cX9_stop 3 o rv) : ∀ (n : Nat) (v1 v2 : Int32) (σ : Mem), some rv = f_X9_stop_24 n v1 v2 σ → Bk X 3 o 0 0 24 [(0, .ref (ad X (9))), (1, .int (v1)), (2, .int (v2))] [] σ := by
  intro n
  induction n with
  | zero =>
    intro v1 v2 σ hf
    rw [f_X9_stop_24] at hf
    cases hf
  | succ n ih =>
    intro v1 v2 σ hf
    rw [f_X9_stop_24] at hf
    refine b_iload_n C dX9_stop_24 rfl 2 rfl ?_
    refine b_aload_n C dX9_stop_25 rfl 0 rfl ?_
    refine b_getR C hiX9_stop_9 9 6 (2) (by decide) (by decide) rfl (by decide) kX9_stop_54 rfl rfl dX9_stop_26 ?_
    refine b_getS C hiX9_stop_2 2 0 6 (by decide) (by decide) rfl (by decide) kX9_stop_164 rfl rfl dX9_stop_29 ?_
    refine b_icmp_ge C 95 dX9_stop_32 (by decide) hf (fun hf => ?_) (fun hf => ?_)
    · exact hR _ _ _ _ dX9_stop_95 hf
    · refine b_aload_n C dX9_stop_35 rfl 0 rfl ?_
      refine b_getR C hiX9_stop_9 9 6 (2) (by decide) (by decide) rfl (by decide) kX9_stop_54 rfl rfl dX9_stop_36 ?_
      refine b_getR C hiX9_stop_2 2 2 (11 + 3) (by decide) (by decide) rfl (by decide) kX9_stop_331 rfl rfl dX9_stop_39 ?_
      refine b_iload_n C dX9_stop_42 rfl 2 rfl ?_
      refine b_callVi (n := 1) C (11 + 3) 5 (isObj_r (by decide)) rfl (fun _ => [.int (v2)]) (c_X5_get 3 (by decide) (v2)) (e_get 3 (by decide) (v2) _) gX9_stop_X5_get rfl (by decide +kernel) rfl (by decide) (by decide) (Nat.le_of_ble_eq_true rfl) dX9_stop_43 ?_
      refine b_iload_n C dX9_stop_46 rfl 1 rfl ?_
      refine b_icmp_eq C 53 dX9_stop_47 (by decide) hf (fun hf => ?_) (fun hf => ?_)
      · refine b_aload_n C dX9_stop_53 rfl 0 rfl ?_
        refine b_getR C hiX9_stop_9 9 6 (2) (by decide) (by decide) rfl (by decide) kX9_stop_54 rfl rfl dX9_stop_54 ?_
        refine b_getR C hiX9_stop_2 2 5 (11 + 6) (by decide) (by decide) rfl (by decide) kX9_stop_357 rfl rfl dX9_stop_57 ?_
        refine b_iload_n C dX9_stop_60 rfl 2 rfl ?_
        refine b_iconst C (v := 1) dX9_stop_61 (by decide) ?_
        refine b_callVv (n := 2) C (11 + 6) 5 (isObj_r (by decide)) rfl (fun _ => [.int (v2), .int (1)]) (c_X5_put 6 (by decide) (v2) (1)) (e_put 6 (by decide) (v2) (1) _) gX9_stop_X5_put rfl (by decide +kernel) rfl (by decide) (by decide) (Nat.le_of_ble_eq_true rfl) dX9_stop_62 ?_
        refine b_nw hf (fun τ1 hf => ?_)
        refine b_aload_n C dX9_stop_65 rfl 0 rfl ?_
        refine b_getR C hiX9_stop_9 9 6 (2) (by decide) (by decide) rfl (by decide) kX9_stop_54 rfl rfl dX9_stop_66 ?_
        refine b_getR C hiX9_stop_2 2 7 (11 + 8) (by decide) (by decide) rfl (by decide) kX9_stop_333 rfl rfl dX9_stop_69 ?_
        refine b_iload_n C dX9_stop_72 rfl 2 rfl ?_
        refine b_iconst C (v := (-1)) dX9_stop_73 (by decide) ?_
        refine b_callVv (n := 2) C (11 + 8) 5 (isObj_r (by decide)) rfl (fun _ => [.int (v2), .int ((-1))]) (c_X5_set 8 (by decide) (v2) ((-1))) (e_set 8 (by decide) (v2) ((-1)) _) gX9_stop_X5_set rfl (by decide +kernel) rfl (by decide) (by decide) (Nat.le_of_ble_eq_true rfl) dX9_stop_74 ?_
        refine b_nw hf (fun τ2 hf => ?_)
        refine b_aload_n C dX9_stop_77 rfl 0 rfl ?_
        refine b_getR C hiX9_stop_9 9 4 (4) (by decide) (by decide) rfl (by decide) kX9_stop_40 rfl rfl dX9_stop_78 ?_
        refine b_getR C hiX9_stop_4 4 8 (11 + 26) (by decide) (by decide) rfl (by decide) kX9_stop_174 rfl rfl dX9_stop_81 ?_
        refine b_iload_n C dX9_stop_84 rfl 1 rfl ?_
        refine b_iconst C (v := 1) dX9_stop_85 (by decide) ?_
        refine b_callVv (n := 2) C (11 + 26) 5 (isObj_r (by decide)) rfl (fun _ => [.int (v1), .int (1)]) (c_X5_add 26 (by decide) (v1) (1)) (e_add 26 (by decide) (v1) (1) _) gX9_stop_X5_add rfl (by decide +kernel) rfl (by decide) (by decide) (Nat.le_of_ble_eq_true rfl) dX9_stop_86 ?_
        refine b_nw hf (fun τ3 hf => ?_)
        exact w_X9_stop_89 C hR (f_X9_stop_24 n) ih _ _ _ hf
      · refine b_goto C 89 dX9_stop_50 (by decide) ?_
        exact w_X9_stop_89 C hR (f_X9_stop_24 n) ih _ _ _ hf
set_option maxHeartbeats 4000000 in
set_option maxRecDepth 100000 in
theorem c_X9_stop (x1 : Int32) (l : Launch) : Ctv l yX9_stop wsX9_stop 1 22 (fun G => [.ref (G.1 (9)), .int (x1)]) (f_X9_stop x1) := by
  refine mk_v (cc := cX9_stop) (nL := 3) (own := RX9) (by decide) rfl rfl (fun _ => Nat.le_of_ble_eq_true rfl) (fun X o σ rv C hR hf => ?_)
  show Bk X 3 o 0 0 0 [(0, .ref (ad X (9))), (1, .int (x1))] [] σ
  unfold f_X9_stop at hf
  refine b_aload_n C dX9_stop_0 rfl 0 rfl ?_
  refine b_getR C hiX9_stop_9 9 4 (4) (by decide) (by decide) rfl (by decide) kX9_stop_40 rfl rfl dX9_stop_1 ?_
  refine b_getR C hiX9_stop_4 4 3 (11 + 21) (by decide) (by decide) rfl (by decide) kX9_stop_155 rfl rfl dX9_stop_4 ?_
  refine b_iload_n C dX9_stop_7 rfl 1 rfl ?_
  refine b_iconst C (v := 1) dX9_stop_8 (by decide) ?_
  refine b_callVv (n := 2) C (11 + 21) 5 (isObj_r (by decide)) rfl (fun _ => [.int (x1), .int (1)]) (c_X5_put 21 (by decide) (x1) (1)) (e_put 21 (by decide) (x1) (1) _) gX9_stop_X5_put rfl (by decide +kernel) rfl (by decide) (by decide) (Nat.le_of_ble_eq_true rfl) dX9_stop_9 ?_
  refine b_nw hf (fun τ4 hf => ?_)
  refine b_aload_n C dX9_stop_12 rfl 0 rfl ?_
  refine b_getR C hiX9_stop_9 9 4 (4) (by decide) (by decide) rfl (by decide) kX9_stop_40 rfl rfl dX9_stop_13 ?_
  refine b_getR C hiX9_stop_4 4 10 (11 + 28) (by decide) (by decide) rfl (by decide) kX9_stop_354 rfl rfl dX9_stop_16 ?_
  refine b_iload_n C dX9_stop_19 rfl 1 rfl ?_
  refine b_callVi (n := 1) C (11 + 28) 5 (isObj_r (by decide)) rfl (fun _ => [.int (x1)]) (c_X5_get 28 (by decide) (x1)) (e_get 28 (by decide) (x1) _) gX9_stop_X5_get rfl (by decide +kernel) rfl (by decide) (by decide) (Nat.le_of_ble_eq_true rfl) dX9_stop_20 ?_
  refine b_nv hf (fun y5 hf => ?_)
  refine b_istore_n (lv' := [(2, .int (y5)), (0, .ref (ad X (9))), (1, .int (x1))]) C dX9_stop_23 rfl (by decide) rfl ?_
  refine b_sub [1, 2, 0] rfl ?_
  exact w_X9_stop_24 C hR FUEL _ _ _ hf
theorem hiX9_readSeed_2 : ∀ w ∈ wsX20, w ∈ wsX9_readSeed := by decide +kernel
theorem hiX9_readSeed_4 : ∀ w ∈ wsX40, w ∈ wsX9_readSeed := by decide +kernel
theorem hiX9_readSeed_7 : ∀ w ∈ wsX70, w ∈ wsX9_readSeed := by decide +kernel
theorem hiX9_readSeed_9 : ∀ w ∈ wsX90, w ∈ wsX9_readSeed := by decide +kernel
theorem kX9_readSeed_40 : Cond.fieldLink RX9 40 "ScriptRoom" "readers" "LScriptRoom$Readers;" ∈ wsX9_readSeed := by decide +kernel
theorem kX9_readSeed_54 : Cond.fieldLink RX9 54 "ScriptRoom" "log" "LScriptRoom$Log;" ∈ wsX9_readSeed := by decide +kernel
theorem kX9_readSeed_164 : Cond.fieldLink RX9 164 "ScriptRoom$Log" "count" "I" ∈ wsX9_readSeed := by decide +kernel
theorem kX9_readSeed_339 : Cond.fieldLink RX9 339 "ScriptRoom$Readers" "handSeeds" "LScriptRoom$Row;" ∈ wsX9_readSeed := by decide +kernel
theorem kX9_readSeed_47 : Cond.fieldLink RX9 47 "ScriptRoom" "seeds" "LScriptRoom$Seeds;" ∈ wsX9_readSeed := by decide +kernel
theorem kX9_readSeed_277 : Cond.fieldLink RX9 277 "ScriptRoom$Seeds" "questions" "LScriptRoom$Row;" ∈ wsX9_readSeed := by decide +kernel
theorem kX9_readSeed_26 : Cond.fieldLink RX9 26 "ScriptRoom" "schemes" "LScriptRoom$Schemes;" ∈ wsX9_readSeed := by decide +kernel
theorem kX9_readSeed_345 : Cond.fieldLink RX9 345 "ScriptRoom$Seeds" "points" "LScriptRoom$Row;" ∈ wsX9_readSeed := by decide +kernel
theorem kX9_readSeed_77 : Cond.fieldLink RX9 77 "ScriptRoom" "apartAtMost" "I" ∈ wsX9_readSeed := by decide +kernel
set_option maxHeartbeats 4000000 in
set_option maxRecDepth 100000 in
theorem w_X9_readSeed_78 {X : Ctx} {o : Int64} {rv : Int32 × Mem} (C : Cx X cX9_readSeed RX9 wsX9_readSeed 7 4 95) (hR : Rt X cX9_readSeed 7 o rv) : ∀ (v1 v5 : Int32) (σ : Mem), some rv = f_X9_readSeed_78 v1 v5 σ → Bk X 7 o 0 0 78 [(0, .ref (ad X (9))), (1, .int (v1)), (5, .int (v5))] [] σ := by
  intro v1 v5 σ hf
  unfold f_X9_readSeed_78 at hf
  refine b_aload_n C dX9_readSeed_78 rfl 0 rfl ?_
  refine b_getR C hiX9_readSeed_9 9 4 (4) (by decide) (by decide) rfl (by decide) kX9_readSeed_40 rfl rfl dX9_readSeed_79 ?_
  refine b_iload_n C dX9_readSeed_82 rfl 1 rfl ?_
  obtain ⟨y1, τ2, hqy1, hf⟩ := bd_inv hf
  refine b_callVv (n := 1) C (4) 4 (isObj_s (by decide) (by decide)) rfl (fun _ => [.int (v1)]) (c_X4_emptyHand (v1)) hqy1 gX9_readSeed_X4_emptyHand rfl (by decide +kernel) rfl (by decide) (by decide) (Nat.le_of_ble_eq_true rfl) dX9_readSeed_83 ?_
  refine b_aload_n C dX9_readSeed_86 rfl 0 rfl ?_
  refine b_getR C hiX9_readSeed_9 9 4 (4) (by decide) (by decide) rfl (by decide) kX9_readSeed_40 rfl rfl dX9_readSeed_87 ?_
  refine b_iload_n C dX9_readSeed_90 rfl 1 rfl ?_
  refine b_aload_n C dX9_readSeed_91 rfl 0 rfl ?_
  refine b_getR C hiX9_readSeed_9 9 6 (2) (by decide) (by decide) rfl (by decide) kX9_readSeed_54 rfl rfl dX9_readSeed_92 ?_
  refine b_getS C hiX9_readSeed_2 2 0 6 (by decide) (by decide) rfl (by decide) kX9_readSeed_164 rfl rfl dX9_readSeed_95 ?_
  obtain ⟨y3, τ4, hqy3, hf⟩ := bd_inv hf
  refine b_callVv (n := 2) C (4) 4 (isObj_s (by decide) (by decide)) rfl (fun _ => [.int (v1), .int (τ2 76 6)]) (c_X4_startAnew (v1) (τ2 76 6)) hqy3 gX9_readSeed_X4_startAnew rfl (by decide +kernel) rfl (by decide) (by decide) (Nat.le_of_ble_eq_true rfl) dX9_readSeed_98 ?_
  refine b_iload C dX9_readSeed_101 2 rfl ?_
  exact hR _ _ _ _ dX9_readSeed_103 hf
set_option maxHeartbeats 4000000 in
set_option maxRecDepth 100000 in
theorem c_X9_readSeed (x1 x2 : Int32) (l : Launch) : Cti l yX9_readSeed wsX9_readSeed 4 95 (fun G => [.ref (G.1 (9)), .int (x1), .int (x2)]) (f_X9_readSeed x1 x2) := by
  refine mk_i (cc := cX9_readSeed) (nL := 7) (own := RX9) (by decide) rfl rfl (fun _ => Nat.le_of_ble_eq_true rfl) (fun X o σ rv C hR hf => ?_)
  show Bk X 7 o 0 0 0 [(0, .ref (ad X (9))), (1, .int (x1)), (2, .int (x2))] [] σ
  unfold f_X9_readSeed at hf
  refine b_aload_n C dX9_readSeed_0 rfl 0 rfl ?_
  refine b_getR C hiX9_readSeed_9 9 4 (4) (by decide) (by decide) rfl (by decide) kX9_readSeed_40 rfl rfl dX9_readSeed_1 ?_
  refine b_getR C hiX9_readSeed_4 4 5 (11 + 23) (by decide) (by decide) rfl (by decide) kX9_readSeed_339 rfl rfl dX9_readSeed_4 ?_
  refine b_iload_n C dX9_readSeed_7 rfl 1 rfl ?_
  refine b_callVi (n := 1) C (11 + 23) 5 (isObj_r (by decide)) rfl (fun _ => [.int (x1)]) (c_X5_get 23 (by decide) (x1)) (e_get 23 (by decide) (x1) _) gX9_readSeed_X5_get rfl (by decide +kernel) rfl (by decide) (by decide) (Nat.le_of_ble_eq_true rfl) dX9_readSeed_8 ?_
  refine b_nv hf (fun y5 hf => ?_)
  refine b_istore_n (lv' := [(3, .int (y5)), (0, .ref (ad X (9))), (1, .int (x1)), (2, .int (x2))]) C dX9_readSeed_11 rfl (by decide) rfl ?_
  refine b_aload_n C dX9_readSeed_12 rfl 1 rfl ?_
  refine b_getR C hiX9_readSeed_9 9 5 (7) (by decide) (by decide) rfl (by decide) kX9_readSeed_47 rfl rfl dX9_readSeed_13 ?_
  refine b_getR C hiX9_readSeed_7 7 1 (11 + 39) (by decide) (by decide) rfl (by decide) kX9_readSeed_277 rfl rfl dX9_readSeed_16 ?_
  refine b_iload_n C dX9_readSeed_19 rfl 0 rfl ?_
  refine b_callVi (n := 1) C (11 + 39) 5 (isObj_r (by decide)) rfl (fun _ => [.int (y5)]) (c_X5_get 39 (by decide) (y5)) (e_get 39 (by decide) (y5) _) gX9_readSeed_X5_get rfl (by decide +kernel) rfl (by decide) (by decide) (Nat.le_of_ble_eq_true rfl) dX9_readSeed_20 ?_
  refine b_nv hf (fun y6 hf => ?_)
  refine b_istore (lv' := [(4, .int (y6)), (3, .int (y5)), (0, .ref (ad X (9))), (1, .int (x1)), (2, .int (x2))]) C dX9_readSeed_23 (by decide) rfl ?_
  refine b_aload_n C dX9_readSeed_25 rfl 2 rfl ?_
  refine b_getR C hiX9_readSeed_9 9 2 (6) (by decide) (by decide) rfl (by decide) kX9_readSeed_26 rfl rfl dX9_readSeed_26 ?_
  refine b_iload C dX9_readSeed_29 0 rfl ?_
  refine b_iload_n C dX9_readSeed_31 rfl 4 rfl ?_
  obtain ⟨y7, τ8, hqy7, hf⟩ := bd_inv hf
  refine b_callVi (n := 2) C (6) 6 (isObj_s (by decide) (by decide)) rfl (fun _ => [.int (y6), .int (x2)]) (c_X6_markByLatest (y6) (x2)) hqy7 gX9_readSeed_X6_markByLatest rfl (by decide +kernel) rfl (by decide) (by decide) (Nat.le_of_ble_eq_true rfl) dX9_readSeed_32 ?_
  refine b_istore (lv' := [(5, .int (y7)), (4, .int (y6)), (3, .int (y5)), (0, .ref (ad X (9))), (1, .int (x1)), (2, .int (x2))]) C dX9_readSeed_35 (by decide) rfl ?_
  refine b_aload_n C dX9_readSeed_37 rfl 3 rfl ?_
  refine b_getR C hiX9_readSeed_9 9 2 (6) (by decide) (by decide) rfl (by decide) kX9_readSeed_26 rfl rfl dX9_readSeed_38 ?_
  refine b_iload C dX9_readSeed_41 1 rfl ?_
  refine b_aload_n C dX9_readSeed_43 rfl 3 rfl ?_
  refine b_getR C hiX9_readSeed_9 9 5 (7) (by decide) (by decide) rfl (by decide) kX9_readSeed_47 rfl rfl dX9_readSeed_44 ?_
  refine b_getR C hiX9_readSeed_7 7 2 (11 + 40) (by decide) (by decide) rfl (by decide) kX9_readSeed_345 rfl rfl dX9_readSeed_47 ?_
  refine b_iload_n C dX9_readSeed_50 rfl 2 rfl ?_
  refine b_callVi (n := 1) C (11 + 40) 5 (isObj_r (by decide)) rfl (fun _ => [.int (y5)]) (c_X5_get 40 (by decide) (y5)) (e_get 40 (by decide) (y5) _) gX9_readSeed_X5_get rfl (by decide +kernel) rfl (by decide) (by decide) (Nat.le_of_ble_eq_true rfl) dX9_readSeed_51 ?_
  obtain ⟨y9, τ10, hqy9, hf⟩ := bd_inv hf
  refine b_callVi (n := 2) C (6) 6 (isObj_s (by decide) (by decide)) rfl (fun _ => [.int (y6), .int (rget 40 (y5) τ8)]) (c_X6_markByLatest (y6) (rget 40 (y5) τ8)) hqy9 gX9_readSeed_X6_markByLatest rfl (by decide +kernel) rfl (by decide) (by decide) (Nat.le_of_ble_eq_true rfl) dX9_readSeed_54 ?_
  refine b_istore (lv' := [(6, .int (y9)), (5, .int (y7)), (4, .int (y6)), (3, .int (y5)), (0, .ref (ad X (9))), (1, .int (x1)), (2, .int (x2))]) C dX9_readSeed_57 (by decide) rfl ?_
  refine b_iload C dX9_readSeed_59 1 rfl ?_
  refine b_iload C dX9_readSeed_61 0 rfl ?_
  refine b_aload_n C dX9_readSeed_63 rfl 4 rfl ?_
  refine b_getS C hiX9_readSeed_9 9 10 17 (by decide) (by decide) rfl (by decide) kX9_readSeed_77 rfl rfl dX9_readSeed_64 ?_
  obtain ⟨y11, τ12, hqy11, hf⟩ := bd_inv hf
  refine b_callSi (n := 3) C (fun _ => [.int (y7), .int (y9), .int (τ10 76 17)]) (c_X9_areApart (y7) (y9) (τ10 76 17)) hqy11 gX9_readSeed_X9_areApart rfl (by decide +kernel) rfl (by decide) (by decide) (Nat.le_of_ble_eq_true rfl) dX9_readSeed_67 ?_
  refine b_if_eq C 78 dX9_readSeed_70 (by decide) hf (fun hf => ?_) (fun hf => ?_)
  · refine b_sub [4, 5, 1] rfl ?_
    exact w_X9_readSeed_78 C hR _ _ _ hf
  · refine b_aload_n C dX9_readSeed_73 rfl 4 rfl ?_
    refine b_iload_n C dX9_readSeed_74 rfl 5 rfl ?_
    obtain ⟨y13, τ14, hqy13, hf⟩ := bd_inv hf
    refine b_callVv (n := 1) C (9) 9 (isObj_s (by decide) (by decide)) rfl (fun _ => [.int (x1)]) (c_X9_stop (x1)) hqy13 gX9_readSeed_X9_stop rfl (by decide +kernel) rfl (by decide) (by decide) (Nat.le_of_ble_eq_true rfl) dX9_readSeed_75 ?_
    refine b_sub [4, 5, 1] rfl ?_
    exact w_X9_readSeed_78 C hR _ _ _ hf
theorem hiX9_readAnswer_2 : ∀ w ∈ wsX20, w ∈ wsX9_readAnswer := by decide +kernel
theorem hiX9_readAnswer_4 : ∀ w ∈ wsX40, w ∈ wsX9_readAnswer := by decide +kernel
theorem hiX9_readAnswer_9 : ∀ w ∈ wsX90, w ∈ wsX9_readAnswer := by decide +kernel
theorem kX9_readAnswer_40 : Cond.fieldLink RX9 40 "ScriptRoom" "readers" "LScriptRoom$Readers;" ∈ wsX9_readAnswer := by decide +kernel
theorem kX9_readAnswer_158 : Cond.fieldLink RX9 158 "ScriptRoom$Readers" "hands" "LScriptRoom$Row;" ∈ wsX9_readAnswer := by decide +kernel
theorem kX9_readAnswer_26 : Cond.fieldLink RX9 26 "ScriptRoom" "schemes" "LScriptRoom$Schemes;" ∈ wsX9_readAnswer := by decide +kernel
theorem kX9_readAnswer_54 : Cond.fieldLink RX9 54 "ScriptRoom" "log" "LScriptRoom$Log;" ∈ wsX9_readAnswer := by decide +kernel
theorem kX9_readAnswer_365 : Cond.fieldLink RX9 365 "ScriptRoom$Log" "points" "LScriptRoom$Row;" ∈ wsX9_readAnswer := by decide +kernel
theorem kX9_readAnswer_366 : Cond.fieldLink RX9 366 "ScriptRoom$Log" "letters" "LScriptRoom$Row;" ∈ wsX9_readAnswer := by decide +kernel
theorem kX9_readAnswer_369 : Cond.fieldLink RX9 369 "ScriptRoom$Log" "appeals" "LScriptRoom$Row;" ∈ wsX9_readAnswer := by decide +kernel
theorem kX9_readAnswer_372 : Cond.fieldLink RX9 372 "ScriptRoom$Readers" "handAppeals" "LScriptRoom$Row;" ∈ wsX9_readAnswer := by decide +kernel
theorem kX9_readAnswer_333 : Cond.fieldLink RX9 333 "ScriptRoom$Log" "worths" "LScriptRoom$Row;" ∈ wsX9_readAnswer := by decide +kernel
theorem kX9_readAnswer_260 : Cond.fieldLink RX9 260 "ScriptRoom$Readers" "reads" "LScriptRoom$Row;" ∈ wsX9_readAnswer := by decide +kernel
theorem kX9_readAnswer_263 : Cond.fieldLink RX9 263 "ScriptRoom$Readers" "sinces" "LScriptRoom$Row;" ∈ wsX9_readAnswer := by decide +kernel
set_option maxHeartbeats 4000000 in
set_option maxRecDepth 100000 in
theorem c_X9_readAnswer (x1 x2 : Int32) (l : Launch) : Cti l yX9_readAnswer wsX9_readAnswer 4 95 (fun G => [.ref (G.1 (9)), .int (x1), .int (x2)]) (f_X9_readAnswer x1 x2) := by
  refine mk_i (cc := cX9_readAnswer) (nL := 8) (own := RX9) (by decide) rfl rfl (fun _ => Nat.le_of_ble_eq_true rfl) (fun X o σ rv C hR hf => ?_)
  show Bk X 8 o 0 0 0 [(0, .ref (ad X (9))), (1, .int (x1)), (2, .int (x2))] [] σ
  unfold f_X9_readAnswer at hf
  refine b_aload_n C dX9_readAnswer_0 rfl 0 rfl ?_
  refine b_getR C hiX9_readAnswer_9 9 4 (4) (by decide) (by decide) rfl (by decide) kX9_readAnswer_40 rfl rfl dX9_readAnswer_1 ?_
  refine b_getR C hiX9_readAnswer_4 4 4 (11 + 22) (by decide) (by decide) rfl (by decide) kX9_readAnswer_158 rfl rfl dX9_readAnswer_4 ?_
  refine b_iload_n C dX9_readAnswer_7 rfl 1 rfl ?_
  refine b_callVi (n := 1) C (11 + 22) 5 (isObj_r (by decide)) rfl (fun _ => [.int (x1)]) (c_X5_get 22 (by decide) (x1)) (e_get 22 (by decide) (x1) _) gX9_readAnswer_X5_get rfl (by decide +kernel) rfl (by decide) (by decide) (Nat.le_of_ble_eq_true rfl) dX9_readAnswer_8 ?_
  refine b_nv hf (fun y1 hf => ?_)
  refine b_istore_n (lv' := [(3, .int (y1)), (0, .ref (ad X (9))), (1, .int (x1)), (2, .int (x2))]) C dX9_readAnswer_11 rfl (by decide) rfl ?_
  refine b_iload_n C dX9_readAnswer_12 rfl 0 rfl ?_
  refine b_bipush C (v := 10) dX9_readAnswer_13 (by decide) ?_
  refine b_irem C dX9_readAnswer_15 (by decide) ?_
  refine b_nv hf (fun y2 hf => ?_)
  refine b_istore (lv' := [(4, .int (y2)), (3, .int (y1)), (0, .ref (ad X (9))), (1, .int (x1)), (2, .int (x2))]) C dX9_readAnswer_16 (by decide) rfl ?_
  refine b_aload_n C dX9_readAnswer_18 rfl 2 rfl ?_
  refine b_getR C hiX9_readAnswer_9 9 2 (6) (by decide) (by decide) rfl (by decide) kX9_readAnswer_26 rfl rfl dX9_readAnswer_19 ?_
  refine b_iload C dX9_readAnswer_22 0 rfl ?_
  obtain ⟨y3, τ4, hqy3, hf⟩ := bd_inv hf
  refine b_callVi (n := 1) C (6) 6 (isObj_s (by decide) (by decide)) rfl (fun _ => [.int (y2)]) (c_X6_lettersOfLatest (y2)) hqy3 gX9_readAnswer_X6_lettersOfLatest rfl (by decide +kernel) rfl (by decide) (by decide) (Nat.le_of_ble_eq_true rfl) dX9_readAnswer_24 ?_
  refine b_istore (lv' := [(5, .int (y3)), (4, .int (y2)), (3, .int (y1)), (0, .ref (ad X (9))), (1, .int (x1)), (2, .int (x2))]) C dX9_readAnswer_27 (by decide) rfl ?_
  refine b_aload_n C dX9_readAnswer_29 rfl 3 rfl ?_
  refine b_getR C hiX9_readAnswer_9 9 2 (6) (by decide) (by decide) rfl (by decide) kX9_readAnswer_26 rfl rfl dX9_readAnswer_30 ?_
  refine b_iload C dX9_readAnswer_33 1 rfl ?_
  refine b_iload_n C dX9_readAnswer_35 rfl 5 rfl ?_
  refine b_iload C dX9_readAnswer_36 0 rfl ?_
  refine b_iand C dX9_readAnswer_38 ?_
  obtain ⟨y5, τ6, hqy5, hf⟩ := bd_inv hf
  refine b_callVi (n := 2) C (6) 6 (isObj_s (by decide) (by decide)) rfl (fun _ => [.int (y2), .int ((x2) &&& (y3))]) (c_X6_markByLatest (y2) ((x2) &&& (y3))) hqy5 gX9_readAnswer_X6_markByLatest rfl (by decide +kernel) rfl (by decide) (by decide) (Nat.le_of_ble_eq_true rfl) dX9_readAnswer_39 ?_
  refine b_istore (lv' := [(6, .int (y5)), (5, .int (y3)), (4, .int (y2)), (3, .int (y1)), (0, .ref (ad X (9))), (1, .int (x1)), (2, .int (x2))]) C dX9_readAnswer_42 (by decide) rfl ?_
  refine b_aload_n C dX9_readAnswer_44 rfl 4 rfl ?_
  refine b_getR C hiX9_readAnswer_9 9 6 (2) (by decide) (by decide) rfl (by decide) kX9_readAnswer_54 rfl rfl dX9_readAnswer_45 ?_
  refine b_iload_n C dX9_readAnswer_48 rfl 3 rfl ?_
  refine b_bipush C (v := 10) dX9_readAnswer_49 (by decide) ?_
  refine b_idiv C dX9_readAnswer_51 (by decide) ?_
  refine b_iload C dX9_readAnswer_52 2 rfl ?_
  obtain ⟨y7, τ8, hqy7, hf⟩ := bd_inv hf
  refine b_callSi (n := 2) C (fun _ => [.int ((y1) / (10)), .int (y2)]) (c_X9_answerOf ((y1) / (10)) (y2)) hqy7 gX9_readAnswer_X9_answerOf rfl (by decide +kernel) rfl (by decide) (by decide) (Nat.le_of_ble_eq_true rfl) dX9_readAnswer_54 ?_
  refine b_iload_n C dX9_readAnswer_57 rfl 5 rfl ?_
  obtain ⟨y9, τ10, hqy9, hf⟩ := bd_inv hf
  refine b_callVi (n := 2) C (2) 2 (isObj_s (by decide) (by decide)) rfl (fun _ => [.int (y7), .int (x1)]) (c_X2_enter (y7) (x1)) hqy9 gX9_readAnswer_X2_enter rfl (by decide +kernel) rfl (by decide) (by decide) (Nat.le_of_ble_eq_true rfl) dX9_readAnswer_58 ?_
  refine b_istore (lv' := [(7, .int (y9)), (6, .int (y5)), (5, .int (y3)), (4, .int (y2)), (3, .int (y1)), (0, .ref (ad X (9))), (1, .int (x1)), (2, .int (x2))]) C dX9_readAnswer_61 (by decide) rfl ?_
  refine b_aload_n C dX9_readAnswer_63 rfl 5 rfl ?_
  refine b_getR C hiX9_readAnswer_9 9 6 (2) (by decide) (by decide) rfl (by decide) kX9_readAnswer_54 rfl rfl dX9_readAnswer_64 ?_
  refine b_getR C hiX9_readAnswer_2 2 3 (11 + 4) (by decide) (by decide) rfl (by decide) kX9_readAnswer_365 rfl rfl dX9_readAnswer_67 ?_
  refine b_iload C dX9_readAnswer_70 0 rfl ?_
  refine b_iload_n C dX9_readAnswer_72 rfl 7 rfl ?_
  refine b_iload C dX9_readAnswer_73 2 rfl ?_
  refine b_iand C dX9_readAnswer_75 ?_
  refine b_callVv (n := 2) C (11 + 4) 5 (isObj_r (by decide)) rfl (fun _ => [.int (y9), .int ((x2) &&& (y3))]) (c_X5_set 4 (by decide) (y9) ((x2) &&& (y3))) (e_set 4 (by decide) (y9) ((x2) &&& (y3)) _) gX9_readAnswer_X5_set rfl (by decide +kernel) rfl (by decide) (by decide) (Nat.le_of_ble_eq_true rfl) dX9_readAnswer_76 ?_
  refine b_nw hf (fun τ11 hf => ?_)
  refine b_aload_n C dX9_readAnswer_79 rfl 5 rfl ?_
  refine b_getR C hiX9_readAnswer_9 9 6 (2) (by decide) (by decide) rfl (by decide) kX9_readAnswer_54 rfl rfl dX9_readAnswer_80 ?_
  refine b_getR C hiX9_readAnswer_2 2 4 (11 + 5) (by decide) (by decide) rfl (by decide) kX9_readAnswer_366 rfl rfl dX9_readAnswer_83 ?_
  refine b_iload C dX9_readAnswer_86 0 rfl ?_
  refine b_iload C dX9_readAnswer_88 2 rfl ?_
  refine b_callVv (n := 2) C (11 + 5) 5 (isObj_r (by decide)) rfl (fun _ => [.int (y9), .int (y3)]) (c_X5_set 5 (by decide) (y9) (y3)) (e_set 5 (by decide) (y9) (y3) _) gX9_readAnswer_X5_set rfl (by decide +kernel) rfl (by decide) (by decide) (Nat.le_of_ble_eq_true rfl) dX9_readAnswer_90 ?_
  refine b_nw hf (fun τ12 hf => ?_)
  refine b_aload_n C dX9_readAnswer_93 rfl 5 rfl ?_
  refine b_getR C hiX9_readAnswer_9 9 6 (2) (by decide) (by decide) rfl (by decide) kX9_readAnswer_54 rfl rfl dX9_readAnswer_94 ?_
  refine b_getR C hiX9_readAnswer_2 2 6 (11 + 7) (by decide) (by decide) rfl (by decide) kX9_readAnswer_369 rfl rfl dX9_readAnswer_97 ?_
  refine b_iload C dX9_readAnswer_100 0 rfl ?_
  refine b_aload_n C dX9_readAnswer_102 rfl 5 rfl ?_
  refine b_getR C hiX9_readAnswer_9 9 4 (4) (by decide) (by decide) rfl (by decide) kX9_readAnswer_40 rfl rfl dX9_readAnswer_103 ?_
  refine b_getR C hiX9_readAnswer_4 4 6 (11 + 24) (by decide) (by decide) rfl (by decide) kX9_readAnswer_372 rfl rfl dX9_readAnswer_106 ?_
  refine b_iload_n C dX9_readAnswer_109 rfl 6 rfl ?_
  refine b_callVi (n := 1) C (11 + 24) 5 (isObj_r (by decide)) rfl (fun _ => [.int (x1)]) (c_X5_is 24 (by decide) (x1)) (e_is 24 (by decide) (x1) _) gX9_readAnswer_X5_is rfl (by decide +kernel) rfl (by decide) (by decide) (Nat.le_of_ble_eq_true rfl) dX9_readAnswer_110 ?_
  refine b_callVv (n := 2) C (11 + 7) 5 (isObj_r (by decide)) rfl (fun _ => [.int (y9), .int (ris 24 (x1) τ12)]) (c_X5_put 7 (by decide) (y9) (ris 24 (x1) τ12)) (e_put 7 (by decide) (y9) (ris 24 (x1) τ12) _) gX9_readAnswer_X5_put rfl (by decide +kernel) rfl (by decide) (by decide) (Nat.le_of_ble_eq_true rfl) dX9_readAnswer_113 ?_
  refine b_nw hf (fun τ13 hf => ?_)
  refine b_aload_n C dX9_readAnswer_116 rfl 5 rfl ?_
  refine b_getR C hiX9_readAnswer_9 9 6 (2) (by decide) (by decide) rfl (by decide) kX9_readAnswer_54 rfl rfl dX9_readAnswer_117 ?_
  refine b_getR C hiX9_readAnswer_2 2 7 (11 + 8) (by decide) (by decide) rfl (by decide) kX9_readAnswer_333 rfl rfl dX9_readAnswer_120 ?_
  refine b_iload C dX9_readAnswer_123 0 rfl ?_
  refine b_iload C dX9_readAnswer_125 1 rfl ?_
  refine b_callVv (n := 2) C (11 + 8) 5 (isObj_r (by decide)) rfl (fun _ => [.int (y9), .int (y5)]) (c_X5_set 8 (by decide) (y9) (y5)) (e_set 8 (by decide) (y9) (y5) _) gX9_readAnswer_X5_set rfl (by decide +kernel) rfl (by decide) (by decide) (Nat.le_of_ble_eq_true rfl) dX9_readAnswer_127 ?_
  refine b_nw hf (fun τ14 hf => ?_)
  refine b_aload_n C dX9_readAnswer_130 rfl 5 rfl ?_
  refine b_getR C hiX9_readAnswer_9 9 4 (4) (by decide) (by decide) rfl (by decide) kX9_readAnswer_40 rfl rfl dX9_readAnswer_131 ?_
  refine b_iload_n C dX9_readAnswer_134 rfl 6 rfl ?_
  obtain ⟨y15, τ16, hqy15, hf⟩ := bd_inv hf
  refine b_callVv (n := 1) C (4) 4 (isObj_s (by decide) (by decide)) rfl (fun _ => [.int (x1)]) (c_X4_emptyHand (x1)) hqy15 gX9_readAnswer_X4_emptyHand rfl (by decide +kernel) rfl (by decide) (by decide) (Nat.le_of_ble_eq_true rfl) dX9_readAnswer_135 ?_
  refine b_aload_n C dX9_readAnswer_138 rfl 5 rfl ?_
  refine b_getR C hiX9_readAnswer_9 9 4 (4) (by decide) (by decide) rfl (by decide) kX9_readAnswer_40 rfl rfl dX9_readAnswer_139 ?_
  refine b_getR C hiX9_readAnswer_4 4 7 (11 + 25) (by decide) (by decide) rfl (by decide) kX9_readAnswer_260 rfl rfl dX9_readAnswer_142 ?_
  refine b_iload_n C dX9_readAnswer_145 rfl 6 rfl ?_
  refine b_iconst C (v := 1) dX9_readAnswer_146 (by decide) ?_
  refine b_callVv (n := 2) C (11 + 25) 5 (isObj_r (by decide)) rfl (fun _ => [.int (x1), .int (1)]) (c_X5_add 25 (by decide) (x1) (1)) (e_add 25 (by decide) (x1) (1) _) gX9_readAnswer_X5_add rfl (by decide +kernel) rfl (by decide) (by decide) (Nat.le_of_ble_eq_true rfl) dX9_readAnswer_147 ?_
  refine b_nw hf (fun τ17 hf => ?_)
  refine b_aload_n C dX9_readAnswer_150 rfl 5 rfl ?_
  refine b_getR C hiX9_readAnswer_9 9 4 (4) (by decide) (by decide) rfl (by decide) kX9_readAnswer_40 rfl rfl dX9_readAnswer_151 ?_
  refine b_getR C hiX9_readAnswer_4 4 9 (11 + 27) (by decide) (by decide) rfl (by decide) kX9_readAnswer_263 rfl rfl dX9_readAnswer_154 ?_
  refine b_iload_n C dX9_readAnswer_157 rfl 6 rfl ?_
  refine b_iconst C (v := 1) dX9_readAnswer_158 (by decide) ?_
  refine b_callVv (n := 2) C (11 + 27) 5 (isObj_r (by decide)) rfl (fun _ => [.int (x1), .int (1)]) (c_X5_add 27 (by decide) (x1) (1)) (e_add 27 (by decide) (x1) (1) _) gX9_readAnswer_X5_add rfl (by decide +kernel) rfl (by decide) (by decide) (Nat.le_of_ble_eq_true rfl) dX9_readAnswer_159 ?_
  refine b_nw hf (fun τ18 hf => ?_)
  refine b_iload C dX9_readAnswer_162 1 rfl ?_
  exact hR _ _ _ _ dX9_readAnswer_164 hf
theorem hiX9_markNow_9 : ∀ w ∈ wsX90, w ∈ wsX9_markNow := by decide +kernel
theorem kX9_markNow_33 : Cond.fieldLink RX9 33 "ScriptRoom" "pupils" "LScriptRoom$Pupils;" ∈ wsX9_markNow := by decide +kernel
theorem kX9_markNow_61 : Cond.fieldLink RX9 61 "ScriptRoom" "tally" "LScriptRoom$Tally;" ∈ wsX9_markNow := by decide +kernel
theorem kX9_markNow_70 : Cond.fieldLink RX9 70 "ScriptRoom" "doubled" "LScriptRoom$Row;" ∈ wsX9_markNow := by decide +kernel
theorem kX9_markNow_77 : Cond.fieldLink RX9 77 "ScriptRoom" "apartAtMost" "I" ∈ wsX9_markNow := by decide +kernel
set_option maxHeartbeats 4000000 in
set_option maxRecDepth 100000 in
theorem c_X9_markNow (x1 x2 : Int32) (l : Launch) : Cti l yX9_markNow wsX9_markNow 3 67 (fun G => [.ref (G.1 (9)), .int (x1), .int (x2)]) (f_X9_markNow x1 x2) := by
  refine mk_i (cc := cX9_markNow) (nL := 3) (own := RX9) (by decide) rfl rfl (fun _ => Nat.le_of_ble_eq_true rfl) (fun X o σ rv C hR hf => ?_)
  show Bk X 3 o 0 0 0 [(0, .ref (ad X (9))), (1, .int (x1)), (2, .int (x2))] [] σ
  unfold f_X9_markNow at hf
  refine b_aload_n C dX9_markNow_0 rfl 0 rfl ?_
  refine b_getR C hiX9_markNow_9 9 3 (3) (by decide) (by decide) rfl (by decide) kX9_markNow_33 rfl rfl dX9_markNow_1 ?_
  refine b_iload_n C dX9_markNow_4 rfl 1 rfl ?_
  refine b_iload_n C dX9_markNow_5 rfl 2 rfl ?_
  obtain ⟨y1, τ2, hqy1, hf⟩ := bd_inv hf
  refine b_callVi (n := 2) C (3) 3 (isObj_s (by decide) (by decide)) rfl (fun _ => [.int (x1), .int (x2)]) (c_X3_isLacking (x1) (x2)) hqy1 gX9_markNow_X3_isLacking rfl (by decide +kernel) rfl (by decide) (by decide) (Nat.le_of_ble_eq_true rfl) dX9_markNow_6 ?_
  refine b_if_eq C 14 dX9_markNow_9 (by decide) hf (fun hf => ?_) (fun hf => ?_)
  · refine b_aload_n C dX9_markNow_14 rfl 0 rfl ?_
    refine b_iload_n C dX9_markNow_15 rfl 1 rfl ?_
    refine b_iload_n C dX9_markNow_16 rfl 2 rfl ?_
    obtain ⟨y3, τ4, hqy3, hf⟩ := bd_inv hf
    refine b_callVv (n := 2) C (9) 9 (isObj_s (by decide) (by decide)) rfl (fun _ => [.int (x1), .int (x2)]) (c_X9_tallyUp (x1) (x2)) hqy3 gX9_markNow_X9_tallyUp rfl (by decide +kernel) rfl (by decide) (by decide) (Nat.le_of_ble_eq_true rfl) dX9_markNow_17 ?_
    refine b_aload_n C dX9_markNow_20 rfl 0 rfl ?_
    refine b_getR C hiX9_markNow_9 9 7 (8) (by decide) (by decide) rfl (by decide) kX9_markNow_61 rfl rfl dX9_markNow_21 ?_
    refine b_aload_n C dX9_markNow_24 rfl 0 rfl ?_
    refine b_getR C hiX9_markNow_9 9 8 (11 + 41) (by decide) (by decide) rfl (by decide) kX9_markNow_70 rfl rfl dX9_markNow_25 ?_
    refine b_iload_n C dX9_markNow_28 rfl 2 rfl ?_
    refine b_callVi (n := 1) C (11 + 41) 5 (isObj_r (by decide)) rfl (fun _ => [.int (x2)]) (c_X5_is 41 (by decide) (x2)) (e_is 41 (by decide) (x2) _) gX9_markNow_X5_is rfl (by decide +kernel) rfl (by decide) (by decide) (Nat.le_of_ble_eq_true rfl) dX9_markNow_29 ?_
    refine b_aload_n C dX9_markNow_32 rfl 0 rfl ?_
    refine b_getS C hiX9_markNow_9 9 10 17 (by decide) (by decide) rfl (by decide) kX9_markNow_77 rfl rfl dX9_markNow_33 ?_
    obtain ⟨y5, τ6, hqy5, hf⟩ := bd_inv hf
    refine b_callVi (n := 2) C (8) 8 (isObj_s (by decide) (by decide)) rfl (fun _ => [.int (ris 41 (x2) τ4), .int (τ4 76 17)]) (c_X8_outcome (ris 41 (x2) τ4) (τ4 76 17)) hqy5 gX9_markNow_X8_outcome rfl (by decide +kernel) rfl (by decide) (by decide) (Nat.le_of_ble_eq_true rfl) dX9_markNow_36 ?_
    exact hR _ _ _ _ dX9_markNow_39 hf
  · refine b_iconst C (v := 0) dX9_markNow_12 (by decide) ?_
    exact hR _ _ _ _ dX9_markNow_13 hf
theorem hiX9_totalNow_3 : ∀ w ∈ wsX30, w ∈ wsX9_totalNow := by decide +kernel
theorem hiX9_totalNow_9 : ∀ w ∈ wsX90, w ∈ wsX9_totalNow := by decide +kernel
theorem kX9_totalNow_mmax_l : Cond.methodLink RX9 392 Lib.Math.max.name ∈ wsX9_totalNow := by decide +kernel
theorem kX9_totalNow_mmax_s : Cond.static Lib.Math.max.name ∈ wsX9_totalNow := by decide +kernel
theorem kX9_totalNow_math_i : Cond.initialized "java/lang/Math" ∈ wsX9_totalNow := by decide +kernel
theorem kX9_totalNow_mmax_c : Cond.code Lib.Math.max.name Lib.Math.max.code 2 (some .int) ∈ wsX9_totalNow := by decide +kernel
theorem kX9_totalNow_33 : Cond.fieldLink RX9 33 "ScriptRoom" "pupils" "LScriptRoom$Pupils;" ∈ wsX9_totalNow := by decide +kernel
theorem kX9_totalNow_101 : Cond.fieldLink RX9 101 "ScriptRoom$Pupils" "gifts" "LScriptRoom$Row;" ∈ wsX9_totalNow := by decide +kernel
set_option maxHeartbeats 4000000 in
set_option maxRecDepth 100000 in
theorem w_X9_totalNow_52 {X : Ctx} {o : Int64} {rv : Int32 × Mem} (C : Cx X cX9_totalNow RX9 wsX9_totalNow 6 4 89) (hR : Rt X cX9_totalNow 6 o rv) : ∀ (σ : Mem), some rv = f_X9_totalNow_52 σ → Bk X 6 o 0 0 52 [] [] σ := by
  intro σ hf
  unfold f_X9_totalNow_52 at hf
  refine b_iconst C (v := (-1)) dX9_totalNow_52 (by decide) ?_
  exact hR _ _ _ _ dX9_totalNow_53 hf
set_option maxHeartbeats 4000000 in
set_option maxRecDepth 100000 in
theorem c_X9_totalNow (x1 : Int32) (l : Launch) : Cti l yX9_totalNow wsX9_totalNow 4 89 (fun G => [.ref (G.1 (9)), .int (x1)]) (f_X9_totalNow x1) := by
  refine mk_i (cc := cX9_totalNow) (nL := 6) (own := RX9) (by decide) rfl rfl (fun _ => Nat.le_of_ble_eq_true rfl) (fun X o σ rv C hR hf => ?_)
  show Bk X 6 o 0 0 0 [(0, .ref (ad X (9))), (1, .int (x1))] [] σ
  unfold f_X9_totalNow at hf
  refine b_aload_n C dX9_totalNow_0 rfl 0 rfl ?_
  refine b_iload_n C dX9_totalNow_1 rfl 1 rfl ?_
  refine b_iconst C (v := 0) dX9_totalNow_2 (by decide) ?_
  obtain ⟨y1, τ2, hqy1, hf⟩ := bd_inv hf
  refine b_callVi (n := 2) C (9) 9 (isObj_s (by decide) (by decide)) rfl (fun _ => [.int (x1), .int (0)]) (c_X9_markNow (x1) (0)) hqy1 gX9_totalNow_X9_markNow rfl (by decide +kernel) rfl (by decide) (by decide) (Nat.le_of_ble_eq_true rfl) dX9_totalNow_3 ?_
  refine b_istore_n (lv' := [(2, .int (y1)), (0, .ref (ad X (9))), (1, .int (x1))]) C dX9_totalNow_6 rfl (by decide) rfl ?_
  refine b_aload_n C dX9_totalNow_7 rfl 1 rfl ?_
  refine b_iload_n C dX9_totalNow_8 rfl 2 rfl ?_
  refine b_iconst C (v := 1) dX9_totalNow_9 (by decide) ?_
  obtain ⟨y3, τ4, hqy3, hf⟩ := bd_inv hf
  refine b_callVi (n := 2) C (9) 9 (isObj_s (by decide) (by decide)) rfl (fun _ => [.int (x1), .int (1)]) (c_X9_markNow (x1) (1)) hqy3 gX9_totalNow_X9_markNow rfl (by decide +kernel) rfl (by decide) (by decide) (Nat.le_of_ble_eq_true rfl) dX9_totalNow_10 ?_
  refine b_istore_n (lv' := [(3, .int (y3)), (2, .int (y1)), (0, .ref (ad X (9))), (1, .int (x1))]) C dX9_totalNow_13 rfl (by decide) rfl ?_
  refine b_aload_n C dX9_totalNow_14 rfl 2 rfl ?_
  refine b_iload_n C dX9_totalNow_15 rfl 3 rfl ?_
  refine b_iconst C (v := 2) dX9_totalNow_16 (by decide) ?_
  obtain ⟨y5, τ6, hqy5, hf⟩ := bd_inv hf
  refine b_callVi (n := 2) C (9) 9 (isObj_s (by decide) (by decide)) rfl (fun _ => [.int (x1), .int (2)]) (c_X9_markNow (x1) (2)) hqy5 gX9_totalNow_X9_markNow rfl (by decide +kernel) rfl (by decide) (by decide) (Nat.le_of_ble_eq_true rfl) dX9_totalNow_17 ?_
  refine b_istore (lv' := [(4, .int (y5)), (3, .int (y3)), (2, .int (y1)), (0, .ref (ad X (9))), (1, .int (x1))]) C dX9_totalNow_20 (by decide) rfl ?_
  refine b_aload_n C dX9_totalNow_22 rfl 3 rfl ?_
  refine b_iload_n C dX9_totalNow_23 rfl 4 rfl ?_
  refine b_iconst C (v := 3) dX9_totalNow_24 (by decide) ?_
  obtain ⟨y7, τ8, hqy7, hf⟩ := bd_inv hf
  refine b_callVi (n := 2) C (9) 9 (isObj_s (by decide) (by decide)) rfl (fun _ => [.int (x1), .int (3)]) (c_X9_markNow (x1) (3)) hqy7 gX9_totalNow_X9_markNow rfl (by decide +kernel) rfl (by decide) (by decide) (Nat.le_of_ble_eq_true rfl) dX9_totalNow_25 ?_
  refine b_istore (lv' := [(5, .int (y7)), (4, .int (y5)), (3, .int (y3)), (2, .int (y1)), (0, .ref (ad X (9))), (1, .int (x1))]) C dX9_totalNow_28 (by decide) rfl ?_
  refine b_iload_n C dX9_totalNow_30 rfl 3 rfl ?_
  refine b_iconst C (v := (-1)) dX9_totalNow_31 (by decide) ?_
  refine b_icmp_eq C 52 dX9_totalNow_32 (by decide) hf (fun hf => ?_) (fun hf => ?_)
  · refine b_sub [] rfl ?_
    exact w_X9_totalNow_52 C hR _ hf
  · refine b_iload_n C dX9_totalNow_35 rfl 2 rfl ?_
    refine b_iconst C (v := (-1)) dX9_totalNow_36 (by decide) ?_
    refine b_icmp_eq C 52 dX9_totalNow_37 (by decide) hf (fun hf => ?_) (fun hf => ?_)
    · refine b_sub [] rfl ?_
      exact w_X9_totalNow_52 C hR _ hf
    · refine b_iload C dX9_totalNow_40 1 rfl ?_
      refine b_iconst C (v := (-1)) dX9_totalNow_42 (by decide) ?_
      refine b_icmp_eq C 52 dX9_totalNow_43 (by decide) hf (fun hf => ?_) (fun hf => ?_)
      · refine b_sub [] rfl ?_
        exact w_X9_totalNow_52 C hR _ hf
      · refine b_iload C dX9_totalNow_46 0 rfl ?_
        refine b_iconst C (v := (-1)) dX9_totalNow_48 (by decide) ?_
        refine b_icmp_ne C 54 dX9_totalNow_49 (by decide) hf (fun hf => ?_) (fun hf => ?_)
        · refine b_iload_n C dX9_totalNow_54 rfl 3 rfl ?_
          refine b_iload_n C dX9_totalNow_55 rfl 2 rfl ?_
          refine b_iadd C dX9_totalNow_56 ?_
          refine b_iload C dX9_totalNow_57 1 rfl ?_
          refine b_iload C dX9_totalNow_59 0 rfl ?_
          refine b_mmax C kX9_totalNow_mmax_l kX9_totalNow_mmax_s kX9_totalNow_math_i kX9_totalNow_mmax_c (by decide) (Nat.le_of_ble_eq_true rfl) dX9_totalNow_61 ?_
          refine b_iadd C dX9_totalNow_64 ?_
          refine b_aload_n C dX9_totalNow_65 rfl 4 rfl ?_
          refine b_getR C hiX9_totalNow_9 9 3 (3) (by decide) (by decide) rfl (by decide) kX9_totalNow_33 rfl rfl dX9_totalNow_66 ?_
          refine b_getR C hiX9_totalNow_3 3 3 (11 + 15) (by decide) (by decide) rfl (by decide) kX9_totalNow_101 rfl rfl dX9_totalNow_69 ?_
          refine b_iload_n C dX9_totalNow_72 rfl 5 rfl ?_
          refine b_callVi (n := 1) C (11 + 15) 5 (isObj_r (by decide)) rfl (fun _ => [.int (x1)]) (c_X5_get 15 (by decide) (x1)) (e_get 15 (by decide) (x1) _) gX9_totalNow_X5_get rfl (by decide +kernel) rfl (by decide) (by decide) (Nat.le_of_ble_eq_true rfl) dX9_totalNow_73 ?_
          refine b_iadd C dX9_totalNow_76 ?_
          exact hR _ _ _ _ dX9_totalNow_77 hf
        · refine b_sub [] rfl ?_
          exact w_X9_totalNow_52 C hR _ hf
theorem hiX9_gatherTotals_3 : ∀ w ∈ wsX30, w ∈ wsX9_gatherTotals := by decide +kernel
theorem hiX9_gatherTotals_9 : ∀ w ∈ wsX90, w ∈ wsX9_gatherTotals := by decide +kernel
theorem kX9_gatherTotals_33 : Cond.fieldLink RX9 33 "ScriptRoom" "pupils" "LScriptRoom$Pupils;" ∈ wsX9_gatherTotals := by decide +kernel
theorem kX9_gatherTotals_84 : Cond.fieldLink RX9 84 "ScriptRoom$Pupils" "count" "I" ∈ wsX9_gatherTotals := by decide +kernel
theorem kX9_gatherTotals_74 : Cond.fieldLink RX9 74 "ScriptRoom" "totals" "LScriptRoom$Row;" ∈ wsX9_gatherTotals := by decide +kernel
set_option maxHeartbeats 4000000 in
set_option maxRecDepth 100000 in
theorem w_X9_gatherTotals_41 {X : Ctx} {o : Int64} {rv : Int32 × Mem} (C : Cx X cX9_gatherTotals RX9 wsX9_gatherTotals 4 5 114) (hR : Rt X cX9_gatherTotals 4 o rv) (k4 : Int32 → Int32 → Mem → Option (Int32 × Mem)) (h4 : ∀ (v1 v2 : Int32) (σ : Mem), some rv = k4 v1 v2 σ → Bk X 4 o 0 0 4 [(0, .ref (ad X (9))), (1, .int (v1)), (2, .int (v2))] [] σ) : ∀ (v1 v2 : Int32) (σ : Mem), some rv = f_X9_gatherTotals_41 k4 v1 v2 σ → Bk X 4 o 0 0 41 [(0, .ref (ad X (9))), (1, .int (v1)), (2, .int (v2))] [] σ := by
  intro v1 v2 σ hf
  unfold f_X9_gatherTotals_41 at hf
  refine b_iinc (v := (v2) + (1)) (lv' := [(2, .int ((v2) + (1))), (0, .ref (ad X (9))), (1, .int (v1))]) C dX9_gatherTotals_41 2 rfl rfl (by decide) rfl ?_
  refine b_goto C 4 dX9_gatherTotals_44 (by decide) ?_
  refine b_sub [1, 2, 0] rfl ?_
  exact h4 _ _ _ hf
set_option maxHeartbeats 4000000 in
set_option maxRecDepth 100000 in
theorem w_X9_gatherTotals_4 {X : Ctx} {o : Int64} {rv : Int32 × Mem} (C : Cx X cX9_gatherTotals RX9 wsX9_gatherTotals 4 5 114) (hR : Rt X cX9_gatherTotals 4 o rv) : ∀ (n : Nat) (v1 v2 : Int32) (σ : Mem), some rv = f_X9_gatherTotals_4 n v1 v2 σ → Bk X 4 o 0 0 4 [(0, .ref (ad X (9))), (1, .int (v1)), (2, .int (v2))] [] σ := by
  intro n
  induction n with
  | zero =>
    intro v1 v2 σ hf
    rw [f_X9_gatherTotals_4] at hf
    cases hf
  | succ n ih =>
    intro v1 v2 σ hf
    rw [f_X9_gatherTotals_4] at hf
    refine b_iload_n C dX9_gatherTotals_4 rfl 2 rfl ?_
    refine b_aload_n C dX9_gatherTotals_5 rfl 0 rfl ?_
    refine b_getR C hiX9_gatherTotals_9 9 3 (3) (by decide) (by decide) rfl (by decide) kX9_gatherTotals_33 rfl rfl dX9_gatherTotals_6 ?_
    refine b_getS C hiX9_gatherTotals_3 3 0 7 (by decide) (by decide) rfl (by decide) kX9_gatherTotals_84 rfl rfl dX9_gatherTotals_9 ?_
    refine b_icmp_ge C 47 dX9_gatherTotals_12 (by decide) hf (fun hf => ?_) (fun hf => ?_)
    · refine b_iload_n C dX9_gatherTotals_47 rfl 1 rfl ?_
      exact hR _ _ _ _ dX9_gatherTotals_48 hf
    · refine b_aload_n C dX9_gatherTotals_15 rfl 0 rfl ?_
      refine b_iload_n C dX9_gatherTotals_16 rfl 2 rfl ?_
      obtain ⟨y1, τ2, hqy1, hf⟩ := bd_inv hf
      refine b_callVi (n := 1) C (9) 9 (isObj_s (by decide) (by decide)) rfl (fun _ => [.int (v2)]) (c_X9_totalNow (v2)) hqy1 gX9_gatherTotals_X9_totalNow rfl (by decide +kernel) rfl (by decide) (by decide) (Nat.le_of_ble_eq_true rfl) dX9_gatherTotals_17 ?_
      refine b_istore_n (lv' := [(3, .int (y1)), (0, .ref (ad X (9))), (1, .int (v1)), (2, .int (v2))]) C dX9_gatherTotals_20 rfl (by decide) rfl ?_
      refine b_iload_n C dX9_gatherTotals_21 rfl 0 rfl ?_
      refine b_iconst C (v := (-1)) dX9_gatherTotals_22 (by decide) ?_
      refine b_icmp_ne C 29 dX9_gatherTotals_23 (by decide) hf (fun hf => ?_) (fun hf => ?_)
      · refine b_aload_n C dX9_gatherTotals_29 rfl 1 rfl ?_
        refine b_getR C hiX9_gatherTotals_9 9 9 (11 + 42) (by decide) (by decide) rfl (by decide) kX9_gatherTotals_74 rfl rfl dX9_gatherTotals_30 ?_
        refine b_iload_n C dX9_gatherTotals_33 rfl 2 rfl ?_
        refine b_iload_n C dX9_gatherTotals_34 rfl 0 rfl ?_
        refine b_callVv (n := 2) C (11 + 42) 5 (isObj_r (by decide)) rfl (fun _ => [.int (v1), .int (y1)]) (c_X5_set 42 (by decide) (v1) (y1)) (e_set 42 (by decide) (v1) (y1) _) gX9_gatherTotals_X5_set rfl (by decide +kernel) rfl (by decide) (by decide) (Nat.le_of_ble_eq_true rfl) dX9_gatherTotals_35 ?_
        refine b_nw hf (fun τ3 hf => ?_)
        refine b_iinc (v := (v1) + (1)) (lv' := [(1, .int ((v1) + (1))), (3, .int (y1)), (0, .ref (ad X (9))), (2, .int (v2))]) C dX9_gatherTotals_38 2 rfl rfl (by decide) rfl ?_
        refine b_sub [2, 0, 3] rfl ?_
        exact w_X9_gatherTotals_41 C hR (f_X9_gatherTotals_4 n) ih _ _ _ hf
      · refine b_goto C 41 dX9_gatherTotals_26 (by decide) ?_
        refine b_sub [1, 2, 3] rfl ?_
        exact w_X9_gatherTotals_41 C hR (f_X9_gatherTotals_4 n) ih _ _ _ hf
set_option maxHeartbeats 4000000 in
set_option maxRecDepth 100000 in
theorem c_X9_gatherTotals (l : Launch) : Cti l yX9_gatherTotals wsX9_gatherTotals 5 114 (fun G => [.ref (G.1 (9))]) (f_X9_gatherTotals ) := by
  refine mk_i (cc := cX9_gatherTotals) (nL := 4) (own := RX9) (by decide) rfl rfl (fun _ => Nat.le_of_ble_eq_true rfl) (fun X o σ rv C hR hf => ?_)
  show Bk X 4 o 0 0 0 [(0, .ref (ad X (9)))] [] σ
  unfold f_X9_gatherTotals at hf
  refine b_iconst C (v := 0) dX9_gatherTotals_0 (by decide) ?_
  refine b_istore_n (lv' := [(1, .int (0)), (0, .ref (ad X (9)))]) C dX9_gatherTotals_1 rfl (by decide) rfl ?_
  refine b_iconst C (v := 0) dX9_gatherTotals_2 (by decide) ?_
  refine b_istore_n (lv' := [(2, .int (0)), (1, .int (0)), (0, .ref (ad X (9)))]) C dX9_gatherTotals_3 rfl (by decide) rfl ?_
  refine b_sub [2, 1, 0] rfl ?_
  exact w_X9_gatherTotals_4 C hR FUEL _ _ _ hf
theorem hiX9_pupilsFrom_9 : ∀ w ∈ wsX90, w ∈ wsX9_pupilsFrom := by decide +kernel
theorem kX9_pupilsFrom_74 : Cond.fieldLink RX9 74 "ScriptRoom" "totals" "LScriptRoom$Row;" ∈ wsX9_pupilsFrom := by decide +kernel
set_option maxHeartbeats 4000000 in
set_option maxRecDepth 100000 in
theorem w_X9_pupilsFrom_27 {X : Ctx} {o : Int64} {rv : Int32 × Mem} (C : Cx X cX9_pupilsFrom RX9 wsX9_pupilsFrom 5 1 21) (hR : Rt X cX9_pupilsFrom 5 o rv) (k5 : Int32 → Int32 → Int32 → Int32 → Mem → Option (Int32 × Mem)) (h5 : ∀ (v1 v2 v3 v4 : Int32) (σ : Mem), some rv = k5 v1 v2 v3 v4 σ → Bk X 5 o 0 0 5 [(0, .ref (ad X (9))), (1, .int (v1)), (2, .int (v2)), (3, .int (v3)), (4, .int (v4))] [] σ) : ∀ (v1 v2 v3 v4 : Int32) (σ : Mem), some rv = f_X9_pupilsFrom_27 k5 v1 v2 v3 v4 σ → Bk X 5 o 0 0 27 [(0, .ref (ad X (9))), (1, .int (v1)), (2, .int (v2)), (3, .int (v3)), (4, .int (v4))] [] σ := by
  intro v1 v2 v3 v4 σ hf
  unfold f_X9_pupilsFrom_27 at hf
  refine b_iinc (v := (v4) + (1)) (lv' := [(4, .int ((v4) + (1))), (0, .ref (ad X (9))), (1, .int (v1)), (2, .int (v2)), (3, .int (v3))]) C dX9_pupilsFrom_27 4 rfl rfl (by decide) rfl ?_
  refine b_goto C 5 dX9_pupilsFrom_30 (by decide) ?_
  refine b_sub [1, 2, 3, 4, 0] rfl ?_
  exact h5 _ _ _ _ _ hf
set_option maxHeartbeats 4000000 in
set_option maxRecDepth 100000 in
theorem w_X9_pupilsFrom_5 {X : Ctx} {o : Int64} {rv : Int32 × Mem} (C : Cx X cX9_pupilsFrom RX9 wsX9_pupilsFrom 5 1 21) (hR : Rt X cX9_pupilsFrom 5 o rv) : ∀ (n : Nat) (v1 v2 v3 v4 : Int32) (σ : Mem), some rv = f_X9_pupilsFrom_5 n v1 v2 v3 v4 σ → Bk X 5 o 0 0 5 [(0, .ref (ad X (9))), (1, .int (v1)), (2, .int (v2)), (3, .int (v3)), (4, .int (v4))] [] σ := by
  intro n
  induction n with
  | zero =>
    intro v1 v2 v3 v4 σ hf
    rw [f_X9_pupilsFrom_5] at hf
    cases hf
  | succ n ih =>
    intro v1 v2 v3 v4 σ hf
    rw [f_X9_pupilsFrom_5] at hf
    refine b_iload C dX9_pupilsFrom_5 4 rfl ?_
    refine b_iload_n C dX9_pupilsFrom_7 rfl 2 rfl ?_
    refine b_icmp_ge C 33 dX9_pupilsFrom_8 (by decide) hf (fun hf => ?_) (fun hf => ?_)
    · refine b_iload_n C dX9_pupilsFrom_33 rfl 3 rfl ?_
      exact hR _ _ _ _ dX9_pupilsFrom_34 hf
    · refine b_aload_n C dX9_pupilsFrom_11 rfl 0 rfl ?_
      refine b_getR C hiX9_pupilsFrom_9 9 9 (11 + 42) (by decide) (by decide) rfl (by decide) kX9_pupilsFrom_74 rfl rfl dX9_pupilsFrom_12 ?_
      refine b_iload C dX9_pupilsFrom_15 4 rfl ?_
      refine b_callVi (n := 1) C (11 + 42) 5 (isObj_r (by decide)) rfl (fun _ => [.int (v4)]) (c_X5_get 42 (by decide) (v4)) (e_get 42 (by decide) (v4) _) gX9_pupilsFrom_X5_get rfl (by decide +kernel) rfl (by decide) (by decide) (Nat.le_of_ble_eq_true rfl) dX9_pupilsFrom_17 ?_
      refine b_iload_n C dX9_pupilsFrom_20 rfl 1 rfl ?_
      refine b_icmp_lt C 27 dX9_pupilsFrom_21 (by decide) hf (fun hf => ?_) (fun hf => ?_)
      · exact w_X9_pupilsFrom_27 C hR (f_X9_pupilsFrom_5 n) ih _ _ _ _ _ hf
      · refine b_iinc (v := (v3) + (1)) (lv' := [(3, .int ((v3) + (1))), (0, .ref (ad X (9))), (1, .int (v1)), (2, .int (v2)), (4, .int (v4))]) C dX9_pupilsFrom_24 3 rfl rfl (by decide) rfl ?_
        refine b_sub [1, 2, 3, 0, 4] rfl ?_
        exact w_X9_pupilsFrom_27 C hR (f_X9_pupilsFrom_5 n) ih _ _ _ _ _ hf
set_option maxHeartbeats 4000000 in
set_option maxRecDepth 100000 in
theorem c_X9_pupilsFrom (x1 x2 : Int32) (l : Launch) : Cti l yX9_pupilsFrom wsX9_pupilsFrom 1 21 (fun G => [.ref (G.1 (9)), .int (x1), .int (x2)]) (f_X9_pupilsFrom x1 x2) := by
  refine mk_i (cc := cX9_pupilsFrom) (nL := 5) (own := RX9) (by decide) rfl rfl (fun _ => Nat.le_of_ble_eq_true rfl) (fun X o σ rv C hR hf => ?_)
  show Bk X 5 o 0 0 0 [(0, .ref (ad X (9))), (1, .int (x1)), (2, .int (x2))] [] σ
  unfold f_X9_pupilsFrom at hf
  refine b_iconst C (v := 0) dX9_pupilsFrom_0 (by decide) ?_
  refine b_istore_n (lv' := [(3, .int (0)), (0, .ref (ad X (9))), (1, .int (x1)), (2, .int (x2))]) C dX9_pupilsFrom_1 rfl (by decide) rfl ?_
  refine b_iconst C (v := 0) dX9_pupilsFrom_2 (by decide) ?_
  refine b_istore (lv' := [(4, .int (0)), (3, .int (0)), (0, .ref (ad X (9))), (1, .int (x1)), (2, .int (x2))]) C dX9_pupilsFrom_3 (by decide) rfl ?_
  refine b_sub [2, 3, 4, 1, 0] rfl ?_
  exact w_X9_pupilsFrom_5 C hR FUEL _ _ _ _ _ hf
theorem hiX9_gradeNow_9 : ∀ w ∈ wsX90, w ∈ wsX9_gradeNow := by decide +kernel
theorem kX9_gradeNow_181 : Cond.fieldLink RX9 181 "ScriptRoom" "firstLine" "I" ∈ wsX9_gradeNow := by decide +kernel
theorem kX9_gradeNow_184 : Cond.fieldLink RX9 184 "ScriptRoom" "secondLine" "I" ∈ wsX9_gradeNow := by decide +kernel
theorem kX9_gradeNow_187 : Cond.fieldLink RX9 187 "ScriptRoom" "thirdLine" "I" ∈ wsX9_gradeNow := by decide +kernel
set_option maxHeartbeats 4000000 in
set_option maxRecDepth 100000 in
theorem w_X9_gradeNow_46 {X : Ctx} {o : Int64} {rv : Int32 × Mem} (C : Cx X cX9_gradeNow RX9 wsX9_gradeNow 3 5 114) (hR : Rt X cX9_gradeNow 3 o rv) : ∀ (s0 : Int32) (σ : Mem), some rv = f_X9_gradeNow_46 s0 σ → Bk X 3 o 0 0 46 [] [.int (s0)] σ := by
  intro s0 σ hf
  unfold f_X9_gradeNow_46 at hf
  exact hR _ _ _ _ dX9_gradeNow_46 hf
set_option maxHeartbeats 4000000 in
set_option maxRecDepth 100000 in
theorem c_X9_gradeNow (x1 : Int32) (l : Launch) : Cti l yX9_gradeNow wsX9_gradeNow 5 114 (fun G => [.ref (G.1 (9)), .int (x1)]) (f_X9_gradeNow x1) := by
  refine mk_i (cc := cX9_gradeNow) (nL := 3) (own := RX9) (by decide) rfl rfl (fun _ => Nat.le_of_ble_eq_true rfl) (fun X o σ rv C hR hf => ?_)
  show Bk X 3 o 0 0 0 [(0, .ref (ad X (9))), (1, .int (x1))] [] σ
  unfold f_X9_gradeNow at hf
  refine b_aload_n C dX9_gradeNow_0 rfl 0 rfl ?_
  refine b_iload_n C dX9_gradeNow_1 rfl 1 rfl ?_
  obtain ⟨y1, τ2, hqy1, hf⟩ := bd_inv hf
  refine b_callVi (n := 1) C (9) 9 (isObj_s (by decide) (by decide)) rfl (fun _ => [.int (x1)]) (c_X9_totalNow (x1)) hqy1 gX9_gradeNow_X9_totalNow rfl (by decide +kernel) rfl (by decide) (by decide) (Nat.le_of_ble_eq_true rfl) dX9_gradeNow_2 ?_
  refine b_istore_n (lv' := [(2, .int (y1)), (0, .ref (ad X (9))), (1, .int (x1))]) C dX9_gradeNow_5 rfl (by decide) rfl ?_
  refine b_iload_n C dX9_gradeNow_6 rfl 0 rfl ?_
  refine b_iconst C (v := (-1)) dX9_gradeNow_7 (by decide) ?_
  refine b_icmp_ne C 13 dX9_gradeNow_8 (by decide) hf (fun hf => ?_) (fun hf => ?_)
  · refine b_iload_n C dX9_gradeNow_13 rfl 0 rfl ?_
    refine b_aload_n C dX9_gradeNow_14 rfl 1 rfl ?_
    refine b_getS C hiX9_gradeNow_9 9 11 18 (by decide) (by decide) rfl (by decide) kX9_gradeNow_181 rfl rfl dX9_gradeNow_15 ?_
    refine b_icmp_lt C 23 dX9_gradeNow_18 (by decide) hf (fun hf => ?_) (fun hf => ?_)
    · refine b_iload_n C dX9_gradeNow_23 rfl 0 rfl ?_
      refine b_aload_n C dX9_gradeNow_24 rfl 1 rfl ?_
      refine b_getS C hiX9_gradeNow_9 9 12 19 (by decide) (by decide) rfl (by decide) kX9_gradeNow_184 rfl rfl dX9_gradeNow_25 ?_
      refine b_icmp_lt C 33 dX9_gradeNow_28 (by decide) hf (fun hf => ?_) (fun hf => ?_)
      · refine b_iload_n C dX9_gradeNow_33 rfl 0 rfl ?_
        refine b_aload_n C dX9_gradeNow_34 rfl 1 rfl ?_
        refine b_getS C hiX9_gradeNow_9 9 13 20 (by decide) (by decide) rfl (by decide) kX9_gradeNow_187 rfl rfl dX9_gradeNow_35 ?_
        refine b_icmp_lt C 45 dX9_gradeNow_38 (by decide) hf (fun hf => ?_) (fun hf => ?_)
        · refine b_iconst C (v := 0) dX9_gradeNow_45 (by decide) ?_
          refine b_sub [] rfl ?_
          exact w_X9_gradeNow_46 C hR _ _ hf
        · refine b_iconst C (v := 1) dX9_gradeNow_41 (by decide) ?_
          refine b_goto C 46 dX9_gradeNow_42 (by decide) ?_
          refine b_sub [] rfl ?_
          exact w_X9_gradeNow_46 C hR _ _ hf
      · refine b_iconst C (v := 2) dX9_gradeNow_31 (by decide) ?_
        exact hR _ _ _ _ dX9_gradeNow_32 hf
    · refine b_iconst C (v := 3) dX9_gradeNow_21 (by decide) ?_
      exact hR _ _ _ _ dX9_gradeNow_22 hf
  · refine b_iconst C (v := (-1)) dX9_gradeNow_11 (by decide) ?_
    exact hR _ _ _ _ dX9_gradeNow_12 hf
theorem hiX9_findReading_2 : ∀ w ∈ wsX20, w ∈ wsX9_findReading := by decide +kernel
theorem hiX9_findReading_4 : ∀ w ∈ wsX40, w ∈ wsX9_findReading := by decide +kernel
theorem hiX9_findReading_9 : ∀ w ∈ wsX90, w ∈ wsX9_findReading := by decide +kernel
theorem kX9_findReading_54 : Cond.fieldLink RX9 54 "ScriptRoom" "log" "LScriptRoom$Log;" ∈ wsX9_findReading := by decide +kernel
theorem kX9_findReading_164 : Cond.fieldLink RX9 164 "ScriptRoom$Log" "count" "I" ∈ wsX9_findReading := by decide +kernel
theorem kX9_findReading_375 : Cond.fieldLink RX9 375 "ScriptRoom$Log" "answers" "LScriptRoom$Row;" ∈ wsX9_findReading := by decide +kernel
theorem kX9_findReading_369 : Cond.fieldLink RX9 369 "ScriptRoom$Log" "appeals" "LScriptRoom$Row;" ∈ wsX9_findReading := by decide +kernel
theorem kX9_findReading_40 : Cond.fieldLink RX9 40 "ScriptRoom" "readers" "LScriptRoom$Readers;" ∈ wsX9_findReading := by decide +kernel
theorem kX9_findReading_318 : Cond.fieldLink RX9 318 "ScriptRoom$Readers" "senior" "LScriptRoom$Row;" ∈ wsX9_findReading := by decide +kernel
theorem kX9_findReading_331 : Cond.fieldLink RX9 331 "ScriptRoom$Log" "readers" "LScriptRoom$Row;" ∈ wsX9_findReading := by decide +kernel
set_option maxHeartbeats 4000000 in
set_option maxRecDepth 100000 in
theorem w_X9_findReading_98 {X : Ctx} {o : Int64} {rv : Int32 × Mem} (C : Cx X cX9_findReading RX9 wsX9_findReading 6 3 64) (hR : Rt X cX9_findReading 6 o rv) (k3 : Int32 → Int32 → Int32 → Int32 → Mem → Option (Int32 × Mem)) (h3 : ∀ (v1 v3 v4 v5 : Int32) (σ : Mem), some rv = k3 v1 v3 v4 v5 σ → Bk X 6 o 0 0 3 [(0, .ref (ad X (9))), (1, .int (v1)), (3, .int (v3)), (4, .int (v4)), (5, .int (v5))] [] σ) : ∀ (v1 v3 v4 v5 : Int32) (σ : Mem), some rv = f_X9_findReading_98 k3 v1 v3 v4 v5 σ → Bk X 6 o 0 0 98 [(0, .ref (ad X (9))), (1, .int (v1)), (3, .int (v3)), (4, .int (v4)), (5, .int (v5))] [] σ := by
  intro v1 v3 v4 v5 σ hf
  unfold f_X9_findReading_98 at hf
  refine b_iinc (v := (v5) + (1)) (lv' := [(5, .int ((v5) + (1))), (0, .ref (ad X (9))), (1, .int (v1)), (3, .int (v3)), (4, .int (v4))]) C dX9_findReading_98 4 rfl rfl (by decide) rfl ?_
  refine b_goto C 3 dX9_findReading_101 (by decide) ?_
  refine b_sub [1, 2, 3, 4, 0] rfl ?_
  exact h3 _ _ _ _ _ hf
set_option maxHeartbeats 4000000 in
set_option maxRecDepth 100000 in
theorem w_X9_findReading_83 {X : Ctx} {o : Int64} {rv : Int32 × Mem} (C : Cx X cX9_findReading RX9 wsX9_findReading 6 3 64) (hR : Rt X cX9_findReading 6 o rv) (k3 : Int32 → Int32 → Int32 → Int32 → Mem → Option (Int32 × Mem)) (h3 : ∀ (v1 v3 v4 v5 : Int32) (σ : Mem), some rv = k3 v1 v3 v4 v5 σ → Bk X 6 o 0 0 3 [(0, .ref (ad X (9))), (1, .int (v1)), (3, .int (v3)), (4, .int (v4)), (5, .int (v5))] [] σ) : ∀ (v1 v3 v4 v5 : Int32) (σ : Mem), some rv = f_X9_findReading_83 k3 v1 v3 v4 v5 σ → Bk X 6 o 0 0 83 [(0, .ref (ad X (9))), (1, .int (v1)), (3, .int (v3)), (4, .int (v4)), (5, .int (v5))] [] σ := by
  intro v1 v3 v4 v5 σ hf
  unfold f_X9_findReading_83 at hf
  refine b_aload_n C dX9_findReading_83 rfl 0 rfl ?_
  refine b_iload C dX9_findReading_84 4 rfl ?_
  refine b_iload_n C dX9_findReading_86 rfl 1 rfl ?_
  refine b_iconst C (v := 4) dX9_findReading_87 (by decide) ?_
  refine b_irem C dX9_findReading_88 (by decide) ?_
  obtain ⟨y1, τ2, hqy1, hf⟩ := bd_inv hf
  refine b_callVi (n := 2) C (9) 9 (isObj_s (by decide) (by decide)) rfl (fun _ => [.int (v5), .int ((v1) - (v1) / (4) * (4))]) (c_X9_isCounting (v5) ((v1) - (v1) / (4) * (4))) hqy1 gX9_findReading_X9_isCounting rfl (by decide +kernel) rfl (by decide) (by decide) (Nat.le_of_ble_eq_true rfl) dX9_findReading_89 ?_
  refine b_if_eq C 98 dX9_findReading_92 (by decide) hf (fun hf => ?_) (fun hf => ?_)
  · exact w_X9_findReading_98 C hR k3 h3 _ _ _ _ _ hf
  · refine b_iload C dX9_findReading_95 4 rfl ?_
    exact hR _ _ _ _ dX9_findReading_97 hf
set_option maxHeartbeats 4000000 in
set_option maxRecDepth 100000 in
theorem w_X9_findReading_3 {X : Ctx} {o : Int64} {rv : Int32 × Mem} (C : Cx X cX9_findReading RX9 wsX9_findReading 6 3 64) (hR : Rt X cX9_findReading 6 o rv) : ∀ (n : Nat) (v1 v3 v4 v5 : Int32) (σ : Mem), some rv = f_X9_findReading_3 n v1 v3 v4 v5 σ → Bk X 6 o 0 0 3 [(0, .ref (ad X (9))), (1, .int (v1)), (3, .int (v3)), (4, .int (v4)), (5, .int (v5))] [] σ := by
  intro n
  induction n with
  | zero =>
    intro v1 v3 v4 v5 σ hf
    rw [f_X9_findReading_3] at hf
    cases hf
  | succ n ih =>
    intro v1 v3 v4 v5 σ hf
    rw [f_X9_findReading_3] at hf
    refine b_iload C dX9_findReading_3 4 rfl ?_
    refine b_aload_n C dX9_findReading_5 rfl 0 rfl ?_
    refine b_getR C hiX9_findReading_9 9 6 (2) (by decide) (by decide) rfl (by decide) kX9_findReading_54 rfl rfl dX9_findReading_6 ?_
    refine b_getS C hiX9_findReading_2 2 0 6 (by decide) (by decide) rfl (by decide) kX9_findReading_164 rfl rfl dX9_findReading_9 ?_
    refine b_icmp_ge C 104 dX9_findReading_12 (by decide) hf (fun hf => ?_) (fun hf => ?_)
    · refine b_aload_n C dX9_findReading_104 rfl 0 rfl ?_
      refine b_getR C hiX9_findReading_9 9 6 (2) (by decide) (by decide) rfl (by decide) kX9_findReading_54 rfl rfl dX9_findReading_105 ?_
      refine b_getS C hiX9_findReading_2 2 0 6 (by decide) (by decide) rfl (by decide) kX9_findReading_164 rfl rfl dX9_findReading_108 ?_
      exact hR _ _ _ _ dX9_findReading_111 hf
    · refine b_aload_n C dX9_findReading_15 rfl 0 rfl ?_
      refine b_getR C hiX9_findReading_9 9 6 (2) (by decide) (by decide) rfl (by decide) kX9_findReading_54 rfl rfl dX9_findReading_16 ?_
      refine b_getR C hiX9_findReading_2 2 1 (11 + 2) (by decide) (by decide) rfl (by decide) kX9_findReading_375 rfl rfl dX9_findReading_19 ?_
      refine b_iload C dX9_findReading_22 4 rfl ?_
      refine b_callVi (n := 1) C (11 + 2) 5 (isObj_r (by decide)) rfl (fun _ => [.int (v5)]) (c_X5_get 2 (by decide) (v5)) (e_get 2 (by decide) (v5) _) gX9_findReading_X5_get rfl (by decide +kernel) rfl (by decide) (by decide) (Nat.le_of_ble_eq_true rfl) dX9_findReading_24 ?_
      refine b_iload_n C dX9_findReading_27 rfl 1 rfl ?_
      refine b_icmp_ne C 98 dX9_findReading_28 (by decide) hf (fun hf => ?_) (fun hf => ?_)
      · exact w_X9_findReading_98 C hR (f_X9_findReading_3 n) ih _ _ _ _ _ hf
      · refine b_aload_n C dX9_findReading_31 rfl 0 rfl ?_
        refine b_getR C hiX9_findReading_9 9 6 (2) (by decide) (by decide) rfl (by decide) kX9_findReading_54 rfl rfl dX9_findReading_32 ?_
        refine b_getR C hiX9_findReading_2 2 6 (11 + 7) (by decide) (by decide) rfl (by decide) kX9_findReading_369 rfl rfl dX9_findReading_35 ?_
        refine b_iload C dX9_findReading_38 4 rfl ?_
        refine b_callVi (n := 1) C (11 + 7) 5 (isObj_r (by decide)) rfl (fun _ => [.int (v5)]) (c_X5_is 7 (by decide) (v5)) (e_is 7 (by decide) (v5) _) gX9_findReading_X5_is rfl (by decide +kernel) rfl (by decide) (by decide) (Nat.le_of_ble_eq_true rfl) dX9_findReading_40 ?_
        refine b_iload_n C dX9_findReading_43 rfl 2 rfl ?_
        refine b_icmp_eq C 50 dX9_findReading_44 (by decide) hf (fun hf => ?_) (fun hf => ?_)
        · refine b_iload C dX9_findReading_50 3 rfl ?_
          refine b_if_eq C 83 dX9_findReading_52 (by decide) hf (fun hf => ?_) (fun hf => ?_)
          · exact w_X9_findReading_83 C hR (f_X9_findReading_3 n) ih _ _ _ _ _ hf
          · refine b_aload_n C dX9_findReading_55 rfl 0 rfl ?_
            refine b_getR C hiX9_findReading_9 9 4 (4) (by decide) (by decide) rfl (by decide) kX9_findReading_40 rfl rfl dX9_findReading_56 ?_
            refine b_getR C hiX9_findReading_4 4 2 (11 + 20) (by decide) (by decide) rfl (by decide) kX9_findReading_318 rfl rfl dX9_findReading_59 ?_
            refine b_aload_n C dX9_findReading_62 rfl 0 rfl ?_
            refine b_getR C hiX9_findReading_9 9 6 (2) (by decide) (by decide) rfl (by decide) kX9_findReading_54 rfl rfl dX9_findReading_63 ?_
            refine b_getR C hiX9_findReading_2 2 2 (11 + 3) (by decide) (by decide) rfl (by decide) kX9_findReading_331 rfl rfl dX9_findReading_66 ?_
            refine b_iload C dX9_findReading_69 4 rfl ?_
            refine b_callVi (n := 1) C (11 + 3) 5 (isObj_r (by decide)) rfl (fun _ => [.int (v5)]) (c_X5_get 3 (by decide) (v5)) (e_get 3 (by decide) (v5) _) gX9_findReading_X5_get rfl (by decide +kernel) rfl (by decide) (by decide) (Nat.le_of_ble_eq_true rfl) dX9_findReading_71 ?_
            refine b_callVi (n := 1) C (11 + 20) 5 (isObj_r (by decide)) rfl (fun _ => [.int (rget 3 (v5) σ)]) (c_X5_is 20 (by decide) (rget 3 (v5) σ)) (e_is 20 (by decide) (rget 3 (v5) σ) _) gX9_findReading_X5_is rfl (by decide +kernel) rfl (by decide) (by decide) (Nat.le_of_ble_eq_true rfl) dX9_findReading_74 ?_
            refine b_if_ne C 83 dX9_findReading_77 (by decide) hf (fun hf => ?_) (fun hf => ?_)
            · exact w_X9_findReading_83 C hR (f_X9_findReading_3 n) ih _ _ _ _ _ hf
            · refine b_goto C 98 dX9_findReading_80 (by decide) ?_
              exact w_X9_findReading_98 C hR (f_X9_findReading_3 n) ih _ _ _ _ _ hf
        · refine b_goto C 98 dX9_findReading_47 (by decide) ?_
          exact w_X9_findReading_98 C hR (f_X9_findReading_3 n) ih _ _ _ _ _ hf
set_option maxHeartbeats 4000000 in
set_option maxRecDepth 100000 in
theorem c_X9_findReading (x1 x2 x3 x4 : Int32) (l : Launch) : Cti l yX9_findReading wsX9_findReading 3 64 (fun G => [.ref (G.1 (9)), .int (x1), .int (x2), .int (x3), .int (x4)]) (f_X9_findReading x1 x2 x3 x4) := by
  refine mk_i (cc := cX9_findReading) (nL := 6) (own := RX9) (by decide) rfl rfl (fun _ => Nat.le_of_ble_eq_true rfl) (fun X o σ rv C hR hf => ?_)
  show Bk X 6 o 0 0 0 [(0, .ref (ad X (9))), (1, .int (x1)), (2, .int (x2)), (3, .int (x3)), (4, .int (x4))] [] σ
  unfold f_X9_findReading at hf
  refine b_iload_n C dX9_findReading_0 rfl 2 rfl ?_
  refine b_istore (lv' := [(5, .int (x2)), (0, .ref (ad X (9))), (1, .int (x1)), (2, .int (x2)), (3, .int (x3)), (4, .int (x4))]) C dX9_findReading_1 (by decide) rfl ?_
  refine b_sub [1, 2, 4, 5, 0] rfl ?_
  exact w_X9_findReading_3 C hR FUEL _ _ _ _ _ hf
theorem hiX9_markFound_2 : ∀ w ∈ wsX20, w ∈ wsX9_markFound := by decide +kernel
theorem hiX9_markFound_9 : ∀ w ∈ wsX90, w ∈ wsX9_markFound := by decide +kernel
theorem kX9_markFound_54 : Cond.fieldLink RX9 54 "ScriptRoom" "log" "LScriptRoom$Log;" ∈ wsX9_markFound := by decide +kernel
theorem kX9_markFound_164 : Cond.fieldLink RX9 164 "ScriptRoom$Log" "count" "I" ∈ wsX9_markFound := by decide +kernel
theorem kX9_markFound_26 : Cond.fieldLink RX9 26 "ScriptRoom" "schemes" "LScriptRoom$Schemes;" ∈ wsX9_markFound := by decide +kernel
theorem kX9_markFound_375 : Cond.fieldLink RX9 375 "ScriptRoom$Log" "answers" "LScriptRoom$Row;" ∈ wsX9_markFound := by decide +kernel
theorem kX9_markFound_365 : Cond.fieldLink RX9 365 "ScriptRoom$Log" "points" "LScriptRoom$Row;" ∈ wsX9_markFound := by decide +kernel
set_option maxHeartbeats 4000000 in
set_option maxRecDepth 100000 in
theorem w_X9_markFound_46 {X : Ctx} {o : Int64} {rv : Int32 × Mem} (C : Cx X cX9_markFound RX9 wsX9_markFound 2 4 95) (hR : Rt X cX9_markFound 2 o rv) : ∀ (s0 : Int32) (σ : Mem), some rv = f_X9_markFound_46 s0 σ → Bk X 2 o 0 0 46 [] [.int (s0)] σ := by
  intro s0 σ hf
  unfold f_X9_markFound_46 at hf
  exact hR _ _ _ _ dX9_markFound_46 hf
set_option maxHeartbeats 4000000 in
set_option maxRecDepth 100000 in
theorem c_X9_markFound (x1 : Int32) (l : Launch) : Cti l yX9_markFound wsX9_markFound 4 95 (fun G => [.ref (G.1 (9)), .int (x1)]) (f_X9_markFound x1) := by
  refine mk_i (cc := cX9_markFound) (nL := 2) (own := RX9) (by decide) rfl rfl (fun _ => Nat.le_of_ble_eq_true rfl) (fun X o σ rv C hR hf => ?_)
  show Bk X 2 o 0 0 0 [(0, .ref (ad X (9))), (1, .int (x1))] [] σ
  unfold f_X9_markFound at hf
  refine b_iload_n C dX9_markFound_0 rfl 1 rfl ?_
  refine b_aload_n C dX9_markFound_1 rfl 0 rfl ?_
  refine b_getR C hiX9_markFound_9 9 6 (2) (by decide) (by decide) rfl (by decide) kX9_markFound_54 rfl rfl dX9_markFound_2 ?_
  refine b_getS C hiX9_markFound_2 2 0 6 (by decide) (by decide) rfl (by decide) kX9_markFound_164 rfl rfl dX9_markFound_5 ?_
  refine b_icmp_ge C 45 dX9_markFound_8 (by decide) hf (fun hf => ?_) (fun hf => ?_)
  · refine b_iconst C (v := (-1)) dX9_markFound_45 (by decide) ?_
    refine b_sub [] rfl ?_
    exact w_X9_markFound_46 C hR _ _ hf
  · refine b_aload_n C dX9_markFound_11 rfl 0 rfl ?_
    refine b_getR C hiX9_markFound_9 9 2 (6) (by decide) (by decide) rfl (by decide) kX9_markFound_26 rfl rfl dX9_markFound_12 ?_
    refine b_aload_n C dX9_markFound_15 rfl 0 rfl ?_
    refine b_getR C hiX9_markFound_9 9 6 (2) (by decide) (by decide) rfl (by decide) kX9_markFound_54 rfl rfl dX9_markFound_16 ?_
    refine b_getR C hiX9_markFound_2 2 1 (11 + 2) (by decide) (by decide) rfl (by decide) kX9_markFound_375 rfl rfl dX9_markFound_19 ?_
    refine b_iload_n C dX9_markFound_22 rfl 1 rfl ?_
    refine b_callVi (n := 1) C (11 + 2) 5 (isObj_r (by decide)) rfl (fun _ => [.int (x1)]) (c_X5_get 2 (by decide) (x1)) (e_get 2 (by decide) (x1) _) gX9_markFound_X5_get rfl (by decide +kernel) rfl (by decide) (by decide) (Nat.le_of_ble_eq_true rfl) dX9_markFound_23 ?_
    refine b_iconst C (v := 4) dX9_markFound_26 (by decide) ?_
    refine b_irem C dX9_markFound_27 (by decide) ?_
    refine b_aload_n C dX9_markFound_28 rfl 0 rfl ?_
    refine b_getR C hiX9_markFound_9 9 6 (2) (by decide) (by decide) rfl (by decide) kX9_markFound_54 rfl rfl dX9_markFound_29 ?_
    refine b_getR C hiX9_markFound_2 2 3 (11 + 4) (by decide) (by decide) rfl (by decide) kX9_markFound_365 rfl rfl dX9_markFound_32 ?_
    refine b_iload_n C dX9_markFound_35 rfl 1 rfl ?_
    refine b_callVi (n := 1) C (11 + 4) 5 (isObj_r (by decide)) rfl (fun _ => [.int (x1)]) (c_X5_get 4 (by decide) (x1)) (e_get 4 (by decide) (x1) _) gX9_markFound_X5_get rfl (by decide +kernel) rfl (by decide) (by decide) (Nat.le_of_ble_eq_true rfl) dX9_markFound_36 ?_
    obtain ⟨y1, τ2, hqy1, hf⟩ := bd_inv hf
    refine b_callVi (n := 2) C (6) 6 (isObj_s (by decide) (by decide)) rfl (fun _ => [.int ((rget 2 (x1) σ) - (rget 2 (x1) σ) / (4) * (4)), .int (rget 4 (x1) σ)]) (c_X6_markByLatest ((rget 2 (x1) σ) - (rget 2 (x1) σ) / (4) * (4)) (rget 4 (x1) σ)) hqy1 gX9_markFound_X6_markByLatest rfl (by decide +kernel) rfl (by decide) (by decide) (Nat.le_of_ble_eq_true rfl) dX9_markFound_39 ?_
    refine b_goto C 46 dX9_markFound_42 (by decide) ?_
    refine b_sub [] rfl ?_
    exact w_X9_markFound_46 C hR _ _ hf
theorem hiX9_doubleFromLog_9 : ∀ w ∈ wsX90, w ∈ wsX9_doubleFromLog := by decide +kernel
theorem kX9_doubleFromLog_77 : Cond.fieldLink RX9 77 "ScriptRoom" "apartAtMost" "I" ∈ wsX9_doubleFromLog := by decide +kernel
set_option maxHeartbeats 4000000 in
set_option maxRecDepth 100000 in
theorem w_X9_doubleFromLog_46 {X : Ctx} {o : Int64} {rv : Int32 × Mem} (C : Cx X cX9_doubleFromLog RX9 wsX9_doubleFromLog 6 5 116) (hR : Rt X cX9_doubleFromLog 6 o rv) : ∀ (σ : Mem), some rv = f_X9_doubleFromLog_46 σ → Bk X 6 o 0 0 46 [] [] σ := by
  intro σ hf
  unfold f_X9_doubleFromLog_46 at hf
  refine b_iconst C (v := (-1)) dX9_doubleFromLog_46 (by decide) ?_
  exact hR _ _ _ _ dX9_doubleFromLog_47 hf
set_option maxHeartbeats 4000000 in
set_option maxRecDepth 100000 in
theorem c_X9_doubleFromLog (x1 : Int32) (l : Launch) : Cti l yX9_doubleFromLog wsX9_doubleFromLog 5 116 (fun G => [.ref (G.1 (9)), .int (x1)]) (f_X9_doubleFromLog x1) := by
  refine mk_i (cc := cX9_doubleFromLog) (nL := 6) (own := RX9) (by decide) rfl rfl (fun _ => Nat.le_of_ble_eq_true rfl) (fun X o σ rv C hR hf => ?_)
  show Bk X 6 o 0 0 0 [(0, .ref (ad X (9))), (1, .int (x1))] [] σ
  unfold f_X9_doubleFromLog at hf
  refine b_aload_n C dX9_doubleFromLog_0 rfl 0 rfl ?_
  refine b_iload_n C dX9_doubleFromLog_1 rfl 1 rfl ?_
  refine b_iconst C (v := 0) dX9_doubleFromLog_2 (by decide) ?_
  refine b_iconst C (v := 0) dX9_doubleFromLog_3 (by decide) ?_
  refine b_iconst C (v := 0) dX9_doubleFromLog_4 (by decide) ?_
  obtain ⟨y1, τ2, hqy1, hf⟩ := bd_inv hf
  refine b_callVi (n := 4) C (9) 9 (isObj_s (by decide) (by decide)) rfl (fun _ => [.int (x1), .int (0), .int (0), .int (0)]) (c_X9_findReading (x1) (0) (0) (0)) hqy1 gX9_doubleFromLog_X9_findReading rfl (by decide +kernel) rfl (by decide) (by decide) (Nat.le_of_ble_eq_true rfl) dX9_doubleFromLog_5 ?_
  refine b_istore_n (lv' := [(2, .int (y1)), (0, .ref (ad X (9))), (1, .int (x1))]) C dX9_doubleFromLog_8 rfl (by decide) rfl ?_
  refine b_aload_n C dX9_doubleFromLog_9 rfl 1 rfl ?_
  refine b_iload_n C dX9_doubleFromLog_10 rfl 2 rfl ?_
  refine b_iload_n C dX9_doubleFromLog_11 rfl 0 rfl ?_
  refine b_iconst C (v := 1) dX9_doubleFromLog_12 (by decide) ?_
  refine b_iadd C dX9_doubleFromLog_13 ?_
  refine b_iconst C (v := 0) dX9_doubleFromLog_14 (by decide) ?_
  refine b_iconst C (v := 0) dX9_doubleFromLog_15 (by decide) ?_
  obtain ⟨y3, τ4, hqy3, hf⟩ := bd_inv hf
  refine b_callVi (n := 4) C (9) 9 (isObj_s (by decide) (by decide)) rfl (fun _ => [.int (x1), .int ((y1) + (1)), .int (0), .int (0)]) (c_X9_findReading (x1) ((y1) + (1)) (0) (0)) hqy3 gX9_doubleFromLog_X9_findReading rfl (by decide +kernel) rfl (by decide) (by decide) (Nat.le_of_ble_eq_true rfl) dX9_doubleFromLog_16 ?_
  refine b_istore_n (lv' := [(3, .int (y3)), (2, .int (y1)), (0, .ref (ad X (9))), (1, .int (x1))]) C dX9_doubleFromLog_19 rfl (by decide) rfl ?_
  refine b_aload_n C dX9_doubleFromLog_20 rfl 2 rfl ?_
  refine b_iload_n C dX9_doubleFromLog_21 rfl 1 rfl ?_
  obtain ⟨y5, τ6, hqy5, hf⟩ := bd_inv hf
  refine b_callVi (n := 1) C (9) 9 (isObj_s (by decide) (by decide)) rfl (fun _ => [.int (y1)]) (c_X9_markFound (y1)) hqy5 gX9_doubleFromLog_X9_markFound rfl (by decide +kernel) rfl (by decide) (by decide) (Nat.le_of_ble_eq_true rfl) dX9_doubleFromLog_22 ?_
  refine b_istore (lv' := [(4, .int (y5)), (3, .int (y3)), (2, .int (y1)), (0, .ref (ad X (9))), (1, .int (x1))]) C dX9_doubleFromLog_25 (by decide) rfl ?_
  refine b_aload_n C dX9_doubleFromLog_27 rfl 3 rfl ?_
  refine b_iload_n C dX9_doubleFromLog_28 rfl 1 rfl ?_
  obtain ⟨y7, τ8, hqy7, hf⟩ := bd_inv hf
  refine b_callVi (n := 1) C (9) 9 (isObj_s (by decide) (by decide)) rfl (fun _ => [.int (y3)]) (c_X9_markFound (y3)) hqy7 gX9_doubleFromLog_X9_markFound rfl (by decide +kernel) rfl (by decide) (by decide) (Nat.le_of_ble_eq_true rfl) dX9_doubleFromLog_29 ?_
  refine b_istore (lv' := [(5, .int (y7)), (4, .int (y5)), (3, .int (y3)), (2, .int (y1)), (0, .ref (ad X (9))), (1, .int (x1))]) C dX9_doubleFromLog_32 (by decide) rfl ?_
  refine b_iload C dX9_doubleFromLog_34 1 rfl ?_
  refine b_iconst C (v := (-1)) dX9_doubleFromLog_36 (by decide) ?_
  refine b_icmp_eq C 46 dX9_doubleFromLog_37 (by decide) hf (fun hf => ?_) (fun hf => ?_)
  · refine b_sub [] rfl ?_
    exact w_X9_doubleFromLog_46 C hR _ hf
  · refine b_iload C dX9_doubleFromLog_40 0 rfl ?_
    refine b_iconst C (v := (-1)) dX9_doubleFromLog_42 (by decide) ?_
    refine b_icmp_ne C 48 dX9_doubleFromLog_43 (by decide) hf (fun hf => ?_) (fun hf => ?_)
    · refine b_iload C dX9_doubleFromLog_48 1 rfl ?_
      refine b_iload C dX9_doubleFromLog_50 0 rfl ?_
      refine b_aload_n C dX9_doubleFromLog_52 rfl 4 rfl ?_
      refine b_getS C hiX9_doubleFromLog_9 9 10 17 (by decide) (by decide) rfl (by decide) kX9_doubleFromLog_77 rfl rfl dX9_doubleFromLog_53 ?_
      obtain ⟨y9, τ10, hqy9, hf⟩ := bd_inv hf
      refine b_callSi (n := 3) C (fun _ => [.int (y5), .int (y7), .int (τ8 76 17)]) (c_X9_areApart (y5) (y7) (τ8 76 17)) hqy9 gX9_doubleFromLog_X9_areApart rfl (by decide +kernel) rfl (by decide) (by decide) (Nat.le_of_ble_eq_true rfl) dX9_doubleFromLog_56 ?_
      refine b_if_ne C 72 dX9_doubleFromLog_59 (by decide) hf (fun hf => ?_) (fun hf => ?_)
      · refine b_aload_n C dX9_doubleFromLog_72 rfl 4 rfl ?_
        refine b_aload_n C dX9_doubleFromLog_73 rfl 4 rfl ?_
        refine b_iload_n C dX9_doubleFromLog_74 rfl 5 rfl ?_
        refine b_iload_n C dX9_doubleFromLog_75 rfl 2 rfl ?_
        refine b_iconst C (v := 1) dX9_doubleFromLog_76 (by decide) ?_
        refine b_iadd C dX9_doubleFromLog_77 ?_
        refine b_iconst C (v := 0) dX9_doubleFromLog_78 (by decide) ?_
        refine b_iconst C (v := 1) dX9_doubleFromLog_79 (by decide) ?_
        obtain ⟨y11, τ12, hqy11, hf⟩ := bd_inv hf
        refine b_callVi (n := 4) C (9) 9 (isObj_s (by decide) (by decide)) rfl (fun _ => [.int (x1), .int ((y3) + (1)), .int (0), .int (1)]) (c_X9_findReading (x1) ((y3) + (1)) (0) (1)) hqy11 gX9_doubleFromLog_X9_findReading rfl (by decide +kernel) rfl (by decide) (by decide) (Nat.le_of_ble_eq_true rfl) dX9_doubleFromLog_80 ?_
        obtain ⟨y13, τ14, hqy13, hf⟩ := bd_inv hf
        refine b_callVi (n := 1) C (9) 9 (isObj_s (by decide) (by decide)) rfl (fun _ => [.int (y11)]) (c_X9_markFound (y11)) hqy13 gX9_doubleFromLog_X9_markFound rfl (by decide +kernel) rfl (by decide) (by decide) (Nat.le_of_ble_eq_true rfl) dX9_doubleFromLog_83 ?_
        exact hR _ _ _ _ dX9_doubleFromLog_86 hf
      · refine b_iload C dX9_doubleFromLog_62 1 rfl ?_
        refine b_iload C dX9_doubleFromLog_64 0 rfl ?_
        refine b_iadd C dX9_doubleFromLog_66 ?_
        refine b_iconst C (v := 1) dX9_doubleFromLog_67 (by decide) ?_
        refine b_iadd C dX9_doubleFromLog_68 ?_
        refine b_iconst C (v := 2) dX9_doubleFromLog_69 (by decide) ?_
        refine b_idiv C dX9_doubleFromLog_70 (by decide) ?_
        exact hR _ _ _ _ dX9_doubleFromLog_71 hf
    · refine b_sub [] rfl ?_
      exact w_X9_doubleFromLog_46 C hR _ hf
theorem hiX9_changed_3 : ∀ w ∈ wsX30, w ∈ wsX9_changed := by decide +kernel
theorem hiX9_changed_9 : ∀ w ∈ wsX90, w ∈ wsX9_changed := by decide +kernel
theorem kX9_changed_33 : Cond.fieldLink RX9 33 "ScriptRoom" "pupils" "LScriptRoom$Pupils;" ∈ wsX9_changed := by decide +kernel
theorem kX9_changed_84 : Cond.fieldLink RX9 84 "ScriptRoom$Pupils" "count" "I" ∈ wsX9_changed := by decide +kernel
theorem kX9_changed_200 : Cond.fieldLink RX9 200 "ScriptRoom$Pupils" "grades" "LScriptRoom$Row;" ∈ wsX9_changed := by decide +kernel
set_option maxHeartbeats 4000000 in
set_option maxRecDepth 100000 in
theorem w_X9_changed_44 {X : Ctx} {o : Int64} {rv : Int32 × Mem} (C : Cx X cX9_changed RX9 wsX9_changed 4 6 136) (hR : Rt X cX9_changed 4 o rv) (k4 : Int32 → Int32 → Mem → Option (Int32 × Mem)) (h4 : ∀ (v1 v2 : Int32) (σ : Mem), some rv = k4 v1 v2 σ → Bk X 4 o 0 0 4 [(0, .ref (ad X (9))), (1, .int (v1)), (2, .int (v2))] [] σ) : ∀ (v1 v2 : Int32) (σ : Mem), some rv = f_X9_changed_44 k4 v1 v2 σ → Bk X 4 o 0 0 44 [(0, .ref (ad X (9))), (1, .int (v1)), (2, .int (v2))] [] σ := by
  intro v1 v2 σ hf
  unfold f_X9_changed_44 at hf
  refine b_iinc (v := (v2) + (1)) (lv' := [(2, .int ((v2) + (1))), (0, .ref (ad X (9))), (1, .int (v1))]) C dX9_changed_44 2 rfl rfl (by decide) rfl ?_
  refine b_goto C 4 dX9_changed_47 (by decide) ?_
  refine b_sub [1, 2, 0] rfl ?_
  exact h4 _ _ _ hf
set_option maxHeartbeats 4000000 in
set_option maxRecDepth 100000 in
theorem w_X9_changed_4 {X : Ctx} {o : Int64} {rv : Int32 × Mem} (C : Cx X cX9_changed RX9 wsX9_changed 4 6 136) (hR : Rt X cX9_changed 4 o rv) : ∀ (n : Nat) (v1 v2 : Int32) (σ : Mem), some rv = f_X9_changed_4 n v1 v2 σ → Bk X 4 o 0 0 4 [(0, .ref (ad X (9))), (1, .int (v1)), (2, .int (v2))] [] σ := by
  intro n
  induction n with
  | zero =>
    intro v1 v2 σ hf
    rw [f_X9_changed_4] at hf
    cases hf
  | succ n ih =>
    intro v1 v2 σ hf
    rw [f_X9_changed_4] at hf
    refine b_iload_n C dX9_changed_4 rfl 2 rfl ?_
    refine b_aload_n C dX9_changed_5 rfl 0 rfl ?_
    refine b_getR C hiX9_changed_9 9 3 (3) (by decide) (by decide) rfl (by decide) kX9_changed_33 rfl rfl dX9_changed_6 ?_
    refine b_getS C hiX9_changed_3 3 0 7 (by decide) (by decide) rfl (by decide) kX9_changed_84 rfl rfl dX9_changed_9 ?_
    refine b_icmp_ge C 50 dX9_changed_12 (by decide) hf (fun hf => ?_) (fun hf => ?_)
    · refine b_iload_n C dX9_changed_50 rfl 1 rfl ?_
      exact hR _ _ _ _ dX9_changed_51 hf
    · refine b_aload_n C dX9_changed_15 rfl 0 rfl ?_
      refine b_getR C hiX9_changed_9 9 3 (3) (by decide) (by decide) rfl (by decide) kX9_changed_33 rfl rfl dX9_changed_16 ?_
      refine b_getR C hiX9_changed_3 3 4 (11 + 16) (by decide) (by decide) rfl (by decide) kX9_changed_200 rfl rfl dX9_changed_19 ?_
      refine b_iload_n C dX9_changed_22 rfl 2 rfl ?_
      refine b_callVi (n := 1) C (11 + 16) 5 (isObj_r (by decide)) rfl (fun _ => [.int (v2)]) (c_X5_get 16 (by decide) (v2)) (e_get 16 (by decide) (v2) _) gX9_changed_X5_get rfl (by decide +kernel) rfl (by decide) (by decide) (Nat.le_of_ble_eq_true rfl) dX9_changed_23 ?_
      refine b_nv hf (fun y1 hf => ?_)
      refine b_istore_n (lv' := [(3, .int (y1)), (0, .ref (ad X (9))), (1, .int (v1)), (2, .int (v2))]) C dX9_changed_26 rfl (by decide) rfl ?_
      refine b_iload_n C dX9_changed_27 rfl 0 rfl ?_
      refine b_iconst C (v := (-1)) dX9_changed_28 (by decide) ?_
      refine b_icmp_eq C 44 dX9_changed_29 (by decide) hf (fun hf => ?_) (fun hf => ?_)
      · refine b_sub [1, 2, 3] rfl ?_
        exact w_X9_changed_44 C hR (f_X9_changed_4 n) ih _ _ _ hf
      · refine b_iload_n C dX9_changed_32 rfl 0 rfl ?_
        refine b_aload_n C dX9_changed_33 rfl 1 rfl ?_
        refine b_iload_n C dX9_changed_34 rfl 3 rfl ?_
        obtain ⟨y2, τ3, hqy2, hf⟩ := bd_inv hf
        refine b_callVi (n := 1) C (9) 9 (isObj_s (by decide) (by decide)) rfl (fun _ => [.int (v2)]) (c_X9_gradeNow (v2)) hqy2 gX9_changed_X9_gradeNow rfl (by decide +kernel) rfl (by decide) (by decide) (Nat.le_of_ble_eq_true rfl) dX9_changed_35 ?_
        refine b_icmp_eq C 44 dX9_changed_38 (by decide) hf (fun hf => ?_) (fun hf => ?_)
        · refine b_sub [1, 2, 3] rfl ?_
          exact w_X9_changed_44 C hR (f_X9_changed_4 n) ih _ _ _ hf
        · refine b_iinc (v := (v1) + (1)) (lv' := [(1, .int ((v1) + (1))), (3, .int (y1)), (0, .ref (ad X (9))), (2, .int (v2))]) C dX9_changed_41 2 rfl rfl (by decide) rfl ?_
          refine b_sub [2, 0, 3] rfl ?_
          exact w_X9_changed_44 C hR (f_X9_changed_4 n) ih _ _ _ hf
set_option maxHeartbeats 4000000 in
set_option maxRecDepth 100000 in
theorem c_X9_changed (l : Launch) : Cti l yX9_changed wsX9_changed 6 136 (fun G => [.ref (G.1 (9))]) (f_X9_changed ) := by
  refine mk_i (cc := cX9_changed) (nL := 4) (own := RX9) (by decide) rfl rfl (fun _ => Nat.le_of_ble_eq_true rfl) (fun X o σ rv C hR hf => ?_)
  show Bk X 4 o 0 0 0 [(0, .ref (ad X (9)))] [] σ
  unfold f_X9_changed at hf
  refine b_iconst C (v := 0) dX9_changed_0 (by decide) ?_
  refine b_istore_n (lv' := [(1, .int (0)), (0, .ref (ad X (9)))]) C dX9_changed_1 rfl (by decide) rfl ?_
  refine b_iconst C (v := 0) dX9_changed_2 (by decide) ?_
  refine b_istore_n (lv' := [(2, .int (0)), (1, .int (0)), (0, .ref (ad X (9)))]) C dX9_changed_3 rfl (by decide) rfl ?_
  refine b_sub [2, 1, 0] rfl ?_
  exact w_X9_changed_4 C hR FUEL _ _ _ hf
set_option maxHeartbeats 4000000 in
set_option maxRecDepth 100000 in
theorem w_X9_isWithin_20 {X : Ctx} {o : Int64} {rv : Int32 × Mem} (C : Cx X cX9_isWithin RX9 wsX9_isWithin 4 2 45) (hR : Rz X cX9_isWithin 4 o rv) : ∀ (s0 : Int32) (σ : Mem), some rv = f_X9_isWithin_20 s0 σ → Bk X 4 o 0 0 20 [] [.int (s0)] σ := by
  intro s0 σ hf
  unfold f_X9_isWithin_20 at hf
  exact hR _ _ _ _ dX9_isWithin_20 hf
set_option maxHeartbeats 4000000 in
set_option maxRecDepth 100000 in
theorem c_X9_isWithin (x1 x2 x3 : Int32) (l : Launch) : Cti l yX9_isWithin wsX9_isWithin 2 45 (fun G => [.ref (G.1 (9)), .int (x1), .int (x2), .int (x3)]) (f_X9_isWithin x1 x2 x3) := by
  refine mk_z (cc := cX9_isWithin) (nL := 4) (own := RX9) (by decide) rfl rfl (fun _ => Nat.le_of_ble_eq_true rfl) (fun X o σ rv C hR hf => ?_)
  show Bk X 4 o 0 0 0 [(0, .ref (ad X (9))), (1, .int (x1)), (2, .int (x2)), (3, .int (x3))] [] σ
  unfold f_X9_isWithin at hf
  refine b_aload_n C dX9_isWithin_0 rfl 0 rfl ?_
  refine b_iload_n C dX9_isWithin_1 rfl 1 rfl ?_
  refine b_iload_n C dX9_isWithin_2 rfl 3 rfl ?_
  obtain ⟨y1, τ2, hqy1, hf⟩ := bd_inv hf
  refine b_callVi (n := 2) C (9) 9 (isObj_s (by decide) (by decide)) rfl (fun _ => [.int (x1), .int (x3)]) (c_X9_pupilsFrom (x1) (x3)) hqy1 gX9_isWithin_X9_pupilsFrom rfl (by decide +kernel) rfl (by decide) (by decide) (Nat.le_of_ble_eq_true rfl) dX9_isWithin_3 ?_
  refine b_bipush C (v := 100) dX9_isWithin_6 (by decide) ?_
  refine b_imul C dX9_isWithin_8 ?_
  refine b_iload_n C dX9_isWithin_9 rfl 2 rfl ?_
  refine b_iload_n C dX9_isWithin_10 rfl 3 rfl ?_
  refine b_imul C dX9_isWithin_11 ?_
  refine b_icmp_gt C 19 dX9_isWithin_12 (by decide) hf (fun hf => ?_) (fun hf => ?_)
  · refine b_iconst C (v := 0) dX9_isWithin_19 (by decide) ?_
    refine b_sub [] rfl ?_
    exact w_X9_isWithin_20 C hR _ _ hf
  · refine b_iconst C (v := 1) dX9_isWithin_15 (by decide) ?_
    refine b_goto C 20 dX9_isWithin_16 (by decide) ?_
    refine b_sub [] rfl ?_
    exact w_X9_isWithin_20 C hR _ _ hf
theorem hiX9_wanted_3 : ∀ w ∈ wsX30, w ∈ wsX9_wanted := by decide +kernel
theorem hiX9_wanted_9 : ∀ w ∈ wsX90, w ∈ wsX9_wanted := by decide +kernel
theorem kX9_wanted_33 : Cond.fieldLink RX9 33 "ScriptRoom" "pupils" "LScriptRoom$Pupils;" ∈ wsX9_wanted := by decide +kernel
theorem kX9_wanted_84 : Cond.fieldLink RX9 84 "ScriptRoom$Pupils" "count" "I" ∈ wsX9_wanted := by decide +kernel
set_option maxHeartbeats 4000000 in
set_option maxRecDepth 100000 in
theorem w_X9_wanted_17 {X : Ctx} {o : Int64} {rv : Int32 × Mem} (C : Cx X cX9_wanted RX9 wsX9_wanted 4 3 72) (hR : Rt X cX9_wanted 4 o rv) (k4 : Int32 → Int32 → Mem → Option (Int32 × Mem)) (h4 : ∀ (v1 v2 : Int32) (σ : Mem), some rv = k4 v1 v2 σ → Bk X 4 o 0 0 4 [(0, .ref (ad X (9))), (1, .int (v1)), (2, .int (v2))] [] σ) : ∀ (n : Nat) (v1 v2 v3 : Int32) (σ : Mem), some rv = f_X9_wanted_17 k4 n v1 v2 v3 σ → Bk X 4 o 0 0 17 [(0, .ref (ad X (9))), (1, .int (v1)), (2, .int (v2)), (3, .int (v3))] [] σ := by
  intro n
  induction n with
  | zero =>
    intro v1 v2 v3 σ hf
    rw [f_X9_wanted_17] at hf
    cases hf
  | succ n ih =>
    intro v1 v2 v3 σ hf
    rw [f_X9_wanted_17] at hf
    refine b_iload_n C dX9_wanted_17 rfl 3 rfl ?_
    refine b_iconst C (v := 4) dX9_wanted_18 (by decide) ?_
    refine b_icmp_ge C 37 dX9_wanted_19 (by decide) hf (fun hf => ?_) (fun hf => ?_)
    · refine b_iinc (v := (v2) + (1)) (lv' := [(2, .int ((v2) + (1))), (0, .ref (ad X (9))), (1, .int (v1)), (3, .int (v3))]) C dX9_wanted_37 2 rfl rfl (by decide) rfl ?_
      refine b_goto C 4 dX9_wanted_40 (by decide) ?_
      refine b_sub [1, 2, 0] rfl ?_
      exact h4 _ _ _ hf
    · refine b_iload_n C dX9_wanted_22 rfl 1 rfl ?_
      refine b_aload_n C dX9_wanted_23 rfl 0 rfl ?_
      refine b_iload_n C dX9_wanted_24 rfl 2 rfl ?_
      refine b_iload_n C dX9_wanted_25 rfl 3 rfl ?_
      obtain ⟨y1, τ2, hqy1, hf⟩ := bd_inv hf
      refine b_callVi (n := 2) C (9) 9 (isObj_s (by decide) (by decide)) rfl (fun _ => [.int (v2), .int (v3)]) (c_X9_wantedBy (v2) (v3)) hqy1 gX9_wanted_X9_wantedBy rfl (by decide +kernel) rfl (by decide) (by decide) (Nat.le_of_ble_eq_true rfl) dX9_wanted_26 ?_
      refine b_iadd C dX9_wanted_29 ?_
      refine b_nv hf (fun y3 hf => ?_)
      refine b_istore_n (lv' := [(1, .int (y3)), (0, .ref (ad X (9))), (2, .int (v2)), (3, .int (v3))]) C dX9_wanted_30 rfl (by decide) rfl ?_
      refine b_iinc (v := (v3) + (1)) (lv' := [(3, .int ((v3) + (1))), (1, .int (y3)), (0, .ref (ad X (9))), (2, .int (v2))]) C dX9_wanted_31 3 rfl rfl (by decide) rfl ?_
      refine b_goto C 17 dX9_wanted_34 (by decide) ?_
      refine b_sub [2, 1, 3, 0] rfl ?_
      exact ih _ _ _ _ hf
set_option maxHeartbeats 4000000 in
set_option maxRecDepth 100000 in
theorem w_X9_wanted_4 {X : Ctx} {o : Int64} {rv : Int32 × Mem} (C : Cx X cX9_wanted RX9 wsX9_wanted 4 3 72) (hR : Rt X cX9_wanted 4 o rv) : ∀ (n : Nat) (v1 v2 : Int32) (σ : Mem), some rv = f_X9_wanted_4 n v1 v2 σ → Bk X 4 o 0 0 4 [(0, .ref (ad X (9))), (1, .int (v1)), (2, .int (v2))] [] σ := by
  intro n
  induction n with
  | zero =>
    intro v1 v2 σ hf
    rw [f_X9_wanted_4] at hf
    cases hf
  | succ n ih =>
    intro v1 v2 σ hf
    rw [f_X9_wanted_4] at hf
    refine b_iload_n C dX9_wanted_4 rfl 2 rfl ?_
    refine b_aload_n C dX9_wanted_5 rfl 0 rfl ?_
    refine b_getR C hiX9_wanted_9 9 3 (3) (by decide) (by decide) rfl (by decide) kX9_wanted_33 rfl rfl dX9_wanted_6 ?_
    refine b_getS C hiX9_wanted_3 3 0 7 (by decide) (by decide) rfl (by decide) kX9_wanted_84 rfl rfl dX9_wanted_9 ?_
    refine b_icmp_ge C 43 dX9_wanted_12 (by decide) hf (fun hf => ?_) (fun hf => ?_)
    · refine b_iload_n C dX9_wanted_43 rfl 1 rfl ?_
      exact hR _ _ _ _ dX9_wanted_44 hf
    · refine b_iconst C (v := 0) dX9_wanted_15 (by decide) ?_
      refine b_istore_n (lv' := [(3, .int (0)), (0, .ref (ad X (9))), (1, .int (v1)), (2, .int (v2))]) C dX9_wanted_16 rfl (by decide) rfl ?_
      refine b_sub [1, 2, 3, 0] rfl ?_
      exact w_X9_wanted_17 C hR (f_X9_wanted_4 n) ih FUEL _ _ _ _ hf
set_option maxHeartbeats 4000000 in
set_option maxRecDepth 100000 in
theorem c_X9_wanted (l : Launch) : Cti l yX9_wanted wsX9_wanted 3 72 (fun G => [.ref (G.1 (9))]) (f_X9_wanted ) := by
  refine mk_i (cc := cX9_wanted) (nL := 4) (own := RX9) (by decide) rfl rfl (fun _ => Nat.le_of_ble_eq_true rfl) (fun X o σ rv C hR hf => ?_)
  show Bk X 4 o 0 0 0 [(0, .ref (ad X (9)))] [] σ
  unfold f_X9_wanted at hf
  refine b_iconst C (v := 0) dX9_wanted_0 (by decide) ?_
  refine b_istore_n (lv' := [(1, .int (0)), (0, .ref (ad X (9)))]) C dX9_wanted_1 rfl (by decide) rfl ?_
  refine b_iconst C (v := 0) dX9_wanted_2 (by decide) ?_
  refine b_istore_n (lv' := [(2, .int (0)), (1, .int (0)), (0, .ref (ad X (9)))]) C dX9_wanted_3 rfl (by decide) rfl ?_
  refine b_sub [2, 1, 0] rfl ?_
  exact w_X9_wanted_4 C hR FUEL _ _ _ hf
