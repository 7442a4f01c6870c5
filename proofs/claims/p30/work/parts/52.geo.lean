/-! THE LAW'S START: a room's geometry, twice. Printed by wip/p30/gen/start.py -/
def pi0 : List Nat := [4, 1, 67, 24, 37, 0, 7, 62, 90, 5, 2, 68, 70, 72, 74, 76, 78, 80, 82, 84, 86, 88, 25, 27, 29, 31, 33, 35, 38, 40, 42, 44, 46, 48, 50, 52, 54, 56, 58, 60, 8, 10, 12, 14, 16, 18, 20, 22, 63, 65, 91, 93, 6, 3, 69, 71, 73, 75, 77, 79, 81, 83, 85, 87, 89, 26, 28, 30, 32, 34, 36, 39, 41, 43, 45, 47, 49, 51, 53, 55, 57, 59, 61, 9, 11, 13, 15, 17, 19, 21, 23, 64, 66, 92, 94]
def ad0 (q9 : Nat) (f9 : Nat → Nat) : List Nat := [f9 3, f9 0, f9 66, f9 23, f9 36, q9, f9 6, f9 61, f9 89, f9 4, f9 1, f9 67, f9 69, f9 71, f9 73, f9 75, f9 77, f9 79, f9 81, f9 83, f9 85, f9 87, f9 24, f9 26, f9 28, f9 30, f9 32, f9 34, f9 37, f9 39, f9 41, f9 43, f9 45, f9 47, f9 49, f9 51, f9 53, f9 55, f9 57, f9 59, f9 7, f9 9, f9 11, f9 13, f9 15, f9 17, f9 19, f9 21, f9 62, f9 64, f9 90, f9 92, f9 5, f9 2, f9 68, f9 70, f9 72, f9 74, f9 76, f9 78, f9 80, f9 82, f9 84, f9 86, f9 88, f9 25, f9 27, f9 29, f9 31, f9 33, f9 35, f9 38, f9 40, f9 42, f9 44, f9 46, f9 48, f9 50, f9 52, f9 54, f9 56, f9 58, f9 60, f9 8, f9 10, f9 12, f9 14, f9 16, f9 18, f9 20, f9 22, f9 63, f9 65, f9 91, f9 93]
def sg0 : Mem := fun r k => if r = 76 then (if k = 17 then 1 else 0) else 0
theorem pi0_inj : ∀ i, i < 95 → ∀ j, j < 95 → pi0.getD i 0 = pi0.getD j 0 → i = j := by decide +kernel
theorem pi0_lt : ∀ i, i < 95 → pi0.getD i 0 < 95 := by decide +kernel
section GEO
variable (g2 : (ClassId × ClassId × ClassId) × va_G) (q9 : Nat) (f9 : Nat → Nat)
def G00 : Geo := (fun i => (ad0 q9 f9).getD i 0, g2)
def W00 : va_W := outX9 ((fun _ => 0, g2) : Geo) q9 f9
set_option maxRecDepth 100000 in
theorem w0_0 : (W00 g2 q9 f9)[4]? = some ((G00 g2 q9 f9).1 0, cellAt (G00 g2 q9 f9) sg0 0 0) := rfl
set_option maxRecDepth 100000 in
theorem w0_1 : (W00 g2 q9 f9)[1]? = some ((G00 g2 q9 f9).1 1, cellAt (G00 g2 q9 f9) sg0 0 1) := rfl
set_option maxRecDepth 100000 in
theorem w0_2 : (W00 g2 q9 f9)[67]? = some ((G00 g2 q9 f9).1 2, cellAt (G00 g2 q9 f9) sg0 0 2) := rfl
set_option maxRecDepth 100000 in
theorem w0_3 : (W00 g2 q9 f9)[24]? = some ((G00 g2 q9 f9).1 3, cellAt (G00 g2 q9 f9) sg0 0 3) := rfl
set_option maxRecDepth 100000 in
theorem w0_4 : (W00 g2 q9 f9)[37]? = some ((G00 g2 q9 f9).1 4, cellAt (G00 g2 q9 f9) sg0 0 4) := rfl
set_option maxRecDepth 100000 in
theorem w0_5 : (W00 g2 q9 f9)[0]? = some ((G00 g2 q9 f9).1 5, cellAt (G00 g2 q9 f9) sg0 0 5) := rfl
set_option maxRecDepth 100000 in
theorem w0_6 : (W00 g2 q9 f9)[7]? = some ((G00 g2 q9 f9).1 6, cellAt (G00 g2 q9 f9) sg0 0 6) := rfl
set_option maxRecDepth 100000 in
theorem w0_7 : (W00 g2 q9 f9)[62]? = some ((G00 g2 q9 f9).1 7, cellAt (G00 g2 q9 f9) sg0 0 7) := rfl
set_option maxRecDepth 100000 in
theorem w0_8 : (W00 g2 q9 f9)[90]? = some ((G00 g2 q9 f9).1 8, cellAt (G00 g2 q9 f9) sg0 0 8) := rfl
set_option maxRecDepth 100000 in
theorem w0_9 : (W00 g2 q9 f9)[5]? = some ((G00 g2 q9 f9).1 9, cellAt (G00 g2 q9 f9) sg0 0 9) := rfl
set_option maxRecDepth 100000 in
theorem w0_10 : (W00 g2 q9 f9)[2]? = some ((G00 g2 q9 f9).1 10, cellAt (G00 g2 q9 f9) sg0 0 10) := rfl
set_option maxRecDepth 100000 in
theorem w0_11 : (W00 g2 q9 f9)[68]? = some ((G00 g2 q9 f9).1 11, cellAt (G00 g2 q9 f9) sg0 0 11) := rfl
set_option maxRecDepth 100000 in
theorem w0_12 : (W00 g2 q9 f9)[70]? = some ((G00 g2 q9 f9).1 12, cellAt (G00 g2 q9 f9) sg0 0 12) := rfl
set_option maxRecDepth 100000 in
theorem w0_13 : (W00 g2 q9 f9)[72]? = some ((G00 g2 q9 f9).1 13, cellAt (G00 g2 q9 f9) sg0 0 13) := rfl
set_option maxRecDepth 100000 in
theorem w0_14 : (W00 g2 q9 f9)[74]? = some ((G00 g2 q9 f9).1 14, cellAt (G00 g2 q9 f9) sg0 0 14) := rfl
set_option maxRecDepth 100000 in
theorem w0_15 : (W00 g2 q9 f9)[76]? = some ((G00 g2 q9 f9).1 15, cellAt (G00 g2 q9 f9) sg0 0 15) := rfl
set_option maxRecDepth 100000 in
theorem w0_16 : (W00 g2 q9 f9)[78]? = some ((G00 g2 q9 f9).1 16, cellAt (G00 g2 q9 f9) sg0 0 16) := rfl
set_option maxRecDepth 100000 in
theorem w0_17 : (W00 g2 q9 f9)[80]? = some ((G00 g2 q9 f9).1 17, cellAt (G00 g2 q9 f9) sg0 0 17) := rfl
set_option maxRecDepth 100000 in
theorem w0_18 : (W00 g2 q9 f9)[82]? = some ((G00 g2 q9 f9).1 18, cellAt (G00 g2 q9 f9) sg0 0 18) := rfl
set_option maxRecDepth 100000 in
theorem w0_19 : (W00 g2 q9 f9)[84]? = some ((G00 g2 q9 f9).1 19, cellAt (G00 g2 q9 f9) sg0 0 19) := rfl
set_option maxRecDepth 100000 in
theorem w0_20 : (W00 g2 q9 f9)[86]? = some ((G00 g2 q9 f9).1 20, cellAt (G00 g2 q9 f9) sg0 0 20) := rfl
set_option maxRecDepth 100000 in
theorem w0_21 : (W00 g2 q9 f9)[88]? = some ((G00 g2 q9 f9).1 21, cellAt (G00 g2 q9 f9) sg0 0 21) := rfl
set_option maxRecDepth 100000 in
theorem w0_22 : (W00 g2 q9 f9)[25]? = some ((G00 g2 q9 f9).1 22, cellAt (G00 g2 q9 f9) sg0 0 22) := rfl
set_option maxRecDepth 100000 in
theorem w0_23 : (W00 g2 q9 f9)[27]? = some ((G00 g2 q9 f9).1 23, cellAt (G00 g2 q9 f9) sg0 0 23) := rfl
set_option maxRecDepth 100000 in
theorem w0_24 : (W00 g2 q9 f9)[29]? = some ((G00 g2 q9 f9).1 24, cellAt (G00 g2 q9 f9) sg0 0 24) := rfl
set_option maxRecDepth 100000 in
theorem w0_25 : (W00 g2 q9 f9)[31]? = some ((G00 g2 q9 f9).1 25, cellAt (G00 g2 q9 f9) sg0 0 25) := rfl
set_option maxRecDepth 100000 in
theorem w0_26 : (W00 g2 q9 f9)[33]? = some ((G00 g2 q9 f9).1 26, cellAt (G00 g2 q9 f9) sg0 0 26) := rfl
set_option maxRecDepth 100000 in
theorem w0_27 : (W00 g2 q9 f9)[35]? = some ((G00 g2 q9 f9).1 27, cellAt (G00 g2 q9 f9) sg0 0 27) := rfl
set_option maxRecDepth 100000 in
theorem w0_28 : (W00 g2 q9 f9)[38]? = some ((G00 g2 q9 f9).1 28, cellAt (G00 g2 q9 f9) sg0 0 28) := rfl
set_option maxRecDepth 100000 in
theorem w0_29 : (W00 g2 q9 f9)[40]? = some ((G00 g2 q9 f9).1 29, cellAt (G00 g2 q9 f9) sg0 0 29) := rfl
set_option maxRecDepth 100000 in
theorem w0_30 : (W00 g2 q9 f9)[42]? = some ((G00 g2 q9 f9).1 30, cellAt (G00 g2 q9 f9) sg0 0 30) := rfl
set_option maxRecDepth 100000 in
theorem w0_31 : (W00 g2 q9 f9)[44]? = some ((G00 g2 q9 f9).1 31, cellAt (G00 g2 q9 f9) sg0 0 31) := rfl
set_option maxRecDepth 100000 in
theorem w0_32 : (W00 g2 q9 f9)[46]? = some ((G00 g2 q9 f9).1 32, cellAt (G00 g2 q9 f9) sg0 0 32) := rfl
set_option maxRecDepth 100000 in
theorem w0_33 : (W00 g2 q9 f9)[48]? = some ((G00 g2 q9 f9).1 33, cellAt (G00 g2 q9 f9) sg0 0 33) := rfl
set_option maxRecDepth 100000 in
theorem w0_34 : (W00 g2 q9 f9)[50]? = some ((G00 g2 q9 f9).1 34, cellAt (G00 g2 q9 f9) sg0 0 34) := rfl
set_option maxRecDepth 100000 in
theorem w0_35 : (W00 g2 q9 f9)[52]? = some ((G00 g2 q9 f9).1 35, cellAt (G00 g2 q9 f9) sg0 0 35) := rfl
set_option maxRecDepth 100000 in
theorem w0_36 : (W00 g2 q9 f9)[54]? = some ((G00 g2 q9 f9).1 36, cellAt (G00 g2 q9 f9) sg0 0 36) := rfl
set_option maxRecDepth 100000 in
theorem w0_37 : (W00 g2 q9 f9)[56]? = some ((G00 g2 q9 f9).1 37, cellAt (G00 g2 q9 f9) sg0 0 37) := rfl
set_option maxRecDepth 100000 in
theorem w0_38 : (W00 g2 q9 f9)[58]? = some ((G00 g2 q9 f9).1 38, cellAt (G00 g2 q9 f9) sg0 0 38) := rfl
set_option maxRecDepth 100000 in
theorem w0_39 : (W00 g2 q9 f9)[60]? = some ((G00 g2 q9 f9).1 39, cellAt (G00 g2 q9 f9) sg0 0 39) := rfl
set_option maxRecDepth 100000 in
theorem w0_40 : (W00 g2 q9 f9)[8]? = some ((G00 g2 q9 f9).1 40, cellAt (G00 g2 q9 f9) sg0 0 40) := rfl
set_option maxRecDepth 100000 in
theorem w0_41 : (W00 g2 q9 f9)[10]? = some ((G00 g2 q9 f9).1 41, cellAt (G00 g2 q9 f9) sg0 0 41) := rfl
set_option maxRecDepth 100000 in
theorem w0_42 : (W00 g2 q9 f9)[12]? = some ((G00 g2 q9 f9).1 42, cellAt (G00 g2 q9 f9) sg0 0 42) := rfl
set_option maxRecDepth 100000 in
theorem w0_43 : (W00 g2 q9 f9)[14]? = some ((G00 g2 q9 f9).1 43, cellAt (G00 g2 q9 f9) sg0 0 43) := rfl
set_option maxRecDepth 100000 in
theorem w0_44 : (W00 g2 q9 f9)[16]? = some ((G00 g2 q9 f9).1 44, cellAt (G00 g2 q9 f9) sg0 0 44) := rfl
set_option maxRecDepth 100000 in
theorem w0_45 : (W00 g2 q9 f9)[18]? = some ((G00 g2 q9 f9).1 45, cellAt (G00 g2 q9 f9) sg0 0 45) := rfl
set_option maxRecDepth 100000 in
theorem w0_46 : (W00 g2 q9 f9)[20]? = some ((G00 g2 q9 f9).1 46, cellAt (G00 g2 q9 f9) sg0 0 46) := rfl
set_option maxRecDepth 100000 in
theorem w0_47 : (W00 g2 q9 f9)[22]? = some ((G00 g2 q9 f9).1 47, cellAt (G00 g2 q9 f9) sg0 0 47) := rfl
set_option maxRecDepth 100000 in
theorem w0_48 : (W00 g2 q9 f9)[63]? = some ((G00 g2 q9 f9).1 48, cellAt (G00 g2 q9 f9) sg0 0 48) := rfl
set_option maxRecDepth 100000 in
theorem w0_49 : (W00 g2 q9 f9)[65]? = some ((G00 g2 q9 f9).1 49, cellAt (G00 g2 q9 f9) sg0 0 49) := rfl
set_option maxRecDepth 100000 in
theorem w0_50 : (W00 g2 q9 f9)[91]? = some ((G00 g2 q9 f9).1 50, cellAt (G00 g2 q9 f9) sg0 0 50) := rfl
set_option maxRecDepth 100000 in
theorem w0_51 : (W00 g2 q9 f9)[93]? = some ((G00 g2 q9 f9).1 51, cellAt (G00 g2 q9 f9) sg0 0 51) := rfl
set_option maxRecDepth 100000 in
theorem w0_52 : (W00 g2 q9 f9)[6]? = some ((G00 g2 q9 f9).1 52, cellAt (G00 g2 q9 f9) sg0 0 52) := rfl
set_option maxRecDepth 100000 in
theorem w0_53 : (W00 g2 q9 f9)[3]? = some ((G00 g2 q9 f9).1 53, cellAt (G00 g2 q9 f9) sg0 0 53) := rfl
set_option maxRecDepth 100000 in
theorem w0_54 : (W00 g2 q9 f9)[69]? = some ((G00 g2 q9 f9).1 54, cellAt (G00 g2 q9 f9) sg0 0 54) := rfl
set_option maxRecDepth 100000 in
theorem w0_55 : (W00 g2 q9 f9)[71]? = some ((G00 g2 q9 f9).1 55, cellAt (G00 g2 q9 f9) sg0 0 55) := rfl
set_option maxRecDepth 100000 in
theorem w0_56 : (W00 g2 q9 f9)[73]? = some ((G00 g2 q9 f9).1 56, cellAt (G00 g2 q9 f9) sg0 0 56) := rfl
set_option maxRecDepth 100000 in
theorem w0_57 : (W00 g2 q9 f9)[75]? = some ((G00 g2 q9 f9).1 57, cellAt (G00 g2 q9 f9) sg0 0 57) := rfl
set_option maxRecDepth 100000 in
theorem w0_58 : (W00 g2 q9 f9)[77]? = some ((G00 g2 q9 f9).1 58, cellAt (G00 g2 q9 f9) sg0 0 58) := rfl
set_option maxRecDepth 100000 in
theorem w0_59 : (W00 g2 q9 f9)[79]? = some ((G00 g2 q9 f9).1 59, cellAt (G00 g2 q9 f9) sg0 0 59) := rfl
set_option maxRecDepth 100000 in
theorem w0_60 : (W00 g2 q9 f9)[81]? = some ((G00 g2 q9 f9).1 60, cellAt (G00 g2 q9 f9) sg0 0 60) := rfl
set_option maxRecDepth 100000 in
theorem w0_61 : (W00 g2 q9 f9)[83]? = some ((G00 g2 q9 f9).1 61, cellAt (G00 g2 q9 f9) sg0 0 61) := rfl
set_option maxRecDepth 100000 in
theorem w0_62 : (W00 g2 q9 f9)[85]? = some ((G00 g2 q9 f9).1 62, cellAt (G00 g2 q9 f9) sg0 0 62) := rfl
set_option maxRecDepth 100000 in
theorem w0_63 : (W00 g2 q9 f9)[87]? = some ((G00 g2 q9 f9).1 63, cellAt (G00 g2 q9 f9) sg0 0 63) := rfl
set_option maxRecDepth 100000 in
theorem w0_64 : (W00 g2 q9 f9)[89]? = some ((G00 g2 q9 f9).1 64, cellAt (G00 g2 q9 f9) sg0 0 64) := rfl
set_option maxRecDepth 100000 in
theorem w0_65 : (W00 g2 q9 f9)[26]? = some ((G00 g2 q9 f9).1 65, cellAt (G00 g2 q9 f9) sg0 0 65) := rfl
set_option maxRecDepth 100000 in
theorem w0_66 : (W00 g2 q9 f9)[28]? = some ((G00 g2 q9 f9).1 66, cellAt (G00 g2 q9 f9) sg0 0 66) := rfl
set_option maxRecDepth 100000 in
theorem w0_67 : (W00 g2 q9 f9)[30]? = some ((G00 g2 q9 f9).1 67, cellAt (G00 g2 q9 f9) sg0 0 67) := rfl
set_option maxRecDepth 100000 in
theorem w0_68 : (W00 g2 q9 f9)[32]? = some ((G00 g2 q9 f9).1 68, cellAt (G00 g2 q9 f9) sg0 0 68) := rfl
set_option maxRecDepth 100000 in
theorem w0_69 : (W00 g2 q9 f9)[34]? = some ((G00 g2 q9 f9).1 69, cellAt (G00 g2 q9 f9) sg0 0 69) := rfl
set_option maxRecDepth 100000 in
theorem w0_70 : (W00 g2 q9 f9)[36]? = some ((G00 g2 q9 f9).1 70, cellAt (G00 g2 q9 f9) sg0 0 70) := rfl
set_option maxRecDepth 100000 in
theorem w0_71 : (W00 g2 q9 f9)[39]? = some ((G00 g2 q9 f9).1 71, cellAt (G00 g2 q9 f9) sg0 0 71) := rfl
set_option maxRecDepth 100000 in
theorem w0_72 : (W00 g2 q9 f9)[41]? = some ((G00 g2 q9 f9).1 72, cellAt (G00 g2 q9 f9) sg0 0 72) := rfl
set_option maxRecDepth 100000 in
theorem w0_73 : (W00 g2 q9 f9)[43]? = some ((G00 g2 q9 f9).1 73, cellAt (G00 g2 q9 f9) sg0 0 73) := rfl
set_option maxRecDepth 100000 in
theorem w0_74 : (W00 g2 q9 f9)[45]? = some ((G00 g2 q9 f9).1 74, cellAt (G00 g2 q9 f9) sg0 0 74) := rfl
set_option maxRecDepth 100000 in
theorem w0_75 : (W00 g2 q9 f9)[47]? = some ((G00 g2 q9 f9).1 75, cellAt (G00 g2 q9 f9) sg0 0 75) := rfl
set_option maxRecDepth 100000 in
theorem w0_76 : (W00 g2 q9 f9)[49]? = some ((G00 g2 q9 f9).1 76, cellAt (G00 g2 q9 f9) sg0 0 76) := rfl
set_option maxRecDepth 100000 in
theorem w0_77 : (W00 g2 q9 f9)[51]? = some ((G00 g2 q9 f9).1 77, cellAt (G00 g2 q9 f9) sg0 0 77) := rfl
set_option maxRecDepth 100000 in
theorem w0_78 : (W00 g2 q9 f9)[53]? = some ((G00 g2 q9 f9).1 78, cellAt (G00 g2 q9 f9) sg0 0 78) := rfl
set_option maxRecDepth 100000 in
theorem w0_79 : (W00 g2 q9 f9)[55]? = some ((G00 g2 q9 f9).1 79, cellAt (G00 g2 q9 f9) sg0 0 79) := rfl
set_option maxRecDepth 100000 in
theorem w0_80 : (W00 g2 q9 f9)[57]? = some ((G00 g2 q9 f9).1 80, cellAt (G00 g2 q9 f9) sg0 0 80) := rfl
set_option maxRecDepth 100000 in
theorem w0_81 : (W00 g2 q9 f9)[59]? = some ((G00 g2 q9 f9).1 81, cellAt (G00 g2 q9 f9) sg0 0 81) := rfl
set_option maxRecDepth 100000 in
theorem w0_82 : (W00 g2 q9 f9)[61]? = some ((G00 g2 q9 f9).1 82, cellAt (G00 g2 q9 f9) sg0 0 82) := rfl
set_option maxRecDepth 100000 in
theorem w0_83 : (W00 g2 q9 f9)[9]? = some ((G00 g2 q9 f9).1 83, cellAt (G00 g2 q9 f9) sg0 0 83) := rfl
set_option maxRecDepth 100000 in
theorem w0_84 : (W00 g2 q9 f9)[11]? = some ((G00 g2 q9 f9).1 84, cellAt (G00 g2 q9 f9) sg0 0 84) := rfl
set_option maxRecDepth 100000 in
theorem w0_85 : (W00 g2 q9 f9)[13]? = some ((G00 g2 q9 f9).1 85, cellAt (G00 g2 q9 f9) sg0 0 85) := rfl
set_option maxRecDepth 100000 in
theorem w0_86 : (W00 g2 q9 f9)[15]? = some ((G00 g2 q9 f9).1 86, cellAt (G00 g2 q9 f9) sg0 0 86) := rfl
set_option maxRecDepth 100000 in
theorem w0_87 : (W00 g2 q9 f9)[17]? = some ((G00 g2 q9 f9).1 87, cellAt (G00 g2 q9 f9) sg0 0 87) := rfl
set_option maxRecDepth 100000 in
theorem w0_88 : (W00 g2 q9 f9)[19]? = some ((G00 g2 q9 f9).1 88, cellAt (G00 g2 q9 f9) sg0 0 88) := rfl
set_option maxRecDepth 100000 in
theorem w0_89 : (W00 g2 q9 f9)[21]? = some ((G00 g2 q9 f9).1 89, cellAt (G00 g2 q9 f9) sg0 0 89) := rfl
set_option maxRecDepth 100000 in
theorem w0_90 : (W00 g2 q9 f9)[23]? = some ((G00 g2 q9 f9).1 90, cellAt (G00 g2 q9 f9) sg0 0 90) := rfl
set_option maxRecDepth 100000 in
theorem w0_91 : (W00 g2 q9 f9)[64]? = some ((G00 g2 q9 f9).1 91, cellAt (G00 g2 q9 f9) sg0 0 91) := rfl
set_option maxRecDepth 100000 in
theorem w0_92 : (W00 g2 q9 f9)[66]? = some ((G00 g2 q9 f9).1 92, cellAt (G00 g2 q9 f9) sg0 0 92) := rfl
set_option maxRecDepth 100000 in
theorem w0_93 : (W00 g2 q9 f9)[92]? = some ((G00 g2 q9 f9).1 93, cellAt (G00 g2 q9 f9) sg0 0 93) := rfl
set_option maxRecDepth 100000 in
theorem w0_94 : (W00 g2 q9 f9)[94]? = some ((G00 g2 q9 f9).1 94, cellAt (G00 g2 q9 f9) sg0 0 94) := rfl
theorem w0_all : ∀ i, i < 95 → (W00 g2 q9 f9)[pi0.getD i 0]? = some ((G00 g2 q9 f9).1 i, cellAt (G00 g2 q9 f9) sg0 0 i) := by
  intro i hi
  match i, hi with
  | 0, _ => exact w0_0 g2 q9 f9
  | 1, _ => exact w0_1 g2 q9 f9
  | 2, _ => exact w0_2 g2 q9 f9
  | 3, _ => exact w0_3 g2 q9 f9
  | 4, _ => exact w0_4 g2 q9 f9
  | 5, _ => exact w0_5 g2 q9 f9
  | 6, _ => exact w0_6 g2 q9 f9
  | 7, _ => exact w0_7 g2 q9 f9
  | 8, _ => exact w0_8 g2 q9 f9
  | 9, _ => exact w0_9 g2 q9 f9
  | 10, _ => exact w0_10 g2 q9 f9
  | 11, _ => exact w0_11 g2 q9 f9
  | 12, _ => exact w0_12 g2 q9 f9
  | 13, _ => exact w0_13 g2 q9 f9
  | 14, _ => exact w0_14 g2 q9 f9
  | 15, _ => exact w0_15 g2 q9 f9
  | 16, _ => exact w0_16 g2 q9 f9
  | 17, _ => exact w0_17 g2 q9 f9
  | 18, _ => exact w0_18 g2 q9 f9
  | 19, _ => exact w0_19 g2 q9 f9
  | 20, _ => exact w0_20 g2 q9 f9
  | 21, _ => exact w0_21 g2 q9 f9
  | 22, _ => exact w0_22 g2 q9 f9
  | 23, _ => exact w0_23 g2 q9 f9
  | 24, _ => exact w0_24 g2 q9 f9
  | 25, _ => exact w0_25 g2 q9 f9
  | 26, _ => exact w0_26 g2 q9 f9
  | 27, _ => exact w0_27 g2 q9 f9
  | 28, _ => exact w0_28 g2 q9 f9
  | 29, _ => exact w0_29 g2 q9 f9
  | 30, _ => exact w0_30 g2 q9 f9
  | 31, _ => exact w0_31 g2 q9 f9
  | 32, _ => exact w0_32 g2 q9 f9
  | 33, _ => exact w0_33 g2 q9 f9
  | 34, _ => exact w0_34 g2 q9 f9
  | 35, _ => exact w0_35 g2 q9 f9
  | 36, _ => exact w0_36 g2 q9 f9
  | 37, _ => exact w0_37 g2 q9 f9
  | 38, _ => exact w0_38 g2 q9 f9
  | 39, _ => exact w0_39 g2 q9 f9
  | 40, _ => exact w0_40 g2 q9 f9
  | 41, _ => exact w0_41 g2 q9 f9
  | 42, _ => exact w0_42 g2 q9 f9
  | 43, _ => exact w0_43 g2 q9 f9
  | 44, _ => exact w0_44 g2 q9 f9
  | 45, _ => exact w0_45 g2 q9 f9
  | 46, _ => exact w0_46 g2 q9 f9
  | 47, _ => exact w0_47 g2 q9 f9
  | 48, _ => exact w0_48 g2 q9 f9
  | 49, _ => exact w0_49 g2 q9 f9
  | 50, _ => exact w0_50 g2 q9 f9
  | 51, _ => exact w0_51 g2 q9 f9
  | 52, _ => exact w0_52 g2 q9 f9
  | 53, _ => exact w0_53 g2 q9 f9
  | 54, _ => exact w0_54 g2 q9 f9
  | 55, _ => exact w0_55 g2 q9 f9
  | 56, _ => exact w0_56 g2 q9 f9
  | 57, _ => exact w0_57 g2 q9 f9
  | 58, _ => exact w0_58 g2 q9 f9
  | 59, _ => exact w0_59 g2 q9 f9
  | 60, _ => exact w0_60 g2 q9 f9
  | 61, _ => exact w0_61 g2 q9 f9
  | 62, _ => exact w0_62 g2 q9 f9
  | 63, _ => exact w0_63 g2 q9 f9
  | 64, _ => exact w0_64 g2 q9 f9
  | 65, _ => exact w0_65 g2 q9 f9
  | 66, _ => exact w0_66 g2 q9 f9
  | 67, _ => exact w0_67 g2 q9 f9
  | 68, _ => exact w0_68 g2 q9 f9
  | 69, _ => exact w0_69 g2 q9 f9
  | 70, _ => exact w0_70 g2 q9 f9
  | 71, _ => exact w0_71 g2 q9 f9
  | 72, _ => exact w0_72 g2 q9 f9
  | 73, _ => exact w0_73 g2 q9 f9
  | 74, _ => exact w0_74 g2 q9 f9
  | 75, _ => exact w0_75 g2 q9 f9
  | 76, _ => exact w0_76 g2 q9 f9
  | 77, _ => exact w0_77 g2 q9 f9
  | 78, _ => exact w0_78 g2 q9 f9
  | 79, _ => exact w0_79 g2 q9 f9
  | 80, _ => exact w0_80 g2 q9 f9
  | 81, _ => exact w0_81 g2 q9 f9
  | 82, _ => exact w0_82 g2 q9 f9
  | 83, _ => exact w0_83 g2 q9 f9
  | 84, _ => exact w0_84 g2 q9 f9
  | 85, _ => exact w0_85 g2 q9 f9
  | 86, _ => exact w0_86 g2 q9 f9
  | 87, _ => exact w0_87 g2 q9 f9
  | 88, _ => exact w0_88 g2 q9 f9
  | 89, _ => exact w0_89 g2 q9 f9
  | 90, _ => exact w0_90 g2 q9 f9
  | 91, _ => exact w0_91 g2 q9 f9
  | 92, _ => exact w0_92 g2 q9 f9
  | 93, _ => exact w0_93 g2 q9 f9
  | 94, _ => exact w0_94 g2 q9 f9
  | n + 95, h => omega
set_option maxRecDepth 100000 in
theorem w0_len : (W00 g2 q9 f9).length = 95 := rfl
theorem geo_P {H : Heap} (h : va_P g2.2 vwCl (W00 g2 q9 f9) H) : va_P g2.2 vwCl (Wl (G00 g2 q9 f9) sg0 0) H := by
  intro k q hk
  have hi : k < 95 := by have := (List.getElem?_eq_some_iff.mp hk).1; rwa [Wl_len] at this
  rw [Wl_at hi] at hk
  cases hk
  exact h _ _ (w0_all g2 q9 f9 k hi)
theorem geo_D {A : Nat → Prop} (h : va_D A (W00 g2 q9 f9)) : gok (G00 g2 q9 f9) ∧ ∀ i, i < 95 → A ((G00 g2 q9 f9).1 i) := by
  refine ⟨fun i j hi hj e => ?_, fun i hi => h.2 _ _ (w0_all g2 q9 f9 i hi)⟩
  exact pi0_inj i hi j hj (h.1 _ _ _ _ (w0_all g2 q9 f9 i hi) (w0_all g2 q9 f9 j hj) e)
end GEO
theorem geo_2 {g2 : (ClassId × ClassId × ClassId) × va_G} {q1 q2 : Nat} {f1 f2 : Nat → Nat} {A : Nat → Prop} {H : Heap} (hP : va_P g2.2 vwCl (([] ++ W00 g2 q1 f1) ++ W00 g2 q2 f2) H) (hD : va_D A (([] ++ W00 g2 q1 f1) ++ W00 g2 q2 f2)) : va_P g2.2 vwCl (Wl (G00 g2 q1 f1) sg0 0) H ∧ va_P g2.2 vwCl (Wl (G00 g2 q2 f2) sg0 0) H ∧ gok (G00 g2 q1 f1) ∧ gok (G00 g2 q2 f2) ∧ (∀ i, i < 95 → A ((G00 g2 q1 f1).1 i)) ∧ (∀ i, i < 95 → A ((G00 g2 q2 f2).1 i)) ∧ ∀ i j, i < 95 → j < 95 → (G00 g2 q1 f1).1 i ≠ (G00 g2 q2 f2).1 j := by
  rw [List.nil_append] at hP hD
  have l1 : ∀ (k : Nat) (q : Nat × va_E), (W00 g2 q1 f1)[k]? = some q → (W00 g2 q1 f1 ++ W00 g2 q2 f2)[k]? = some q := fun k q h => by
    rw [List.getElem?_append_left (List.getElem?_eq_some_iff.mp h).1]; exact h
  have l2 : ∀ (k : Nat) (q : Nat × va_E), (W00 g2 q2 f2)[k]? = some q → (W00 g2 q1 f1 ++ W00 g2 q2 f2)[95 + k]? = some q := fun k q h => by
    rw [List.getElem?_append_right (by rw [w0_len]; omega), w0_len, Nat.add_sub_cancel_left]; exact h
  have D1 : va_D A (W00 g2 q1 f1) := ⟨fun i j p q hp hq e => hD.1 i j p q (l1 i p hp) (l1 j q hq) e, fun k q h => hD.2 k q (l1 k q h)⟩
  have D2 : va_D A (W00 g2 q2 f2) := ⟨fun i j p q hp hq e => by have := hD.1 _ _ p q (l2 i p hp) (l2 j q hq) e; omega, fun k q h => hD.2 _ q (l2 k q h)⟩
  obtain ⟨a1, a2⟩ := geo_D g2 q1 f1 D1
  obtain ⟨b1, b2⟩ := geo_D g2 q2 f2 D2
  refine ⟨geo_P g2 q1 f1 (fun k q h => hP k q (l1 k q h)), geo_P g2 q2 f2 (fun k q h => hP _ q (l2 k q h)), a1, b1, a2, b2, fun i j hi hj e => ?_⟩
  have h1 := w0_all g2 q1 f1 i hi
  have h2 := w0_all g2 q2 f2 j hj
  have hl := (List.getElem?_eq_some_iff.mp h1).1
  rw [w0_len] at hl
  have := hD.1 _ _ _ _ (l1 _ _ h1) (l2 _ _ h2) e
  omega
