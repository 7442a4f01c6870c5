/-! THE LAW'S START. Printed by wip/whole/gen/start.py -/
def pi0 : List Nat := [4, 1, 67, 24, 37, 129, 7, 62, 90, 0, 95, 5, 2, 68, 70, 72, 74, 76, 78, 80, 82, 84, 86, 88, 25, 27, 29, 31, 33, 35, 38, 40, 42, 44, 46, 48, 50, 52, 54, 56, 58, 60, 8, 10, 12, 14, 16, 18, 20, 22, 63, 65, 91, 93, 6, 3, 69, 71, 73, 75, 77, 79, 81, 83, 85, 87, 89, 26, 28, 30, 32, 34, 36, 39, 41, 43, 45, 47, 49, 51, 53, 55, 57, 59, 61, 9, 11, 13, 15, 17, 19, 21, 23, 64, 66, 92, 94, 96, 97, 98, 99, 100, 101, 102, 103, 104, 105, 106, 107, 108, 109, 110, 111, 112, 113, 114, 115, 116, 117, 118, 119, 120, 121, 122, 123, 124, 125, 126, 127, 128]
def ad0 (q9 q10 qo : Nat) (f9 f10 : Nat → Nat) : List Nat := [f9 3, f9 0, f9 66, f9 23, f9 36, qo, f9 6, f9 61, f9 89, q9, q10, f9 4, f9 1, f9 67, f9 69, f9 71, f9 73, f9 75, f9 77, f9 79, f9 81, f9 83, f9 85, f9 87, f9 24, f9 26, f9 28, f9 30, f9 32, f9 34, f9 37, f9 39, f9 41, f9 43, f9 45, f9 47, f9 49, f9 51, f9 53, f9 55, f9 57, f9 59, f9 7, f9 9, f9 11, f9 13, f9 15, f9 17, f9 19, f9 21, f9 62, f9 64, f9 90, f9 92, f9 5, f9 2, f9 68, f9 70, f9 72, f9 74, f9 76, f9 78, f9 80, f9 82, f9 84, f9 86, f9 88, f9 25, f9 27, f9 29, f9 31, f9 33, f9 35, f9 38, f9 40, f9 42, f9 44, f9 46, f9 48, f9 50, f9 52, f9 54, f9 56, f9 58, f9 60, f9 8, f9 10, f9 12, f9 14, f9 16, f9 18, f9 20, f9 22, f9 63, f9 65, f9 91, f9 93, f10 0, f10 1, f10 2, f10 3, f10 4, f10 5, f10 6, f10 7, f10 8, f10 9, f10 10, f10 11, f10 12, f10 13, f10 14, f10 15, f10 16, f10 17, f10 18, f10 19, f10 20, f10 21, f10 22, f10 23, f10 24, f10 25, f10 26, f10 27, f10 28, f10 29, f10 30, f10 31, f10 32]
def sg0 : Mem := fun r k => if r = 76 then (if k = 17 then 1 else if k = 24 then 1 else 0) else if r = 49 then rel9 16 k else 0
def W00 (G : Geo) (q9 q10 qo : Nat) (f9 f10 : Nat → Nat) : va_W := (([] ++ outX9 G q9 f9) ++ outX10 G q10 f10) ++ [(qo, .inl (G.2.1.2.2, 1, .inr (.inl (fun _ => 0))))]
theorem pi0_inj : ∀ i, i < 130 → ∀ j, j < 130 → pi0.getD i 0 = pi0.getD j 0 → i = j := by decide +kernel
section GEO
variable (g2 : (ClassId × ClassId × ClassId) × va_G) (q9 q10 qo : Nat) (f9 f10 : Nat → Nat)
def G00 : Geo := (fun i => (ad0 q9 q10 qo f9 f10).getD i 0, g2)
theorem w0_0 : (W00 (G00 g2 q9 q10 qo f9 f10) q9 q10 qo f9 f10)[4]? = some ((G00 g2 q9 q10 qo f9 f10).1 0, cellAt (G00 g2 q9 q10 qo f9 f10) sg0 0 0) := rfl
theorem w0_1 : (W00 (G00 g2 q9 q10 qo f9 f10) q9 q10 qo f9 f10)[1]? = some ((G00 g2 q9 q10 qo f9 f10).1 1, cellAt (G00 g2 q9 q10 qo f9 f10) sg0 0 1) := rfl
theorem w0_2 : (W00 (G00 g2 q9 q10 qo f9 f10) q9 q10 qo f9 f10)[67]? = some ((G00 g2 q9 q10 qo f9 f10).1 2, cellAt (G00 g2 q9 q10 qo f9 f10) sg0 0 2) := rfl
theorem w0_3 : (W00 (G00 g2 q9 q10 qo f9 f10) q9 q10 qo f9 f10)[24]? = some ((G00 g2 q9 q10 qo f9 f10).1 3, cellAt (G00 g2 q9 q10 qo f9 f10) sg0 0 3) := rfl
theorem w0_4 : (W00 (G00 g2 q9 q10 qo f9 f10) q9 q10 qo f9 f10)[37]? = some ((G00 g2 q9 q10 qo f9 f10).1 4, cellAt (G00 g2 q9 q10 qo f9 f10) sg0 0 4) := rfl
theorem w0_5 : (W00 (G00 g2 q9 q10 qo f9 f10) q9 q10 qo f9 f10)[129]? = some ((G00 g2 q9 q10 qo f9 f10).1 5, cellAt (G00 g2 q9 q10 qo f9 f10) sg0 0 5) := rfl
theorem w0_6 : (W00 (G00 g2 q9 q10 qo f9 f10) q9 q10 qo f9 f10)[7]? = some ((G00 g2 q9 q10 qo f9 f10).1 6, cellAt (G00 g2 q9 q10 qo f9 f10) sg0 0 6) := rfl
theorem w0_7 : (W00 (G00 g2 q9 q10 qo f9 f10) q9 q10 qo f9 f10)[62]? = some ((G00 g2 q9 q10 qo f9 f10).1 7, cellAt (G00 g2 q9 q10 qo f9 f10) sg0 0 7) := rfl
theorem w0_8 : (W00 (G00 g2 q9 q10 qo f9 f10) q9 q10 qo f9 f10)[90]? = some ((G00 g2 q9 q10 qo f9 f10).1 8, cellAt (G00 g2 q9 q10 qo f9 f10) sg0 0 8) := rfl
theorem w0_9 : (W00 (G00 g2 q9 q10 qo f9 f10) q9 q10 qo f9 f10)[0]? = some ((G00 g2 q9 q10 qo f9 f10).1 9, cellAt (G00 g2 q9 q10 qo f9 f10) sg0 0 9) := rfl
theorem w0_10 : (W00 (G00 g2 q9 q10 qo f9 f10) q9 q10 qo f9 f10)[95]? = some ((G00 g2 q9 q10 qo f9 f10).1 10, cellAt (G00 g2 q9 q10 qo f9 f10) sg0 0 10) := rfl
theorem w0_11 : (W00 (G00 g2 q9 q10 qo f9 f10) q9 q10 qo f9 f10)[5]? = some ((G00 g2 q9 q10 qo f9 f10).1 11, cellAt (G00 g2 q9 q10 qo f9 f10) sg0 0 11) := rfl
theorem w0_12 : (W00 (G00 g2 q9 q10 qo f9 f10) q9 q10 qo f9 f10)[2]? = some ((G00 g2 q9 q10 qo f9 f10).1 12, cellAt (G00 g2 q9 q10 qo f9 f10) sg0 0 12) := rfl
theorem w0_13 : (W00 (G00 g2 q9 q10 qo f9 f10) q9 q10 qo f9 f10)[68]? = some ((G00 g2 q9 q10 qo f9 f10).1 13, cellAt (G00 g2 q9 q10 qo f9 f10) sg0 0 13) := rfl
theorem w0_14 : (W00 (G00 g2 q9 q10 qo f9 f10) q9 q10 qo f9 f10)[70]? = some ((G00 g2 q9 q10 qo f9 f10).1 14, cellAt (G00 g2 q9 q10 qo f9 f10) sg0 0 14) := rfl
theorem w0_15 : (W00 (G00 g2 q9 q10 qo f9 f10) q9 q10 qo f9 f10)[72]? = some ((G00 g2 q9 q10 qo f9 f10).1 15, cellAt (G00 g2 q9 q10 qo f9 f10) sg0 0 15) := rfl
theorem w0_16 : (W00 (G00 g2 q9 q10 qo f9 f10) q9 q10 qo f9 f10)[74]? = some ((G00 g2 q9 q10 qo f9 f10).1 16, cellAt (G00 g2 q9 q10 qo f9 f10) sg0 0 16) := rfl
theorem w0_17 : (W00 (G00 g2 q9 q10 qo f9 f10) q9 q10 qo f9 f10)[76]? = some ((G00 g2 q9 q10 qo f9 f10).1 17, cellAt (G00 g2 q9 q10 qo f9 f10) sg0 0 17) := rfl
theorem w0_18 : (W00 (G00 g2 q9 q10 qo f9 f10) q9 q10 qo f9 f10)[78]? = some ((G00 g2 q9 q10 qo f9 f10).1 18, cellAt (G00 g2 q9 q10 qo f9 f10) sg0 0 18) := rfl
theorem w0_19 : (W00 (G00 g2 q9 q10 qo f9 f10) q9 q10 qo f9 f10)[80]? = some ((G00 g2 q9 q10 qo f9 f10).1 19, cellAt (G00 g2 q9 q10 qo f9 f10) sg0 0 19) := rfl
theorem w0_20 : (W00 (G00 g2 q9 q10 qo f9 f10) q9 q10 qo f9 f10)[82]? = some ((G00 g2 q9 q10 qo f9 f10).1 20, cellAt (G00 g2 q9 q10 qo f9 f10) sg0 0 20) := rfl
theorem w0_21 : (W00 (G00 g2 q9 q10 qo f9 f10) q9 q10 qo f9 f10)[84]? = some ((G00 g2 q9 q10 qo f9 f10).1 21, cellAt (G00 g2 q9 q10 qo f9 f10) sg0 0 21) := rfl
theorem w0_22 : (W00 (G00 g2 q9 q10 qo f9 f10) q9 q10 qo f9 f10)[86]? = some ((G00 g2 q9 q10 qo f9 f10).1 22, cellAt (G00 g2 q9 q10 qo f9 f10) sg0 0 22) := rfl
theorem w0_23 : (W00 (G00 g2 q9 q10 qo f9 f10) q9 q10 qo f9 f10)[88]? = some ((G00 g2 q9 q10 qo f9 f10).1 23, cellAt (G00 g2 q9 q10 qo f9 f10) sg0 0 23) := rfl
theorem w0_24 : (W00 (G00 g2 q9 q10 qo f9 f10) q9 q10 qo f9 f10)[25]? = some ((G00 g2 q9 q10 qo f9 f10).1 24, cellAt (G00 g2 q9 q10 qo f9 f10) sg0 0 24) := rfl
theorem w0_25 : (W00 (G00 g2 q9 q10 qo f9 f10) q9 q10 qo f9 f10)[27]? = some ((G00 g2 q9 q10 qo f9 f10).1 25, cellAt (G00 g2 q9 q10 qo f9 f10) sg0 0 25) := rfl
theorem w0_26 : (W00 (G00 g2 q9 q10 qo f9 f10) q9 q10 qo f9 f10)[29]? = some ((G00 g2 q9 q10 qo f9 f10).1 26, cellAt (G00 g2 q9 q10 qo f9 f10) sg0 0 26) := rfl
theorem w0_27 : (W00 (G00 g2 q9 q10 qo f9 f10) q9 q10 qo f9 f10)[31]? = some ((G00 g2 q9 q10 qo f9 f10).1 27, cellAt (G00 g2 q9 q10 qo f9 f10) sg0 0 27) := rfl
theorem w0_28 : (W00 (G00 g2 q9 q10 qo f9 f10) q9 q10 qo f9 f10)[33]? = some ((G00 g2 q9 q10 qo f9 f10).1 28, cellAt (G00 g2 q9 q10 qo f9 f10) sg0 0 28) := rfl
theorem w0_29 : (W00 (G00 g2 q9 q10 qo f9 f10) q9 q10 qo f9 f10)[35]? = some ((G00 g2 q9 q10 qo f9 f10).1 29, cellAt (G00 g2 q9 q10 qo f9 f10) sg0 0 29) := rfl
theorem w0_30 : (W00 (G00 g2 q9 q10 qo f9 f10) q9 q10 qo f9 f10)[38]? = some ((G00 g2 q9 q10 qo f9 f10).1 30, cellAt (G00 g2 q9 q10 qo f9 f10) sg0 0 30) := rfl
theorem w0_31 : (W00 (G00 g2 q9 q10 qo f9 f10) q9 q10 qo f9 f10)[40]? = some ((G00 g2 q9 q10 qo f9 f10).1 31, cellAt (G00 g2 q9 q10 qo f9 f10) sg0 0 31) := rfl
theorem w0_32 : (W00 (G00 g2 q9 q10 qo f9 f10) q9 q10 qo f9 f10)[42]? = some ((G00 g2 q9 q10 qo f9 f10).1 32, cellAt (G00 g2 q9 q10 qo f9 f10) sg0 0 32) := rfl
theorem w0_33 : (W00 (G00 g2 q9 q10 qo f9 f10) q9 q10 qo f9 f10)[44]? = some ((G00 g2 q9 q10 qo f9 f10).1 33, cellAt (G00 g2 q9 q10 qo f9 f10) sg0 0 33) := rfl
theorem w0_34 : (W00 (G00 g2 q9 q10 qo f9 f10) q9 q10 qo f9 f10)[46]? = some ((G00 g2 q9 q10 qo f9 f10).1 34, cellAt (G00 g2 q9 q10 qo f9 f10) sg0 0 34) := rfl
theorem w0_35 : (W00 (G00 g2 q9 q10 qo f9 f10) q9 q10 qo f9 f10)[48]? = some ((G00 g2 q9 q10 qo f9 f10).1 35, cellAt (G00 g2 q9 q10 qo f9 f10) sg0 0 35) := rfl
theorem w0_36 : (W00 (G00 g2 q9 q10 qo f9 f10) q9 q10 qo f9 f10)[50]? = some ((G00 g2 q9 q10 qo f9 f10).1 36, cellAt (G00 g2 q9 q10 qo f9 f10) sg0 0 36) := rfl
theorem w0_37 : (W00 (G00 g2 q9 q10 qo f9 f10) q9 q10 qo f9 f10)[52]? = some ((G00 g2 q9 q10 qo f9 f10).1 37, cellAt (G00 g2 q9 q10 qo f9 f10) sg0 0 37) := rfl
theorem w0_38 : (W00 (G00 g2 q9 q10 qo f9 f10) q9 q10 qo f9 f10)[54]? = some ((G00 g2 q9 q10 qo f9 f10).1 38, cellAt (G00 g2 q9 q10 qo f9 f10) sg0 0 38) := rfl
theorem w0_39 : (W00 (G00 g2 q9 q10 qo f9 f10) q9 q10 qo f9 f10)[56]? = some ((G00 g2 q9 q10 qo f9 f10).1 39, cellAt (G00 g2 q9 q10 qo f9 f10) sg0 0 39) := rfl
theorem w0_40 : (W00 (G00 g2 q9 q10 qo f9 f10) q9 q10 qo f9 f10)[58]? = some ((G00 g2 q9 q10 qo f9 f10).1 40, cellAt (G00 g2 q9 q10 qo f9 f10) sg0 0 40) := rfl
theorem w0_41 : (W00 (G00 g2 q9 q10 qo f9 f10) q9 q10 qo f9 f10)[60]? = some ((G00 g2 q9 q10 qo f9 f10).1 41, cellAt (G00 g2 q9 q10 qo f9 f10) sg0 0 41) := rfl
theorem w0_42 : (W00 (G00 g2 q9 q10 qo f9 f10) q9 q10 qo f9 f10)[8]? = some ((G00 g2 q9 q10 qo f9 f10).1 42, cellAt (G00 g2 q9 q10 qo f9 f10) sg0 0 42) := rfl
theorem w0_43 : (W00 (G00 g2 q9 q10 qo f9 f10) q9 q10 qo f9 f10)[10]? = some ((G00 g2 q9 q10 qo f9 f10).1 43, cellAt (G00 g2 q9 q10 qo f9 f10) sg0 0 43) := rfl
theorem w0_44 : (W00 (G00 g2 q9 q10 qo f9 f10) q9 q10 qo f9 f10)[12]? = some ((G00 g2 q9 q10 qo f9 f10).1 44, cellAt (G00 g2 q9 q10 qo f9 f10) sg0 0 44) := rfl
theorem w0_45 : (W00 (G00 g2 q9 q10 qo f9 f10) q9 q10 qo f9 f10)[14]? = some ((G00 g2 q9 q10 qo f9 f10).1 45, cellAt (G00 g2 q9 q10 qo f9 f10) sg0 0 45) := rfl
theorem w0_46 : (W00 (G00 g2 q9 q10 qo f9 f10) q9 q10 qo f9 f10)[16]? = some ((G00 g2 q9 q10 qo f9 f10).1 46, cellAt (G00 g2 q9 q10 qo f9 f10) sg0 0 46) := rfl
theorem w0_47 : (W00 (G00 g2 q9 q10 qo f9 f10) q9 q10 qo f9 f10)[18]? = some ((G00 g2 q9 q10 qo f9 f10).1 47, cellAt (G00 g2 q9 q10 qo f9 f10) sg0 0 47) := rfl
theorem w0_48 : (W00 (G00 g2 q9 q10 qo f9 f10) q9 q10 qo f9 f10)[20]? = some ((G00 g2 q9 q10 qo f9 f10).1 48, cellAt (G00 g2 q9 q10 qo f9 f10) sg0 0 48) := rfl
theorem w0_49 : (W00 (G00 g2 q9 q10 qo f9 f10) q9 q10 qo f9 f10)[22]? = some ((G00 g2 q9 q10 qo f9 f10).1 49, cellAt (G00 g2 q9 q10 qo f9 f10) sg0 0 49) := rfl
theorem w0_50 : (W00 (G00 g2 q9 q10 qo f9 f10) q9 q10 qo f9 f10)[63]? = some ((G00 g2 q9 q10 qo f9 f10).1 50, cellAt (G00 g2 q9 q10 qo f9 f10) sg0 0 50) := rfl
theorem w0_51 : (W00 (G00 g2 q9 q10 qo f9 f10) q9 q10 qo f9 f10)[65]? = some ((G00 g2 q9 q10 qo f9 f10).1 51, cellAt (G00 g2 q9 q10 qo f9 f10) sg0 0 51) := rfl
theorem w0_52 : (W00 (G00 g2 q9 q10 qo f9 f10) q9 q10 qo f9 f10)[91]? = some ((G00 g2 q9 q10 qo f9 f10).1 52, cellAt (G00 g2 q9 q10 qo f9 f10) sg0 0 52) := rfl
theorem w0_53 : (W00 (G00 g2 q9 q10 qo f9 f10) q9 q10 qo f9 f10)[93]? = some ((G00 g2 q9 q10 qo f9 f10).1 53, cellAt (G00 g2 q9 q10 qo f9 f10) sg0 0 53) := rfl
theorem w0_54 : (W00 (G00 g2 q9 q10 qo f9 f10) q9 q10 qo f9 f10)[6]? = some ((G00 g2 q9 q10 qo f9 f10).1 54, cellAt (G00 g2 q9 q10 qo f9 f10) sg0 0 54) := rfl
theorem w0_55 : (W00 (G00 g2 q9 q10 qo f9 f10) q9 q10 qo f9 f10)[3]? = some ((G00 g2 q9 q10 qo f9 f10).1 55, cellAt (G00 g2 q9 q10 qo f9 f10) sg0 0 55) := rfl
theorem w0_56 : (W00 (G00 g2 q9 q10 qo f9 f10) q9 q10 qo f9 f10)[69]? = some ((G00 g2 q9 q10 qo f9 f10).1 56, cellAt (G00 g2 q9 q10 qo f9 f10) sg0 0 56) := rfl
theorem w0_57 : (W00 (G00 g2 q9 q10 qo f9 f10) q9 q10 qo f9 f10)[71]? = some ((G00 g2 q9 q10 qo f9 f10).1 57, cellAt (G00 g2 q9 q10 qo f9 f10) sg0 0 57) := rfl
theorem w0_58 : (W00 (G00 g2 q9 q10 qo f9 f10) q9 q10 qo f9 f10)[73]? = some ((G00 g2 q9 q10 qo f9 f10).1 58, cellAt (G00 g2 q9 q10 qo f9 f10) sg0 0 58) := rfl
theorem w0_59 : (W00 (G00 g2 q9 q10 qo f9 f10) q9 q10 qo f9 f10)[75]? = some ((G00 g2 q9 q10 qo f9 f10).1 59, cellAt (G00 g2 q9 q10 qo f9 f10) sg0 0 59) := rfl
theorem w0_60 : (W00 (G00 g2 q9 q10 qo f9 f10) q9 q10 qo f9 f10)[77]? = some ((G00 g2 q9 q10 qo f9 f10).1 60, cellAt (G00 g2 q9 q10 qo f9 f10) sg0 0 60) := rfl
theorem w0_61 : (W00 (G00 g2 q9 q10 qo f9 f10) q9 q10 qo f9 f10)[79]? = some ((G00 g2 q9 q10 qo f9 f10).1 61, cellAt (G00 g2 q9 q10 qo f9 f10) sg0 0 61) := rfl
theorem w0_62 : (W00 (G00 g2 q9 q10 qo f9 f10) q9 q10 qo f9 f10)[81]? = some ((G00 g2 q9 q10 qo f9 f10).1 62, cellAt (G00 g2 q9 q10 qo f9 f10) sg0 0 62) := rfl
theorem w0_63 : (W00 (G00 g2 q9 q10 qo f9 f10) q9 q10 qo f9 f10)[83]? = some ((G00 g2 q9 q10 qo f9 f10).1 63, cellAt (G00 g2 q9 q10 qo f9 f10) sg0 0 63) := rfl
theorem w0_64 : (W00 (G00 g2 q9 q10 qo f9 f10) q9 q10 qo f9 f10)[85]? = some ((G00 g2 q9 q10 qo f9 f10).1 64, cellAt (G00 g2 q9 q10 qo f9 f10) sg0 0 64) := rfl
theorem w0_65 : (W00 (G00 g2 q9 q10 qo f9 f10) q9 q10 qo f9 f10)[87]? = some ((G00 g2 q9 q10 qo f9 f10).1 65, cellAt (G00 g2 q9 q10 qo f9 f10) sg0 0 65) := rfl
theorem w0_66 : (W00 (G00 g2 q9 q10 qo f9 f10) q9 q10 qo f9 f10)[89]? = some ((G00 g2 q9 q10 qo f9 f10).1 66, cellAt (G00 g2 q9 q10 qo f9 f10) sg0 0 66) := rfl
theorem w0_67 : (W00 (G00 g2 q9 q10 qo f9 f10) q9 q10 qo f9 f10)[26]? = some ((G00 g2 q9 q10 qo f9 f10).1 67, cellAt (G00 g2 q9 q10 qo f9 f10) sg0 0 67) := rfl
theorem w0_68 : (W00 (G00 g2 q9 q10 qo f9 f10) q9 q10 qo f9 f10)[28]? = some ((G00 g2 q9 q10 qo f9 f10).1 68, cellAt (G00 g2 q9 q10 qo f9 f10) sg0 0 68) := rfl
theorem w0_69 : (W00 (G00 g2 q9 q10 qo f9 f10) q9 q10 qo f9 f10)[30]? = some ((G00 g2 q9 q10 qo f9 f10).1 69, cellAt (G00 g2 q9 q10 qo f9 f10) sg0 0 69) := rfl
theorem w0_70 : (W00 (G00 g2 q9 q10 qo f9 f10) q9 q10 qo f9 f10)[32]? = some ((G00 g2 q9 q10 qo f9 f10).1 70, cellAt (G00 g2 q9 q10 qo f9 f10) sg0 0 70) := rfl
theorem w0_71 : (W00 (G00 g2 q9 q10 qo f9 f10) q9 q10 qo f9 f10)[34]? = some ((G00 g2 q9 q10 qo f9 f10).1 71, cellAt (G00 g2 q9 q10 qo f9 f10) sg0 0 71) := rfl
theorem w0_72 : (W00 (G00 g2 q9 q10 qo f9 f10) q9 q10 qo f9 f10)[36]? = some ((G00 g2 q9 q10 qo f9 f10).1 72, cellAt (G00 g2 q9 q10 qo f9 f10) sg0 0 72) := rfl
theorem w0_73 : (W00 (G00 g2 q9 q10 qo f9 f10) q9 q10 qo f9 f10)[39]? = some ((G00 g2 q9 q10 qo f9 f10).1 73, cellAt (G00 g2 q9 q10 qo f9 f10) sg0 0 73) := rfl
theorem w0_74 : (W00 (G00 g2 q9 q10 qo f9 f10) q9 q10 qo f9 f10)[41]? = some ((G00 g2 q9 q10 qo f9 f10).1 74, cellAt (G00 g2 q9 q10 qo f9 f10) sg0 0 74) := rfl
theorem w0_75 : (W00 (G00 g2 q9 q10 qo f9 f10) q9 q10 qo f9 f10)[43]? = some ((G00 g2 q9 q10 qo f9 f10).1 75, cellAt (G00 g2 q9 q10 qo f9 f10) sg0 0 75) := rfl
theorem w0_76 : (W00 (G00 g2 q9 q10 qo f9 f10) q9 q10 qo f9 f10)[45]? = some ((G00 g2 q9 q10 qo f9 f10).1 76, cellAt (G00 g2 q9 q10 qo f9 f10) sg0 0 76) := rfl
theorem w0_77 : (W00 (G00 g2 q9 q10 qo f9 f10) q9 q10 qo f9 f10)[47]? = some ((G00 g2 q9 q10 qo f9 f10).1 77, cellAt (G00 g2 q9 q10 qo f9 f10) sg0 0 77) := rfl
theorem w0_78 : (W00 (G00 g2 q9 q10 qo f9 f10) q9 q10 qo f9 f10)[49]? = some ((G00 g2 q9 q10 qo f9 f10).1 78, cellAt (G00 g2 q9 q10 qo f9 f10) sg0 0 78) := rfl
theorem w0_79 : (W00 (G00 g2 q9 q10 qo f9 f10) q9 q10 qo f9 f10)[51]? = some ((G00 g2 q9 q10 qo f9 f10).1 79, cellAt (G00 g2 q9 q10 qo f9 f10) sg0 0 79) := rfl
theorem w0_80 : (W00 (G00 g2 q9 q10 qo f9 f10) q9 q10 qo f9 f10)[53]? = some ((G00 g2 q9 q10 qo f9 f10).1 80, cellAt (G00 g2 q9 q10 qo f9 f10) sg0 0 80) := rfl
theorem w0_81 : (W00 (G00 g2 q9 q10 qo f9 f10) q9 q10 qo f9 f10)[55]? = some ((G00 g2 q9 q10 qo f9 f10).1 81, cellAt (G00 g2 q9 q10 qo f9 f10) sg0 0 81) := rfl
theorem w0_82 : (W00 (G00 g2 q9 q10 qo f9 f10) q9 q10 qo f9 f10)[57]? = some ((G00 g2 q9 q10 qo f9 f10).1 82, cellAt (G00 g2 q9 q10 qo f9 f10) sg0 0 82) := rfl
theorem w0_83 : (W00 (G00 g2 q9 q10 qo f9 f10) q9 q10 qo f9 f10)[59]? = some ((G00 g2 q9 q10 qo f9 f10).1 83, cellAt (G00 g2 q9 q10 qo f9 f10) sg0 0 83) := rfl
theorem w0_84 : (W00 (G00 g2 q9 q10 qo f9 f10) q9 q10 qo f9 f10)[61]? = some ((G00 g2 q9 q10 qo f9 f10).1 84, cellAt (G00 g2 q9 q10 qo f9 f10) sg0 0 84) := rfl
theorem w0_85 : (W00 (G00 g2 q9 q10 qo f9 f10) q9 q10 qo f9 f10)[9]? = some ((G00 g2 q9 q10 qo f9 f10).1 85, cellAt (G00 g2 q9 q10 qo f9 f10) sg0 0 85) := rfl
theorem w0_86 : (W00 (G00 g2 q9 q10 qo f9 f10) q9 q10 qo f9 f10)[11]? = some ((G00 g2 q9 q10 qo f9 f10).1 86, cellAt (G00 g2 q9 q10 qo f9 f10) sg0 0 86) := rfl
theorem w0_87 : (W00 (G00 g2 q9 q10 qo f9 f10) q9 q10 qo f9 f10)[13]? = some ((G00 g2 q9 q10 qo f9 f10).1 87, cellAt (G00 g2 q9 q10 qo f9 f10) sg0 0 87) := rfl
theorem w0_88 : (W00 (G00 g2 q9 q10 qo f9 f10) q9 q10 qo f9 f10)[15]? = some ((G00 g2 q9 q10 qo f9 f10).1 88, cellAt (G00 g2 q9 q10 qo f9 f10) sg0 0 88) := rfl
theorem w0_89 : (W00 (G00 g2 q9 q10 qo f9 f10) q9 q10 qo f9 f10)[17]? = some ((G00 g2 q9 q10 qo f9 f10).1 89, cellAt (G00 g2 q9 q10 qo f9 f10) sg0 0 89) := rfl
theorem w0_90 : (W00 (G00 g2 q9 q10 qo f9 f10) q9 q10 qo f9 f10)[19]? = some ((G00 g2 q9 q10 qo f9 f10).1 90, cellAt (G00 g2 q9 q10 qo f9 f10) sg0 0 90) := rfl
theorem w0_91 : (W00 (G00 g2 q9 q10 qo f9 f10) q9 q10 qo f9 f10)[21]? = some ((G00 g2 q9 q10 qo f9 f10).1 91, cellAt (G00 g2 q9 q10 qo f9 f10) sg0 0 91) := rfl
theorem w0_92 : (W00 (G00 g2 q9 q10 qo f9 f10) q9 q10 qo f9 f10)[23]? = some ((G00 g2 q9 q10 qo f9 f10).1 92, cellAt (G00 g2 q9 q10 qo f9 f10) sg0 0 92) := rfl
theorem w0_93 : (W00 (G00 g2 q9 q10 qo f9 f10) q9 q10 qo f9 f10)[64]? = some ((G00 g2 q9 q10 qo f9 f10).1 93, cellAt (G00 g2 q9 q10 qo f9 f10) sg0 0 93) := rfl
theorem w0_94 : (W00 (G00 g2 q9 q10 qo f9 f10) q9 q10 qo f9 f10)[66]? = some ((G00 g2 q9 q10 qo f9 f10).1 94, cellAt (G00 g2 q9 q10 qo f9 f10) sg0 0 94) := rfl
theorem w0_95 : (W00 (G00 g2 q9 q10 qo f9 f10) q9 q10 qo f9 f10)[92]? = some ((G00 g2 q9 q10 qo f9 f10).1 95, cellAt (G00 g2 q9 q10 qo f9 f10) sg0 0 95) := rfl
theorem w0_96 : (W00 (G00 g2 q9 q10 qo f9 f10) q9 q10 qo f9 f10)[94]? = some ((G00 g2 q9 q10 qo f9 f10).1 96, cellAt (G00 g2 q9 q10 qo f9 f10) sg0 0 96) := rfl
theorem w0_97 : (W00 (G00 g2 q9 q10 qo f9 f10) q9 q10 qo f9 f10)[96]? = some ((G00 g2 q9 q10 qo f9 f10).1 97, cellAt (G00 g2 q9 q10 qo f9 f10) sg0 0 97) := rfl
theorem w0_98 : (W00 (G00 g2 q9 q10 qo f9 f10) q9 q10 qo f9 f10)[97]? = some ((G00 g2 q9 q10 qo f9 f10).1 98, cellAt (G00 g2 q9 q10 qo f9 f10) sg0 0 98) := rfl
theorem w0_99 : (W00 (G00 g2 q9 q10 qo f9 f10) q9 q10 qo f9 f10)[98]? = some ((G00 g2 q9 q10 qo f9 f10).1 99, cellAt (G00 g2 q9 q10 qo f9 f10) sg0 0 99) := rfl
theorem w0_100 : (W00 (G00 g2 q9 q10 qo f9 f10) q9 q10 qo f9 f10)[99]? = some ((G00 g2 q9 q10 qo f9 f10).1 100, cellAt (G00 g2 q9 q10 qo f9 f10) sg0 0 100) := rfl
theorem w0_101 : (W00 (G00 g2 q9 q10 qo f9 f10) q9 q10 qo f9 f10)[100]? = some ((G00 g2 q9 q10 qo f9 f10).1 101, cellAt (G00 g2 q9 q10 qo f9 f10) sg0 0 101) := rfl
theorem w0_102 : (W00 (G00 g2 q9 q10 qo f9 f10) q9 q10 qo f9 f10)[101]? = some ((G00 g2 q9 q10 qo f9 f10).1 102, cellAt (G00 g2 q9 q10 qo f9 f10) sg0 0 102) := rfl
theorem w0_103 : (W00 (G00 g2 q9 q10 qo f9 f10) q9 q10 qo f9 f10)[102]? = some ((G00 g2 q9 q10 qo f9 f10).1 103, cellAt (G00 g2 q9 q10 qo f9 f10) sg0 0 103) := rfl
theorem w0_104 : (W00 (G00 g2 q9 q10 qo f9 f10) q9 q10 qo f9 f10)[103]? = some ((G00 g2 q9 q10 qo f9 f10).1 104, cellAt (G00 g2 q9 q10 qo f9 f10) sg0 0 104) := rfl
theorem w0_105 : (W00 (G00 g2 q9 q10 qo f9 f10) q9 q10 qo f9 f10)[104]? = some ((G00 g2 q9 q10 qo f9 f10).1 105, cellAt (G00 g2 q9 q10 qo f9 f10) sg0 0 105) := rfl
theorem w0_106 : (W00 (G00 g2 q9 q10 qo f9 f10) q9 q10 qo f9 f10)[105]? = some ((G00 g2 q9 q10 qo f9 f10).1 106, cellAt (G00 g2 q9 q10 qo f9 f10) sg0 0 106) := rfl
theorem w0_107 : (W00 (G00 g2 q9 q10 qo f9 f10) q9 q10 qo f9 f10)[106]? = some ((G00 g2 q9 q10 qo f9 f10).1 107, cellAt (G00 g2 q9 q10 qo f9 f10) sg0 0 107) := rfl
theorem w0_108 : (W00 (G00 g2 q9 q10 qo f9 f10) q9 q10 qo f9 f10)[107]? = some ((G00 g2 q9 q10 qo f9 f10).1 108, cellAt (G00 g2 q9 q10 qo f9 f10) sg0 0 108) := rfl
theorem w0_109 : (W00 (G00 g2 q9 q10 qo f9 f10) q9 q10 qo f9 f10)[108]? = some ((G00 g2 q9 q10 qo f9 f10).1 109, cellAt (G00 g2 q9 q10 qo f9 f10) sg0 0 109) := rfl
theorem w0_110 : (W00 (G00 g2 q9 q10 qo f9 f10) q9 q10 qo f9 f10)[109]? = some ((G00 g2 q9 q10 qo f9 f10).1 110, cellAt (G00 g2 q9 q10 qo f9 f10) sg0 0 110) := rfl
theorem w0_111 : (W00 (G00 g2 q9 q10 qo f9 f10) q9 q10 qo f9 f10)[110]? = some ((G00 g2 q9 q10 qo f9 f10).1 111, cellAt (G00 g2 q9 q10 qo f9 f10) sg0 0 111) := rfl
theorem w0_112 : (W00 (G00 g2 q9 q10 qo f9 f10) q9 q10 qo f9 f10)[111]? = some ((G00 g2 q9 q10 qo f9 f10).1 112, cellAt (G00 g2 q9 q10 qo f9 f10) sg0 0 112) := rfl
theorem w0_113 : (W00 (G00 g2 q9 q10 qo f9 f10) q9 q10 qo f9 f10)[112]? = some ((G00 g2 q9 q10 qo f9 f10).1 113, cellAt (G00 g2 q9 q10 qo f9 f10) sg0 0 113) := rfl
theorem w0_114 : (W00 (G00 g2 q9 q10 qo f9 f10) q9 q10 qo f9 f10)[113]? = some ((G00 g2 q9 q10 qo f9 f10).1 114, cellAt (G00 g2 q9 q10 qo f9 f10) sg0 0 114) := rfl
theorem w0_115 : (W00 (G00 g2 q9 q10 qo f9 f10) q9 q10 qo f9 f10)[114]? = some ((G00 g2 q9 q10 qo f9 f10).1 115, cellAt (G00 g2 q9 q10 qo f9 f10) sg0 0 115) := rfl
theorem w0_116 : (W00 (G00 g2 q9 q10 qo f9 f10) q9 q10 qo f9 f10)[115]? = some ((G00 g2 q9 q10 qo f9 f10).1 116, cellAt (G00 g2 q9 q10 qo f9 f10) sg0 0 116) := rfl
theorem w0_117 : (W00 (G00 g2 q9 q10 qo f9 f10) q9 q10 qo f9 f10)[116]? = some ((G00 g2 q9 q10 qo f9 f10).1 117, cellAt (G00 g2 q9 q10 qo f9 f10) sg0 0 117) := rfl
theorem w0_118 : (W00 (G00 g2 q9 q10 qo f9 f10) q9 q10 qo f9 f10)[117]? = some ((G00 g2 q9 q10 qo f9 f10).1 118, cellAt (G00 g2 q9 q10 qo f9 f10) sg0 0 118) := rfl
theorem w0_119 : (W00 (G00 g2 q9 q10 qo f9 f10) q9 q10 qo f9 f10)[118]? = some ((G00 g2 q9 q10 qo f9 f10).1 119, cellAt (G00 g2 q9 q10 qo f9 f10) sg0 0 119) := rfl
theorem w0_120 : (W00 (G00 g2 q9 q10 qo f9 f10) q9 q10 qo f9 f10)[119]? = some ((G00 g2 q9 q10 qo f9 f10).1 120, cellAt (G00 g2 q9 q10 qo f9 f10) sg0 0 120) := rfl
theorem w0_121 : (W00 (G00 g2 q9 q10 qo f9 f10) q9 q10 qo f9 f10)[120]? = some ((G00 g2 q9 q10 qo f9 f10).1 121, cellAt (G00 g2 q9 q10 qo f9 f10) sg0 0 121) := rfl
theorem w0_122 : (W00 (G00 g2 q9 q10 qo f9 f10) q9 q10 qo f9 f10)[121]? = some ((G00 g2 q9 q10 qo f9 f10).1 122, cellAt (G00 g2 q9 q10 qo f9 f10) sg0 0 122) := rfl
theorem w0_123 : (W00 (G00 g2 q9 q10 qo f9 f10) q9 q10 qo f9 f10)[122]? = some ((G00 g2 q9 q10 qo f9 f10).1 123, cellAt (G00 g2 q9 q10 qo f9 f10) sg0 0 123) := rfl
theorem w0_124 : (W00 (G00 g2 q9 q10 qo f9 f10) q9 q10 qo f9 f10)[123]? = some ((G00 g2 q9 q10 qo f9 f10).1 124, cellAt (G00 g2 q9 q10 qo f9 f10) sg0 0 124) := rfl
theorem w0_125 : (W00 (G00 g2 q9 q10 qo f9 f10) q9 q10 qo f9 f10)[124]? = some ((G00 g2 q9 q10 qo f9 f10).1 125, cellAt (G00 g2 q9 q10 qo f9 f10) sg0 0 125) := rfl
theorem w0_126 : (W00 (G00 g2 q9 q10 qo f9 f10) q9 q10 qo f9 f10)[125]? = some ((G00 g2 q9 q10 qo f9 f10).1 126, cellAt (G00 g2 q9 q10 qo f9 f10) sg0 0 126) := rfl
theorem w0_127 : (W00 (G00 g2 q9 q10 qo f9 f10) q9 q10 qo f9 f10)[126]? = some ((G00 g2 q9 q10 qo f9 f10).1 127, cellAt (G00 g2 q9 q10 qo f9 f10) sg0 0 127) := rfl
theorem w0_128 : (W00 (G00 g2 q9 q10 qo f9 f10) q9 q10 qo f9 f10)[127]? = some ((G00 g2 q9 q10 qo f9 f10).1 128, cellAt (G00 g2 q9 q10 qo f9 f10) sg0 0 128) := rfl
theorem w0_129 : (W00 (G00 g2 q9 q10 qo f9 f10) q9 q10 qo f9 f10)[128]? = some ((G00 g2 q9 q10 qo f9 f10).1 129, cellAt (G00 g2 q9 q10 qo f9 f10) sg0 0 129) := rfl
theorem w0_all : ∀ i, i < 130 → (W00 (G00 g2 q9 q10 qo f9 f10) q9 q10 qo f9 f10)[pi0.getD i 0]? = some ((G00 g2 q9 q10 qo f9 f10).1 i, cellAt (G00 g2 q9 q10 qo f9 f10) sg0 0 i) := by
  intro i hi
  match i, hi with
  | 0, _ => exact w0_0 g2 q9 q10 qo f9 f10
  | 1, _ => exact w0_1 g2 q9 q10 qo f9 f10
  | 2, _ => exact w0_2 g2 q9 q10 qo f9 f10
  | 3, _ => exact w0_3 g2 q9 q10 qo f9 f10
  | 4, _ => exact w0_4 g2 q9 q10 qo f9 f10
  | 5, _ => exact w0_5 g2 q9 q10 qo f9 f10
  | 6, _ => exact w0_6 g2 q9 q10 qo f9 f10
  | 7, _ => exact w0_7 g2 q9 q10 qo f9 f10
  | 8, _ => exact w0_8 g2 q9 q10 qo f9 f10
  | 9, _ => exact w0_9 g2 q9 q10 qo f9 f10
  | 10, _ => exact w0_10 g2 q9 q10 qo f9 f10
  | 11, _ => exact w0_11 g2 q9 q10 qo f9 f10
  | 12, _ => exact w0_12 g2 q9 q10 qo f9 f10
  | 13, _ => exact w0_13 g2 q9 q10 qo f9 f10
  | 14, _ => exact w0_14 g2 q9 q10 qo f9 f10
  | 15, _ => exact w0_15 g2 q9 q10 qo f9 f10
  | 16, _ => exact w0_16 g2 q9 q10 qo f9 f10
  | 17, _ => exact w0_17 g2 q9 q10 qo f9 f10
  | 18, _ => exact w0_18 g2 q9 q10 qo f9 f10
  | 19, _ => exact w0_19 g2 q9 q10 qo f9 f10
  | 20, _ => exact w0_20 g2 q9 q10 qo f9 f10
  | 21, _ => exact w0_21 g2 q9 q10 qo f9 f10
  | 22, _ => exact w0_22 g2 q9 q10 qo f9 f10
  | 23, _ => exact w0_23 g2 q9 q10 qo f9 f10
  | 24, _ => exact w0_24 g2 q9 q10 qo f9 f10
  | 25, _ => exact w0_25 g2 q9 q10 qo f9 f10
  | 26, _ => exact w0_26 g2 q9 q10 qo f9 f10
  | 27, _ => exact w0_27 g2 q9 q10 qo f9 f10
  | 28, _ => exact w0_28 g2 q9 q10 qo f9 f10
  | 29, _ => exact w0_29 g2 q9 q10 qo f9 f10
  | 30, _ => exact w0_30 g2 q9 q10 qo f9 f10
  | 31, _ => exact w0_31 g2 q9 q10 qo f9 f10
  | 32, _ => exact w0_32 g2 q9 q10 qo f9 f10
  | 33, _ => exact w0_33 g2 q9 q10 qo f9 f10
  | 34, _ => exact w0_34 g2 q9 q10 qo f9 f10
  | 35, _ => exact w0_35 g2 q9 q10 qo f9 f10
  | 36, _ => exact w0_36 g2 q9 q10 qo f9 f10
  | 37, _ => exact w0_37 g2 q9 q10 qo f9 f10
  | 38, _ => exact w0_38 g2 q9 q10 qo f9 f10
  | 39, _ => exact w0_39 g2 q9 q10 qo f9 f10
  | 40, _ => exact w0_40 g2 q9 q10 qo f9 f10
  | 41, _ => exact w0_41 g2 q9 q10 qo f9 f10
  | 42, _ => exact w0_42 g2 q9 q10 qo f9 f10
  | 43, _ => exact w0_43 g2 q9 q10 qo f9 f10
  | 44, _ => exact w0_44 g2 q9 q10 qo f9 f10
  | 45, _ => exact w0_45 g2 q9 q10 qo f9 f10
  | 46, _ => exact w0_46 g2 q9 q10 qo f9 f10
  | 47, _ => exact w0_47 g2 q9 q10 qo f9 f10
  | 48, _ => exact w0_48 g2 q9 q10 qo f9 f10
  | 49, _ => exact w0_49 g2 q9 q10 qo f9 f10
  | 50, _ => exact w0_50 g2 q9 q10 qo f9 f10
  | 51, _ => exact w0_51 g2 q9 q10 qo f9 f10
  | 52, _ => exact w0_52 g2 q9 q10 qo f9 f10
  | 53, _ => exact w0_53 g2 q9 q10 qo f9 f10
  | 54, _ => exact w0_54 g2 q9 q10 qo f9 f10
  | 55, _ => exact w0_55 g2 q9 q10 qo f9 f10
  | 56, _ => exact w0_56 g2 q9 q10 qo f9 f10
  | 57, _ => exact w0_57 g2 q9 q10 qo f9 f10
  | 58, _ => exact w0_58 g2 q9 q10 qo f9 f10
  | 59, _ => exact w0_59 g2 q9 q10 qo f9 f10
  | 60, _ => exact w0_60 g2 q9 q10 qo f9 f10
  | 61, _ => exact w0_61 g2 q9 q10 qo f9 f10
  | 62, _ => exact w0_62 g2 q9 q10 qo f9 f10
  | 63, _ => exact w0_63 g2 q9 q10 qo f9 f10
  | 64, _ => exact w0_64 g2 q9 q10 qo f9 f10
  | 65, _ => exact w0_65 g2 q9 q10 qo f9 f10
  | 66, _ => exact w0_66 g2 q9 q10 qo f9 f10
  | 67, _ => exact w0_67 g2 q9 q10 qo f9 f10
  | 68, _ => exact w0_68 g2 q9 q10 qo f9 f10
  | 69, _ => exact w0_69 g2 q9 q10 qo f9 f10
  | 70, _ => exact w0_70 g2 q9 q10 qo f9 f10
  | 71, _ => exact w0_71 g2 q9 q10 qo f9 f10
  | 72, _ => exact w0_72 g2 q9 q10 qo f9 f10
  | 73, _ => exact w0_73 g2 q9 q10 qo f9 f10
  | 74, _ => exact w0_74 g2 q9 q10 qo f9 f10
  | 75, _ => exact w0_75 g2 q9 q10 qo f9 f10
  | 76, _ => exact w0_76 g2 q9 q10 qo f9 f10
  | 77, _ => exact w0_77 g2 q9 q10 qo f9 f10
  | 78, _ => exact w0_78 g2 q9 q10 qo f9 f10
  | 79, _ => exact w0_79 g2 q9 q10 qo f9 f10
  | 80, _ => exact w0_80 g2 q9 q10 qo f9 f10
  | 81, _ => exact w0_81 g2 q9 q10 qo f9 f10
  | 82, _ => exact w0_82 g2 q9 q10 qo f9 f10
  | 83, _ => exact w0_83 g2 q9 q10 qo f9 f10
  | 84, _ => exact w0_84 g2 q9 q10 qo f9 f10
  | 85, _ => exact w0_85 g2 q9 q10 qo f9 f10
  | 86, _ => exact w0_86 g2 q9 q10 qo f9 f10
  | 87, _ => exact w0_87 g2 q9 q10 qo f9 f10
  | 88, _ => exact w0_88 g2 q9 q10 qo f9 f10
  | 89, _ => exact w0_89 g2 q9 q10 qo f9 f10
  | 90, _ => exact w0_90 g2 q9 q10 qo f9 f10
  | 91, _ => exact w0_91 g2 q9 q10 qo f9 f10
  | 92, _ => exact w0_92 g2 q9 q10 qo f9 f10
  | 93, _ => exact w0_93 g2 q9 q10 qo f9 f10
  | 94, _ => exact w0_94 g2 q9 q10 qo f9 f10
  | 95, _ => exact w0_95 g2 q9 q10 qo f9 f10
  | 96, _ => exact w0_96 g2 q9 q10 qo f9 f10
  | 97, _ => exact w0_97 g2 q9 q10 qo f9 f10
  | 98, _ => exact w0_98 g2 q9 q10 qo f9 f10
  | 99, _ => exact w0_99 g2 q9 q10 qo f9 f10
  | 100, _ => exact w0_100 g2 q9 q10 qo f9 f10
  | 101, _ => exact w0_101 g2 q9 q10 qo f9 f10
  | 102, _ => exact w0_102 g2 q9 q10 qo f9 f10
  | 103, _ => exact w0_103 g2 q9 q10 qo f9 f10
  | 104, _ => exact w0_104 g2 q9 q10 qo f9 f10
  | 105, _ => exact w0_105 g2 q9 q10 qo f9 f10
  | 106, _ => exact w0_106 g2 q9 q10 qo f9 f10
  | 107, _ => exact w0_107 g2 q9 q10 qo f9 f10
  | 108, _ => exact w0_108 g2 q9 q10 qo f9 f10
  | 109, _ => exact w0_109 g2 q9 q10 qo f9 f10
  | 110, _ => exact w0_110 g2 q9 q10 qo f9 f10
  | 111, _ => exact w0_111 g2 q9 q10 qo f9 f10
  | 112, _ => exact w0_112 g2 q9 q10 qo f9 f10
  | 113, _ => exact w0_113 g2 q9 q10 qo f9 f10
  | 114, _ => exact w0_114 g2 q9 q10 qo f9 f10
  | 115, _ => exact w0_115 g2 q9 q10 qo f9 f10
  | 116, _ => exact w0_116 g2 q9 q10 qo f9 f10
  | 117, _ => exact w0_117 g2 q9 q10 qo f9 f10
  | 118, _ => exact w0_118 g2 q9 q10 qo f9 f10
  | 119, _ => exact w0_119 g2 q9 q10 qo f9 f10
  | 120, _ => exact w0_120 g2 q9 q10 qo f9 f10
  | 121, _ => exact w0_121 g2 q9 q10 qo f9 f10
  | 122, _ => exact w0_122 g2 q9 q10 qo f9 f10
  | 123, _ => exact w0_123 g2 q9 q10 qo f9 f10
  | 124, _ => exact w0_124 g2 q9 q10 qo f9 f10
  | 125, _ => exact w0_125 g2 q9 q10 qo f9 f10
  | 126, _ => exact w0_126 g2 q9 q10 qo f9 f10
  | 127, _ => exact w0_127 g2 q9 q10 qo f9 f10
  | 128, _ => exact w0_128 g2 q9 q10 qo f9 f10
  | 129, _ => exact w0_129 g2 q9 q10 qo f9 f10
  | n + 130, h => omega
theorem geo_P {H : Heap} (h : va_P g2.2 vwCl (W00 (G00 g2 q9 q10 qo f9 f10) q9 q10 qo f9 f10) H) : va_P g2.2 vwCl (Wl (G00 g2 q9 q10 qo f9 f10) sg0 0) H := by
  intro k q hk
  have hi : k < 130 := by have := (List.getElem?_eq_some_iff.mp hk).1; rwa [Wl_len] at this
  rw [Wl_at hi] at hk
  cases hk
  exact h _ _ (w0_all g2 q9 q10 qo f9 f10 k hi)
theorem geo_D {A : Nat → Prop} (h : va_D A (W00 (G00 g2 q9 q10 qo f9 f10) q9 q10 qo f9 f10)) : gok (G00 g2 q9 q10 qo f9 f10) ∧ ∀ i, i < 130 → A ((G00 g2 q9 q10 qo f9 f10).1 i) := by
  refine ⟨fun i j hi hj e => ?_, fun i hi => h.2 _ _ (w0_all g2 q9 q10 qo f9 f10 i hi)⟩
  exact pi0_inj i hi j hj (h.1 _ _ _ _ (w0_all g2 q9 q10 qo f9 f10 i hi) (w0_all g2 q9 q10 qo f9 f10 j hj) e)
end GEO
section BC2
variable {X : Ctx} {cc : ByteArray} {own : String} {Ts : List Cond} {nL fr lo mc ms : Nat} {kc ks pc : Nat} {lv lv' : List (Nat × Value)} {st : List Value} {ws : va_W}
theorem k_istore (K : Kx X cc own Ts nL fr lo mc ms) {i : Nat} {x : Int32} (d : decode cc pc = .ok (.istore i, 2)) (hn : i < nL) (hlv : (i, Value.int x) :: lv.filter (fun q => !(q.1 == i) && !(q.1 + 1 == i && q.2.category == 2)) = lv') (kk : Bc X nL kc ks (pc + 2) lv' st ws) : Bc X nL kc ks pc lv (.int x :: st) ws := by
  obtain ⟨p, l, e, R, s, m, args, below, meth, c, Q, G, A⟩ := X
  obtain ⟨hx, hb, hml, hown, hts, hK, hA, hfr, hlo, hmc, hms⟩ := K
  intro H locs ls hP hD hS hl
  exact lv_istore hx hb d hl hn hlv (fun ls' hl' => kk H locs ls' hP hD hS hl')
theorem k_newJ (K : Kx X cc own Ts nL fr lo mc ms) (w1 : (Cond.arrayClass .long) ∈ Ts) {n : Int32} {N : Nat} (hn : ¬ n < 0) (hN : n.toNatClampNeg = N) (hbt : N * componentBytes .long ≤ 536870912) (h1 : kc + 1 ≤ mc) (h2 : ks + N ≤ ms) (d : decode cc pc = .ok (.newarray .long, 2)) (kk : ∀ q : Nat, Bc X nL (kc + 1) (ks + N) (pc + 2) lv (.ref q :: st) (ws ++ [(q, .inl ((XG X).2.1.2.2, N, .inr (.inl (fun _ => 0))))])) : Bc X nL kc ks pc lv (.int n :: st) ws := by
  obtain ⟨p, l, e, R, s, m, args, below, meth, c, Q, G, A⟩ := X
  obtain ⟨hx, hb, hml, hown, hts, hK, hA, hfr, hlo, hmc, hms⟩ := K
  intro H locs ls hP hD hS hl
  refine va_newa (atype := .long) (ty := .long) (a0 := (N, .inr (.inl (fun _ => 0)))) hx hb (hts _ w1) rfl hK hP hD hS hA (fun _ => rfl) hn hN hbt (Nat.le_trans h1 hmc) (Nat.le_trans h2 hms) d (fun q cA H1 hK1 hP1 hD1 hS1 => ?_)
  have e : cA = G.2.1.2.2 := Option.some.inj ((hK1.2 3 (cA, .long) rfl).2.symm.trans (hK.2 2 (G.2.1.2.2, .long) rfl).2)
  subst e
  exact kk q H1 locs ls hP1 hD1 hS1 hl
end BC2
theorem arr_known {args : Array Value} {s : State} (ty : FieldType) (hne : ∀ C, ty ≠ .object C) (h : (Cond.arrayClass ty).before args s = true) : ∃ cA : ClassId, ArrOfT s cA ty ∧ va_RA s cA ty := by
  obtain ⟨cA, kA, comp, hfind, hk, hkind⟩ := Cond.arrayClass_spec h
  refine ⟨cA, fun n z => ⟨fun k h => (by cases h), kA, hk, comp, hkind⟩, ?_⟩
  cases ty with
  | object C => exact absurd rfl (hne C)
  | _ => exact hfind
set_option maxHeartbeats 4000000 in
set_option maxRecDepth 100000 in
theorem classes_known {args : Array Value} {s : State} (hts : ∀ w ∈ lw_tbl, w.before args s = true) : ∃ D : va_G, ∀ (k : Nat) (q : vw_C), vwCl[k]? = some q → u_Kn s q.1 q.2.1 q.2.2 (D.1 k) (D.2 k) := by
  obtain ⟨c0, i0, h0⟩ := u_known (C := RX0) (T := TX0) (N := 6) (n := 6) hts (fun w h => (gF_wsX00 w h).1) (hts (.instantiable RX0 6) (List.mem_of_getElem? (i := 118) (by decide +kernel)))
  obtain ⟨c1, i1, h1⟩ := u_known (C := RX1) (T := TX1) (N := 2) (n := 2) hts (fun w h => (gF_wsX10 w h).1) (hts (.instantiable RX1 2) (List.mem_of_getElem? (i := 88) (by decide +kernel)))
  obtain ⟨c2, i2, h2⟩ := u_known (C := RX2) (T := TX2) (N := 12) (n := 12) hts (fun w h => (gF_wsX20 w h).1) (hts (.instantiable RX2 12) (List.mem_of_getElem? (i := 299) (by decide +kernel)))
  obtain ⟨c3, i3, h3⟩ := u_known (C := RX3) (T := TX3) (N := 7) (n := 7) hts (fun w h => (gF_wsX30 w h).1) (hts (.instantiable RX3 7) (List.mem_of_getElem? (i := 183) (by decide +kernel)))
  obtain ⟨c4, i4, h4⟩ := u_known (C := RX4) (T := TX4) (N := 13) (n := 13) hts (fun w h => (gF_wsX40 w h).1) (hts (.instantiable RX4 13) (List.mem_of_getElem? (i := 218) (by decide +kernel)))
  obtain ⟨c5, i5, h5⟩ := u_known (C := RX5) (T := TX5) (N := 1) (n := 1) hts (fun w h => (gF_wsX50 w h).1) (hts (.instantiable RX5 1) (List.mem_of_getElem? (i := 94) (by decide +kernel)))
  obtain ⟨c6, i6, h6⟩ := u_known (C := RX6) (T := TX6) (N := 8) (n := 8) hts (fun w h => (gF_wsX60 w h).1) (hts (.instantiable RX6 8) (List.mem_of_getElem? (i := 149) (by decide +kernel)))
  obtain ⟨c7, i7, h7⟩ := u_known (C := RX7) (T := TX7) (N := 3) (n := 3) hts (fun w h => (gF_wsX70 w h).1) (hts (.instantiable RX7 3) (List.mem_of_getElem? (i := 278) (by decide +kernel)))
  obtain ⟨c8, i8, h8⟩ := u_known (C := RX8) (T := TX8) (N := 7) (n := 7) hts (fun w h => (gF_wsX80 w h).1) (hts (.instantiable RX8 7) (List.mem_of_getElem? (i := 355) (by decide +kernel)))
  obtain ⟨c9, i9, h9⟩ := u_known (C := RX9) (T := TX9) (N := 15) (n := 15) hts (fun w h => (gF_wsX90 w h).1) (hts (.instantiable RX9 15) (List.mem_of_getElem? (i := 80) (by decide +kernel)))
  obtain ⟨c10, i10, h10⟩ := u_known (C := RX10) (T := TX10) (N := 41) (n := 41) hts (fun w h => (gF_wsX100 w h).1) (hts (.instantiable RX10 41) (List.mem_of_getElem? (i := 1027) (by decide +kernel)))
  refine ⟨(fun k => match k with | 0 => c0 | 1 => c1 | 2 => c2 | 3 => c3 | 4 => c4 | 5 => c5 | 6 => c6 | 7 => c7 | 8 => c8 | 9 => c9 | _ => c10, fun k => match k with | 0 => i0 | 1 => i1 | 2 => i2 | 3 => i3 | 4 => i4 | 5 => i5 | 6 => i6 | 7 => i7 | 8 => i8 | 9 => i9 | _ => i10), fun k q hq => ?_⟩
  match k, hq with
  | 0, hq => cases hq; exact h0
  | 1, hq => cases hq; exact h1
  | 2, hq => cases hq; exact h2
  | 3, hq => cases hq; exact h3
  | 4, hq => cases hq; exact h4
  | 5, hq => cases hq; exact h5
  | 6, hq => cases hq; exact h6
  | 7, hq => cases hq; exact h7
  | 8, hq => cases hq; exact h8
  | 9, hq => cases hq; exact h9
  | 10, hq => cases hq; exact h10
  | k + 11, hq => simp [vwCl] at hq
theorem wN9_of {args : Array Value} {s : State} (hts : ∀ w ∈ lw_tbl, w.before args s = true) : wN9 s := ⟨va_Nw.of rfl (hts _ (List.mem_of_getElem? (i := 89) (by decide +kernel))), va_Nw.of rfl (hts _ (List.mem_of_getElem? (i := 119) (by decide +kernel))), va_Nw.of rfl (hts _ (List.mem_of_getElem? (i := 150) (by decide +kernel))), va_Nw.of rfl (hts _ (List.mem_of_getElem? (i := 184) (by decide +kernel))), va_Nw.of rfl (hts _ (List.mem_of_getElem? (i := 219) (by decide +kernel))), va_Nw.of rfl (hts _ (List.mem_of_getElem? (i := 279) (by decide +kernel))), va_Nw.of rfl (hts _ (List.mem_of_getElem? (i := 300) (by decide +kernel))), va_Nw.of rfl (hts _ (List.mem_of_getElem? (i := 356) (by decide +kernel)))⟩
theorem wN_of {args : Array Value} {s : State} (hts : ∀ w ∈ lw_tbl, w.before args s = true) : wN s := va_Nw.of rfl (hts _ (List.mem_of_getElem? (i := 489) (by decide +kernel)))
theorem wT_of {args : Array Value} {s : State} {A : Nat → Prop} (hts : ∀ w ∈ lw_tbl, w.before args s = true) (h1 : (Cond.isRef (.static Bundle.tN "UNASSIGNED_STACK" Bundle.steD)).before args s = true) (h2 : (Cond.isRef (.static Bundle.tN "SUPPRESSED_SENTINEL" Bundle.listD)).before args s = true) (hA : ∀ a : Nat, a < s.heap.size → ¬ A a) : wT A s s.heap :=
  ⟨⟨⟨vx_Zqof (hts _ (List.mem_of_getElem? (i := 542) (by decide +kernel))) (hts _ (List.mem_of_getElem? (i := 72) (by decide +kernel))) h1 hA, vx_Zqof (hts _ (List.mem_of_getElem? (i := 544) (by decide +kernel))) (hts _ (List.mem_of_getElem? (i := 72) (by decide +kernel))) h2 hA⟩, va_Nw.of rfl (hts _ (List.mem_of_getElem? (i := 518) (by decide +kernel))), va_Nw.of rfl (hts _ (List.mem_of_getElem? (i := 520) (by decide +kernel))), va_Nw.of rfl (hts _ (List.mem_of_getElem? (i := 522) (by decide +kernel)))⟩, va_Nw.of rfl (hts _ (List.mem_of_getElem? (i := 517) (by decide +kernel))), va_Nw.of rfl (hts _ (List.mem_of_getElem? (i := 580) (by decide +kernel))), va_Nw.of rfl (hts _ (List.mem_of_getElem? (i := 619) (by decide +kernel)))⟩
theorem wNc_of {args : Array Value} {s : State} (h : (Jvm.Cond.and given_1 narrow_1).before args s = true) : wNc s :=
  ⟨va_Nc.of (flat_of_before _ h (.not (.castable (exN 1) (exN 2))) (by decide +kernel)), va_Nc.of (flat_of_before _ h (.not (.castable (exN 1) (exN 3))) (by decide +kernel)), va_Nc.of (flat_of_before _ h (.not (.castable (exN 2) (exN 1))) (by decide +kernel)), va_Nc.of (flat_of_before _ h (.not (.castable (exN 2) (exN 3))) (by decide +kernel)), va_Nc.of (flat_of_before _ h (.not (.castable (exN 3) (exN 1))) (by decide +kernel)), va_Nc.of (flat_of_before _ h (.not (.castable (exN 3) (exN 2))) (by decide +kernel))⟩
set_option maxHeartbeats 4000000 in
set_option maxRecDepth 100000 in
/-- the law, from its entry, over any invariant that holds of the first memory and that every call keeps -/
theorem whole_of {Inv : Mem → Prop} (hI0 : Inv sg0) (hst : ∀ σ, Inv σ → ∀ x1 x2 x3 k, k < 27 → Step Inv σ x1 x2 x3 k) {p : Program} {e : Env} {s : State} {m : MethodId} {below : List Frame} {meth : Method} {c : Code} (l : Launch) (hflags : l.flags = flags0) {b L : Nat} {xs : Nat → Int32} (hL : L ≤ 2048) (C0 : lw_At p s m meth c b L xs) : W p l e room_1 s m #[Value.ref b] below meth c s.heap [] 0 0 (lw_Z below #[Value.ref b] s) (entryFrame m ([Value.ref b] : List Value).toArray 7) := by
  obtain ⟨hx, hb, hr, hml, hown, hts, hX, hbl, hlocks, hgv⟩ := C0
  have hfl : l.stackTraces = false := by unfold Launch.stackTraces; rw [hflags]; decide +kernel
  obtain ⟨D, hD⟩ := classes_known hts
  obtain ⟨cI, hI1, hI2⟩ := arr_known .int (fun _ h => by cases h) (hts (.arrayClass .int) (List.mem_of_getElem? (i := 106) (by decide +kernel)))
  obtain ⟨cZ, hZ1, hZ2⟩ := arr_known .boolean (fun _ h => by cases h) (hts (.arrayClass .boolean) (List.mem_of_getElem? (i := 1156) (by decide +kernel)))
  obtain ⟨cJ, hJ1, hJ2⟩ := arr_known .long (fun _ h => by cases h) (hts (.arrayClass .long) (List.mem_of_getElem? (i := 1382) (by decide +kernel)))
  obtain ⟨g2, hg2⟩ : ∃ g2 : (ClassId × ClassId × ClassId) × va_G, g2 = ((cI, cZ, cJ), D) := ⟨_, rfl⟩
  have hK0 : ∀ a : Nat → Nat, va_K g2.2 vwCl (tysG (a, g2)) s := by
    intro a
    subst hg2
    refine ⟨hD, fun k q hk => ?_⟩
    match k, hk with
    | 0, hk => cases hk; exact ⟨hI1, hI2⟩
    | 1, hk => cases hk; exact ⟨hZ1, hZ2⟩
    | 2, hk => cases hk; exact ⟨hJ1, hJ2⟩
    | k + 3, hk => simp [tysG] at hk
  have hA0 : ∀ q : Nat, s.heap.size ≤ q → (fun q : Nat => s.heap.size ≤ q) q := fun _ h => h
  have hNA : ∀ a : Nat, a < s.heap.size → ¬ (fun q : Nat => s.heap.size ≤ q) a := fun a h1 h2 => Nat.not_le.mpr h1 h2
  have hT : wT (fun q : Nat => s.heap.size ≤ q) s s.heap := wT_of hts (flat_of_before _ hgv _ (by decide +kernel)) (flat_of_before _ hgv _ (by decide +kernel)) hNA
  -- the loop, from any geometry
  have loop : ∀ G : Geo, G.2 = g2 → gok G → (∀ i, i < 130 → s.heap.size ≤ G.1 i) → Bk (p, l, e, room_1, s, m, #[Value.ref b], below, meth, c, lw_Z below #[Value.ref b] s, G, fun q : Nat => s.heap.size ≤ q) 7 0 130 9439 23 [(0, .ref b), (1, .ref (G.1 9)), (2, .ref (G.1 10)), (3, .ref (G.1 5)), (4, .int (nI 0))] [] sg0 := by
    intro G hG2 hG hAi
    refine lw_loop (X := (p, l, e, room_1, s, m, #[Value.ref b], below, meth, c, lw_Z below #[Value.ref b] s, G, fun q : Nat => s.heap.size ≤ q)) (Inv := Inv) (L := L) (xs := xs) ⟨hx, hb, hml, hown, hts, ⟨?_, wN_of hts⟩, hG, hAi, hA0, Nat.le_of_ble_eq_true rfl, Nat.le_of_ble_eq_true rfl⟩ ⟨hfl, hT, wNc_of hgv, Nat.le_refl _, Nat.le_refl _, hX, hbl, Nat.not_le.mpr hbl⟩ hL hst ?_ (L + 2) 0 0 130 9439 sg0 (Nat.zero_le _) (by omega) (by omega) (by omega) hI0
    · have := hK0 G.1
      rw [← hG2] at this
      exact this
    · intro o kc ks lv σ h1 h2 H locs ls hP hS hl
      refine va_forget (fun q hq => hS.2.2 q hq) ?_
      refine W.widen (k := 601024) (n := 7293034) h1 h2 ?_
      exact lw_ret hx hb hr hlocks dL_law_1904
  -- the makings
  have K : Kx (p, l, e, room_1, s, m, #[Value.ref b], below, meth, c, lw_Z below #[Value.ref b] s, (fun _ => 0, g2), fun q : Nat => s.heap.size ≤ q) cL_law RL lw_tbl 7 12 472 601024 7293034 := ⟨hx, hb, hml, hown, hts, hK0 _, hA0, Nat.le_refl _, Nat.le_refl _, Nat.le_refl _, Nat.le_refl _⟩
  have main : Bc (p, l, e, room_1, s, m, #[Value.ref b], below, meth, c, lw_Z below #[Value.ref b] s, (fun _ => 0, g2), fun q : Nat => s.heap.size ≤ q) 7 0 0 0 [(0, .ref b)] [] [] := by
    refine k_new K (fs := [.null, .null, .null, .null, .null, .null, .null, .null, .null, .null, .int 0, .int 0, .int 0, .int 0, .int 0]) (ci := 9) (fun w h => (gF_wsX90 w h).1) tyX9 tyX9_ok (List.mem_of_getElem? (i := 79) (by decide +kernel)) (List.mem_of_getElem? (i := 80) (by decide +kernel)) (List.mem_of_getElem? (i := 60) (by decide +kernel)) rfl (fun j hj => by rcases (show j = 0 ∨ j = 1 ∨ j = 2 ∨ j = 3 ∨ j = 4 ∨ j = 5 ∨ j = 6 ∨ j = 7 ∨ j = 8 ∨ j = 9 ∨ j = 10 ∨ j = 11 ∨ j = 12 ∨ j = 13 ∨ j = 14 by omega) with rfl | rfl | rfl | rfl | rfl | rfl | rfl | rfl | rfl | rfl | rfl | rfl | rfl | rfl | rfl <;> rfl) (Nat.le_of_ble_eq_true rfl) (Nat.le_of_ble_eq_true rfl) dL_law_0 (fun q9 => ?_)
    refine k_dup K dL_law_3 rfl ?_
    refine k_callI (n := 0) K _ [] c_X9_init wN9.blind (fun U hW => wN9.warm hW (wN9_of hts)) gF_wsX9_init (List.mem_of_getElem? (i := 60) (by decide +kernel)) (List.mem_of_getElem? (i := 81) (by decide +kernel)) (List.mem_of_getElem? (i := 82) (by decide +kernel)) rfl rfl (by decide +kernel) rfl (by decide) (by decide) (Nat.le_of_ble_eq_true rfl) (Nat.le_of_ble_eq_true rfl) (Nat.le_of_ble_eq_true rfl) dL_law_4 (fun f9 => ?_)
    refine k_astore_n (lv' := [(1, .ref q9), (0, .ref b)]) K dL_law_7 rfl (by decide) rfl ?_
    refine k_new K (fs := [.int 0, .int 0, .null, .int 0, .int 0, .null, .null, .null, .null, .null, .null, .int 0, .null, .null, .null, .null, .null, .int 0, .null, .null, .null, .null, .null, .null, .null, .null, .null, .int 0, .null, .null, .int 0, .null, .null, .null, .null, .null, .null, .null, .null, .null, .null]) (ci := 10) (fun w h => (gF_wsX100 w h).1) tyX10 tyX10_ok (List.mem_of_getElem? (i := 1026) (by decide +kernel)) (List.mem_of_getElem? (i := 1027) (by decide +kernel)) (List.mem_of_getElem? (i := 71) (by decide +kernel)) rfl (fun j hj => by rcases (show j = 0 ∨ j = 1 ∨ j = 2 ∨ j = 3 ∨ j = 4 ∨ j = 5 ∨ j = 6 ∨ j = 7 ∨ j = 8 ∨ j = 9 ∨ j = 10 ∨ j = 11 ∨ j = 12 ∨ j = 13 ∨ j = 14 ∨ j = 15 ∨ j = 16 ∨ j = 17 ∨ j = 18 ∨ j = 19 ∨ j = 20 ∨ j = 21 ∨ j = 22 ∨ j = 23 ∨ j = 24 ∨ j = 25 ∨ j = 26 ∨ j = 27 ∨ j = 28 ∨ j = 29 ∨ j = 30 ∨ j = 31 ∨ j = 32 ∨ j = 33 ∨ j = 34 ∨ j = 35 ∨ j = 36 ∨ j = 37 ∨ j = 38 ∨ j = 39 ∨ j = 40 by omega) with rfl | rfl | rfl | rfl | rfl | rfl | rfl | rfl | rfl | rfl | rfl | rfl | rfl | rfl | rfl | rfl | rfl | rfl | rfl | rfl | rfl | rfl | rfl | rfl | rfl | rfl | rfl | rfl | rfl | rfl | rfl | rfl | rfl | rfl | rfl | rfl | rfl | rfl | rfl | rfl | rfl <;> rfl) (Nat.le_of_ble_eq_true rfl) (Nat.le_of_ble_eq_true rfl) dL_law_8 (fun q10 => ?_)
    refine k_dup K dL_law_11 rfl ?_
    refine k_callI (n := 0) K _ [] c_X10_init (fun _ _ _ _ _ => trivial) (fun _ _ => trivial) gF_wsX10_init (List.mem_of_getElem? (i := 71) (by decide +kernel)) (List.mem_of_getElem? (i := 1028) (by decide +kernel)) (List.mem_of_getElem? (i := 1029) (by decide +kernel)) rfl rfl (by decide +kernel) rfl (by decide) (by decide) (Nat.le_of_ble_eq_true rfl) (Nat.le_of_ble_eq_true rfl) (Nat.le_of_ble_eq_true rfl) dL_law_12 (fun f10 => ?_)
    refine k_astore_n (lv' := [(2, .ref q10), (1, .ref q9), (0, .ref b)]) K dL_law_15 rfl (by decide) rfl ?_
    refine k_iconst K (v := 1) dL_law_16 (by decide) ?_
    refine k_newJ K (List.mem_of_getElem? (i := 1382) (by decide +kernel)) (N := 1) (by decide) (by decide) (by decide) (Nat.le_of_ble_eq_true rfl) (Nat.le_of_ble_eq_true rfl) dL_law_17 (fun qo => ?_)
    refine k_astore_n (lv' := [(3, .ref qo), (2, .ref q10), (1, .ref q9), (0, .ref b)]) K dL_law_19 rfl (by decide) rfl ?_
    refine k_iconst K (v := 0) dL_law_20 (by decide) ?_
    refine k_istore (lv' := [(4, .int 0), (3, .ref qo), (2, .ref q10), (1, .ref q9), (0, .ref b)]) K dL_law_21 (by decide) rfl ?_
    intro H locs ls hP hDD hS hl
    have hP2 := geo_P g2 q9 q10 qo f9 f10 (H := H) hP
    obtain ⟨hG, hAi⟩ := geo_D g2 q9 q10 qo f9 f10 hDD
    exact loop (G00 g2 q9 q10 qo f9 f10) rfl hG hAi H locs ls hP2 hS (lv_sub hl [4, 3, 2, 1, 0] rfl)
  have hl := lv_entry ([.ref b]) (n := 7) (Nat.le_of_ble_eq_true rfl)
  rw [lg_entry_eq]
  exact main s.heap [] _ (fun k q h => by simp at h) ⟨fun i j p q h => by simp at h, fun k q h => by simp at h⟩ va_S.rf hl
