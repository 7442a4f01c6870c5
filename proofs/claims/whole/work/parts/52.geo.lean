/-! THE LAW'S START. Printed by wip/whole/gen/start.py -/
def pi0 : List Nat := [4, 1, 67, 24, 37, 129, 7, 62, 90, 0, 95, 5, 2, 68, 70, 72, 74, 76, 78, 80, 82, 84, 86, 88, 25, 27, 29, 31, 33, 35, 38, 40, 42, 44, 46, 48, 50, 52, 54, 56, 58, 60, 8, 10, 12, 14, 16, 18, 20, 22, 63, 65, 91, 93, 6, 3, 69, 71, 73, 75, 77, 79, 81, 83, 85, 87, 89, 26, 28, 30, 32, 34, 36, 39, 41, 43, 45, 47, 49, 51, 53, 55, 57, 59, 61, 9, 11, 13, 15, 17, 19, 21, 23, 64, 66, 92, 94, 96, 97, 98, 99, 100, 101, 102, 103, 104, 105, 106, 107, 108, 109, 110, 111, 112, 113, 114, 115, 116, 117, 118, 119, 120, 121, 122, 123, 124, 125, 126, 127, 128]
def ad0 (q9 q10 qo : Nat) (f9 f10 : Nat → Nat) : List Nat := [f9 3, f9 0, f9 66, f9 23, f9 36, qo, f9 6, f9 61, f9 89, q9, q10, f9 4, f9 1, f9 67, f9 69, f9 71, f9 73, f9 75, f9 77, f9 79, f9 81, f9 83, f9 85, f9 87, f9 24, f9 26, f9 28, f9 30, f9 32, f9 34, f9 37, f9 39, f9 41, f9 43, f9 45, f9 47, f9 49, f9 51, f9 53, f9 55, f9 57, f9 59, f9 7, f9 9, f9 11, f9 13, f9 15, f9 17, f9 19, f9 21, f9 62, f9 64, f9 90, f9 92, f9 5, f9 2, f9 68, f9 70, f9 72, f9 74, f9 76, f9 78, f9 80, f9 82, f9 84, f9 86, f9 88, f9 25, f9 27, f9 29, f9 31, f9 33, f9 35, f9 38, f9 40, f9 42, f9 44, f9 46, f9 48, f9 50, f9 52, f9 54, f9 56, f9 58, f9 60, f9 8, f9 10, f9 12, f9 14, f9 16, f9 18, f9 20, f9 22, f9 63, f9 65, f9 91, f9 93, f10 0, f10 1, f10 2, f10 3, f10 4, f10 5, f10 6, f10 7, f10 8, f10 9, f10 10, f10 11, f10 12, f10 13, f10 14, f10 15, f10 16, f10 17, f10 18, f10 19, f10 20, f10 21, f10 22, f10 23, f10 24, f10 25, f10 26, f10 27, f10 28, f10 29, f10 30, f10 31, f10 32]
def sg0 : Mem := fun r k => if r = 76 then (if k = 17 then 1 else if k = 24 then 1 else 0) else if r = 49 then rel9 16 k else 0
def W00 (G : Geo) (q9 q10 qo : Nat) (f9 f10 : Nat → Nat) : va_W := (([] ++ outX9 G q9 f9) ++ outX10 G q10 f10) ++ [(qo, .inl (G.2.1.2.2, 1, .inr (.inl (fun _ => 0))))]
theorem pi0_inj : ∀ i, i < 130 → ∀ j, j < 130 → pi0.getD i 0 = pi0.getD j 0 → i = j := by decide +kernel
section GEO
variable (g2 : (ClassId × ClassId × ClassId) × va_G) (q9 q10 qo : Nat) (f9 f10 : Nat → Nat)
def G00 : Geo := (fun i => (ad0 q9 q10 qo f9 f10).getD i 0, g2)
set_option maxRecDepth 100000 in
theorem w0_0 : (W00 (G00 g2 q9 q10 qo f9 f10) q9 q10 qo f9 f10)[4]? = some ((G00 g2 q9 q10 qo f9 f10).1 0, cellAt (G00 g2 q9 q10 qo f9 f10) sg0 0 0) := rfl
set_option maxRecDepth 100000 in
theorem w0_1 : (W00 (G00 g2 q9 q10 qo f9 f10) q9 q10 qo f9 f10)[1]? = some ((G00 g2 q9 q10 qo f9 f10).1 1, cellAt (G00 g2 q9 q10 qo f9 f10) sg0 0 1) := rfl
set_option maxRecDepth 100000 in
theorem w0_2 : (W00 (G00 g2 q9 q10 qo f9 f10) q9 q10 qo f9 f10)[67]? = some ((G00 g2 q9 q10 qo f9 f10).1 2, cellAt (G00 g2 q9 q10 qo f9 f10) sg0 0 2) := rfl
set_option maxRecDepth 100000 in
theorem w0_3 : (W00 (G00 g2 q9 q10 qo f9 f10) q9 q10 qo f9 f10)[24]? = some ((G00 g2 q9 q10 qo f9 f10).1 3, cellAt (G00 g2 q9 q10 qo f9 f10) sg0 0 3) := rfl
set_option maxRecDepth 100000 in
theorem w0_4 : (W00 (G00 g2 q9 q10 qo f9 f10) q9 q10 qo f9 f10)[37]? = some ((G00 g2 q9 q10 qo f9 f10).1 4, cellAt (G00 g2 q9 q10 qo f9 f10) sg0 0 4) := rfl
set_option maxRecDepth 100000 in
theorem w0_5 : (W00 (G00 g2 q9 q10 qo f9 f10) q9 q10 qo f9 f10)[129]? = some ((G00 g2 q9 q10 qo f9 f10).1 5, cellAt (G00 g2 q9 q10 qo f9 f10) sg0 0 5) := rfl
set_option maxRecDepth 100000 in
theorem w0_6 : (W00 (G00 g2 q9 q10 qo f9 f10) q9 q10 qo f9 f10)[7]? = some ((G00 g2 q9 q10 qo f9 f10).1 6, cellAt (G00 g2 q9 q10 qo f9 f10) sg0 0 6) := rfl
set_option maxRecDepth 100000 in
theorem w0_7 : (W00 (G00 g2 q9 q10 qo f9 f10) q9 q10 qo f9 f10)[62]? = some ((G00 g2 q9 q10 qo f9 f10).1 7, cellAt (G00 g2 q9 q10 qo f9 f10) sg0 0 7) := rfl
set_option maxRecDepth 100000 in
theorem w0_8 : (W00 (G00 g2 q9 q10 qo f9 f10) q9 q10 qo f9 f10)[90]? = some ((G00 g2 q9 q10 qo f9 f10).1 8, cellAt (G00 g2 q9 q10 qo f9 f10) sg0 0 8) := rfl
set_option maxRecDepth 100000 in
theorem w0_9 : (W00 (G00 g2 q9 q10 qo f9 f10) q9 q10 qo f9 f10)[0]? = some ((G00 g2 q9 q10 qo f9 f10).1 9, cellAt (G00 g2 q9 q10 qo f9 f10) sg0 0 9) := rfl
set_option maxRecDepth 100000 in
theorem w0_10 : (W00 (G00 g2 q9 q10 qo f9 f10) q9 q10 qo f9 f10)[95]? = some ((G00 g2 q9 q10 qo f9 f10).1 10, cellAt (G00 g2 q9 q10 qo f9 f10) sg0 0 10) := rfl
set_option maxRecDepth 100000 in
theorem w0_11 : (W00 (G00 g2 q9 q10 qo f9 f10) q9 q10 qo f9 f10)[5]? = some ((G00 g2 q9 q10 qo f9 f10).1 11, cellAt (G00 g2 q9 q10 qo f9 f10) sg0 0 11) := rfl
set_option maxRecDepth 100000 in
theorem w0_12 : (W00 (G00 g2 q9 q10 qo f9 f10) q9 q10 qo f9 f10)[2]? = some ((G00 g2 q9 q10 qo f9 f10).1 12, cellAt (G00 g2 q9 q10 qo f9 f10) sg0 0 12) := rfl
set_option maxRecDepth 100000 in
theorem w0_13 : (W00 (G00 g2 q9 q10 qo f9 f10) q9 q10 qo f9 f10)[68]? = some ((G00 g2 q9 q10 qo f9 f10).1 13, cellAt (G00 g2 q9 q10 qo f9 f10) sg0 0 13) := rfl
set_option maxRecDepth 100000 in
theorem w0_14 : (W00 (G00 g2 q9 q10 qo f9 f10) q9 q10 qo f9 f10)[70]? = some ((G00 g2 q9 q10 qo f9 f10).1 14, cellAt (G00 g2 q9 q10 qo f9 f10) sg0 0 14) := rfl
set_option maxRecDepth 100000 in
theorem w0_15 : (W00 (G00 g2 q9 q10 qo f9 f10) q9 q10 qo f9 f10)[72]? = some ((G00 g2 q9 q10 qo f9 f10).1 15, cellAt (G00 g2 q9 q10 qo f9 f10) sg0 0 15) := rfl
set_option maxRecDepth 100000 in
theorem w0_16 : (W00 (G00 g2 q9 q10 qo f9 f10) q9 q10 qo f9 f10)[74]? = some ((G00 g2 q9 q10 qo f9 f10).1 16, cellAt (G00 g2 q9 q10 qo f9 f10) sg0 0 16) := rfl
set_option maxRecDepth 100000 in
theorem w0_17 : (W00 (G00 g2 q9 q10 qo f9 f10) q9 q10 qo f9 f10)[76]? = some ((G00 g2 q9 q10 qo f9 f10).1 17, cellAt (G00 g2 q9 q10 qo f9 f10) sg0 0 17) := rfl
set_option maxRecDepth 100000 in
theorem w0_18 : (W00 (G00 g2 q9 q10 qo f9 f10) q9 q10 qo f9 f10)[78]? = some ((G00 g2 q9 q10 qo f9 f10).1 18, cellAt (G00 g2 q9 q10 qo f9 f10) sg0 0 18) := rfl
set_option maxRecDepth 100000 in
theorem w0_19 : (W00 (G00 g2 q9 q10 qo f9 f10) q9 q10 qo f9 f10)[80]? = some ((G00 g2 q9 q10 qo f9 f10).1 19, cellAt (G00 g2 q9 q10 qo f9 f10) sg0 0 19) := rfl
set_option maxRecDepth 100000 in
theorem w0_20 : (W00 (G00 g2 q9 q10 qo f9 f10) q9 q10 qo f9 f10)[82]? = some ((G00 g2 q9 q10 qo f9 f10).1 20, cellAt (G00 g2 q9 q10 qo f9 f10) sg0 0 20) := rfl
set_option maxRecDepth 100000 in
theorem w0_21 : (W00 (G00 g2 q9 q10 qo f9 f10) q9 q10 qo f9 f10)[84]? = some ((G00 g2 q9 q10 qo f9 f10).1 21, cellAt (G00 g2 q9 q10 qo f9 f10) sg0 0 21) := rfl
set_option maxRecDepth 100000 in
theorem w0_22 : (W00 (G00 g2 q9 q10 qo f9 f10) q9 q10 qo f9 f10)[86]? = some ((G00 g2 q9 q10 qo f9 f10).1 22, cellAt (G00 g2 q9 q10 qo f9 f10) sg0 0 22) := rfl
set_option maxRecDepth 100000 in
theorem w0_23 : (W00 (G00 g2 q9 q10 qo f9 f10) q9 q10 qo f9 f10)[88]? = some ((G00 g2 q9 q10 qo f9 f10).1 23, cellAt (G00 g2 q9 q10 qo f9 f10) sg0 0 23) := rfl
set_option maxRecDepth 100000 in
theorem w0_24 : (W00 (G00 g2 q9 q10 qo f9 f10) q9 q10 qo f9 f10)[25]? = some ((G00 g2 q9 q10 qo f9 f10).1 24, cellAt (G00 g2 q9 q10 qo f9 f10) sg0 0 24) := rfl
set_option maxRecDepth 100000 in
theorem w0_25 : (W00 (G00 g2 q9 q10 qo f9 f10) q9 q10 qo f9 f10)[27]? = some ((G00 g2 q9 q10 qo f9 f10).1 25, cellAt (G00 g2 q9 q10 qo f9 f10) sg0 0 25) := rfl
set_option maxRecDepth 100000 in
theorem w0_26 : (W00 (G00 g2 q9 q10 qo f9 f10) q9 q10 qo f9 f10)[29]? = some ((G00 g2 q9 q10 qo f9 f10).1 26, cellAt (G00 g2 q9 q10 qo f9 f10) sg0 0 26) := rfl
set_option maxRecDepth 100000 in
theorem w0_27 : (W00 (G00 g2 q9 q10 qo f9 f10) q9 q10 qo f9 f10)[31]? = some ((G00 g2 q9 q10 qo f9 f10).1 27, cellAt (G00 g2 q9 q10 qo f9 f10) sg0 0 27) := rfl
set_option maxRecDepth 100000 in
theorem w0_28 : (W00 (G00 g2 q9 q10 qo f9 f10) q9 q10 qo f9 f10)[33]? = some ((G00 g2 q9 q10 qo f9 f10).1 28, cellAt (G00 g2 q9 q10 qo f9 f10) sg0 0 28) := rfl
set_option maxRecDepth 100000 in
theorem w0_29 : (W00 (G00 g2 q9 q10 qo f9 f10) q9 q10 qo f9 f10)[35]? = some ((G00 g2 q9 q10 qo f9 f10).1 29, cellAt (G00 g2 q9 q10 qo f9 f10) sg0 0 29) := rfl
set_option maxRecDepth 100000 in
theorem w0_30 : (W00 (G00 g2 q9 q10 qo f9 f10) q9 q10 qo f9 f10)[38]? = some ((G00 g2 q9 q10 qo f9 f10).1 30, cellAt (G00 g2 q9 q10 qo f9 f10) sg0 0 30) := rfl
set_option maxRecDepth 100000 in
theorem w0_31 : (W00 (G00 g2 q9 q10 qo f9 f10) q9 q10 qo f9 f10)[40]? = some ((G00 g2 q9 q10 qo f9 f10).1 31, cellAt (G00 g2 q9 q10 qo f9 f10) sg0 0 31) := rfl
set_option maxRecDepth 100000 in
theorem w0_32 : (W00 (G00 g2 q9 q10 qo f9 f10) q9 q10 qo f9 f10)[42]? = some ((G00 g2 q9 q10 qo f9 f10).1 32, cellAt (G00 g2 q9 q10 qo f9 f10) sg0 0 32) := rfl
set_option maxRecDepth 100000 in
theorem w0_33 : (W00 (G00 g2 q9 q10 qo f9 f10) q9 q10 qo f9 f10)[44]? = some ((G00 g2 q9 q10 qo f9 f10).1 33, cellAt (G00 g2 q9 q10 qo f9 f10) sg0 0 33) := rfl
set_option maxRecDepth 100000 in
theorem w0_34 : (W00 (G00 g2 q9 q10 qo f9 f10) q9 q10 qo f9 f10)[46]? = some ((G00 g2 q9 q10 qo f9 f10).1 34, cellAt (G00 g2 q9 q10 qo f9 f10) sg0 0 34) := rfl
set_option maxRecDepth 100000 in
theorem w0_35 : (W00 (G00 g2 q9 q10 qo f9 f10) q9 q10 qo f9 f10)[48]? = some ((G00 g2 q9 q10 qo f9 f10).1 35, cellAt (G00 g2 q9 q10 qo f9 f10) sg0 0 35) := rfl
set_option maxRecDepth 100000 in
theorem w0_36 : (W00 (G00 g2 q9 q10 qo f9 f10) q9 q10 qo f9 f10)[50]? = some ((G00 g2 q9 q10 qo f9 f10).1 36, cellAt (G00 g2 q9 q10 qo f9 f10) sg0 0 36) := rfl
set_option maxRecDepth 100000 in
theorem w0_37 : (W00 (G00 g2 q9 q10 qo f9 f10) q9 q10 qo f9 f10)[52]? = some ((G00 g2 q9 q10 qo f9 f10).1 37, cellAt (G00 g2 q9 q10 qo f9 f10) sg0 0 37) := rfl
set_option maxRecDepth 100000 in
theorem w0_38 : (W00 (G00 g2 q9 q10 qo f9 f10) q9 q10 qo f9 f10)[54]? = some ((G00 g2 q9 q10 qo f9 f10).1 38, cellAt (G00 g2 q9 q10 qo f9 f10) sg0 0 38) := rfl
set_option maxRecDepth 100000 in
theorem w0_39 : (W00 (G00 g2 q9 q10 qo f9 f10) q9 q10 qo f9 f10)[56]? = some ((G00 g2 q9 q10 qo f9 f10).1 39, cellAt (G00 g2 q9 q10 qo f9 f10) sg0 0 39) := rfl
set_option maxRecDepth 100000 in
theorem w0_40 : (W00 (G00 g2 q9 q10 qo f9 f10) q9 q10 qo f9 f10)[58]? = some ((G00 g2 q9 q10 qo f9 f10).1 40, cellAt (G00 g2 q9 q10 qo f9 f10) sg0 0 40) := rfl
set_option maxRecDepth 100000 in
theorem w0_41 : (W00 (G00 g2 q9 q10 qo f9 f10) q9 q10 qo f9 f10)[60]? = some ((G00 g2 q9 q10 qo f9 f10).1 41, cellAt (G00 g2 q9 q10 qo f9 f10) sg0 0 41) := rfl
set_option maxRecDepth 100000 in
theorem w0_42 : (W00 (G00 g2 q9 q10 qo f9 f10) q9 q10 qo f9 f10)[8]? = some ((G00 g2 q9 q10 qo f9 f10).1 42, cellAt (G00 g2 q9 q10 qo f9 f10) sg0 0 42) := rfl
set_option maxRecDepth 100000 in
theorem w0_43 : (W00 (G00 g2 q9 q10 qo f9 f10) q9 q10 qo f9 f10)[10]? = some ((G00 g2 q9 q10 qo f9 f10).1 43, cellAt (G00 g2 q9 q10 qo f9 f10) sg0 0 43) := rfl
set_option maxRecDepth 100000 in
theorem w0_44 : (W00 (G00 g2 q9 q10 qo f9 f10) q9 q10 qo f9 f10)[12]? = some ((G00 g2 q9 q10 qo f9 f10).1 44, cellAt (G00 g2 q9 q10 qo f9 f10) sg0 0 44) := rfl
set_option maxRecDepth 100000 in
theorem w0_45 : (W00 (G00 g2 q9 q10 qo f9 f10) q9 q10 qo f9 f10)[14]? = some ((G00 g2 q9 q10 qo f9 f10).1 45, cellAt (G00 g2 q9 q10 qo f9 f10) sg0 0 45) := rfl
set_option maxRecDepth 100000 in
theorem w0_46 : (W00 (G00 g2 q9 q10 qo f9 f10) q9 q10 qo f9 f10)[16]? = some ((G00 g2 q9 q10 qo f9 f10).1 46, cellAt (G00 g2 q9 q10 qo f9 f10) sg0 0 46) := rfl
set_option maxRecDepth 100000 in
theorem w0_47 : (W00 (G00 g2 q9 q10 qo f9 f10) q9 q10 qo f9 f10)[18]? = some ((G00 g2 q9 q10 qo f9 f10).1 47, cellAt (G00 g2 q9 q10 qo f9 f10) sg0 0 47) := rfl
set_option maxRecDepth 100000 in
theorem w0_48 : (W00 (G00 g2 q9 q10 qo f9 f10) q9 q10 qo f9 f10)[20]? = some ((G00 g2 q9 q10 qo f9 f10).1 48, cellAt (G00 g2 q9 q10 qo f9 f10) sg0 0 48) := rfl
set_option maxRecDepth 100000 in
theorem w0_49 : (W00 (G00 g2 q9 q10 qo f9 f10) q9 q10 qo f9 f10)[22]? = some ((G00 g2 q9 q10 qo f9 f10).1 49, cellAt (G00 g2 q9 q10 qo f9 f10) sg0 0 49) := rfl
set_option maxRecDepth 100000 in
theorem w0_50 : (W00 (G00 g2 q9 q10 qo f9 f10) q9 q10 qo f9 f10)[63]? = some ((G00 g2 q9 q10 qo f9 f10).1 50, cellAt (G00 g2 q9 q10 qo f9 f10) sg0 0 50) := rfl
set_option maxRecDepth 100000 in
theorem w0_51 : (W00 (G00 g2 q9 q10 qo f9 f10) q9 q10 qo f9 f10)[65]? = some ((G00 g2 q9 q10 qo f9 f10).1 51, cellAt (G00 g2 q9 q10 qo f9 f10) sg0 0 51) := rfl
set_option maxRecDepth 100000 in
theorem w0_52 : (W00 (G00 g2 q9 q10 qo f9 f10) q9 q10 qo f9 f10)[91]? = some ((G00 g2 q9 q10 qo f9 f10).1 52, cellAt (G00 g2 q9 q10 qo f9 f10) sg0 0 52) := rfl
set_option maxRecDepth 100000 in
theorem w0_53 : (W00 (G00 g2 q9 q10 qo f9 f10) q9 q10 qo f9 f10)[93]? = some ((G00 g2 q9 q10 qo f9 f10).1 53, cellAt (G00 g2 q9 q10 qo f9 f10) sg0 0 53) := rfl
set_option maxRecDepth 100000 in
theorem w0_54 : (W00 (G00 g2 q9 q10 qo f9 f10) q9 q10 qo f9 f10)[6]? = some ((G00 g2 q9 q10 qo f9 f10).1 54, cellAt (G00 g2 q9 q10 qo f9 f10) sg0 0 54) := rfl
set_option maxRecDepth 100000 in
theorem w0_55 : (W00 (G00 g2 q9 q10 qo f9 f10) q9 q10 qo f9 f10)[3]? = some ((G00 g2 q9 q10 qo f9 f10).1 55, cellAt (G00 g2 q9 q10 qo f9 f10) sg0 0 55) := rfl
set_option maxRecDepth 100000 in
theorem w0_56 : (W00 (G00 g2 q9 q10 qo f9 f10) q9 q10 qo f9 f10)[69]? = some ((G00 g2 q9 q10 qo f9 f10).1 56, cellAt (G00 g2 q9 q10 qo f9 f10) sg0 0 56) := rfl
set_option maxRecDepth 100000 in
theorem w0_57 : (W00 (G00 g2 q9 q10 qo f9 f10) q9 q10 qo f9 f10)[71]? = some ((G00 g2 q9 q10 qo f9 f10).1 57, cellAt (G00 g2 q9 q10 qo f9 f10) sg0 0 57) := rfl
set_option maxRecDepth 100000 in
theorem w0_58 : (W00 (G00 g2 q9 q10 qo f9 f10) q9 q10 qo f9 f10)[73]? = some ((G00 g2 q9 q10 qo f9 f10).1 58, cellAt (G00 g2 q9 q10 qo f9 f10) sg0 0 58) := rfl
set_option maxRecDepth 100000 in
theorem w0_59 : (W00 (G00 g2 q9 q10 qo f9 f10) q9 q10 qo f9 f10)[75]? = some ((G00 g2 q9 q10 qo f9 f10).1 59, cellAt (G00 g2 q9 q10 qo f9 f10) sg0 0 59) := rfl
set_option maxRecDepth 100000 in
theorem w0_60 : (W00 (G00 g2 q9 q10 qo f9 f10) q9 q10 qo f9 f10)[77]? = some ((G00 g2 q9 q10 qo f9 f10).1 60, cellAt (G00 g2 q9 q10 qo f9 f10) sg0 0 60) := rfl
set_option maxRecDepth 100000 in
theorem w0_61 : (W00 (G00 g2 q9 q10 qo f9 f10) q9 q10 qo f9 f10)[79]? = some ((G00 g2 q9 q10 qo f9 f10).1 61, cellAt (G00 g2 q9 q10 qo f9 f10) sg0 0 61) := rfl
set_option maxRecDepth 100000 in
theorem w0_62 : (W00 (G00 g2 q9 q10 qo f9 f10) q9 q10 qo f9 f10)[81]? = some ((G00 g2 q9 q10 qo f9 f10).1 62, cellAt (G00 g2 q9 q10 qo f9 f10) sg0 0 62) := rfl
set_option maxRecDepth 100000 in
theorem w0_63 : (W00 (G00 g2 q9 q10 qo f9 f10) q9 q10 qo f9 f10)[83]? = some ((G00 g2 q9 q10 qo f9 f10).1 63, cellAt (G00 g2 q9 q10 qo f9 f10) sg0 0 63) := rfl
set_option maxRecDepth 100000 in
theorem w0_64 : (W00 (G00 g2 q9 q10 qo f9 f10) q9 q10 qo f9 f10)[85]? = some ((G00 g2 q9 q10 qo f9 f10).1 64, cellAt (G00 g2 q9 q10 qo f9 f10) sg0 0 64) := rfl
set_option maxRecDepth 100000 in
theorem w0_65 : (W00 (G00 g2 q9 q10 qo f9 f10) q9 q10 qo f9 f10)[87]? = some ((G00 g2 q9 q10 qo f9 f10).1 65, cellAt (G00 g2 q9 q10 qo f9 f10) sg0 0 65) := rfl
set_option maxRecDepth 100000 in
theorem w0_66 : (W00 (G00 g2 q9 q10 qo f9 f10) q9 q10 qo f9 f10)[89]? = some ((G00 g2 q9 q10 qo f9 f10).1 66, cellAt (G00 g2 q9 q10 qo f9 f10) sg0 0 66) := rfl
set_option maxRecDepth 100000 in
theorem w0_67 : (W00 (G00 g2 q9 q10 qo f9 f10) q9 q10 qo f9 f10)[26]? = some ((G00 g2 q9 q10 qo f9 f10).1 67, cellAt (G00 g2 q9 q10 qo f9 f10) sg0 0 67) := rfl
set_option maxRecDepth 100000 in
theorem w0_68 : (W00 (G00 g2 q9 q10 qo f9 f10) q9 q10 qo f9 f10)[28]? = some ((G00 g2 q9 q10 qo f9 f10).1 68, cellAt (G00 g2 q9 q10 qo f9 f10) sg0 0 68) := rfl
set_option maxRecDepth 100000 in
theorem w0_69 : (W00 (G00 g2 q9 q10 qo f9 f10) q9 q10 qo f9 f10)[30]? = some ((G00 g2 q9 q10 qo f9 f10).1 69, cellAt (G00 g2 q9 q10 qo f9 f10) sg0 0 69) := rfl
set_option maxRecDepth 100000 in
theorem w0_70 : (W00 (G00 g2 q9 q10 qo f9 f10) q9 q10 qo f9 f10)[32]? = some ((G00 g2 q9 q10 qo f9 f10).1 70, cellAt (G00 g2 q9 q10 qo f9 f10) sg0 0 70) := rfl
set_option maxRecDepth 100000 in
theorem w0_71 : (W00 (G00 g2 q9 q10 qo f9 f10) q9 q10 qo f9 f10)[34]? = some ((G00 g2 q9 q10 qo f9 f10).1 71, cellAt (G00 g2 q9 q10 qo f9 f10) sg0 0 71) := rfl
set_option maxRecDepth 100000 in
theorem w0_72 : (W00 (G00 g2 q9 q10 qo f9 f10) q9 q10 qo f9 f10)[36]? = some ((G00 g2 q9 q10 qo f9 f10).1 72, cellAt (G00 g2 q9 q10 qo f9 f10) sg0 0 72) := rfl
set_option maxRecDepth 100000 in
theorem w0_73 : (W00 (G00 g2 q9 q10 qo f9 f10) q9 q10 qo f9 f10)[39]? = some ((G00 g2 q9 q10 qo f9 f10).1 73, cellAt (G00 g2 q9 q10 qo f9 f10) sg0 0 73) := rfl
set_option maxRecDepth 100000 in
theorem w0_74 : (W00 (G00 g2 q9 q10 qo f9 f10) q9 q10 qo f9 f10)[41]? = some ((G00 g2 q9 q10 qo f9 f10).1 74, cellAt (G00 g2 q9 q10 qo f9 f10) sg0 0 74) := rfl
set_option maxRecDepth 100000 in
theorem w0_75 : (W00 (G00 g2 q9 q10 qo f9 f10) q9 q10 qo f9 f10)[43]? = some ((G00 g2 q9 q10 qo f9 f10).1 75, cellAt (G00 g2 q9 q10 qo f9 f10) sg0 0 75) := rfl
set_option maxRecDepth 100000 in
theorem w0_76 : (W00 (G00 g2 q9 q10 qo f9 f10) q9 q10 qo f9 f10)[45]? = some ((G00 g2 q9 q10 qo f9 f10).1 76, cellAt (G00 g2 q9 q10 qo f9 f10) sg0 0 76) := rfl
set_option maxRecDepth 100000 in
theorem w0_77 : (W00 (G00 g2 q9 q10 qo f9 f10) q9 q10 qo f9 f10)[47]? = some ((G00 g2 q9 q10 qo f9 f10).1 77, cellAt (G00 g2 q9 q10 qo f9 f10) sg0 0 77) := rfl
set_option maxRecDepth 100000 in
theorem w0_78 : (W00 (G00 g2 q9 q10 qo f9 f10) q9 q10 qo f9 f10)[49]? = some ((G00 g2 q9 q10 qo f9 f10).1 78, cellAt (G00 g2 q9 q10 qo f9 f10) sg0 0 78) := rfl
set_option maxRecDepth 100000 in
theorem w0_79 : (W00 (G00 g2 q9 q10 qo f9 f10) q9 q10 qo f9 f10)[51]? = some ((G00 g2 q9 q10 qo f9 f10).1 79, cellAt (G00 g2 q9 q10 qo f9 f10) sg0 0 79) := rfl
set_option maxRecDepth 100000 in
theorem w0_80 : (W00 (G00 g2 q9 q10 qo f9 f10) q9 q10 qo f9 f10)[53]? = some ((G00 g2 q9 q10 qo f9 f10).1 80, cellAt (G00 g2 q9 q10 qo f9 f10) sg0 0 80) := rfl
set_option maxRecDepth 100000 in
theorem w0_81 : (W00 (G00 g2 q9 q10 qo f9 f10) q9 q10 qo f9 f10)[55]? = some ((G00 g2 q9 q10 qo f9 f10).1 81, cellAt (G00 g2 q9 q10 qo f9 f10) sg0 0 81) := rfl
set_option maxRecDepth 100000 in
theorem w0_82 : (W00 (G00 g2 q9 q10 qo f9 f10) q9 q10 qo f9 f10)[57]? = some ((G00 g2 q9 q10 qo f9 f10).1 82, cellAt (G00 g2 q9 q10 qo f9 f10) sg0 0 82) := rfl
set_option maxRecDepth 100000 in
theorem w0_83 : (W00 (G00 g2 q9 q10 qo f9 f10) q9 q10 qo f9 f10)[59]? = some ((G00 g2 q9 q10 qo f9 f10).1 83, cellAt (G00 g2 q9 q10 qo f9 f10) sg0 0 83) := rfl
set_option maxRecDepth 100000 in
theorem w0_84 : (W00 (G00 g2 q9 q10 qo f9 f10) q9 q10 qo f9 f10)[61]? = some ((G00 g2 q9 q10 qo f9 f10).1 84, cellAt (G00 g2 q9 q10 qo f9 f10) sg0 0 84) := rfl
set_option maxRecDepth 100000 in
theorem w0_85 : (W00 (G00 g2 q9 q10 qo f9 f10) q9 q10 qo f9 f10)[9]? = some ((G00 g2 q9 q10 qo f9 f10).1 85, cellAt (G00 g2 q9 q10 qo f9 f10) sg0 0 85) := rfl
set_option maxRecDepth 100000 in
theorem w0_86 : (W00 (G00 g2 q9 q10 qo f9 f10) q9 q10 qo f9 f10)[11]? = some ((G00 g2 q9 q10 qo f9 f10).1 86, cellAt (G00 g2 q9 q10 qo f9 f10) sg0 0 86) := rfl
set_option maxRecDepth 100000 in
theorem w0_87 : (W00 (G00 g2 q9 q10 qo f9 f10) q9 q10 qo f9 f10)[13]? = some ((G00 g2 q9 q10 qo f9 f10).1 87, cellAt (G00 g2 q9 q10 qo f9 f10) sg0 0 87) := rfl
set_option maxRecDepth 100000 in
theorem w0_88 : (W00 (G00 g2 q9 q10 qo f9 f10) q9 q10 qo f9 f10)[15]? = some ((G00 g2 q9 q10 qo f9 f10).1 88, cellAt (G00 g2 q9 q10 qo f9 f10) sg0 0 88) := rfl
set_option maxRecDepth 100000 in
theorem w0_89 : (W00 (G00 g2 q9 q10 qo f9 f10) q9 q10 qo f9 f10)[17]? = some ((G00 g2 q9 q10 qo f9 f10).1 89, cellAt (G00 g2 q9 q10 qo f9 f10) sg0 0 89) := rfl
set_option maxRecDepth 100000 in
theorem w0_90 : (W00 (G00 g2 q9 q10 qo f9 f10) q9 q10 qo f9 f10)[19]? = some ((G00 g2 q9 q10 qo f9 f10).1 90, cellAt (G00 g2 q9 q10 qo f9 f10) sg0 0 90) := rfl
set_option maxRecDepth 100000 in
theorem w0_91 : (W00 (G00 g2 q9 q10 qo f9 f10) q9 q10 qo f9 f10)[21]? = some ((G00 g2 q9 q10 qo f9 f10).1 91, cellAt (G00 g2 q9 q10 qo f9 f10) sg0 0 91) := rfl
set_option maxRecDepth 100000 in
theorem w0_92 : (W00 (G00 g2 q9 q10 qo f9 f10) q9 q10 qo f9 f10)[23]? = some ((G00 g2 q9 q10 qo f9 f10).1 92, cellAt (G00 g2 q9 q10 qo f9 f10) sg0 0 92) := rfl
set_option maxRecDepth 100000 in
theorem w0_93 : (W00 (G00 g2 q9 q10 qo f9 f10) q9 q10 qo f9 f10)[64]? = some ((G00 g2 q9 q10 qo f9 f10).1 93, cellAt (G00 g2 q9 q10 qo f9 f10) sg0 0 93) := rfl
set_option maxRecDepth 100000 in
theorem w0_94 : (W00 (G00 g2 q9 q10 qo f9 f10) q9 q10 qo f9 f10)[66]? = some ((G00 g2 q9 q10 qo f9 f10).1 94, cellAt (G00 g2 q9 q10 qo f9 f10) sg0 0 94) := rfl
set_option maxRecDepth 100000 in
theorem w0_95 : (W00 (G00 g2 q9 q10 qo f9 f10) q9 q10 qo f9 f10)[92]? = some ((G00 g2 q9 q10 qo f9 f10).1 95, cellAt (G00 g2 q9 q10 qo f9 f10) sg0 0 95) := rfl
set_option maxRecDepth 100000 in
theorem w0_96 : (W00 (G00 g2 q9 q10 qo f9 f10) q9 q10 qo f9 f10)[94]? = some ((G00 g2 q9 q10 qo f9 f10).1 96, cellAt (G00 g2 q9 q10 qo f9 f10) sg0 0 96) := rfl
set_option maxRecDepth 100000 in
theorem w0_97 : (W00 (G00 g2 q9 q10 qo f9 f10) q9 q10 qo f9 f10)[96]? = some ((G00 g2 q9 q10 qo f9 f10).1 97, cellAt (G00 g2 q9 q10 qo f9 f10) sg0 0 97) := rfl
set_option maxRecDepth 100000 in
theorem w0_98 : (W00 (G00 g2 q9 q10 qo f9 f10) q9 q10 qo f9 f10)[97]? = some ((G00 g2 q9 q10 qo f9 f10).1 98, cellAt (G00 g2 q9 q10 qo f9 f10) sg0 0 98) := rfl
set_option maxRecDepth 100000 in
theorem w0_99 : (W00 (G00 g2 q9 q10 qo f9 f10) q9 q10 qo f9 f10)[98]? = some ((G00 g2 q9 q10 qo f9 f10).1 99, cellAt (G00 g2 q9 q10 qo f9 f10) sg0 0 99) := rfl
set_option maxRecDepth 100000 in
theorem w0_100 : (W00 (G00 g2 q9 q10 qo f9 f10) q9 q10 qo f9 f10)[99]? = some ((G00 g2 q9 q10 qo f9 f10).1 100, cellAt (G00 g2 q9 q10 qo f9 f10) sg0 0 100) := rfl
set_option maxRecDepth 100000 in
theorem w0_101 : (W00 (G00 g2 q9 q10 qo f9 f10) q9 q10 qo f9 f10)[100]? = some ((G00 g2 q9 q10 qo f9 f10).1 101, cellAt (G00 g2 q9 q10 qo f9 f10) sg0 0 101) := rfl
set_option maxRecDepth 100000 in
theorem w0_102 : (W00 (G00 g2 q9 q10 qo f9 f10) q9 q10 qo f9 f10)[101]? = some ((G00 g2 q9 q10 qo f9 f10).1 102, cellAt (G00 g2 q9 q10 qo f9 f10) sg0 0 102) := rfl
set_option maxRecDepth 100000 in
theorem w0_103 : (W00 (G00 g2 q9 q10 qo f9 f10) q9 q10 qo f9 f10)[102]? = some ((G00 g2 q9 q10 qo f9 f10).1 103, cellAt (G00 g2 q9 q10 qo f9 f10) sg0 0 103) := rfl
set_option maxRecDepth 100000 in
theorem w0_104 : (W00 (G00 g2 q9 q10 qo f9 f10) q9 q10 qo f9 f10)[103]? = some ((G00 g2 q9 q10 qo f9 f10).1 104, cellAt (G00 g2 q9 q10 qo f9 f10) sg0 0 104) := rfl
set_option maxRecDepth 100000 in
theorem w0_105 : (W00 (G00 g2 q9 q10 qo f9 f10) q9 q10 qo f9 f10)[104]? = some ((G00 g2 q9 q10 qo f9 f10).1 105, cellAt (G00 g2 q9 q10 qo f9 f10) sg0 0 105) := rfl
set_option maxRecDepth 100000 in
theorem w0_106 : (W00 (G00 g2 q9 q10 qo f9 f10) q9 q10 qo f9 f10)[105]? = some ((G00 g2 q9 q10 qo f9 f10).1 106, cellAt (G00 g2 q9 q10 qo f9 f10) sg0 0 106) := rfl
set_option maxRecDepth 100000 in
theorem w0_107 : (W00 (G00 g2 q9 q10 qo f9 f10) q9 q10 qo f9 f10)[106]? = some ((G00 g2 q9 q10 qo f9 f10).1 107, cellAt (G00 g2 q9 q10 qo f9 f10) sg0 0 107) := rfl
set_option maxRecDepth 100000 in
theorem w0_108 : (W00 (G00 g2 q9 q10 qo f9 f10) q9 q10 qo f9 f10)[107]? = some ((G00 g2 q9 q10 qo f9 f10).1 108, cellAt (G00 g2 q9 q10 qo f9 f10) sg0 0 108) := rfl
set_option maxRecDepth 100000 in
theorem w0_109 : (W00 (G00 g2 q9 q10 qo f9 f10) q9 q10 qo f9 f10)[108]? = some ((G00 g2 q9 q10 qo f9 f10).1 109, cellAt (G00 g2 q9 q10 qo f9 f10) sg0 0 109) := rfl
set_option maxRecDepth 100000 in
theorem w0_110 : (W00 (G00 g2 q9 q10 qo f9 f10) q9 q10 qo f9 f10)[109]? = some ((G00 g2 q9 q10 qo f9 f10).1 110, cellAt (G00 g2 q9 q10 qo f9 f10) sg0 0 110) := rfl
set_option maxRecDepth 100000 in
theorem w0_111 : (W00 (G00 g2 q9 q10 qo f9 f10) q9 q10 qo f9 f10)[110]? = some ((G00 g2 q9 q10 qo f9 f10).1 111, cellAt (G00 g2 q9 q10 qo f9 f10) sg0 0 111) := rfl
set_option maxRecDepth 100000 in
theorem w0_112 : (W00 (G00 g2 q9 q10 qo f9 f10) q9 q10 qo f9 f10)[111]? = some ((G00 g2 q9 q10 qo f9 f10).1 112, cellAt (G00 g2 q9 q10 qo f9 f10) sg0 0 112) := rfl
set_option maxRecDepth 100000 in
theorem w0_113 : (W00 (G00 g2 q9 q10 qo f9 f10) q9 q10 qo f9 f10)[112]? = some ((G00 g2 q9 q10 qo f9 f10).1 113, cellAt (G00 g2 q9 q10 qo f9 f10) sg0 0 113) := rfl
set_option maxRecDepth 100000 in
theorem w0_114 : (W00 (G00 g2 q9 q10 qo f9 f10) q9 q10 qo f9 f10)[113]? = some ((G00 g2 q9 q10 qo f9 f10).1 114, cellAt (G00 g2 q9 q10 qo f9 f10) sg0 0 114) := rfl
set_option maxRecDepth 100000 in
theorem w0_115 : (W00 (G00 g2 q9 q10 qo f9 f10) q9 q10 qo f9 f10)[114]? = some ((G00 g2 q9 q10 qo f9 f10).1 115, cellAt (G00 g2 q9 q10 qo f9 f10) sg0 0 115) := rfl
set_option maxRecDepth 100000 in
theorem w0_116 : (W00 (G00 g2 q9 q10 qo f9 f10) q9 q10 qo f9 f10)[115]? = some ((G00 g2 q9 q10 qo f9 f10).1 116, cellAt (G00 g2 q9 q10 qo f9 f10) sg0 0 116) := rfl
set_option maxRecDepth 100000 in
theorem w0_117 : (W00 (G00 g2 q9 q10 qo f9 f10) q9 q10 qo f9 f10)[116]? = some ((G00 g2 q9 q10 qo f9 f10).1 117, cellAt (G00 g2 q9 q10 qo f9 f10) sg0 0 117) := rfl
set_option maxRecDepth 100000 in
theorem w0_118 : (W00 (G00 g2 q9 q10 qo f9 f10) q9 q10 qo f9 f10)[117]? = some ((G00 g2 q9 q10 qo f9 f10).1 118, cellAt (G00 g2 q9 q10 qo f9 f10) sg0 0 118) := rfl
set_option maxRecDepth 100000 in
theorem w0_119 : (W00 (G00 g2 q9 q10 qo f9 f10) q9 q10 qo f9 f10)[118]? = some ((G00 g2 q9 q10 qo f9 f10).1 119, cellAt (G00 g2 q9 q10 qo f9 f10) sg0 0 119) := rfl
set_option maxRecDepth 100000 in
theorem w0_120 : (W00 (G00 g2 q9 q10 qo f9 f10) q9 q10 qo f9 f10)[119]? = some ((G00 g2 q9 q10 qo f9 f10).1 120, cellAt (G00 g2 q9 q10 qo f9 f10) sg0 0 120) := rfl
set_option maxRecDepth 100000 in
theorem w0_121 : (W00 (G00 g2 q9 q10 qo f9 f10) q9 q10 qo f9 f10)[120]? = some ((G00 g2 q9 q10 qo f9 f10).1 121, cellAt (G00 g2 q9 q10 qo f9 f10) sg0 0 121) := rfl
set_option maxRecDepth 100000 in
theorem w0_122 : (W00 (G00 g2 q9 q10 qo f9 f10) q9 q10 qo f9 f10)[121]? = some ((G00 g2 q9 q10 qo f9 f10).1 122, cellAt (G00 g2 q9 q10 qo f9 f10) sg0 0 122) := rfl
set_option maxRecDepth 100000 in
theorem w0_123 : (W00 (G00 g2 q9 q10 qo f9 f10) q9 q10 qo f9 f10)[122]? = some ((G00 g2 q9 q10 qo f9 f10).1 123, cellAt (G00 g2 q9 q10 qo f9 f10) sg0 0 123) := rfl
set_option maxRecDepth 100000 in
theorem w0_124 : (W00 (G00 g2 q9 q10 qo f9 f10) q9 q10 qo f9 f10)[123]? = some ((G00 g2 q9 q10 qo f9 f10).1 124, cellAt (G00 g2 q9 q10 qo f9 f10) sg0 0 124) := rfl
set_option maxRecDepth 100000 in
theorem w0_125 : (W00 (G00 g2 q9 q10 qo f9 f10) q9 q10 qo f9 f10)[124]? = some ((G00 g2 q9 q10 qo f9 f10).1 125, cellAt (G00 g2 q9 q10 qo f9 f10) sg0 0 125) := rfl
set_option maxRecDepth 100000 in
theorem w0_126 : (W00 (G00 g2 q9 q10 qo f9 f10) q9 q10 qo f9 f10)[125]? = some ((G00 g2 q9 q10 qo f9 f10).1 126, cellAt (G00 g2 q9 q10 qo f9 f10) sg0 0 126) := rfl
set_option maxRecDepth 100000 in
theorem w0_127 : (W00 (G00 g2 q9 q10 qo f9 f10) q9 q10 qo f9 f10)[126]? = some ((G00 g2 q9 q10 qo f9 f10).1 127, cellAt (G00 g2 q9 q10 qo f9 f10) sg0 0 127) := rfl
set_option maxRecDepth 100000 in
theorem w0_128 : (W00 (G00 g2 q9 q10 qo f9 f10) q9 q10 qo f9 f10)[127]? = some ((G00 g2 q9 q10 qo f9 f10).1 128, cellAt (G00 g2 q9 q10 qo f9 f10) sg0 0 128) := rfl
set_option maxRecDepth 100000 in
theorem w0_129 : (W00 (G00 g2 q9 q10 qo f9 f10) q9 q10 qo f9 f10)[128]? = some ((G00 g2 q9 q10 qo f9 f10).1 129, cellAt (G00 g2 q9 q10 qo f9 f10) sg0 0 129) := rfl
theorem w0_all : ∀ i, i < 130 → (W00 (G00 g2 q9 q10 qo f9 f10) q9 q10 qo f9 f10)[pi0.getD i 0]? = some ((G00 g2 q9 q10 qo f9 f10).1 i, cellAt (G00 g2 q9 q10 qo f9 f10) sg0 0 i) := by
  intro i hi
  match i, hi with
  | 0, _ => exact w0_0 g2 q9 q10 qo f9 f10
  | 1, _ => exact w0_1 g2 q9 q10 qo f9 f10
  | 2, _ => exact w0_2 g2 q9 q10 qo f9 f10
  | 3, _ => exact w0_3 g2 q9 q10 qo f9 f10
  | 4, _ => exact w0_4 g2 q9 q10 qo f9 f10
  | 5, _ => exact w0_5 g2 q9 q10 qo f9 f10
  | 6, _ => exact w0_6 g2 q9 q10 qo f9 f10
  | 7, _ => exact w0_7 g2 q9 q10 qo f9 f10
  | 8, _ => exact w0_8 g2 q9 q10 qo f9 f10
  | 9, _ => exact w0_9 g2 q9 q10 qo f9 f10
  | 10, _ => exact w0_10 g2 q9 q10 qo f9 f10
  | 11, _ => exact w0_11 g2 q9 q10 qo f9 f10
  | 12, _ => exact w0_12 g2 q9 q10 qo f9 f10
  | 13, _ => exact w0_13 g2 q9 q10 qo f9 f10
  | 14, _ => exact w0_14 g2 q9 q10 qo f9 f10
  | 15, _ => exact w0_15 g2 q9 q10 qo f9 f10
  | 16, _ => exact w0_16 g2 q9 q10 qo f9 f10
  | 17, _ => exact w0_17 g2 q9 q10 qo f9 f10
  | 18, _ => exact w0_18 g2 q9 q10 qo f9 f10
  | 19, _ => exact w0_19 g2 q9 q10 qo f9 f10
  | 20, _ => exact w0_20 g2 q9 q10 qo f9 f10
  | 21, _ => exact w0_21 g2 q9 q10 qo f9 f10
  | 22, _ => exact w0_22 g2 q9 q10 qo f9 f10
  | 23, _ => exact w0_23 g2 q9 q10 qo f9 f10
  | 24, _ => exact w0_24 g2 q9 q10 qo f9 f10
  | 25, _ => exact w0_25 g2 q9 q10 qo f9 f10
  | 26, _ => exact w0_26 g2 q9 q10 qo f9 f10
  | 27, _ => exact w0_27 g2 q9 q10 qo f9 f10
  | 28, _ => exact w0_28 g2 q9 q10 qo f9 f10
  | 29, _ => exact w0_29 g2 q9 q10 qo f9 f10
  | 30, _ => exact w0_30 g2 q9 q10 qo f9 f10
  | 31, _ => exact w0_31 g2 q9 q10 qo f9 f10
  | 32, _ => exact w0_32 g2 q9 q10 qo f9 f10
  | 33, _ => exact w0_33 g2 q9 q10 qo f9 f10
  | 34, _ => exact w0_34 g2 q9 q10 qo f9 f10
  | 35, _ => exact w0_35 g2 q9 q10 qo f9 f10
  | 36, _ => exact w0_36 g2 q9 q10 qo f9 f10
  | 37, _ => exact w0_37 g2 q9 q10 qo f9 f10
  | 38, _ => exact w0_38 g2 q9 q10 qo f9 f10
  | 39, _ => exact w0_39 g2 q9 q10 qo f9 f10
  | 40, _ => exact w0_40 g2 q9 q10 qo f9 f10
  | 41, _ => exact w0_41 g2 q9 q10 qo f9 f10
  | 42, _ => exact w0_42 g2 q9 q10 qo f9 f10
  | 43, _ => exact w0_43 g2 q9 q10 qo f9 f10
  | 44, _ => exact w0_44 g2 q9 q10 qo f9 f10
  | 45, _ => exact w0_45 g2 q9 q10 qo f9 f10
  | 46, _ => exact w0_46 g2 q9 q10 qo f9 f10
  | 47, _ => exact w0_47 g2 q9 q10 qo f9 f10
  | 48, _ => exact w0_48 g2 q9 q10 qo f9 f10
  | 49, _ => exact w0_49 g2 q9 q10 qo f9 f10
  | 50, _ => exact w0_50 g2 q9 q10 qo f9 f10
  | 51, _ => exact w0_51 g2 q9 q10 qo f9 f10
  | 52, _ => exact w0_52 g2 q9 q10 qo f9 f10
  | 53, _ => exact w0_53 g2 q9 q10 qo f9 f10
  | 54, _ => exact w0_54 g2 q9 q10 qo f9 f10
  | 55, _ => exact w0_55 g2 q9 q10 qo f9 f10
  | 56, _ => exact w0_56 g2 q9 q10 qo f9 f10
  | 57, _ => exact w0_57 g2 q9 q10 qo f9 f10
  | 58, _ => exact w0_58 g2 q9 q10 qo f9 f10
  | 59, _ => exact w0_59 g2 q9 q10 qo f9 f10
  | 60, _ => exact w0_60 g2 q9 q10 qo f9 f10
  | 61, _ => exact w0_61 g2 q9 q10 qo f9 f10
  | 62, _ => exact w0_62 g2 q9 q10 qo f9 f10
  | 63, _ => exact w0_63 g2 q9 q10 qo f9 f10
  | 64, _ => exact w0_64 g2 q9 q10 qo f9 f10
  | 65, _ => exact w0_65 g2 q9 q10 qo f9 f10
  | 66, _ => exact w0_66 g2 q9 q10 qo f9 f10
  | 67, _ => exact w0_67 g2 q9 q10 qo f9 f10
  | 68, _ => exact w0_68 g2 q9 q10 qo f9 f10
  | 69, _ => exact w0_69 g2 q9 q10 qo f9 f10
  | 70, _ => exact w0_70 g2 q9 q10 qo f9 f10
  | 71, _ => exact w0_71 g2 q9 q10 qo f9 f10
  | 72, _ => exact w0_72 g2 q9 q10 qo f9 f10
  | 73, _ => exact w0_73 g2 q9 q10 qo f9 f10
  | 74, _ => exact w0_74 g2 q9 q10 qo f9 f10
  | 75, _ => exact w0_75 g2 q9 q10 qo f9 f10
  | 76, _ => exact w0_76 g2 q9 q10 qo f9 f10
  | 77, _ => exact w0_77 g2 q9 q10 qo f9 f10
  | 78, _ => exact w0_78 g2 q9 q10 qo f9 f10
  | 79, _ => exact w0_79 g2 q9 q10 qo f9 f10
  | 80, _ => exact w0_80 g2 q9 q10 qo f9 f10
  | 81, _ => exact w0_81 g2 q9 q10 qo f9 f10
  | 82, _ => exact w0_82 g2 q9 q10 qo f9 f10
  | 83, _ => exact w0_83 g2 q9 q10 qo f9 f10
  | 84, _ => exact w0_84 g2 q9 q10 qo f9 f10
  | 85, _ => exact w0_85 g2 q9 q10 qo f9 f10
  | 86, _ => exact w0_86 g2 q9 q10 qo f9 f10
  | 87, _ => exact w0_87 g2 q9 q10 qo f9 f10
  | 88, _ => exact w0_88 g2 q9 q10 qo f9 f10
  | 89, _ => exact w0_89 g2 q9 q10 qo f9 f10
  | 90, _ => exact w0_90 g2 q9 q10 qo f9 f10
  | 91, _ => exact w0_91 g2 q9 q10 qo f9 f10
  | 92, _ => exact w0_92 g2 q9 q10 qo f9 f10
  | 93, _ => exact w0_93 g2 q9 q10 qo f9 f10
  | 94, _ => exact w0_94 g2 q9 q10 qo f9 f10
  | 95, _ => exact w0_95 g2 q9 q10 qo f9 f10
  | 96, _ => exact w0_96 g2 q9 q10 qo f9 f10
  | 97, _ => exact w0_97 g2 q9 q10 qo f9 f10
  | 98, _ => exact w0_98 g2 q9 q10 qo f9 f10
  | 99, _ => exact w0_99 g2 q9 q10 qo f9 f10
  | 100, _ => exact w0_100 g2 q9 q10 qo f9 f10
  | 101, _ => exact w0_101 g2 q9 q10 qo f9 f10
  | 102, _ => exact w0_102 g2 q9 q10 qo f9 f10
  | 103, _ => exact w0_103 g2 q9 q10 qo f9 f10
  | 104, _ => exact w0_104 g2 q9 q10 qo f9 f10
  | 105, _ => exact w0_105 g2 q9 q10 qo f9 f10
  | 106, _ => exact w0_106 g2 q9 q10 qo f9 f10
  | 107, _ => exact w0_107 g2 q9 q10 qo f9 f10
  | 108, _ => exact w0_108 g2 q9 q10 qo f9 f10
  | 109, _ => exact w0_109 g2 q9 q10 qo f9 f10
  | 110, _ => exact w0_110 g2 q9 q10 qo f9 f10
  | 111, _ => exact w0_111 g2 q9 q10 qo f9 f10
  | 112, _ => exact w0_112 g2 q9 q10 qo f9 f10
  | 113, _ => exact w0_113 g2 q9 q10 qo f9 f10
  | 114, _ => exact w0_114 g2 q9 q10 qo f9 f10
  | 115, _ => exact w0_115 g2 q9 q10 qo f9 f10
  | 116, _ => exact w0_116 g2 q9 q10 qo f9 f10
  | 117, _ => exact w0_117 g2 q9 q10 qo f9 f10
  | 118, _ => exact w0_118 g2 q9 q10 qo f9 f10
  | 119, _ => exact w0_119 g2 q9 q10 qo f9 f10
  | 120, _ => exact w0_120 g2 q9 q10 qo f9 f10
  | 121, _ => exact w0_121 g2 q9 q10 qo f9 f10
  | 122, _ => exact w0_122 g2 q9 q10 qo f9 f10
  | 123, _ => exact w0_123 g2 q9 q10 qo f9 f10
  | 124, _ => exact w0_124 g2 q9 q10 qo f9 f10
  | 125, _ => exact w0_125 g2 q9 q10 qo f9 f10
  | 126, _ => exact w0_126 g2 q9 q10 qo f9 f10
  | 127, _ => exact w0_127 g2 q9 q10 qo f9 f10
  | 128, _ => exact w0_128 g2 q9 q10 qo f9 f10
  | 129, _ => exact w0_129 g2 q9 q10 qo f9 f10
  | n + 130, h => omega
theorem geo_P {H : Heap} (h : va_P g2.2 vwCl (W00 (G00 g2 q9 q10 qo f9 f10) q9 q10 qo f9 f10) H) : va_P g2.2 vwCl (Wl (G00 g2 q9 q10 qo f9 f10) sg0 0) H := by
  intro k q hk
  have hi : k < 130 := by have := (List.getElem?_eq_some_iff.mp hk).1; rwa [Wl_len] at this
  rw [Wl_at hi] at hk
  cases hk
  exact h _ _ (w0_all g2 q9 q10 qo f9 f10 k hi)
theorem geo_D {A : Nat → Prop} (h : va_D A (W00 (G00 g2 q9 q10 qo f9 f10) q9 q10 qo f9 f10)) : gok (G00 g2 q9 q10 qo f9 f10) ∧ ∀ i, i < 130 → A ((G00 g2 q9 q10 qo f9 f10).1 i) := by
  refine ⟨fun i j hi hj e => ?_, fun i hi => h.2 _ _ (w0_all g2 q9 q10 qo f9 f10 i hi)⟩
  exact pi0_inj i hi j hj (h.1 _ _ _ _ (w0_all g2 q9 q10 qo f9 f10 i hi) (w0_all g2 q9 q10 qo f9 f10 j hj) e)
end GEO
