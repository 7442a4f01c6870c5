/-! printed by wip/p30/gen/gen.py -/
def f_L_does_215  (s0 : Int32) (σ : Mem) : Option (Int32 × Mem) := some (s0, σ)
def f_L_does (x1 x2 x3 : Int32) (σ : Mem) : Option (Int32 × Mem) := (if (x1) = 0 then none
  else (if (x1) = (1) then bd (f_X9_type (x2) σ) (fun y5 τ6 => (f_L_does_215 (y5) τ6))
    else (if (x1) = (2) then bd (f_X9_scheme (x2) σ) (fun y3 τ4 => (f_L_does_215 (y3) τ4))
      else (if (x1) = (3) then none
        else (if (x1) = (4) then none
          else (if (x1) = (5) then none
            else (if (x1) = (6) then none
              else (if (x1) = (7) then none
                else (if (x1) = (8) then none
                  else (if (x1) = (9) then bd (f_X9_versions (x2) σ) (fun y1 τ2 => (f_L_does_215 (y1) τ2))
                    else (if (x1) = (10) then none
                      else (if (x1) = (11) then none
                        else (if (x1) = (12) then none
                          else (if (x1) = (13) then none
                            else (if (x1) = (14) then none
                              else none)))))))))))))))
def f_L_markOf (x1 x2 x3 : Int32) (σ : Mem) : Option (Int32 × Mem) := bd (f_X9_markOf (x1) (x2) (x3) σ) (fun y1 τ2 => some (y1, τ2))
def f_L_written (x1 x2 x3 : Int32) (σ : Mem) : Option (Int32 × Mem) := bd (f_X9_written (x1) (x2) (x3) σ) (fun y1 τ2 => some (y1, τ2))
def f_L_signFor_55  (s0 : Int32) (σ : Mem) : Option (Int32 × Mem) := some (s0, σ)
def f_L_signFor_45  (v2 : Int32) (σ : Mem) : Option (Int32 × Mem) := (f_L_signFor_55 ((97) + (((v2) / (35)) - ((v2) / (35)) / (8) * (8))) σ)
def f_L_signFor_29  (v1 v2 : Int32) (σ : Mem) : Option (Int32 × Mem) := (if (3) ≤ (v1) then (f_L_signFor_45 (v2) σ)
  else (if ((v2) - (v2) / (5) * (5)) = 0 then (f_L_signFor_55 (40) σ)
    else (f_L_signFor_45 (v2) σ)))
def f_L_signFor_90  (s0 : Int32) (σ : Mem) : Option (Int32 × Mem) := some (s0, σ)
def f_L_signFor (x1 x2 x3 : Int32) (σ : Mem) : Option (Int32 × Mem) := (if (2) ≤ (x1) then (if (x2) ≤ 0 then (f_L_signFor_90 (43) σ)
    else (if ((x3) - (x3) / (3) * (3)) = 0 then (f_L_signFor_90 (124) σ)
      else (if ((x3) - (x3) / (3) * (3)) = (1) then (f_L_signFor_90 (41) σ)
        else (f_L_signFor_90 (43) σ))))
  else (if (x1) = 0 then (if ((x3) - (x3) / (7) * (7)) = 0 then (f_L_signFor_55 ((49) + (((x3) / (7)) - ((x3) / (7)) / (9) * (9))) σ)
      else (f_L_signFor_29 (x2) (x3) σ))
    else (f_L_signFor_29 (x2) (x3) σ)))
set_option maxHeartbeats 4000000 in
set_option maxRecDepth 100000 in
theorem w_L_does_215 {X : Ctx} {o : Int64} {rv : Int32 × Mem} (C : Cx X cL_does RL wsL_does 5 7 152) (hR : Rt X cL_does 5 o rv) : ∀ (s0 : Int32) (σ : Mem), some rv = f_L_does_215 s0 σ → Bk X 5 o 0 0 215 [] [.int (s0)] σ := by
  intro s0 σ hf
  unfold f_L_does_215 at hf
  exact hR _ _ _ _ dL_does_215 hf
set_option maxHeartbeats 4000000 in
set_option maxRecDepth 100000 in
theorem c_L_does (x1 x2 x3 : Int32) (l : Launch) : Cti l yL_does wsL_does 7 152 (fun G => [.ref (G.1 (5)), .int (x1), .int (x2), .int (x3)]) (f_L_does x1 x2 x3) := by
  refine mk_iw (cc := cL_does) (nL := 5) (own := RL) (by decide) rfl rfl (fun _ => Nat.le_of_ble_eq_true rfl) (fun X o σ rv C hR hf => ?_)
  show Bk X 5 o 0 0 0 [(0, .ref (ad X (5))), (1, .int (x1)), (2, .int (x2)), (3, .int (x3))] [] σ
  unfold f_L_does at hf
  refine b_iload_n C dL_does_0 rfl 1 rfl ?_
  refine b_if_ne C 13 dL_does_1 (by decide) hf (fun hf => ?_) (fun hf => ?_)
  · refine b_iload_n C dL_does_13 rfl 1 rfl ?_
    refine b_iconst C (v := 1) dL_does_14 (by decide) ?_
    refine b_icmp_ne C 26 dL_does_15 (by decide) hf (fun hf => ?_) (fun hf => ?_)
    · refine b_iload_n C dL_does_26 rfl 1 rfl ?_
      refine b_iconst C (v := 2) dL_does_27 (by decide) ?_
      refine b_icmp_ne C 39 dL_does_28 (by decide) hf (fun hf => ?_) (fun hf => ?_)
      · refine b_iload_n C dL_does_39 rfl 1 rfl ?_
        refine b_iconst C (v := 3) dL_does_40 (by decide) ?_
        refine b_icmp_ne C 52 dL_does_41 (by decide) hf (fun hf => ?_) (fun hf => ?_)
        · refine b_iload_n C dL_does_52 rfl 1 rfl ?_
          refine b_iconst C (v := 4) dL_does_53 (by decide) ?_
          refine b_icmp_ne C 66 dL_does_54 (by decide) hf (fun hf => ?_) (fun hf => ?_)
          · refine b_iload_n C dL_does_66 rfl 1 rfl ?_
            refine b_iconst C (v := 5) dL_does_67 (by decide) ?_
            refine b_icmp_ne C 79 dL_does_68 (by decide) hf (fun hf => ?_) (fun hf => ?_)
            · refine b_iload_n C dL_does_79 rfl 1 rfl ?_
              refine b_bipush C (v := 6) dL_does_80 (by decide) ?_
              refine b_icmp_ne C 94 dL_does_82 (by decide) hf (fun hf => ?_) (fun hf => ?_)
              · refine b_iload_n C dL_does_94 rfl 1 rfl ?_
                refine b_bipush C (v := 7) dL_does_95 (by decide) ?_
                refine b_icmp_ne C 108 dL_does_97 (by decide) hf (fun hf => ?_) (fun hf => ?_)
                · refine b_iload_n C dL_does_108 rfl 1 rfl ?_
                  refine b_bipush C (v := 8) dL_does_109 (by decide) ?_
                  refine b_icmp_ne C 123 dL_does_111 (by decide) hf (fun hf => ?_) (fun hf => ?_)
                  · refine b_iload_n C dL_does_123 rfl 1 rfl ?_
                    refine b_bipush C (v := 9) dL_does_124 (by decide) ?_
                    refine b_icmp_ne C 137 dL_does_126 (by decide) hf (fun hf => ?_) (fun hf => ?_)
                    · refine b_iload_n C dL_does_137 rfl 1 rfl ?_
                      refine b_bipush C (v := 10) dL_does_138 (by decide) ?_
                      refine b_icmp_ne C 152 dL_does_140 (by decide) hf (fun hf => ?_) (fun hf => ?_)
                      · refine b_iload_n C dL_does_152 rfl 1 rfl ?_
                        refine b_bipush C (v := 11) dL_does_153 (by decide) ?_
                        refine b_icmp_ne C 167 dL_does_155 (by decide) hf (fun hf => ?_) (fun hf => ?_)
                        · refine b_iload_n C dL_does_167 rfl 1 rfl ?_
                          refine b_bipush C (v := 12) dL_does_168 (by decide) ?_
                          refine b_icmp_ne C 181 dL_does_170 (by decide) hf (fun hf => ?_) (fun hf => ?_)
                          · refine b_iload_n C dL_does_181 rfl 1 rfl ?_
                            refine b_bipush C (v := 13) dL_does_182 (by decide) ?_
                            refine b_icmp_ne C 195 dL_does_184 (by decide) hf (fun hf => ?_) (fun hf => ?_)
                            · refine b_iload_n C dL_does_195 rfl 1 rfl ?_
                              refine b_bipush C (v := 14) dL_does_196 (by decide) ?_
                              refine b_icmp_ne C 209 dL_does_198 (by decide) hf (fun hf => ?_) (fun hf => ?_)
                              · refine b_aload_n C dL_does_209 rfl 0 rfl ?_
                                refine b_iload_n C dL_does_210 rfl 2 rfl ?_
                                refine b_iload_n C dL_does_211 rfl 3 rfl ?_
                                cases hf
                              · refine b_aload_n C dL_does_201 rfl 0 rfl ?_
                                refine b_iload_n C dL_does_202 rfl 2 rfl ?_
                                cases hf
                            · refine b_aload_n C dL_does_187 rfl 0 rfl ?_
                              refine b_iload_n C dL_does_188 rfl 2 rfl ?_
                              cases hf
                          · refine b_aload_n C dL_does_173 rfl 0 rfl ?_
                            refine b_iload_n C dL_does_174 rfl 2 rfl ?_
                            cases hf
                        · refine b_aload_n C dL_does_158 rfl 0 rfl ?_
                          refine b_iload_n C dL_does_159 rfl 2 rfl ?_
                          refine b_iload_n C dL_does_160 rfl 3 rfl ?_
                          cases hf
                      · refine b_aload_n C dL_does_143 rfl 0 rfl ?_
                        refine b_iload_n C dL_does_144 rfl 2 rfl ?_
                        refine b_iload_n C dL_does_145 rfl 3 rfl ?_
                        cases hf
                    · refine b_aload_n C dL_does_129 rfl 0 rfl ?_
                      refine b_iload_n C dL_does_130 rfl 2 rfl ?_
                      obtain ⟨y1, τ2, hqy1, hf⟩ := bd_inv hf
                      refine b_callVi (n := 1) C (5) 9 (isObj_s (by decide)) rfl (fun _ => [.int (x2)]) (c_X9_versions (x2)) hqy1 gL_does_X9_versions rfl (by decide +kernel) rfl (by decide) (by decide) (Nat.le_of_ble_eq_true rfl) dL_does_131 ?_
                      refine b_goto C 215 dL_does_134 (by decide) ?_
                      refine b_sub [] rfl ?_
                      exact w_L_does_215 C hR _ _ hf
                  · refine b_aload_n C dL_does_114 rfl 0 rfl ?_
                    refine b_iload_n C dL_does_115 rfl 2 rfl ?_
                    refine b_iload_n C dL_does_116 rfl 3 rfl ?_
                    cases hf
                · refine b_aload_n C dL_does_100 rfl 0 rfl ?_
                  refine b_iload_n C dL_does_101 rfl 2 rfl ?_
                  cases hf
              · refine b_aload_n C dL_does_85 rfl 0 rfl ?_
                refine b_iload_n C dL_does_86 rfl 2 rfl ?_
                refine b_iload_n C dL_does_87 rfl 3 rfl ?_
                cases hf
            · refine b_aload_n C dL_does_71 rfl 0 rfl ?_
              refine b_iload_n C dL_does_72 rfl 2 rfl ?_
              cases hf
          · refine b_aload_n C dL_does_57 rfl 0 rfl ?_
            refine b_iload_n C dL_does_58 rfl 2 rfl ?_
            refine b_iload_n C dL_does_59 rfl 3 rfl ?_
            cases hf
        · refine b_aload_n C dL_does_44 rfl 0 rfl ?_
          refine b_iload_n C dL_does_45 rfl 2 rfl ?_
          cases hf
      · refine b_aload_n C dL_does_31 rfl 0 rfl ?_
        refine b_iload_n C dL_does_32 rfl 2 rfl ?_
        obtain ⟨y3, τ4, hqy3, hf⟩ := bd_inv hf
        refine b_callVi (n := 1) C (5) 9 (isObj_s (by decide)) rfl (fun _ => [.int (x2)]) (c_X9_scheme (x2)) hqy3 gL_does_X9_scheme rfl (by decide +kernel) rfl (by decide) (by decide) (Nat.le_of_ble_eq_true rfl) dL_does_33 ?_
        refine b_goto C 215 dL_does_36 (by decide) ?_
        refine b_sub [] rfl ?_
        exact w_L_does_215 C hR _ _ hf
    · refine b_aload_n C dL_does_18 rfl 0 rfl ?_
      refine b_iload_n C dL_does_19 rfl 2 rfl ?_
      obtain ⟨y5, τ6, hqy5, hf⟩ := bd_inv hf
      refine b_callVi (n := 1) C (5) 9 (isObj_s (by decide)) rfl (fun _ => [.int (x2)]) (c_X9_type (x2)) hqy5 gL_does_X9_type rfl (by decide +kernel) rfl (by decide) (by decide) (Nat.le_of_ble_eq_true rfl) dL_does_20 ?_
      refine b_goto C 215 dL_does_23 (by decide) ?_
      refine b_sub [] rfl ?_
      exact w_L_does_215 C hR _ _ hf
  · refine b_aload_n C dL_does_4 rfl 0 rfl ?_
    refine b_iload_n C dL_does_5 rfl 2 rfl ?_
    refine b_iload_n C dL_does_6 rfl 3 rfl ?_
    cases hf
set_option maxHeartbeats 4000000 in
set_option maxRecDepth 100000 in
theorem c_L_markOf (x1 x2 x3 : Int32) (l : Launch) : Cti l yL_markOf wsL_markOf 4 96 (fun G => [.ref (G.1 (5)), .int (x1), .int (x2), .int (x3)]) (f_L_markOf x1 x2 x3) := by
  refine mk_iw (cc := cL_markOf) (nL := 5) (own := RL) (by decide) rfl rfl (fun _ => Nat.le_of_ble_eq_true rfl) (fun X o σ rv C hR hf => ?_)
  show Bk X 5 o 0 0 0 [(0, .ref (ad X (5))), (1, .int (x1)), (2, .int (x2)), (3, .int (x3))] [] σ
  unfold f_L_markOf at hf
  refine b_aload_n C dL_markOf_0 rfl 0 rfl ?_
  refine b_iload_n C dL_markOf_1 rfl 1 rfl ?_
  refine b_iload_n C dL_markOf_2 rfl 2 rfl ?_
  refine b_iload_n C dL_markOf_3 rfl 3 rfl ?_
  obtain ⟨y1, τ2, hqy1, hf⟩ := bd_inv hf
  refine b_callVi (n := 3) C (5) 9 (isObj_s (by decide)) rfl (fun _ => [.int (x1), .int (x2), .int (x3)]) (c_X9_markOf (x1) (x2) (x3)) hqy1 gL_markOf_X9_markOf rfl (by decide +kernel) rfl (by decide) (by decide) (Nat.le_of_ble_eq_true rfl) dL_markOf_4 ?_
  exact hR _ _ _ _ dL_markOf_7 hf
set_option maxHeartbeats 4000000 in
set_option maxRecDepth 100000 in
theorem c_L_written (x1 x2 x3 : Int32) (l : Launch) : Cti l yL_written wsL_written 3 68 (fun G => [.ref (G.1 (5)), .int (x1), .int (x2), .int (x3)]) (f_L_written x1 x2 x3) := by
  refine mk_iw (cc := cL_written) (nL := 5) (own := RL) (by decide) rfl rfl (fun _ => Nat.le_of_ble_eq_true rfl) (fun X o σ rv C hR hf => ?_)
  show Bk X 5 o 0 0 0 [(0, .ref (ad X (5))), (1, .int (x1)), (2, .int (x2)), (3, .int (x3))] [] σ
  unfold f_L_written at hf
  refine b_aload_n C dL_written_0 rfl 0 rfl ?_
  refine b_iload_n C dL_written_1 rfl 1 rfl ?_
  refine b_iload_n C dL_written_2 rfl 2 rfl ?_
  refine b_iload_n C dL_written_3 rfl 3 rfl ?_
  obtain ⟨y1, τ2, hqy1, hf⟩ := bd_inv hf
  refine b_callVi (n := 3) C (5) 9 (isObj_s (by decide)) rfl (fun _ => [.int (x1), .int (x2), .int (x3)]) (c_X9_written (x1) (x2) (x3)) hqy1 gL_written_X9_written rfl (by decide +kernel) rfl (by decide) (by decide) (Nat.le_of_ble_eq_true rfl) dL_written_4 ?_
  exact hR _ _ _ _ dL_written_7 hf
set_option maxHeartbeats 4000000 in
set_option maxRecDepth 100000 in
theorem w_L_signFor_55 {X : Ctx} {o : Int64} {rv : Int32 × Mem} (C : Cx X cL_signFor RL wsL_signFor 3 0 0) (hR : Rt X cL_signFor 3 o rv) : ∀ (s0 : Int32) (σ : Mem), some rv = f_L_signFor_55 s0 σ → Bk X 3 o 0 0 55 [] [.int (s0)] σ := by
  intro s0 σ hf
  unfold f_L_signFor_55 at hf
  exact hR _ _ _ _ dL_signFor_55 hf
set_option maxHeartbeats 4000000 in
set_option maxRecDepth 100000 in
theorem w_L_signFor_45 {X : Ctx} {o : Int64} {rv : Int32 × Mem} (C : Cx X cL_signFor RL wsL_signFor 3 0 0) (hR : Rt X cL_signFor 3 o rv) : ∀ (v2 : Int32) (σ : Mem), some rv = f_L_signFor_45 v2 σ → Bk X 3 o 0 0 45 [(2, .int (v2))] [] σ := by
  intro v2 σ hf
  unfold f_L_signFor_45 at hf
  refine b_bipush C (v := 97) dL_signFor_45 (by decide) ?_
  refine b_iload_n C dL_signFor_47 rfl 0 rfl ?_
  refine b_bipush C (v := 35) dL_signFor_48 (by decide) ?_
  refine b_idiv C dL_signFor_50 (by decide) ?_
  refine b_bipush C (v := 8) dL_signFor_51 (by decide) ?_
  refine b_irem C dL_signFor_53 (by decide) ?_
  refine b_iadd C dL_signFor_54 ?_
  refine b_sub [] rfl ?_
  exact w_L_signFor_55 C hR _ _ hf
set_option maxHeartbeats 4000000 in
set_option maxRecDepth 100000 in
theorem w_L_signFor_29 {X : Ctx} {o : Int64} {rv : Int32 × Mem} (C : Cx X cL_signFor RL wsL_signFor 3 0 0) (hR : Rt X cL_signFor 3 o rv) : ∀ (v1 v2 : Int32) (σ : Mem), some rv = f_L_signFor_29 v1 v2 σ → Bk X 3 o 0 0 29 [(1, .int (v1)), (2, .int (v2))] [] σ := by
  intro v1 v2 σ hf
  unfold f_L_signFor_29 at hf
  refine b_iload_n C dL_signFor_29 rfl 0 rfl ?_
  refine b_iconst C (v := 3) dL_signFor_30 (by decide) ?_
  refine b_icmp_ge C 45 dL_signFor_31 (by decide) hf (fun hf => ?_) (fun hf => ?_)
  · refine b_sub [1] rfl ?_
    exact w_L_signFor_45 C hR _ _ hf
  · refine b_iload_n C dL_signFor_34 rfl 1 rfl ?_
    refine b_iconst C (v := 5) dL_signFor_35 (by decide) ?_
    refine b_irem C dL_signFor_36 (by decide) ?_
    refine b_if_ne C 45 dL_signFor_37 (by decide) hf (fun hf => ?_) (fun hf => ?_)
    · refine b_sub [1] rfl ?_
      exact w_L_signFor_45 C hR _ _ hf
    · refine b_bipush C (v := 40) dL_signFor_40 (by decide) ?_
      refine b_goto C 55 dL_signFor_42 (by decide) ?_
      refine b_sub [] rfl ?_
      exact w_L_signFor_55 C hR _ _ hf
set_option maxHeartbeats 4000000 in
set_option maxRecDepth 100000 in
theorem w_L_signFor_90 {X : Ctx} {o : Int64} {rv : Int32 × Mem} (C : Cx X cL_signFor RL wsL_signFor 3 0 0) (hR : Rt X cL_signFor 3 o rv) : ∀ (s0 : Int32) (σ : Mem), some rv = f_L_signFor_90 s0 σ → Bk X 3 o 0 0 90 [] [.int (s0)] σ := by
  intro s0 σ hf
  unfold f_L_signFor_90 at hf
  exact hR _ _ _ _ dL_signFor_90 hf
set_option maxHeartbeats 4000000 in
set_option maxRecDepth 100000 in
theorem c_L_signFor (x1 x2 x3 : Int32) (l : Launch) : Cti l yL_signFor wsL_signFor 0 0 (fun G => [.int (x1), .int (x2), .int (x3)]) (f_L_signFor x1 x2 x3) := by
  refine mk_i (cc := cL_signFor) (nL := 3) (own := RL) (by decide) rfl rfl (fun _ => Nat.le_of_ble_eq_true rfl) (fun X o σ rv C hR hf => ?_)
  show Bk X 3 o 0 0 0 [(0, .int (x1)), (1, .int (x2)), (2, .int (x3))] [] σ
  unfold f_L_signFor at hf
  refine b_iload_n C dL_signFor_0 rfl 0 rfl ?_
  refine b_iconst C (v := 2) dL_signFor_1 (by decide) ?_
  refine b_icmp_ge C 56 dL_signFor_2 (by decide) hf (fun hf => ?_) (fun hf => ?_)
  · refine b_iload_n C dL_signFor_56 rfl 1 rfl ?_
    refine b_if_le C 88 dL_signFor_57 (by decide) hf (fun hf => ?_) (fun hf => ?_)
    · refine b_bipush C (v := 43) dL_signFor_88 (by decide) ?_
      refine b_sub [] rfl ?_
      exact w_L_signFor_90 C hR _ _ hf
    · refine b_iload_n C dL_signFor_60 rfl 2 rfl ?_
      refine b_iconst C (v := 3) dL_signFor_61 (by decide) ?_
      refine b_irem C dL_signFor_62 (by decide) ?_
      refine b_if_ne C 71 dL_signFor_63 (by decide) hf (fun hf => ?_) (fun hf => ?_)
      · refine b_iload_n C dL_signFor_71 rfl 2 rfl ?_
        refine b_iconst C (v := 3) dL_signFor_72 (by decide) ?_
        refine b_irem C dL_signFor_73 (by decide) ?_
        refine b_iconst C (v := 1) dL_signFor_74 (by decide) ?_
        refine b_icmp_ne C 83 dL_signFor_75 (by decide) hf (fun hf => ?_) (fun hf => ?_)
        · refine b_bipush C (v := 43) dL_signFor_83 (by decide) ?_
          refine b_goto C 90 dL_signFor_85 (by decide) ?_
          refine b_sub [] rfl ?_
          exact w_L_signFor_90 C hR _ _ hf
        · refine b_bipush C (v := 41) dL_signFor_78 (by decide) ?_
          refine b_goto C 90 dL_signFor_80 (by decide) ?_
          refine b_sub [] rfl ?_
          exact w_L_signFor_90 C hR _ _ hf
      · refine b_bipush C (v := 124) dL_signFor_66 (by decide) ?_
        refine b_goto C 90 dL_signFor_68 (by decide) ?_
        refine b_sub [] rfl ?_
        exact w_L_signFor_90 C hR _ _ hf
  · refine b_iload_n C dL_signFor_5 rfl 0 rfl ?_
    refine b_if_ne C 29 dL_signFor_6 (by decide) hf (fun hf => ?_) (fun hf => ?_)
    · refine b_sub [1, 2] rfl ?_
      exact w_L_signFor_29 C hR _ _ _ hf
    · refine b_iload_n C dL_signFor_9 rfl 2 rfl ?_
      refine b_bipush C (v := 7) dL_signFor_10 (by decide) ?_
      refine b_irem C dL_signFor_12 (by decide) ?_
      refine b_if_ne C 29 dL_signFor_13 (by decide) hf (fun hf => ?_) (fun hf => ?_)
      · refine b_sub [1, 2] rfl ?_
        exact w_L_signFor_29 C hR _ _ _ hf
      · refine b_bipush C (v := 49) dL_signFor_16 (by decide) ?_
        refine b_iload_n C dL_signFor_18 rfl 2 rfl ?_
        refine b_bipush C (v := 7) dL_signFor_19 (by decide) ?_
        refine b_idiv C dL_signFor_21 (by decide) ?_
        refine b_bipush C (v := 9) dL_signFor_22 (by decide) ?_
        refine b_irem C dL_signFor_24 (by decide) ?_
        refine b_iadd C dL_signFor_25 ?_
        refine b_goto C 55 dL_signFor_26 (by decide) ?_
        refine b_sub [] rfl ?_
        exact w_L_signFor_55 C hR _ _ hf
