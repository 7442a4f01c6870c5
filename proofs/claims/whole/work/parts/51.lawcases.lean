/-! printed by wip/whole/gen/law.py -/
set_option maxHeartbeats 4000000 in
set_option maxRecDepth 100000 in
theorem lc_0 {X : Ctx} {b L : Nat} {xs : Nat → Int32} {Inv : Mem → Prop} (C : Cx X cL_law RL lw_tbl 7 10 236) (E : Lx X b L xs) (iv : Int32) (h1 : vp_in (iv + 1) L) (h2 : vp_in (iv + 2) L) (h3 : vp_in (iv + 3) L) (o : Int64) (kc ks : Nat) (hk1 : kc + 1 ≤ 601024) (hk2 : ks + 6 ≤ 7293034) (σ : Mem) (hs : StpG Inv (f_X9_pupil (xs (iv + 1).toNatClampNeg) (xs (iv + 2).toNatClampNeg) (bz (xs (iv + 3).toNatClampNeg))) (f_X10_pupil ((xs (iv + 1).toNatClampNeg)) ((xs (iv + 2).toNatClampNeg)) ((bz (xs (iv + 3).toNatClampNeg)))) [1, 2] σ) (kk : ∀ (o' : Int64) (u2 : Mem), Inv u2 → Bk X 7 o' (kc + 1) (ks + 6) 1897 [(0, .ref b), (1, .ref (ad X 9)), (2, .ref (ad X 10)), (3, .ref (ad X 5)), (4, .int iv)] [] u2) : Bk X 7 o kc ks 160 [(0, .ref b), (1, .ref (ad X 9)), (2, .ref (ad X 10)), (3, .ref (ad X 5)), (4, .int iv)] [] σ := by
  obtain ⟨oc, u, r, u2, hA, hoc, hM, hth, hr, hI⟩ := hs
  refine b_aload_n C dL_law_160 rfl 1 rfl ?_
  refine b_aload_n C dL_law_161 rfl 0 rfl ?_
  refine b_iload C dL_law_162 4 rfl ?_
  refine b_iconst C (v := 1) dL_law_164 (by decide) ?_
  refine b_iadd C dL_law_165 ?_
  refine b_sld C E h1 dL_law_166 ?_
  refine b_aload_n C dL_law_167 rfl 0 rfl ?_
  refine b_iload C dL_law_168 4 rfl ?_
  refine b_iconst C (v := 2) dL_law_170 (by decide) ?_
  refine b_iadd C dL_law_171 ?_
  refine b_sld C E h2 dL_law_172 ?_
  refine b_aload_n C dL_law_173 rfl 0 rfl ?_
  refine b_iload C dL_law_174 4 rfl ?_
  refine b_iconst C (v := 3) dL_law_176 (by decide) ?_
  refine b_iadd C dL_law_177 ?_
  refine b_sld C E h3 dL_law_178 ?_
  suffices hJ1 : Bk X 7 o kc ks 187 [(0, .ref b), (1, .ref (ad X 9)), (2, .ref (ad X 10)), (3, .ref (ad X 5)), (4, .int iv)] [.int (bz (xs (iv + 3).toNatClampNeg)), .int (xs (iv + 2).toNatClampNeg), .int (xs (iv + 1).toNatClampNeg), .ref (ad X 9)] σ by
    refine b_if_eq C 186 dL_law_179 (by decide) (rv := bz (xs (iv + 3).toNatClampNeg)) (a := 0) (b := 1) rfl (fun h => ?_) (fun h => ?_)
    · rw [h] at hJ1
      exact b_iconst C (v := 0) dL_law_186 (by decide) hJ1
    · rw [h] at hJ1
      refine b_iconst C (v := 1) dL_law_182 (by decide) ?_
      exact b_goto C 187 dL_law_183 (by decide) hJ1
  refine b_aload_n C dL_law_187 rfl 3 rfl ?_
  refine b_lcallW (n := 5) C E (fun G => [.ref (G.1 9), .int (xs (iv + 1).toNatClampNeg), .int (xs (iv + 2).toNatClampNeg), .int (bz (xs (iv + 3).toNatClampNeg)), .ref (G.1 5)]) (c_L_pupil ((xs (iv + 1).toNatClampNeg)) ((xs (iv + 2).toNatClampNeg)) ((bz (xs (iv + 3).toNatClampNeg)))) hA hoc gT_L_pupil rfl (by decide +kernel) rfl (by decide) (by decide) (Nat.le_of_ble_eq_true rfl) hk1 hk2 dL_law_188 ?_
  refine b_istore (lv' := [(5, .int (wcode [1, 2] oc.1)), (0, .ref b), (1, .ref (ad X 9)), (2, .ref (ad X 10)), (3, .ref (ad X 5)), (4, .int iv)]) C dL_law_191 (by decide) rfl ?_
  refine b_aload_n C dL_law_193 rfl 3 rfl ?_
  refine b_aload_n C dL_law_194 rfl 1 rfl ?_
  refine b_iload C dL_law_195 5 rfl ?_
  refine b_iconst C (v := 1) dL_law_197 (by decide) ?_
  refine b_iadd C dL_law_198 ?_
  refine b_sld C E h1 dL_law_199 ?_
  refine b_aload_n C dL_law_200 rfl 1 rfl ?_
  refine b_iload C dL_law_201 5 rfl ?_
  refine b_iconst C (v := 2) dL_law_203 (by decide) ?_
  refine b_iadd C dL_law_204 ?_
  refine b_sld C E h2 dL_law_205 ?_
  refine b_aload_n C dL_law_206 rfl 1 rfl ?_
  refine b_iload C dL_law_207 5 rfl ?_
  refine b_iconst C (v := 3) dL_law_209 (by decide) ?_
  refine b_iadd C dL_law_210 ?_
  refine b_sld C E h3 dL_law_211 ?_
  suffices hJ2 : Bk X 7 (wout false oc o) (kc + 1) (ks + 6) 220 [(5, .int (wcode [1, 2] oc.1)), (0, .ref b), (1, .ref (ad X 9)), (2, .ref (ad X 10)), (3, .ref (ad X 5)), (4, .int iv)] [.int (bz (xs (iv + 3).toNatClampNeg)), .int (xs (iv + 2).toNatClampNeg), .int (xs (iv + 1).toNatClampNeg), .ref (ad X 10)] u by
    refine b_if_eq C 219 dL_law_212 (by decide) (rv := bz (xs (iv + 3).toNatClampNeg)) (a := 0) (b := 1) rfl (fun h => ?_) (fun h => ?_)
    · rw [h] at hJ2
      exact b_iconst C (v := 0) dL_law_219 (by decide) hJ2
    · rw [h] at hJ2
      refine b_iconst C (v := 1) dL_law_215 (by decide) ?_
      exact b_goto C 220 dL_law_216 (by decide) hJ2
  refine b_lcallV (n := 3) C E (10) 10 (isObj_s (by decide) (by decide)) rfl (fun _ => [.int (xs (iv + 1).toNatClampNeg), .int (xs (iv + 2).toNatClampNeg), .int (bz (xs (iv + 3).toNatClampNeg))]) (c_X10_pupil ((xs (iv + 1).toNatClampNeg)) ((xs (iv + 2).toNatClampNeg)) ((bz (xs (iv + 3).toNatClampNeg)))) hM gT_X10_pupil rfl (by decide +kernel) rfl (by decide) (by decide) (Nat.le_of_ble_eq_true rfl) hk1 hk2 dL_law_220 ?_
  refine b_istore (lv' := [(6, .int r), (5, .int (wcode [1, 2] oc.1)), (0, .ref b), (1, .ref (ad X 9)), (2, .ref (ad X 10)), (3, .ref (ad X 5)), (4, .int iv)]) C dL_law_223 (by decide) rfl ?_
  refine b_aload_n C dL_law_225 rfl 4 rfl ?_
  refine b_lcallV (n := 0) C E (10) 10 (isObj_s (by decide) (by decide)) rfl (fun _ => []) (c_X10_thrown ) (rfl : f_X10_thrown u2 = some (u2 76 22, u2)) gT_X10_thrown rfl (by decide +kernel) rfl (by decide) (by decide) (Nat.le_of_ble_eq_true rfl) hk1 hk2 dL_law_226 ?_
  refine b_iload C dL_law_229 1 rfl ?_
  refine b_icmp_eq C 236 dL_law_231 (by decide) (rv := (0 : Nat)) (a := 0) (b := 1) (if_pos hth).symm (fun _ => ?_) (fun h => absurd h (by decide))
  refine b_iload C dL_law_236 1 rfl ?_
  have hT : Bk X 7 (wout false oc o) (kc + 1) (ks + 6) 253 [(6, .int r), (5, .int (wcode [1, 2] oc.1)), (0, .ref b), (1, .ref (ad X 9)), (2, .ref (ad X 10)), (3, .ref (ad X 5)), (4, .int iv)] [] u2 := by
    refine b_goto C 1897 dL_law_253 (by decide) ?_
    exact b_sub [2, 3, 4, 5, 6] rfl (kk _ _ hI)
  by_cases h0 : oc.1 = 0
  · have hw : wcode [1, 2] oc.1 = 0 := if_pos h0
    refine b_if_ne C 253 dL_law_238 (by decide) (rv := (0 : Nat)) (a := 0) (b := 1) (if_pos hw).symm (fun h => absurd h (by decide)) (fun _ => ?_)
    refine b_aload_n C dL_law_241 rfl 5 rfl ?_
    refine b_iconst C (v := 0) dL_law_242 (by decide) ?_
    refine b_lald C dL_law_243 ?_
    refine b_iload C dL_law_244 0 rfl ?_
    refine b_i2l C dL_law_246 ?_
    have ho : wout false oc o = r.toInt64 := by rw [← hr h0]; exact if_pos h0
    refine b_lcmp C dL_law_247 ?_
    refine b_if_eq C 253 dL_law_248 (by decide) (rv := (0 : Nat)) (a := 0) (b := 1) (if_pos (by rw [ho]; exact lcmp_same _)).symm (fun _ => hT) (fun h => absurd h (by decide))
  · have hw : ¬ wcode [1, 2] oc.1 = 0 := by
      have hoc2 : oc.1 = 1 ∨ oc.1 = 2 := by simpa [h0] using hoc
      rcases hoc2 with e | e <;> (rw [e]; decide)
    exact b_if_ne C 253 dL_law_238 (by decide) (rv := (1 : Nat)) (a := 0) (b := 1) (if_neg hw).symm (fun _ => hT) (fun h => absurd h (by decide))
set_option maxHeartbeats 4000000 in
set_option maxRecDepth 100000 in
theorem lc_1 {X : Ctx} {b L : Nat} {xs : Nat → Int32} {Inv : Mem → Prop} (C : Cx X cL_law RL lw_tbl 7 10 236) (E : Lx X b L xs) (iv : Int32) (h1 : vp_in (iv + 1) L) (h2 : vp_in (iv + 2) L) (o : Int64) (kc ks : Nat) (hk1 : kc + 1 ≤ 601024) (hk2 : ks + 6 ≤ 7293034) (σ : Mem) (hs : StpG Inv (f_X9_gift (xs (iv + 1).toNatClampNeg) (xs (iv + 2).toNatClampNeg)) (f_X10_gift ((xs (iv + 1).toNatClampNeg)) ((xs (iv + 2).toNatClampNeg))) [3, 1] σ) (kk : ∀ (o' : Int64) (u2 : Mem), Inv u2 → Bk X 7 o' (kc + 1) (ks + 6) 1897 [(0, .ref b), (1, .ref (ad X 9)), (2, .ref (ad X 10)), (3, .ref (ad X 5)), (4, .int iv)] [] u2) : Bk X 7 o kc ks 256 [(0, .ref b), (1, .ref (ad X 9)), (2, .ref (ad X 10)), (3, .ref (ad X 5)), (4, .int iv)] [] σ := by
  obtain ⟨oc, u, r, u2, hA, hoc, hM, hth, hr, hI⟩ := hs
  refine b_aload_n C dL_law_256 rfl 1 rfl ?_
  refine b_aload_n C dL_law_257 rfl 0 rfl ?_
  refine b_iload C dL_law_258 4 rfl ?_
  refine b_iconst C (v := 1) dL_law_260 (by decide) ?_
  refine b_iadd C dL_law_261 ?_
  refine b_sld C E h1 dL_law_262 ?_
  refine b_aload_n C dL_law_263 rfl 0 rfl ?_
  refine b_iload C dL_law_264 4 rfl ?_
  refine b_iconst C (v := 2) dL_law_266 (by decide) ?_
  refine b_iadd C dL_law_267 ?_
  refine b_sld C E h2 dL_law_268 ?_
  refine b_aload_n C dL_law_269 rfl 3 rfl ?_
  refine b_lcallW (n := 4) C E (fun G => [.ref (G.1 9), .int (xs (iv + 1).toNatClampNeg), .int (xs (iv + 2).toNatClampNeg), .ref (G.1 5)]) (c_L_gift ((xs (iv + 1).toNatClampNeg)) ((xs (iv + 2).toNatClampNeg))) hA hoc gT_L_gift rfl (by decide +kernel) rfl (by decide) (by decide) (Nat.le_of_ble_eq_true rfl) hk1 hk2 dL_law_270 ?_
  refine b_istore (lv' := [(5, .int (wcode [3, 1] oc.1)), (0, .ref b), (1, .ref (ad X 9)), (2, .ref (ad X 10)), (3, .ref (ad X 5)), (4, .int iv)]) C dL_law_273 (by decide) rfl ?_
  refine b_aload_n C dL_law_275 rfl 3 rfl ?_
  refine b_aload_n C dL_law_276 rfl 1 rfl ?_
  refine b_iload C dL_law_277 5 rfl ?_
  refine b_iconst C (v := 1) dL_law_279 (by decide) ?_
  refine b_iadd C dL_law_280 ?_
  refine b_sld C E h1 dL_law_281 ?_
  refine b_aload_n C dL_law_282 rfl 1 rfl ?_
  refine b_iload C dL_law_283 5 rfl ?_
  refine b_iconst C (v := 2) dL_law_285 (by decide) ?_
  refine b_iadd C dL_law_286 ?_
  refine b_sld C E h2 dL_law_287 ?_
  refine b_lcallV (n := 2) C E (10) 10 (isObj_s (by decide) (by decide)) rfl (fun _ => [.int (xs (iv + 1).toNatClampNeg), .int (xs (iv + 2).toNatClampNeg)]) (c_X10_gift ((xs (iv + 1).toNatClampNeg)) ((xs (iv + 2).toNatClampNeg))) hM gT_X10_gift rfl (by decide +kernel) rfl (by decide) (by decide) (Nat.le_of_ble_eq_true rfl) hk1 hk2 dL_law_288 ?_
  refine b_istore (lv' := [(6, .int r), (5, .int (wcode [3, 1] oc.1)), (0, .ref b), (1, .ref (ad X 9)), (2, .ref (ad X 10)), (3, .ref (ad X 5)), (4, .int iv)]) C dL_law_291 (by decide) rfl ?_
  refine b_aload_n C dL_law_293 rfl 4 rfl ?_
  refine b_lcallV (n := 0) C E (10) 10 (isObj_s (by decide) (by decide)) rfl (fun _ => []) (c_X10_thrown ) (rfl : f_X10_thrown u2 = some (u2 76 22, u2)) gT_X10_thrown rfl (by decide +kernel) rfl (by decide) (by decide) (Nat.le_of_ble_eq_true rfl) hk1 hk2 dL_law_294 ?_
  refine b_iload C dL_law_297 1 rfl ?_
  refine b_icmp_eq C 304 dL_law_299 (by decide) (rv := (0 : Nat)) (a := 0) (b := 1) (if_pos hth).symm (fun _ => ?_) (fun h => absurd h (by decide))
  refine b_iload C dL_law_304 1 rfl ?_
  have hT : Bk X 7 (wout false oc o) (kc + 1) (ks + 6) 321 [(6, .int r), (5, .int (wcode [3, 1] oc.1)), (0, .ref b), (1, .ref (ad X 9)), (2, .ref (ad X 10)), (3, .ref (ad X 5)), (4, .int iv)] [] u2 := by
    refine b_goto C 1897 dL_law_321 (by decide) ?_
    exact b_sub [2, 3, 4, 5, 6] rfl (kk _ _ hI)
  by_cases h0 : oc.1 = 0
  · have hw : wcode [3, 1] oc.1 = 0 := if_pos h0
    refine b_if_ne C 321 dL_law_306 (by decide) (rv := (0 : Nat)) (a := 0) (b := 1) (if_pos hw).symm (fun h => absurd h (by decide)) (fun _ => ?_)
    refine b_aload_n C dL_law_309 rfl 5 rfl ?_
    refine b_iconst C (v := 0) dL_law_310 (by decide) ?_
    refine b_lald C dL_law_311 ?_
    refine b_iload C dL_law_312 0 rfl ?_
    refine b_i2l C dL_law_314 ?_
    have ho : wout false oc o = r.toInt64 := by rw [← hr h0]; exact if_pos h0
    refine b_lcmp C dL_law_315 ?_
    refine b_if_eq C 321 dL_law_316 (by decide) (rv := (0 : Nat)) (a := 0) (b := 1) (if_pos (by rw [ho]; exact lcmp_same _)).symm (fun _ => hT) (fun h => absurd h (by decide))
  · have hw : ¬ wcode [3, 1] oc.1 = 0 := by
      have hoc2 : oc.1 = 3 ∨ oc.1 = 1 := by simpa [h0] using hoc
      rcases hoc2 with e | e <;> (rw [e]; decide)
    exact b_if_ne C 321 dL_law_306 (by decide) (rv := (1 : Nat)) (a := 0) (b := 1) (if_neg hw).symm (fun _ => hT) (fun h => absurd h (by decide))
set_option maxHeartbeats 4000000 in
set_option maxRecDepth 100000 in
theorem lc_2 {X : Ctx} {b L : Nat} {xs : Nat → Int32} {Inv : Mem → Prop} (C : Cx X cL_law RL lw_tbl 7 10 236) (E : Lx X b L xs) (iv : Int32) (h1 : vp_in (iv + 1) L) (o : Int64) (kc ks : Nat) (hk1 : kc + 1 ≤ 601024) (hk2 : ks + 6 ≤ 7293034) (σ : Mem) (hs : StpG Inv (f_X9_type (xs (iv + 1).toNatClampNeg)) (f_X10_type ((xs (iv + 1).toNatClampNeg))) [1, 2] σ) (kk : ∀ (o' : Int64) (u2 : Mem), Inv u2 → Bk X 7 o' (kc + 1) (ks + 6) 1897 [(0, .ref b), (1, .ref (ad X 9)), (2, .ref (ad X 10)), (3, .ref (ad X 5)), (4, .int iv)] [] u2) : Bk X 7 o kc ks 324 [(0, .ref b), (1, .ref (ad X 9)), (2, .ref (ad X 10)), (3, .ref (ad X 5)), (4, .int iv)] [] σ := by
  obtain ⟨oc, u, r, u2, hA, hoc, hM, hth, hr, hI⟩ := hs
  refine b_aload_n C dL_law_324 rfl 1 rfl ?_
  refine b_aload_n C dL_law_325 rfl 0 rfl ?_
  refine b_iload C dL_law_326 4 rfl ?_
  refine b_iconst C (v := 1) dL_law_328 (by decide) ?_
  refine b_iadd C dL_law_329 ?_
  refine b_sld C E h1 dL_law_330 ?_
  refine b_aload_n C dL_law_331 rfl 3 rfl ?_
  refine b_lcallW (n := 3) C E (fun G => [.ref (G.1 9), .int (xs (iv + 1).toNatClampNeg), .ref (G.1 5)]) (c_L_type ((xs (iv + 1).toNatClampNeg))) hA hoc gT_L_type rfl (by decide +kernel) rfl (by decide) (by decide) (Nat.le_of_ble_eq_true rfl) hk1 hk2 dL_law_332 ?_
  refine b_istore (lv' := [(5, .int (wcode [1, 2] oc.1)), (0, .ref b), (1, .ref (ad X 9)), (2, .ref (ad X 10)), (3, .ref (ad X 5)), (4, .int iv)]) C dL_law_335 (by decide) rfl ?_
  refine b_aload_n C dL_law_337 rfl 3 rfl ?_
  refine b_aload_n C dL_law_338 rfl 1 rfl ?_
  refine b_iload C dL_law_339 5 rfl ?_
  refine b_iconst C (v := 1) dL_law_341 (by decide) ?_
  refine b_iadd C dL_law_342 ?_
  refine b_sld C E h1 dL_law_343 ?_
  refine b_lcallV (n := 1) C E (10) 10 (isObj_s (by decide) (by decide)) rfl (fun _ => [.int (xs (iv + 1).toNatClampNeg)]) (c_X10_type ((xs (iv + 1).toNatClampNeg))) hM gT_X10_type rfl (by decide +kernel) rfl (by decide) (by decide) (Nat.le_of_ble_eq_true rfl) hk1 hk2 dL_law_344 ?_
  refine b_istore (lv' := [(6, .int r), (5, .int (wcode [1, 2] oc.1)), (0, .ref b), (1, .ref (ad X 9)), (2, .ref (ad X 10)), (3, .ref (ad X 5)), (4, .int iv)]) C dL_law_347 (by decide) rfl ?_
  refine b_aload_n C dL_law_349 rfl 4 rfl ?_
  refine b_lcallV (n := 0) C E (10) 10 (isObj_s (by decide) (by decide)) rfl (fun _ => []) (c_X10_thrown ) (rfl : f_X10_thrown u2 = some (u2 76 22, u2)) gT_X10_thrown rfl (by decide +kernel) rfl (by decide) (by decide) (Nat.le_of_ble_eq_true rfl) hk1 hk2 dL_law_350 ?_
  refine b_iload C dL_law_353 1 rfl ?_
  refine b_icmp_eq C 360 dL_law_355 (by decide) (rv := (0 : Nat)) (a := 0) (b := 1) (if_pos hth).symm (fun _ => ?_) (fun h => absurd h (by decide))
  refine b_iload C dL_law_360 1 rfl ?_
  have hT : Bk X 7 (wout false oc o) (kc + 1) (ks + 6) 377 [(6, .int r), (5, .int (wcode [1, 2] oc.1)), (0, .ref b), (1, .ref (ad X 9)), (2, .ref (ad X 10)), (3, .ref (ad X 5)), (4, .int iv)] [] u2 := by
    refine b_goto C 1897 dL_law_377 (by decide) ?_
    exact b_sub [2, 3, 4, 5, 6] rfl (kk _ _ hI)
  by_cases h0 : oc.1 = 0
  · have hw : wcode [1, 2] oc.1 = 0 := if_pos h0
    refine b_if_ne C 377 dL_law_362 (by decide) (rv := (0 : Nat)) (a := 0) (b := 1) (if_pos hw).symm (fun h => absurd h (by decide)) (fun _ => ?_)
    refine b_aload_n C dL_law_365 rfl 5 rfl ?_
    refine b_iconst C (v := 0) dL_law_366 (by decide) ?_
    refine b_lald C dL_law_367 ?_
    refine b_iload C dL_law_368 0 rfl ?_
    refine b_i2l C dL_law_370 ?_
    have ho : wout false oc o = r.toInt64 := by rw [← hr h0]; exact if_pos h0
    refine b_lcmp C dL_law_371 ?_
    refine b_if_eq C 377 dL_law_372 (by decide) (rv := (0 : Nat)) (a := 0) (b := 1) (if_pos (by rw [ho]; exact lcmp_same _)).symm (fun _ => hT) (fun h => absurd h (by decide))
  · have hw : ¬ wcode [1, 2] oc.1 = 0 := by
      have hoc2 : oc.1 = 1 ∨ oc.1 = 2 := by simpa [h0] using hoc
      rcases hoc2 with e | e <;> (rw [e]; decide)
    exact b_if_ne C 377 dL_law_362 (by decide) (rv := (1 : Nat)) (a := 0) (b := 1) (if_neg hw).symm (fun _ => hT) (fun h => absurd h (by decide))
set_option maxHeartbeats 4000000 in
set_option maxRecDepth 100000 in
theorem lc_3 {X : Ctx} {b L : Nat} {xs : Nat → Int32} {Inv : Mem → Prop} (C : Cx X cL_law RL lw_tbl 7 10 236) (E : Lx X b L xs) (iv : Int32) (h1 : vp_in (iv + 1) L) (o : Int64) (kc ks : Nat) (hk1 : kc + 1 ≤ 601024) (hk2 : ks + 6 ≤ 7293034) (σ : Mem) (hs : StpG Inv (f_X9_scheme (xs (iv + 1).toNatClampNeg)) (f_X10_scheme ((xs (iv + 1).toNatClampNeg))) [3, 2] σ) (kk : ∀ (o' : Int64) (u2 : Mem), Inv u2 → Bk X 7 o' (kc + 1) (ks + 6) 1897 [(0, .ref b), (1, .ref (ad X 9)), (2, .ref (ad X 10)), (3, .ref (ad X 5)), (4, .int iv)] [] u2) : Bk X 7 o kc ks 380 [(0, .ref b), (1, .ref (ad X 9)), (2, .ref (ad X 10)), (3, .ref (ad X 5)), (4, .int iv)] [] σ := by
  obtain ⟨oc, u, r, u2, hA, hoc, hM, hth, hr, hI⟩ := hs
  refine b_aload_n C dL_law_380 rfl 1 rfl ?_
  refine b_aload_n C dL_law_381 rfl 0 rfl ?_
  refine b_iload C dL_law_382 4 rfl ?_
  refine b_iconst C (v := 1) dL_law_384 (by decide) ?_
  refine b_iadd C dL_law_385 ?_
  refine b_sld C E h1 dL_law_386 ?_
  refine b_aload_n C dL_law_387 rfl 3 rfl ?_
  refine b_lcallW (n := 3) C E (fun G => [.ref (G.1 9), .int (xs (iv + 1).toNatClampNeg), .ref (G.1 5)]) (c_L_scheme ((xs (iv + 1).toNatClampNeg))) hA hoc gT_L_scheme rfl (by decide +kernel) rfl (by decide) (by decide) (Nat.le_of_ble_eq_true rfl) hk1 hk2 dL_law_388 ?_
  refine b_istore (lv' := [(5, .int (wcode [3, 2] oc.1)), (0, .ref b), (1, .ref (ad X 9)), (2, .ref (ad X 10)), (3, .ref (ad X 5)), (4, .int iv)]) C dL_law_391 (by decide) rfl ?_
  refine b_aload_n C dL_law_393 rfl 3 rfl ?_
  refine b_aload_n C dL_law_394 rfl 1 rfl ?_
  refine b_iload C dL_law_395 5 rfl ?_
  refine b_iconst C (v := 1) dL_law_397 (by decide) ?_
  refine b_iadd C dL_law_398 ?_
  refine b_sld C E h1 dL_law_399 ?_
  refine b_lcallV (n := 1) C E (10) 10 (isObj_s (by decide) (by decide)) rfl (fun _ => [.int (xs (iv + 1).toNatClampNeg)]) (c_X10_scheme ((xs (iv + 1).toNatClampNeg))) hM gT_X10_scheme rfl (by decide +kernel) rfl (by decide) (by decide) (Nat.le_of_ble_eq_true rfl) hk1 hk2 dL_law_400 ?_
  refine b_istore (lv' := [(6, .int r), (5, .int (wcode [3, 2] oc.1)), (0, .ref b), (1, .ref (ad X 9)), (2, .ref (ad X 10)), (3, .ref (ad X 5)), (4, .int iv)]) C dL_law_403 (by decide) rfl ?_
  refine b_aload_n C dL_law_405 rfl 4 rfl ?_
  refine b_lcallV (n := 0) C E (10) 10 (isObj_s (by decide) (by decide)) rfl (fun _ => []) (c_X10_thrown ) (rfl : f_X10_thrown u2 = some (u2 76 22, u2)) gT_X10_thrown rfl (by decide +kernel) rfl (by decide) (by decide) (Nat.le_of_ble_eq_true rfl) hk1 hk2 dL_law_406 ?_
  refine b_iload C dL_law_409 1 rfl ?_
  refine b_icmp_eq C 416 dL_law_411 (by decide) (rv := (0 : Nat)) (a := 0) (b := 1) (if_pos hth).symm (fun _ => ?_) (fun h => absurd h (by decide))
  refine b_iload C dL_law_416 1 rfl ?_
  have hT : Bk X 7 (wout false oc o) (kc + 1) (ks + 6) 433 [(6, .int r), (5, .int (wcode [3, 2] oc.1)), (0, .ref b), (1, .ref (ad X 9)), (2, .ref (ad X 10)), (3, .ref (ad X 5)), (4, .int iv)] [] u2 := by
    refine b_goto C 1897 dL_law_433 (by decide) ?_
    exact b_sub [2, 3, 4, 5, 6] rfl (kk _ _ hI)
  by_cases h0 : oc.1 = 0
  · have hw : wcode [3, 2] oc.1 = 0 := if_pos h0
    refine b_if_ne C 433 dL_law_418 (by decide) (rv := (0 : Nat)) (a := 0) (b := 1) (if_pos hw).symm (fun h => absurd h (by decide)) (fun _ => ?_)
    refine b_aload_n C dL_law_421 rfl 5 rfl ?_
    refine b_iconst C (v := 0) dL_law_422 (by decide) ?_
    refine b_lald C dL_law_423 ?_
    refine b_iload C dL_law_424 0 rfl ?_
    refine b_i2l C dL_law_426 ?_
    have ho : wout false oc o = r.toInt64 := by rw [← hr h0]; exact if_pos h0
    refine b_lcmp C dL_law_427 ?_
    refine b_if_eq C 433 dL_law_428 (by decide) (rv := (0 : Nat)) (a := 0) (b := 1) (if_pos (by rw [ho]; exact lcmp_same _)).symm (fun _ => hT) (fun h => absurd h (by decide))
  · have hw : ¬ wcode [3, 2] oc.1 = 0 := by
      have hoc2 : oc.1 = 3 ∨ oc.1 = 2 := by simpa [h0] using hoc
      rcases hoc2 with e | e <;> (rw [e]; decide)
    exact b_if_ne C 433 dL_law_418 (by decide) (rv := (1 : Nat)) (a := 0) (b := 1) (if_neg hw).symm (fun _ => hT) (fun h => absurd h (by decide))
set_option maxHeartbeats 4000000 in
set_option maxRecDepth 100000 in
theorem lc_4 {X : Ctx} {b L : Nat} {xs : Nat → Int32} {Inv : Mem → Prop} (C : Cx X cL_law RL lw_tbl 7 10 236) (E : Lx X b L xs) (iv : Int32) (h1 : vp_in (iv + 1) L) (h2 : vp_in (iv + 2) L) (o : Int64) (kc ks : Nat) (hk1 : kc + 1 ≤ 601024) (hk2 : ks + 6 ≤ 7293034) (σ : Mem) (hs : StpG Inv (f_X9_twice (xs (iv + 1).toNatClampNeg) (bz (xs (iv + 2).toNatClampNeg))) (f_X10_twice ((xs (iv + 1).toNatClampNeg)) ((bz (xs (iv + 2).toNatClampNeg)))) [3] σ) (kk : ∀ (o' : Int64) (u2 : Mem), Inv u2 → Bk X 7 o' (kc + 1) (ks + 6) 1897 [(0, .ref b), (1, .ref (ad X 9)), (2, .ref (ad X 10)), (3, .ref (ad X 5)), (4, .int iv)] [] u2) : Bk X 7 o kc ks 436 [(0, .ref b), (1, .ref (ad X 9)), (2, .ref (ad X 10)), (3, .ref (ad X 5)), (4, .int iv)] [] σ := by
  obtain ⟨oc, u, r, u2, hA, hoc, hM, hth, hr, hI⟩ := hs
  refine b_aload_n C dL_law_436 rfl 1 rfl ?_
  refine b_aload_n C dL_law_437 rfl 0 rfl ?_
  refine b_iload C dL_law_438 4 rfl ?_
  refine b_iconst C (v := 1) dL_law_440 (by decide) ?_
  refine b_iadd C dL_law_441 ?_
  refine b_sld C E h1 dL_law_442 ?_
  refine b_aload_n C dL_law_443 rfl 0 rfl ?_
  refine b_iload C dL_law_444 4 rfl ?_
  refine b_iconst C (v := 2) dL_law_446 (by decide) ?_
  refine b_iadd C dL_law_447 ?_
  refine b_sld C E h2 dL_law_448 ?_
  suffices hJ1 : Bk X 7 o kc ks 457 [(0, .ref b), (1, .ref (ad X 9)), (2, .ref (ad X 10)), (3, .ref (ad X 5)), (4, .int iv)] [.int (bz (xs (iv + 2).toNatClampNeg)), .int (xs (iv + 1).toNatClampNeg), .ref (ad X 9)] σ by
    refine b_if_eq C 456 dL_law_449 (by decide) (rv := bz (xs (iv + 2).toNatClampNeg)) (a := 0) (b := 1) rfl (fun h => ?_) (fun h => ?_)
    · rw [h] at hJ1
      exact b_iconst C (v := 0) dL_law_456 (by decide) hJ1
    · rw [h] at hJ1
      refine b_iconst C (v := 1) dL_law_452 (by decide) ?_
      exact b_goto C 457 dL_law_453 (by decide) hJ1
  refine b_aload_n C dL_law_457 rfl 3 rfl ?_
  refine b_lcallW (n := 4) C E (fun G => [.ref (G.1 9), .int (xs (iv + 1).toNatClampNeg), .int (bz (xs (iv + 2).toNatClampNeg)), .ref (G.1 5)]) (c_L_twice ((xs (iv + 1).toNatClampNeg)) ((bz (xs (iv + 2).toNatClampNeg)))) hA hoc gT_L_twice rfl (by decide +kernel) rfl (by decide) (by decide) (Nat.le_of_ble_eq_true rfl) hk1 hk2 dL_law_458 ?_
  refine b_istore (lv' := [(5, .int (wcode [3] oc.1)), (0, .ref b), (1, .ref (ad X 9)), (2, .ref (ad X 10)), (3, .ref (ad X 5)), (4, .int iv)]) C dL_law_461 (by decide) rfl ?_
  refine b_aload_n C dL_law_463 rfl 3 rfl ?_
  refine b_aload_n C dL_law_464 rfl 1 rfl ?_
  refine b_iload C dL_law_465 5 rfl ?_
  refine b_iconst C (v := 1) dL_law_467 (by decide) ?_
  refine b_iadd C dL_law_468 ?_
  refine b_sld C E h1 dL_law_469 ?_
  refine b_aload_n C dL_law_470 rfl 1 rfl ?_
  refine b_iload C dL_law_471 5 rfl ?_
  refine b_iconst C (v := 2) dL_law_473 (by decide) ?_
  refine b_iadd C dL_law_474 ?_
  refine b_sld C E h2 dL_law_475 ?_
  suffices hJ2 : Bk X 7 (wout true oc o) (kc + 1) (ks + 6) 484 [(5, .int (wcode [3] oc.1)), (0, .ref b), (1, .ref (ad X 9)), (2, .ref (ad X 10)), (3, .ref (ad X 5)), (4, .int iv)] [.int (bz (xs (iv + 2).toNatClampNeg)), .int (xs (iv + 1).toNatClampNeg), .ref (ad X 10)] u by
    refine b_if_eq C 483 dL_law_476 (by decide) (rv := bz (xs (iv + 2).toNatClampNeg)) (a := 0) (b := 1) rfl (fun h => ?_) (fun h => ?_)
    · rw [h] at hJ2
      exact b_iconst C (v := 0) dL_law_483 (by decide) hJ2
    · rw [h] at hJ2
      refine b_iconst C (v := 1) dL_law_479 (by decide) ?_
      exact b_goto C 484 dL_law_480 (by decide) hJ2
  refine b_lcallV (n := 2) C E (10) 10 (isObj_s (by decide) (by decide)) rfl (fun _ => [.int (xs (iv + 1).toNatClampNeg), .int (bz (xs (iv + 2).toNatClampNeg))]) (c_X10_twice ((xs (iv + 1).toNatClampNeg)) ((bz (xs (iv + 2).toNatClampNeg)))) hM gT_X10_twice rfl (by decide +kernel) rfl (by decide) (by decide) (Nat.le_of_ble_eq_true rfl) hk1 hk2 dL_law_484 ?_
  refine b_istore (lv' := [(6, .int r), (5, .int (wcode [3] oc.1)), (0, .ref b), (1, .ref (ad X 9)), (2, .ref (ad X 10)), (3, .ref (ad X 5)), (4, .int iv)]) C dL_law_487 (by decide) rfl ?_
  refine b_aload_n C dL_law_489 rfl 4 rfl ?_
  refine b_lcallV (n := 0) C E (10) 10 (isObj_s (by decide) (by decide)) rfl (fun _ => []) (c_X10_thrown ) (rfl : f_X10_thrown u2 = some (u2 76 22, u2)) gT_X10_thrown rfl (by decide +kernel) rfl (by decide) (by decide) (Nat.le_of_ble_eq_true rfl) hk1 hk2 dL_law_490 ?_
  refine b_iload C dL_law_493 1 rfl ?_
  refine b_icmp_eq C 500 dL_law_495 (by decide) (rv := (0 : Nat)) (a := 0) (b := 1) (if_pos hth).symm (fun _ => ?_) (fun h => absurd h (by decide))
  refine b_iload C dL_law_500 1 rfl ?_
  have hT : Bk X 7 (wout true oc o) (kc + 1) (ks + 6) 524 [(6, .int r), (5, .int (wcode [3] oc.1)), (0, .ref b), (1, .ref (ad X 9)), (2, .ref (ad X 10)), (3, .ref (ad X 5)), (4, .int iv)] [] u2 := by
    refine b_goto C 1897 dL_law_524 (by decide) ?_
    exact b_sub [2, 3, 4, 5, 6] rfl (kk _ _ hI)
  by_cases h0 : oc.1 = 0
  · have hw : wcode [3] oc.1 = 0 := if_pos h0
    refine b_if_ne C 524 dL_law_502 (by decide) (rv := (0 : Nat)) (a := 0) (b := 1) (if_pos hw).symm (fun h => absurd h (by decide)) (fun _ => ?_)
    refine b_aload_n C dL_law_505 rfl 5 rfl ?_
    refine b_iconst C (v := 0) dL_law_506 (by decide) ?_
    refine b_lald C dL_law_507 ?_
    refine b_iload C dL_law_508 0 rfl ?_
    have ho : wout true oc o = if r = 0 then 0 else 1 := by rw [← hr h0]; exact if_pos h0
    have hJ : Bk X 7 (wout true oc o) (kc + 1) (ks + 6) 518 [(6, .int r), (5, .int (wcode [3] oc.1)), (0, .ref b), (1, .ref (ad X 9)), (2, .ref (ad X 10)), (3, .ref (ad X 5)), (4, .int iv)] [.long (if r = 0 then 0 else 1), .long (wout true oc o)] u2 := by
      refine b_lcmp C dL_law_518 ?_
      refine b_if_eq C 524 dL_law_519 (by decide) (rv := (0 : Nat)) (a := 0) (b := 1) (if_pos (by rw [ho]; exact lcmp_same _)).symm (fun _ => hT) (fun h => absurd h (by decide))
    refine b_if_eq C 517 dL_law_510 (by decide) (rv := (if r = 0 then (0 : Int64) else 1)) (a := 0) (b := 1) rfl (fun h => ?_) (fun h => ?_)
    · rw [h] at hJ
      exact b_lconst C (v := 0) dL_law_517 (by decide) hJ
    · rw [h] at hJ
      refine b_lconst C (v := 1) dL_law_513 (by decide) ?_
      exact b_goto C 518 dL_law_514 (by decide) hJ
  · have hw : ¬ wcode [3] oc.1 = 0 := by
      have hoc2 : oc.1 = 3 := by simpa [h0] using hoc
      rw [hoc2]; decide
    exact b_if_ne C 524 dL_law_502 (by decide) (rv := (1 : Nat)) (a := 0) (b := 1) (if_neg hw).symm (fun _ => hT) (fun h => absurd h (by decide))
set_option maxHeartbeats 4000000 in
set_option maxRecDepth 100000 in
theorem lc_5 {X : Ctx} {b L : Nat} {xs : Nat → Int32} {Inv : Mem → Prop} (C : Cx X cL_law RL lw_tbl 7 10 236) (E : Lx X b L xs) (iv : Int32) (h1 : vp_in (iv + 1) L) (o : Int64) (kc ks : Nat) (hk1 : kc + 1 ≤ 601024) (hk2 : ks + 6 ≤ 7293034) (σ : Mem) (hs : StpG Inv (f_X9_tolerance (xs (iv + 1).toNatClampNeg)) (f_X10_tolerance ((xs (iv + 1).toNatClampNeg))) [1] σ) (kk : ∀ (o' : Int64) (u2 : Mem), Inv u2 → Bk X 7 o' (kc + 1) (ks + 6) 1897 [(0, .ref b), (1, .ref (ad X 9)), (2, .ref (ad X 10)), (3, .ref (ad X 5)), (4, .int iv)] [] u2) : Bk X 7 o kc ks 527 [(0, .ref b), (1, .ref (ad X 9)), (2, .ref (ad X 10)), (3, .ref (ad X 5)), (4, .int iv)] [] σ := by
  obtain ⟨oc, u, r, u2, hA, hoc, hM, hth, hr, hI⟩ := hs
  refine b_aload_n C dL_law_527 rfl 1 rfl ?_
  refine b_aload_n C dL_law_528 rfl 0 rfl ?_
  refine b_iload C dL_law_529 4 rfl ?_
  refine b_iconst C (v := 1) dL_law_531 (by decide) ?_
  refine b_iadd C dL_law_532 ?_
  refine b_sld C E h1 dL_law_533 ?_
  refine b_aload_n C dL_law_534 rfl 3 rfl ?_
  refine b_lcallW (n := 3) C E (fun G => [.ref (G.1 9), .int (xs (iv + 1).toNatClampNeg), .ref (G.1 5)]) (c_L_tolerance ((xs (iv + 1).toNatClampNeg))) hA hoc gT_L_tolerance rfl (by decide +kernel) rfl (by decide) (by decide) (Nat.le_of_ble_eq_true rfl) hk1 hk2 dL_law_535 ?_
  refine b_istore (lv' := [(5, .int (wcode [1] oc.1)), (0, .ref b), (1, .ref (ad X 9)), (2, .ref (ad X 10)), (3, .ref (ad X 5)), (4, .int iv)]) C dL_law_538 (by decide) rfl ?_
  refine b_aload_n C dL_law_540 rfl 3 rfl ?_
  refine b_aload_n C dL_law_541 rfl 1 rfl ?_
  refine b_iload C dL_law_542 5 rfl ?_
  refine b_iconst C (v := 1) dL_law_544 (by decide) ?_
  refine b_iadd C dL_law_545 ?_
  refine b_sld C E h1 dL_law_546 ?_
  refine b_lcallV (n := 1) C E (10) 10 (isObj_s (by decide) (by decide)) rfl (fun _ => [.int (xs (iv + 1).toNatClampNeg)]) (c_X10_tolerance ((xs (iv + 1).toNatClampNeg))) hM gT_X10_tolerance rfl (by decide +kernel) rfl (by decide) (by decide) (Nat.le_of_ble_eq_true rfl) hk1 hk2 dL_law_547 ?_
  refine b_istore (lv' := [(6, .int r), (5, .int (wcode [1] oc.1)), (0, .ref b), (1, .ref (ad X 9)), (2, .ref (ad X 10)), (3, .ref (ad X 5)), (4, .int iv)]) C dL_law_550 (by decide) rfl ?_
  refine b_aload_n C dL_law_552 rfl 4 rfl ?_
  refine b_lcallV (n := 0) C E (10) 10 (isObj_s (by decide) (by decide)) rfl (fun _ => []) (c_X10_thrown ) (rfl : f_X10_thrown u2 = some (u2 76 22, u2)) gT_X10_thrown rfl (by decide +kernel) rfl (by decide) (by decide) (Nat.le_of_ble_eq_true rfl) hk1 hk2 dL_law_553 ?_
  refine b_iload C dL_law_556 1 rfl ?_
  refine b_icmp_eq C 563 dL_law_558 (by decide) (rv := (0 : Nat)) (a := 0) (b := 1) (if_pos hth).symm (fun _ => ?_) (fun h => absurd h (by decide))
  refine b_iload C dL_law_563 1 rfl ?_
  have hT : Bk X 7 (wout false oc o) (kc + 1) (ks + 6) 580 [(6, .int r), (5, .int (wcode [1] oc.1)), (0, .ref b), (1, .ref (ad X 9)), (2, .ref (ad X 10)), (3, .ref (ad X 5)), (4, .int iv)] [] u2 := by
    refine b_goto C 1897 dL_law_580 (by decide) ?_
    exact b_sub [2, 3, 4, 5, 6] rfl (kk _ _ hI)
  by_cases h0 : oc.1 = 0
  · have hw : wcode [1] oc.1 = 0 := if_pos h0
    refine b_if_ne C 580 dL_law_565 (by decide) (rv := (0 : Nat)) (a := 0) (b := 1) (if_pos hw).symm (fun h => absurd h (by decide)) (fun _ => ?_)
    refine b_aload_n C dL_law_568 rfl 5 rfl ?_
    refine b_iconst C (v := 0) dL_law_569 (by decide) ?_
    refine b_lald C dL_law_570 ?_
    refine b_iload C dL_law_571 0 rfl ?_
    refine b_i2l C dL_law_573 ?_
    have ho : wout false oc o = r.toInt64 := by rw [← hr h0]; exact if_pos h0
    refine b_lcmp C dL_law_574 ?_
    refine b_if_eq C 580 dL_law_575 (by decide) (rv := (0 : Nat)) (a := 0) (b := 1) (if_pos (by rw [ho]; exact lcmp_same _)).symm (fun _ => hT) (fun h => absurd h (by decide))
  · have hw : ¬ wcode [1] oc.1 = 0 := by
      have hoc2 : oc.1 = 1 := by simpa [h0] using hoc
      rw [hoc2]; decide
    exact b_if_ne C 580 dL_law_565 (by decide) (rv := (1 : Nat)) (a := 0) (b := 1) (if_neg hw).symm (fun _ => hT) (fun h => absurd h (by decide))
set_option maxHeartbeats 4000000 in
set_option maxRecDepth 100000 in
theorem lc_6 {X : Ctx} {b L : Nat} {xs : Nat → Int32} {Inv : Mem → Prop} (C : Cx X cL_law RL lw_tbl 7 10 236) (E : Lx X b L xs) (iv : Int32) (h1 : vp_in (iv + 1) L) (h2 : vp_in (iv + 2) L) (h3 : vp_in (iv + 3) L) (o : Int64) (kc ks : Nat) (hk1 : kc + 1 ≤ 601024) (hk2 : ks + 6 ≤ 7293034) (σ : Mem) (hs : StpG Inv (f_X9_reader (xs (iv + 1).toNatClampNeg) (xs (iv + 2).toNatClampNeg) (bz (xs (iv + 3).toNatClampNeg))) (f_X10_reader ((xs (iv + 1).toNatClampNeg)) ((xs (iv + 2).toNatClampNeg)) ((bz (xs (iv + 3).toNatClampNeg)))) [1, 2] σ) (kk : ∀ (o' : Int64) (u2 : Mem), Inv u2 → Bk X 7 o' (kc + 1) (ks + 6) 1897 [(0, .ref b), (1, .ref (ad X 9)), (2, .ref (ad X 10)), (3, .ref (ad X 5)), (4, .int iv)] [] u2) : Bk X 7 o kc ks 583 [(0, .ref b), (1, .ref (ad X 9)), (2, .ref (ad X 10)), (3, .ref (ad X 5)), (4, .int iv)] [] σ := by
  obtain ⟨oc, u, r, u2, hA, hoc, hM, hth, hr, hI⟩ := hs
  refine b_aload_n C dL_law_583 rfl 1 rfl ?_
  refine b_aload_n C dL_law_584 rfl 0 rfl ?_
  refine b_iload C dL_law_585 4 rfl ?_
  refine b_iconst C (v := 1) dL_law_587 (by decide) ?_
  refine b_iadd C dL_law_588 ?_
  refine b_sld C E h1 dL_law_589 ?_
  refine b_aload_n C dL_law_590 rfl 0 rfl ?_
  refine b_iload C dL_law_591 4 rfl ?_
  refine b_iconst C (v := 2) dL_law_593 (by decide) ?_
  refine b_iadd C dL_law_594 ?_
  refine b_sld C E h2 dL_law_595 ?_
  refine b_aload_n C dL_law_596 rfl 0 rfl ?_
  refine b_iload C dL_law_597 4 rfl ?_
  refine b_iconst C (v := 3) dL_law_599 (by decide) ?_
  refine b_iadd C dL_law_600 ?_
  refine b_sld C E h3 dL_law_601 ?_
  suffices hJ1 : Bk X 7 o kc ks 610 [(0, .ref b), (1, .ref (ad X 9)), (2, .ref (ad X 10)), (3, .ref (ad X 5)), (4, .int iv)] [.int (bz (xs (iv + 3).toNatClampNeg)), .int (xs (iv + 2).toNatClampNeg), .int (xs (iv + 1).toNatClampNeg), .ref (ad X 9)] σ by
    refine b_if_eq C 609 dL_law_602 (by decide) (rv := bz (xs (iv + 3).toNatClampNeg)) (a := 0) (b := 1) rfl (fun h => ?_) (fun h => ?_)
    · rw [h] at hJ1
      exact b_iconst C (v := 0) dL_law_609 (by decide) hJ1
    · rw [h] at hJ1
      refine b_iconst C (v := 1) dL_law_605 (by decide) ?_
      exact b_goto C 610 dL_law_606 (by decide) hJ1
  refine b_aload_n C dL_law_610 rfl 3 rfl ?_
  refine b_lcallW (n := 5) C E (fun G => [.ref (G.1 9), .int (xs (iv + 1).toNatClampNeg), .int (xs (iv + 2).toNatClampNeg), .int (bz (xs (iv + 3).toNatClampNeg)), .ref (G.1 5)]) (c_L_reader ((xs (iv + 1).toNatClampNeg)) ((xs (iv + 2).toNatClampNeg)) ((bz (xs (iv + 3).toNatClampNeg)))) hA hoc gT_L_reader rfl (by decide +kernel) rfl (by decide) (by decide) (Nat.le_of_ble_eq_true rfl) hk1 hk2 dL_law_611 ?_
  refine b_istore (lv' := [(5, .int (wcode [1, 2] oc.1)), (0, .ref b), (1, .ref (ad X 9)), (2, .ref (ad X 10)), (3, .ref (ad X 5)), (4, .int iv)]) C dL_law_614 (by decide) rfl ?_
  refine b_aload_n C dL_law_616 rfl 3 rfl ?_
  refine b_aload_n C dL_law_617 rfl 1 rfl ?_
  refine b_iload C dL_law_618 5 rfl ?_
  refine b_iconst C (v := 1) dL_law_620 (by decide) ?_
  refine b_iadd C dL_law_621 ?_
  refine b_sld C E h1 dL_law_622 ?_
  refine b_aload_n C dL_law_623 rfl 1 rfl ?_
  refine b_iload C dL_law_624 5 rfl ?_
  refine b_iconst C (v := 2) dL_law_626 (by decide) ?_
  refine b_iadd C dL_law_627 ?_
  refine b_sld C E h2 dL_law_628 ?_
  refine b_aload_n C dL_law_629 rfl 1 rfl ?_
  refine b_iload C dL_law_630 5 rfl ?_
  refine b_iconst C (v := 3) dL_law_632 (by decide) ?_
  refine b_iadd C dL_law_633 ?_
  refine b_sld C E h3 dL_law_634 ?_
  suffices hJ2 : Bk X 7 (wout false oc o) (kc + 1) (ks + 6) 643 [(5, .int (wcode [1, 2] oc.1)), (0, .ref b), (1, .ref (ad X 9)), (2, .ref (ad X 10)), (3, .ref (ad X 5)), (4, .int iv)] [.int (bz (xs (iv + 3).toNatClampNeg)), .int (xs (iv + 2).toNatClampNeg), .int (xs (iv + 1).toNatClampNeg), .ref (ad X 10)] u by
    refine b_if_eq C 642 dL_law_635 (by decide) (rv := bz (xs (iv + 3).toNatClampNeg)) (a := 0) (b := 1) rfl (fun h => ?_) (fun h => ?_)
    · rw [h] at hJ2
      exact b_iconst C (v := 0) dL_law_642 (by decide) hJ2
    · rw [h] at hJ2
      refine b_iconst C (v := 1) dL_law_638 (by decide) ?_
      exact b_goto C 643 dL_law_639 (by decide) hJ2
  refine b_lcallV (n := 3) C E (10) 10 (isObj_s (by decide) (by decide)) rfl (fun _ => [.int (xs (iv + 1).toNatClampNeg), .int (xs (iv + 2).toNatClampNeg), .int (bz (xs (iv + 3).toNatClampNeg))]) (c_X10_reader ((xs (iv + 1).toNatClampNeg)) ((xs (iv + 2).toNatClampNeg)) ((bz (xs (iv + 3).toNatClampNeg)))) hM gT_X10_reader rfl (by decide +kernel) rfl (by decide) (by decide) (Nat.le_of_ble_eq_true rfl) hk1 hk2 dL_law_643 ?_
  refine b_istore (lv' := [(6, .int r), (5, .int (wcode [1, 2] oc.1)), (0, .ref b), (1, .ref (ad X 9)), (2, .ref (ad X 10)), (3, .ref (ad X 5)), (4, .int iv)]) C dL_law_646 (by decide) rfl ?_
  refine b_aload_n C dL_law_648 rfl 4 rfl ?_
  refine b_lcallV (n := 0) C E (10) 10 (isObj_s (by decide) (by decide)) rfl (fun _ => []) (c_X10_thrown ) (rfl : f_X10_thrown u2 = some (u2 76 22, u2)) gT_X10_thrown rfl (by decide +kernel) rfl (by decide) (by decide) (Nat.le_of_ble_eq_true rfl) hk1 hk2 dL_law_649 ?_
  refine b_iload C dL_law_652 1 rfl ?_
  refine b_icmp_eq C 659 dL_law_654 (by decide) (rv := (0 : Nat)) (a := 0) (b := 1) (if_pos hth).symm (fun _ => ?_) (fun h => absurd h (by decide))
  refine b_iload C dL_law_659 1 rfl ?_
  have hT : Bk X 7 (wout false oc o) (kc + 1) (ks + 6) 676 [(6, .int r), (5, .int (wcode [1, 2] oc.1)), (0, .ref b), (1, .ref (ad X 9)), (2, .ref (ad X 10)), (3, .ref (ad X 5)), (4, .int iv)] [] u2 := by
    refine b_goto C 1897 dL_law_676 (by decide) ?_
    exact b_sub [2, 3, 4, 5, 6] rfl (kk _ _ hI)
  by_cases h0 : oc.1 = 0
  · have hw : wcode [1, 2] oc.1 = 0 := if_pos h0
    refine b_if_ne C 676 dL_law_661 (by decide) (rv := (0 : Nat)) (a := 0) (b := 1) (if_pos hw).symm (fun h => absurd h (by decide)) (fun _ => ?_)
    refine b_aload_n C dL_law_664 rfl 5 rfl ?_
    refine b_iconst C (v := 0) dL_law_665 (by decide) ?_
    refine b_lald C dL_law_666 ?_
    refine b_iload C dL_law_667 0 rfl ?_
    refine b_i2l C dL_law_669 ?_
    have ho : wout false oc o = r.toInt64 := by rw [← hr h0]; exact if_pos h0
    refine b_lcmp C dL_law_670 ?_
    refine b_if_eq C 676 dL_law_671 (by decide) (rv := (0 : Nat)) (a := 0) (b := 1) (if_pos (by rw [ho]; exact lcmp_same _)).symm (fun _ => hT) (fun h => absurd h (by decide))
  · have hw : ¬ wcode [1, 2] oc.1 = 0 := by
      have hoc2 : oc.1 = 1 ∨ oc.1 = 2 := by simpa [h0] using hoc
      rcases hoc2 with e | e <;> (rw [e]; decide)
    exact b_if_ne C 676 dL_law_661 (by decide) (rv := (1 : Nat)) (a := 0) (b := 1) (if_neg hw).symm (fun _ => hT) (fun h => absurd h (by decide))
set_option maxHeartbeats 4000000 in
set_option maxRecDepth 100000 in
theorem lc_7 {X : Ctx} {b L : Nat} {xs : Nat → Int32} {Inv : Mem → Prop} (C : Cx X cL_law RL lw_tbl 7 10 236) (E : Lx X b L xs) (iv : Int32) (h1 : vp_in (iv + 1) L) (h2 : vp_in (iv + 2) L) (o : Int64) (kc ks : Nat) (hk1 : kc + 1 ≤ 601024) (hk2 : ks + 6 ≤ 7293034) (σ : Mem) (hs : StpG Inv (f_X9_seed (xs (iv + 1).toNatClampNeg) (xs (iv + 2).toNatClampNeg)) (f_X10_seed ((xs (iv + 1).toNatClampNeg)) ((xs (iv + 2).toNatClampNeg))) [3, 1, 2] σ) (kk : ∀ (o' : Int64) (u2 : Mem), Inv u2 → Bk X 7 o' (kc + 1) (ks + 6) 1897 [(0, .ref b), (1, .ref (ad X 9)), (2, .ref (ad X 10)), (3, .ref (ad X 5)), (4, .int iv)] [] u2) : Bk X 7 o kc ks 679 [(0, .ref b), (1, .ref (ad X 9)), (2, .ref (ad X 10)), (3, .ref (ad X 5)), (4, .int iv)] [] σ := by
  obtain ⟨oc, u, r, u2, hA, hoc, hM, hth, hr, hI⟩ := hs
  refine b_aload_n C dL_law_679 rfl 1 rfl ?_
  refine b_aload_n C dL_law_680 rfl 0 rfl ?_
  refine b_iload C dL_law_681 4 rfl ?_
  refine b_iconst C (v := 1) dL_law_683 (by decide) ?_
  refine b_iadd C dL_law_684 ?_
  refine b_sld C E h1 dL_law_685 ?_
  refine b_aload_n C dL_law_686 rfl 0 rfl ?_
  refine b_iload C dL_law_687 4 rfl ?_
  refine b_iconst C (v := 2) dL_law_689 (by decide) ?_
  refine b_iadd C dL_law_690 ?_
  refine b_sld C E h2 dL_law_691 ?_
  refine b_aload_n C dL_law_692 rfl 3 rfl ?_
  refine b_lcallW (n := 4) C E (fun G => [.ref (G.1 9), .int (xs (iv + 1).toNatClampNeg), .int (xs (iv + 2).toNatClampNeg), .ref (G.1 5)]) (c_L_seed ((xs (iv + 1).toNatClampNeg)) ((xs (iv + 2).toNatClampNeg))) hA hoc gT_L_seed rfl (by decide +kernel) rfl (by decide) (by decide) (Nat.le_of_ble_eq_true rfl) hk1 hk2 dL_law_693 ?_
  refine b_istore (lv' := [(5, .int (wcode [3, 1, 2] oc.1)), (0, .ref b), (1, .ref (ad X 9)), (2, .ref (ad X 10)), (3, .ref (ad X 5)), (4, .int iv)]) C dL_law_696 (by decide) rfl ?_
  refine b_aload_n C dL_law_698 rfl 3 rfl ?_
  refine b_aload_n C dL_law_699 rfl 1 rfl ?_
  refine b_iload C dL_law_700 5 rfl ?_
  refine b_iconst C (v := 1) dL_law_702 (by decide) ?_
  refine b_iadd C dL_law_703 ?_
  refine b_sld C E h1 dL_law_704 ?_
  refine b_aload_n C dL_law_705 rfl 1 rfl ?_
  refine b_iload C dL_law_706 5 rfl ?_
  refine b_iconst C (v := 2) dL_law_708 (by decide) ?_
  refine b_iadd C dL_law_709 ?_
  refine b_sld C E h2 dL_law_710 ?_
  refine b_lcallV (n := 2) C E (10) 10 (isObj_s (by decide) (by decide)) rfl (fun _ => [.int (xs (iv + 1).toNatClampNeg), .int (xs (iv + 2).toNatClampNeg)]) (c_X10_seed ((xs (iv + 1).toNatClampNeg)) ((xs (iv + 2).toNatClampNeg))) hM gT_X10_seed rfl (by decide +kernel) rfl (by decide) (by decide) (Nat.le_of_ble_eq_true rfl) hk1 hk2 dL_law_711 ?_
  refine b_istore (lv' := [(6, .int r), (5, .int (wcode [3, 1, 2] oc.1)), (0, .ref b), (1, .ref (ad X 9)), (2, .ref (ad X 10)), (3, .ref (ad X 5)), (4, .int iv)]) C dL_law_714 (by decide) rfl ?_
  refine b_aload_n C dL_law_716 rfl 4 rfl ?_
  refine b_lcallV (n := 0) C E (10) 10 (isObj_s (by decide) (by decide)) rfl (fun _ => []) (c_X10_thrown ) (rfl : f_X10_thrown u2 = some (u2 76 22, u2)) gT_X10_thrown rfl (by decide +kernel) rfl (by decide) (by decide) (Nat.le_of_ble_eq_true rfl) hk1 hk2 dL_law_717 ?_
  refine b_iload C dL_law_720 1 rfl ?_
  refine b_icmp_eq C 727 dL_law_722 (by decide) (rv := (0 : Nat)) (a := 0) (b := 1) (if_pos hth).symm (fun _ => ?_) (fun h => absurd h (by decide))
  refine b_iload C dL_law_727 1 rfl ?_
  have hT : Bk X 7 (wout false oc o) (kc + 1) (ks + 6) 744 [(6, .int r), (5, .int (wcode [3, 1, 2] oc.1)), (0, .ref b), (1, .ref (ad X 9)), (2, .ref (ad X 10)), (3, .ref (ad X 5)), (4, .int iv)] [] u2 := by
    refine b_goto C 1897 dL_law_744 (by decide) ?_
    exact b_sub [2, 3, 4, 5, 6] rfl (kk _ _ hI)
  by_cases h0 : oc.1 = 0
  · have hw : wcode [3, 1, 2] oc.1 = 0 := if_pos h0
    refine b_if_ne C 744 dL_law_729 (by decide) (rv := (0 : Nat)) (a := 0) (b := 1) (if_pos hw).symm (fun h => absurd h (by decide)) (fun _ => ?_)
    refine b_aload_n C dL_law_732 rfl 5 rfl ?_
    refine b_iconst C (v := 0) dL_law_733 (by decide) ?_
    refine b_lald C dL_law_734 ?_
    refine b_iload C dL_law_735 0 rfl ?_
    refine b_i2l C dL_law_737 ?_
    have ho : wout false oc o = r.toInt64 := by rw [← hr h0]; exact if_pos h0
    refine b_lcmp C dL_law_738 ?_
    refine b_if_eq C 744 dL_law_739 (by decide) (rv := (0 : Nat)) (a := 0) (b := 1) (if_pos (by rw [ho]; exact lcmp_same _)).symm (fun _ => hT) (fun h => absurd h (by decide))
  · have hw : ¬ wcode [3, 1, 2] oc.1 = 0 := by
      have hoc2 : oc.1 = 3 ∨ oc.1 = 1 ∨ oc.1 = 2 := by simpa [h0] using hoc
      rcases hoc2 with e | e | e <;> (rw [e]; decide)
    exact b_if_ne C 744 dL_law_729 (by decide) (rv := (1 : Nat)) (a := 0) (b := 1) (if_neg hw).symm (fun _ => hT) (fun h => absurd h (by decide))
set_option maxHeartbeats 4000000 in
set_option maxRecDepth 100000 in
theorem lc_8 {X : Ctx} {b L : Nat} {xs : Nat → Int32} {Inv : Mem → Prop} (C : Cx X cL_law RL lw_tbl 7 10 236) (E : Lx X b L xs) (iv : Int32) (h1 : vp_in (iv + 1) L) (o : Int64) (kc ks : Nat) (hk1 : kc + 1 ≤ 601024) (hk2 : ks + 6 ≤ 7293034) (σ : Mem) (hs : StpG Inv (f_X9_next (xs (iv + 1).toNatClampNeg)) (f_X10_next ((xs (iv + 1).toNatClampNeg))) [3, 2] σ) (kk : ∀ (o' : Int64) (u2 : Mem), Inv u2 → Bk X 7 o' (kc + 1) (ks + 6) 1897 [(0, .ref b), (1, .ref (ad X 9)), (2, .ref (ad X 10)), (3, .ref (ad X 5)), (4, .int iv)] [] u2) : Bk X 7 o kc ks 747 [(0, .ref b), (1, .ref (ad X 9)), (2, .ref (ad X 10)), (3, .ref (ad X 5)), (4, .int iv)] [] σ := by
  obtain ⟨oc, u, r, u2, hA, hoc, hM, hth, hr, hI⟩ := hs
  refine b_aload_n C dL_law_747 rfl 1 rfl ?_
  refine b_aload_n C dL_law_748 rfl 0 rfl ?_
  refine b_iload C dL_law_749 4 rfl ?_
  refine b_iconst C (v := 1) dL_law_751 (by decide) ?_
  refine b_iadd C dL_law_752 ?_
  refine b_sld C E h1 dL_law_753 ?_
  refine b_aload_n C dL_law_754 rfl 3 rfl ?_
  refine b_lcallW (n := 3) C E (fun G => [.ref (G.1 9), .int (xs (iv + 1).toNatClampNeg), .ref (G.1 5)]) (c_L_next ((xs (iv + 1).toNatClampNeg))) hA hoc gT_L_next rfl (by decide +kernel) rfl (by decide) (by decide) (Nat.le_of_ble_eq_true rfl) hk1 hk2 dL_law_755 ?_
  refine b_istore (lv' := [(5, .int (wcode [3, 2] oc.1)), (0, .ref b), (1, .ref (ad X 9)), (2, .ref (ad X 10)), (3, .ref (ad X 5)), (4, .int iv)]) C dL_law_758 (by decide) rfl ?_
  refine b_aload_n C dL_law_760 rfl 3 rfl ?_
  refine b_aload_n C dL_law_761 rfl 1 rfl ?_
  refine b_iload C dL_law_762 5 rfl ?_
  refine b_iconst C (v := 1) dL_law_764 (by decide) ?_
  refine b_iadd C dL_law_765 ?_
  refine b_sld C E h1 dL_law_766 ?_
  refine b_lcallV (n := 1) C E (10) 10 (isObj_s (by decide) (by decide)) rfl (fun _ => [.int (xs (iv + 1).toNatClampNeg)]) (c_X10_next ((xs (iv + 1).toNatClampNeg))) hM gT_X10_next rfl (by decide +kernel) rfl (by decide) (by decide) (Nat.le_of_ble_eq_true rfl) hk1 hk2 dL_law_767 ?_
  refine b_istore (lv' := [(6, .int r), (5, .int (wcode [3, 2] oc.1)), (0, .ref b), (1, .ref (ad X 9)), (2, .ref (ad X 10)), (3, .ref (ad X 5)), (4, .int iv)]) C dL_law_770 (by decide) rfl ?_
  refine b_aload_n C dL_law_772 rfl 4 rfl ?_
  refine b_lcallV (n := 0) C E (10) 10 (isObj_s (by decide) (by decide)) rfl (fun _ => []) (c_X10_thrown ) (rfl : f_X10_thrown u2 = some (u2 76 22, u2)) gT_X10_thrown rfl (by decide +kernel) rfl (by decide) (by decide) (Nat.le_of_ble_eq_true rfl) hk1 hk2 dL_law_773 ?_
  refine b_iload C dL_law_776 1 rfl ?_
  refine b_icmp_eq C 783 dL_law_778 (by decide) (rv := (0 : Nat)) (a := 0) (b := 1) (if_pos hth).symm (fun _ => ?_) (fun h => absurd h (by decide))
  refine b_iload C dL_law_783 1 rfl ?_
  have hT : Bk X 7 (wout false oc o) (kc + 1) (ks + 6) 800 [(6, .int r), (5, .int (wcode [3, 2] oc.1)), (0, .ref b), (1, .ref (ad X 9)), (2, .ref (ad X 10)), (3, .ref (ad X 5)), (4, .int iv)] [] u2 := by
    refine b_goto C 1897 dL_law_800 (by decide) ?_
    exact b_sub [2, 3, 4, 5, 6] rfl (kk _ _ hI)
  by_cases h0 : oc.1 = 0
  · have hw : wcode [3, 2] oc.1 = 0 := if_pos h0
    refine b_if_ne C 800 dL_law_785 (by decide) (rv := (0 : Nat)) (a := 0) (b := 1) (if_pos hw).symm (fun h => absurd h (by decide)) (fun _ => ?_)
    refine b_aload_n C dL_law_788 rfl 5 rfl ?_
    refine b_iconst C (v := 0) dL_law_789 (by decide) ?_
    refine b_lald C dL_law_790 ?_
    refine b_iload C dL_law_791 0 rfl ?_
    refine b_i2l C dL_law_793 ?_
    have ho : wout false oc o = r.toInt64 := by rw [← hr h0]; exact if_pos h0
    refine b_lcmp C dL_law_794 ?_
    refine b_if_eq C 800 dL_law_795 (by decide) (rv := (0 : Nat)) (a := 0) (b := 1) (if_pos (by rw [ho]; exact lcmp_same _)).symm (fun _ => hT) (fun h => absurd h (by decide))
  · have hw : ¬ wcode [3, 2] oc.1 = 0 := by
      have hoc2 : oc.1 = 3 ∨ oc.1 = 2 := by simpa [h0] using hoc
      rcases hoc2 with e | e <;> (rw [e]; decide)
    exact b_if_ne C 800 dL_law_785 (by decide) (rv := (1 : Nat)) (a := 0) (b := 1) (if_neg hw).symm (fun _ => hT) (fun h => absurd h (by decide))
set_option maxHeartbeats 4000000 in
set_option maxRecDepth 100000 in
theorem lc_9 {X : Ctx} {b L : Nat} {xs : Nat → Int32} {Inv : Mem → Prop} (C : Cx X cL_law RL lw_tbl 7 10 236) (E : Lx X b L xs) (iv : Int32) (h1 : vp_in (iv + 1) L) (h2 : vp_in (iv + 2) L) (o : Int64) (kc ks : Nat) (hk1 : kc + 1 ≤ 601024) (hk2 : ks + 6 ≤ 7293034) (σ : Mem) (hs : StpG Inv (f_X9_read (xs (iv + 1).toNatClampNeg) (xs (iv + 2).toNatClampNeg)) (f_X10_read ((xs (iv + 1).toNatClampNeg)) ((xs (iv + 2).toNatClampNeg))) [3, 1, 2] σ) (kk : ∀ (o' : Int64) (u2 : Mem), Inv u2 → Bk X 7 o' (kc + 1) (ks + 6) 1897 [(0, .ref b), (1, .ref (ad X 9)), (2, .ref (ad X 10)), (3, .ref (ad X 5)), (4, .int iv)] [] u2) : Bk X 7 o kc ks 803 [(0, .ref b), (1, .ref (ad X 9)), (2, .ref (ad X 10)), (3, .ref (ad X 5)), (4, .int iv)] [] σ := by
  obtain ⟨oc, u, r, u2, hA, hoc, hM, hth, hr, hI⟩ := hs
  refine b_aload_n C dL_law_803 rfl 1 rfl ?_
  refine b_aload_n C dL_law_804 rfl 0 rfl ?_
  refine b_iload C dL_law_805 4 rfl ?_
  refine b_iconst C (v := 1) dL_law_807 (by decide) ?_
  refine b_iadd C dL_law_808 ?_
  refine b_sld C E h1 dL_law_809 ?_
  refine b_aload_n C dL_law_810 rfl 0 rfl ?_
  refine b_iload C dL_law_811 4 rfl ?_
  refine b_iconst C (v := 2) dL_law_813 (by decide) ?_
  refine b_iadd C dL_law_814 ?_
  refine b_sld C E h2 dL_law_815 ?_
  refine b_aload_n C dL_law_816 rfl 3 rfl ?_
  refine b_lcallW (n := 4) C E (fun G => [.ref (G.1 9), .int (xs (iv + 1).toNatClampNeg), .int (xs (iv + 2).toNatClampNeg), .ref (G.1 5)]) (c_L_read ((xs (iv + 1).toNatClampNeg)) ((xs (iv + 2).toNatClampNeg))) hA hoc gT_L_read rfl (by decide +kernel) rfl (by decide) (by decide) (Nat.le_of_ble_eq_true rfl) hk1 hk2 dL_law_817 ?_
  refine b_istore (lv' := [(5, .int (wcode [3, 1, 2] oc.1)), (0, .ref b), (1, .ref (ad X 9)), (2, .ref (ad X 10)), (3, .ref (ad X 5)), (4, .int iv)]) C dL_law_820 (by decide) rfl ?_
  refine b_aload_n C dL_law_822 rfl 3 rfl ?_
  refine b_aload_n C dL_law_823 rfl 1 rfl ?_
  refine b_iload C dL_law_824 5 rfl ?_
  refine b_iconst C (v := 1) dL_law_826 (by decide) ?_
  refine b_iadd C dL_law_827 ?_
  refine b_sld C E h1 dL_law_828 ?_
  refine b_aload_n C dL_law_829 rfl 1 rfl ?_
  refine b_iload C dL_law_830 5 rfl ?_
  refine b_iconst C (v := 2) dL_law_832 (by decide) ?_
  refine b_iadd C dL_law_833 ?_
  refine b_sld C E h2 dL_law_834 ?_
  refine b_lcallV (n := 2) C E (10) 10 (isObj_s (by decide) (by decide)) rfl (fun _ => [.int (xs (iv + 1).toNatClampNeg), .int (xs (iv + 2).toNatClampNeg)]) (c_X10_read ((xs (iv + 1).toNatClampNeg)) ((xs (iv + 2).toNatClampNeg))) hM gT_X10_read rfl (by decide +kernel) rfl (by decide) (by decide) (Nat.le_of_ble_eq_true rfl) hk1 hk2 dL_law_835 ?_
  refine b_istore (lv' := [(6, .int r), (5, .int (wcode [3, 1, 2] oc.1)), (0, .ref b), (1, .ref (ad X 9)), (2, .ref (ad X 10)), (3, .ref (ad X 5)), (4, .int iv)]) C dL_law_838 (by decide) rfl ?_
  refine b_aload_n C dL_law_840 rfl 4 rfl ?_
  refine b_lcallV (n := 0) C E (10) 10 (isObj_s (by decide) (by decide)) rfl (fun _ => []) (c_X10_thrown ) (rfl : f_X10_thrown u2 = some (u2 76 22, u2)) gT_X10_thrown rfl (by decide +kernel) rfl (by decide) (by decide) (Nat.le_of_ble_eq_true rfl) hk1 hk2 dL_law_841 ?_
  refine b_iload C dL_law_844 1 rfl ?_
  refine b_icmp_eq C 851 dL_law_846 (by decide) (rv := (0 : Nat)) (a := 0) (b := 1) (if_pos hth).symm (fun _ => ?_) (fun h => absurd h (by decide))
  refine b_iload C dL_law_851 1 rfl ?_
  have hT : Bk X 7 (wout false oc o) (kc + 1) (ks + 6) 868 [(6, .int r), (5, .int (wcode [3, 1, 2] oc.1)), (0, .ref b), (1, .ref (ad X 9)), (2, .ref (ad X 10)), (3, .ref (ad X 5)), (4, .int iv)] [] u2 := by
    refine b_goto C 1897 dL_law_868 (by decide) ?_
    exact b_sub [2, 3, 4, 5, 6] rfl (kk _ _ hI)
  by_cases h0 : oc.1 = 0
  · have hw : wcode [3, 1, 2] oc.1 = 0 := if_pos h0
    refine b_if_ne C 868 dL_law_853 (by decide) (rv := (0 : Nat)) (a := 0) (b := 1) (if_pos hw).symm (fun h => absurd h (by decide)) (fun _ => ?_)
    refine b_aload_n C dL_law_856 rfl 5 rfl ?_
    refine b_iconst C (v := 0) dL_law_857 (by decide) ?_
    refine b_lald C dL_law_858 ?_
    refine b_iload C dL_law_859 0 rfl ?_
    refine b_i2l C dL_law_861 ?_
    have ho : wout false oc o = r.toInt64 := by rw [← hr h0]; exact if_pos h0
    refine b_lcmp C dL_law_862 ?_
    refine b_if_eq C 868 dL_law_863 (by decide) (rv := (0 : Nat)) (a := 0) (b := 1) (if_pos (by rw [ho]; exact lcmp_same _)).symm (fun _ => hT) (fun h => absurd h (by decide))
  · have hw : ¬ wcode [3, 1, 2] oc.1 = 0 := by
      have hoc2 : oc.1 = 3 ∨ oc.1 = 1 ∨ oc.1 = 2 := by simpa [h0] using hoc
      rcases hoc2 with e | e | e <;> (rw [e]; decide)
    exact b_if_ne C 868 dL_law_853 (by decide) (rv := (1 : Nat)) (a := 0) (b := 1) (if_neg hw).symm (fun _ => hT) (fun h => absurd h (by decide))
set_option maxHeartbeats 4000000 in
set_option maxRecDepth 100000 in
theorem lc_10 {X : Ctx} {b L : Nat} {xs : Nat → Int32} {Inv : Mem → Prop} (C : Cx X cL_law RL lw_tbl 7 10 236) (E : Lx X b L xs) (iv : Int32) (h1 : vp_in (iv + 1) L) (o : Int64) (kc ks : Nat) (hk1 : kc + 1 ≤ 601024) (hk2 : ks + 6 ≤ 7293034) (σ : Mem) (hs : StpG Inv (f_X9_goOn (xs (iv + 1).toNatClampNeg)) (f_X10_goOn ((xs (iv + 1).toNatClampNeg))) [3, 2] σ) (kk : ∀ (o' : Int64) (u2 : Mem), Inv u2 → Bk X 7 o' (kc + 1) (ks + 6) 1897 [(0, .ref b), (1, .ref (ad X 9)), (2, .ref (ad X 10)), (3, .ref (ad X 5)), (4, .int iv)] [] u2) : Bk X 7 o kc ks 871 [(0, .ref b), (1, .ref (ad X 9)), (2, .ref (ad X 10)), (3, .ref (ad X 5)), (4, .int iv)] [] σ := by
  obtain ⟨oc, u, r, u2, hA, hoc, hM, hth, hr, hI⟩ := hs
  refine b_aload_n C dL_law_871 rfl 1 rfl ?_
  refine b_aload_n C dL_law_872 rfl 0 rfl ?_
  refine b_iload C dL_law_873 4 rfl ?_
  refine b_iconst C (v := 1) dL_law_875 (by decide) ?_
  refine b_iadd C dL_law_876 ?_
  refine b_sld C E h1 dL_law_877 ?_
  refine b_aload_n C dL_law_878 rfl 3 rfl ?_
  refine b_lcallW (n := 3) C E (fun G => [.ref (G.1 9), .int (xs (iv + 1).toNatClampNeg), .ref (G.1 5)]) (c_L_goOn ((xs (iv + 1).toNatClampNeg))) hA hoc gT_L_goOn rfl (by decide +kernel) rfl (by decide) (by decide) (Nat.le_of_ble_eq_true rfl) hk1 hk2 dL_law_879 ?_
  refine b_istore (lv' := [(5, .int (wcode [3, 2] oc.1)), (0, .ref b), (1, .ref (ad X 9)), (2, .ref (ad X 10)), (3, .ref (ad X 5)), (4, .int iv)]) C dL_law_882 (by decide) rfl ?_
  refine b_aload_n C dL_law_884 rfl 3 rfl ?_
  refine b_aload_n C dL_law_885 rfl 1 rfl ?_
  refine b_iload C dL_law_886 5 rfl ?_
  refine b_iconst C (v := 1) dL_law_888 (by decide) ?_
  refine b_iadd C dL_law_889 ?_
  refine b_sld C E h1 dL_law_890 ?_
  refine b_lcallV (n := 1) C E (10) 10 (isObj_s (by decide) (by decide)) rfl (fun _ => [.int (xs (iv + 1).toNatClampNeg)]) (c_X10_goOn ((xs (iv + 1).toNatClampNeg))) hM gT_X10_goOn rfl (by decide +kernel) rfl (by decide) (by decide) (Nat.le_of_ble_eq_true rfl) hk1 hk2 dL_law_891 ?_
  refine b_istore (lv' := [(6, .int r), (5, .int (wcode [3, 2] oc.1)), (0, .ref b), (1, .ref (ad X 9)), (2, .ref (ad X 10)), (3, .ref (ad X 5)), (4, .int iv)]) C dL_law_894 (by decide) rfl ?_
  refine b_aload_n C dL_law_896 rfl 4 rfl ?_
  refine b_lcallV (n := 0) C E (10) 10 (isObj_s (by decide) (by decide)) rfl (fun _ => []) (c_X10_thrown ) (rfl : f_X10_thrown u2 = some (u2 76 22, u2)) gT_X10_thrown rfl (by decide +kernel) rfl (by decide) (by decide) (Nat.le_of_ble_eq_true rfl) hk1 hk2 dL_law_897 ?_
  refine b_iload C dL_law_900 1 rfl ?_
  refine b_icmp_eq C 907 dL_law_902 (by decide) (rv := (0 : Nat)) (a := 0) (b := 1) (if_pos hth).symm (fun _ => ?_) (fun h => absurd h (by decide))
  refine b_iload C dL_law_907 1 rfl ?_
  have hT : Bk X 7 (wout false oc o) (kc + 1) (ks + 6) 924 [(6, .int r), (5, .int (wcode [3, 2] oc.1)), (0, .ref b), (1, .ref (ad X 9)), (2, .ref (ad X 10)), (3, .ref (ad X 5)), (4, .int iv)] [] u2 := by
    refine b_goto C 1897 dL_law_924 (by decide) ?_
    exact b_sub [2, 3, 4, 5, 6] rfl (kk _ _ hI)
  by_cases h0 : oc.1 = 0
  · have hw : wcode [3, 2] oc.1 = 0 := if_pos h0
    refine b_if_ne C 924 dL_law_909 (by decide) (rv := (0 : Nat)) (a := 0) (b := 1) (if_pos hw).symm (fun h => absurd h (by decide)) (fun _ => ?_)
    refine b_aload_n C dL_law_912 rfl 5 rfl ?_
    refine b_iconst C (v := 0) dL_law_913 (by decide) ?_
    refine b_lald C dL_law_914 ?_
    refine b_iload C dL_law_915 0 rfl ?_
    refine b_i2l C dL_law_917 ?_
    have ho : wout false oc o = r.toInt64 := by rw [← hr h0]; exact if_pos h0
    refine b_lcmp C dL_law_918 ?_
    refine b_if_eq C 924 dL_law_919 (by decide) (rv := (0 : Nat)) (a := 0) (b := 1) (if_pos (by rw [ho]; exact lcmp_same _)).symm (fun _ => hT) (fun h => absurd h (by decide))
  · have hw : ¬ wcode [3, 2] oc.1 = 0 := by
      have hoc2 : oc.1 = 3 ∨ oc.1 = 2 := by simpa [h0] using hoc
      rcases hoc2 with e | e <;> (rw [e]; decide)
    exact b_if_ne C 924 dL_law_909 (by decide) (rv := (1 : Nat)) (a := 0) (b := 1) (if_neg hw).symm (fun _ => hT) (fun h => absurd h (by decide))
set_option maxHeartbeats 4000000 in
set_option maxRecDepth 100000 in
theorem lc_11 {X : Ctx} {b L : Nat} {xs : Nat → Int32} {Inv : Mem → Prop} (C : Cx X cL_law RL lw_tbl 7 10 236) (E : Lx X b L xs) (iv : Int32) (h1 : vp_in (iv + 1) L) (h2 : vp_in (iv + 2) L) (h3 : vp_in (iv + 3) L) (o : Int64) (kc ks : Nat) (hk1 : kc + 1 ≤ 601024) (hk2 : ks + 6 ≤ 7293034) (σ : Mem) (hs : StpG Inv (f_X9_lines (xs (iv + 1).toNatClampNeg) (xs (iv + 2).toNatClampNeg) (xs (iv + 3).toNatClampNeg)) (f_X10_lines ((xs (iv + 1).toNatClampNeg)) ((xs (iv + 2).toNatClampNeg)) ((xs (iv + 3).toNatClampNeg))) [1, 2] σ) (kk : ∀ (o' : Int64) (u2 : Mem), Inv u2 → Bk X 7 o' (kc + 1) (ks + 6) 1897 [(0, .ref b), (1, .ref (ad X 9)), (2, .ref (ad X 10)), (3, .ref (ad X 5)), (4, .int iv)] [] u2) : Bk X 7 o kc ks 927 [(0, .ref b), (1, .ref (ad X 9)), (2, .ref (ad X 10)), (3, .ref (ad X 5)), (4, .int iv)] [] σ := by
  obtain ⟨oc, u, r, u2, hA, hoc, hM, hth, hr, hI⟩ := hs
  refine b_aload_n C dL_law_927 rfl 1 rfl ?_
  refine b_aload_n C dL_law_928 rfl 0 rfl ?_
  refine b_iload C dL_law_929 4 rfl ?_
  refine b_iconst C (v := 1) dL_law_931 (by decide) ?_
  refine b_iadd C dL_law_932 ?_
  refine b_sld C E h1 dL_law_933 ?_
  refine b_aload_n C dL_law_934 rfl 0 rfl ?_
  refine b_iload C dL_law_935 4 rfl ?_
  refine b_iconst C (v := 2) dL_law_937 (by decide) ?_
  refine b_iadd C dL_law_938 ?_
  refine b_sld C E h2 dL_law_939 ?_
  refine b_aload_n C dL_law_940 rfl 0 rfl ?_
  refine b_iload C dL_law_941 4 rfl ?_
  refine b_iconst C (v := 3) dL_law_943 (by decide) ?_
  refine b_iadd C dL_law_944 ?_
  refine b_sld C E h3 dL_law_945 ?_
  refine b_aload_n C dL_law_946 rfl 3 rfl ?_
  refine b_lcallW (n := 5) C E (fun G => [.ref (G.1 9), .int (xs (iv + 1).toNatClampNeg), .int (xs (iv + 2).toNatClampNeg), .int (xs (iv + 3).toNatClampNeg), .ref (G.1 5)]) (c_L_lines ((xs (iv + 1).toNatClampNeg)) ((xs (iv + 2).toNatClampNeg)) ((xs (iv + 3).toNatClampNeg))) hA hoc gT_L_lines rfl (by decide +kernel) rfl (by decide) (by decide) (Nat.le_of_ble_eq_true rfl) hk1 hk2 dL_law_947 ?_
  refine b_istore (lv' := [(5, .int (wcode [1, 2] oc.1)), (0, .ref b), (1, .ref (ad X 9)), (2, .ref (ad X 10)), (3, .ref (ad X 5)), (4, .int iv)]) C dL_law_950 (by decide) rfl ?_
  refine b_aload_n C dL_law_952 rfl 3 rfl ?_
  refine b_aload_n C dL_law_953 rfl 1 rfl ?_
  refine b_iload C dL_law_954 5 rfl ?_
  refine b_iconst C (v := 1) dL_law_956 (by decide) ?_
  refine b_iadd C dL_law_957 ?_
  refine b_sld C E h1 dL_law_958 ?_
  refine b_aload_n C dL_law_959 rfl 1 rfl ?_
  refine b_iload C dL_law_960 5 rfl ?_
  refine b_iconst C (v := 2) dL_law_962 (by decide) ?_
  refine b_iadd C dL_law_963 ?_
  refine b_sld C E h2 dL_law_964 ?_
  refine b_aload_n C dL_law_965 rfl 1 rfl ?_
  refine b_iload C dL_law_966 5 rfl ?_
  refine b_iconst C (v := 3) dL_law_968 (by decide) ?_
  refine b_iadd C dL_law_969 ?_
  refine b_sld C E h3 dL_law_970 ?_
  refine b_lcallV (n := 3) C E (10) 10 (isObj_s (by decide) (by decide)) rfl (fun _ => [.int (xs (iv + 1).toNatClampNeg), .int (xs (iv + 2).toNatClampNeg), .int (xs (iv + 3).toNatClampNeg)]) (c_X10_lines ((xs (iv + 1).toNatClampNeg)) ((xs (iv + 2).toNatClampNeg)) ((xs (iv + 3).toNatClampNeg))) hM gT_X10_lines rfl (by decide +kernel) rfl (by decide) (by decide) (Nat.le_of_ble_eq_true rfl) hk1 hk2 dL_law_971 ?_
  refine b_istore (lv' := [(6, .int r), (5, .int (wcode [1, 2] oc.1)), (0, .ref b), (1, .ref (ad X 9)), (2, .ref (ad X 10)), (3, .ref (ad X 5)), (4, .int iv)]) C dL_law_974 (by decide) rfl ?_
  refine b_aload_n C dL_law_976 rfl 4 rfl ?_
  refine b_lcallV (n := 0) C E (10) 10 (isObj_s (by decide) (by decide)) rfl (fun _ => []) (c_X10_thrown ) (rfl : f_X10_thrown u2 = some (u2 76 22, u2)) gT_X10_thrown rfl (by decide +kernel) rfl (by decide) (by decide) (Nat.le_of_ble_eq_true rfl) hk1 hk2 dL_law_977 ?_
  refine b_iload C dL_law_980 1 rfl ?_
  refine b_icmp_eq C 987 dL_law_982 (by decide) (rv := (0 : Nat)) (a := 0) (b := 1) (if_pos hth).symm (fun _ => ?_) (fun h => absurd h (by decide))
  refine b_iload C dL_law_987 1 rfl ?_
  have hT : Bk X 7 (wout false oc o) (kc + 1) (ks + 6) 1004 [(6, .int r), (5, .int (wcode [1, 2] oc.1)), (0, .ref b), (1, .ref (ad X 9)), (2, .ref (ad X 10)), (3, .ref (ad X 5)), (4, .int iv)] [] u2 := by
    refine b_goto C 1897 dL_law_1004 (by decide) ?_
    exact b_sub [2, 3, 4, 5, 6] rfl (kk _ _ hI)
  by_cases h0 : oc.1 = 0
  · have hw : wcode [1, 2] oc.1 = 0 := if_pos h0
    refine b_if_ne C 1004 dL_law_989 (by decide) (rv := (0 : Nat)) (a := 0) (b := 1) (if_pos hw).symm (fun h => absurd h (by decide)) (fun _ => ?_)
    refine b_aload_n C dL_law_992 rfl 5 rfl ?_
    refine b_iconst C (v := 0) dL_law_993 (by decide) ?_
    refine b_lald C dL_law_994 ?_
    refine b_iload C dL_law_995 0 rfl ?_
    refine b_i2l C dL_law_997 ?_
    have ho : wout false oc o = r.toInt64 := by rw [← hr h0]; exact if_pos h0
    refine b_lcmp C dL_law_998 ?_
    refine b_if_eq C 1004 dL_law_999 (by decide) (rv := (0 : Nat)) (a := 0) (b := 1) (if_pos (by rw [ho]; exact lcmp_same _)).symm (fun _ => hT) (fun h => absurd h (by decide))
  · have hw : ¬ wcode [1, 2] oc.1 = 0 := by
      have hoc2 : oc.1 = 1 ∨ oc.1 = 2 := by simpa [h0] using hoc
      rcases hoc2 with e | e <;> (rw [e]; decide)
    exact b_if_ne C 1004 dL_law_989 (by decide) (rv := (1 : Nat)) (a := 0) (b := 1) (if_neg hw).symm (fun _ => hT) (fun h => absurd h (by decide))
set_option maxHeartbeats 4000000 in
set_option maxRecDepth 100000 in
theorem lc_12 {X : Ctx} {b L : Nat} {xs : Nat → Int32} {Inv : Mem → Prop} (C : Cx X cL_law RL lw_tbl 7 10 236) (E : Lx X b L xs) (iv : Int32) (o : Int64) (kc ks : Nat) (hk1 : kc + 1 ≤ 601024) (hk2 : ks + 6 ≤ 7293034) (σ : Mem) (hs : StpG Inv (f_X9_release ) (f_X10_release ) [2] σ) (kk : ∀ (o' : Int64) (u2 : Mem), Inv u2 → Bk X 7 o' (kc + 1) (ks + 6) 1897 [(0, .ref b), (1, .ref (ad X 9)), (2, .ref (ad X 10)), (3, .ref (ad X 5)), (4, .int iv)] [] u2) : Bk X 7 o kc ks 1007 [(0, .ref b), (1, .ref (ad X 9)), (2, .ref (ad X 10)), (3, .ref (ad X 5)), (4, .int iv)] [] σ := by
  obtain ⟨oc, u, r, u2, hA, hoc, hM, hth, hr, hI⟩ := hs
  refine b_aload_n C dL_law_1007 rfl 1 rfl ?_
  refine b_aload_n C dL_law_1008 rfl 3 rfl ?_
  refine b_lcallW (n := 2) C E (fun G => [.ref (G.1 9), .ref (G.1 5)]) (c_L_release ) hA hoc gT_L_release rfl (by decide +kernel) rfl (by decide) (by decide) (Nat.le_of_ble_eq_true rfl) hk1 hk2 dL_law_1009 ?_
  refine b_istore (lv' := [(5, .int (wcode [2] oc.1)), (0, .ref b), (1, .ref (ad X 9)), (2, .ref (ad X 10)), (3, .ref (ad X 5)), (4, .int iv)]) C dL_law_1012 (by decide) rfl ?_
  refine b_aload_n C dL_law_1014 rfl 3 rfl ?_
  refine b_lcallV (n := 0) C E (10) 10 (isObj_s (by decide) (by decide)) rfl (fun _ => []) (c_X10_release ) hM gT_X10_release rfl (by decide +kernel) rfl (by decide) (by decide) (Nat.le_of_ble_eq_true rfl) hk1 hk2 dL_law_1015 ?_
  refine b_istore (lv' := [(6, .int r), (5, .int (wcode [2] oc.1)), (0, .ref b), (1, .ref (ad X 9)), (2, .ref (ad X 10)), (3, .ref (ad X 5)), (4, .int iv)]) C dL_law_1018 (by decide) rfl ?_
  refine b_aload_n C dL_law_1020 rfl 4 rfl ?_
  refine b_lcallV (n := 0) C E (10) 10 (isObj_s (by decide) (by decide)) rfl (fun _ => []) (c_X10_thrown ) (rfl : f_X10_thrown u2 = some (u2 76 22, u2)) gT_X10_thrown rfl (by decide +kernel) rfl (by decide) (by decide) (Nat.le_of_ble_eq_true rfl) hk1 hk2 dL_law_1021 ?_
  refine b_iload C dL_law_1024 1 rfl ?_
  refine b_icmp_eq C 1031 dL_law_1026 (by decide) (rv := (0 : Nat)) (a := 0) (b := 1) (if_pos hth).symm (fun _ => ?_) (fun h => absurd h (by decide))
  refine b_iload C dL_law_1031 1 rfl ?_
  have hT : Bk X 7 (wout false oc o) (kc + 1) (ks + 6) 1048 [(6, .int r), (5, .int (wcode [2] oc.1)), (0, .ref b), (1, .ref (ad X 9)), (2, .ref (ad X 10)), (3, .ref (ad X 5)), (4, .int iv)] [] u2 := by
    refine b_goto C 1897 dL_law_1048 (by decide) ?_
    exact b_sub [2, 3, 4, 5, 6] rfl (kk _ _ hI)
  by_cases h0 : oc.1 = 0
  · have hw : wcode [2] oc.1 = 0 := if_pos h0
    refine b_if_ne C 1048 dL_law_1033 (by decide) (rv := (0 : Nat)) (a := 0) (b := 1) (if_pos hw).symm (fun h => absurd h (by decide)) (fun _ => ?_)
    refine b_aload_n C dL_law_1036 rfl 5 rfl ?_
    refine b_iconst C (v := 0) dL_law_1037 (by decide) ?_
    refine b_lald C dL_law_1038 ?_
    refine b_iload C dL_law_1039 0 rfl ?_
    refine b_i2l C dL_law_1041 ?_
    have ho : wout false oc o = r.toInt64 := by rw [← hr h0]; exact if_pos h0
    refine b_lcmp C dL_law_1042 ?_
    refine b_if_eq C 1048 dL_law_1043 (by decide) (rv := (0 : Nat)) (a := 0) (b := 1) (if_pos (by rw [ho]; exact lcmp_same _)).symm (fun _ => hT) (fun h => absurd h (by decide))
  · have hw : ¬ wcode [2] oc.1 = 0 := by
      have hoc2 : oc.1 = 2 := by simpa [h0] using hoc
      rw [hoc2]; decide
    exact b_if_ne C 1048 dL_law_1033 (by decide) (rv := (1 : Nat)) (a := 0) (b := 1) (if_neg hw).symm (fun _ => hT) (fun h => absurd h (by decide))
set_option maxHeartbeats 4000000 in
set_option maxRecDepth 100000 in
theorem lc_13 {X : Ctx} {b L : Nat} {xs : Nat → Int32} {Inv : Mem → Prop} (C : Cx X cL_law RL lw_tbl 7 10 236) (E : Lx X b L xs) (iv : Int32) (h1 : vp_in (iv + 1) L) (h2 : vp_in (iv + 2) L) (o : Int64) (kc ks : Nat) (hk1 : kc + 1 ≤ 601024) (hk2 : ks + 6 ≤ 7293034) (σ : Mem) (hs : StpG Inv (f_X9_appeal (xs (iv + 1).toNatClampNeg) (xs (iv + 2).toNatClampNeg)) (f_X10_appeal ((xs (iv + 1).toNatClampNeg)) ((xs (iv + 2).toNatClampNeg))) [3, 2] σ) (kk : ∀ (o' : Int64) (u2 : Mem), Inv u2 → Bk X 7 o' (kc + 1) (ks + 6) 1897 [(0, .ref b), (1, .ref (ad X 9)), (2, .ref (ad X 10)), (3, .ref (ad X 5)), (4, .int iv)] [] u2) : Bk X 7 o kc ks 1051 [(0, .ref b), (1, .ref (ad X 9)), (2, .ref (ad X 10)), (3, .ref (ad X 5)), (4, .int iv)] [] σ := by
  obtain ⟨oc, u, r, u2, hA, hoc, hM, hth, hr, hI⟩ := hs
  refine b_aload_n C dL_law_1051 rfl 1 rfl ?_
  refine b_aload_n C dL_law_1052 rfl 0 rfl ?_
  refine b_iload C dL_law_1053 4 rfl ?_
  refine b_iconst C (v := 1) dL_law_1055 (by decide) ?_
  refine b_iadd C dL_law_1056 ?_
  refine b_sld C E h1 dL_law_1057 ?_
  refine b_aload_n C dL_law_1058 rfl 0 rfl ?_
  refine b_iload C dL_law_1059 4 rfl ?_
  refine b_iconst C (v := 2) dL_law_1061 (by decide) ?_
  refine b_iadd C dL_law_1062 ?_
  refine b_sld C E h2 dL_law_1063 ?_
  refine b_aload_n C dL_law_1064 rfl 3 rfl ?_
  refine b_lcallW (n := 4) C E (fun G => [.ref (G.1 9), .int (xs (iv + 1).toNatClampNeg), .int (xs (iv + 2).toNatClampNeg), .ref (G.1 5)]) (c_L_appeal ((xs (iv + 1).toNatClampNeg)) ((xs (iv + 2).toNatClampNeg))) hA hoc gT_L_appeal rfl (by decide +kernel) rfl (by decide) (by decide) (Nat.le_of_ble_eq_true rfl) hk1 hk2 dL_law_1065 ?_
  refine b_istore (lv' := [(5, .int (wcode [3, 2] oc.1)), (0, .ref b), (1, .ref (ad X 9)), (2, .ref (ad X 10)), (3, .ref (ad X 5)), (4, .int iv)]) C dL_law_1068 (by decide) rfl ?_
  refine b_aload_n C dL_law_1070 rfl 3 rfl ?_
  refine b_aload_n C dL_law_1071 rfl 1 rfl ?_
  refine b_iload C dL_law_1072 5 rfl ?_
  refine b_iconst C (v := 1) dL_law_1074 (by decide) ?_
  refine b_iadd C dL_law_1075 ?_
  refine b_sld C E h1 dL_law_1076 ?_
  refine b_aload_n C dL_law_1077 rfl 1 rfl ?_
  refine b_iload C dL_law_1078 5 rfl ?_
  refine b_iconst C (v := 2) dL_law_1080 (by decide) ?_
  refine b_iadd C dL_law_1081 ?_
  refine b_sld C E h2 dL_law_1082 ?_
  refine b_lcallV (n := 2) C E (10) 10 (isObj_s (by decide) (by decide)) rfl (fun _ => [.int (xs (iv + 1).toNatClampNeg), .int (xs (iv + 2).toNatClampNeg)]) (c_X10_appeal ((xs (iv + 1).toNatClampNeg)) ((xs (iv + 2).toNatClampNeg))) hM gT_X10_appeal rfl (by decide +kernel) rfl (by decide) (by decide) (Nat.le_of_ble_eq_true rfl) hk1 hk2 dL_law_1083 ?_
  refine b_istore (lv' := [(6, .int r), (5, .int (wcode [3, 2] oc.1)), (0, .ref b), (1, .ref (ad X 9)), (2, .ref (ad X 10)), (3, .ref (ad X 5)), (4, .int iv)]) C dL_law_1086 (by decide) rfl ?_
  refine b_aload_n C dL_law_1088 rfl 4 rfl ?_
  refine b_lcallV (n := 0) C E (10) 10 (isObj_s (by decide) (by decide)) rfl (fun _ => []) (c_X10_thrown ) (rfl : f_X10_thrown u2 = some (u2 76 22, u2)) gT_X10_thrown rfl (by decide +kernel) rfl (by decide) (by decide) (Nat.le_of_ble_eq_true rfl) hk1 hk2 dL_law_1089 ?_
  refine b_iload C dL_law_1092 1 rfl ?_
  refine b_icmp_eq C 1099 dL_law_1094 (by decide) (rv := (0 : Nat)) (a := 0) (b := 1) (if_pos hth).symm (fun _ => ?_) (fun h => absurd h (by decide))
  refine b_iload C dL_law_1099 1 rfl ?_
  have hT : Bk X 7 (wout false oc o) (kc + 1) (ks + 6) 1116 [(6, .int r), (5, .int (wcode [3, 2] oc.1)), (0, .ref b), (1, .ref (ad X 9)), (2, .ref (ad X 10)), (3, .ref (ad X 5)), (4, .int iv)] [] u2 := by
    refine b_goto C 1897 dL_law_1116 (by decide) ?_
    exact b_sub [2, 3, 4, 5, 6] rfl (kk _ _ hI)
  by_cases h0 : oc.1 = 0
  · have hw : wcode [3, 2] oc.1 = 0 := if_pos h0
    refine b_if_ne C 1116 dL_law_1101 (by decide) (rv := (0 : Nat)) (a := 0) (b := 1) (if_pos hw).symm (fun h => absurd h (by decide)) (fun _ => ?_)
    refine b_aload_n C dL_law_1104 rfl 5 rfl ?_
    refine b_iconst C (v := 0) dL_law_1105 (by decide) ?_
    refine b_lald C dL_law_1106 ?_
    refine b_iload C dL_law_1107 0 rfl ?_
    refine b_i2l C dL_law_1109 ?_
    have ho : wout false oc o = r.toInt64 := by rw [← hr h0]; exact if_pos h0
    refine b_lcmp C dL_law_1110 ?_
    refine b_if_eq C 1116 dL_law_1111 (by decide) (rv := (0 : Nat)) (a := 0) (b := 1) (if_pos (by rw [ho]; exact lcmp_same _)).symm (fun _ => hT) (fun h => absurd h (by decide))
  · have hw : ¬ wcode [3, 2] oc.1 = 0 := by
      have hoc2 : oc.1 = 3 ∨ oc.1 = 2 := by simpa [h0] using hoc
      rcases hoc2 with e | e <;> (rw [e]; decide)
    exact b_if_ne C 1116 dL_law_1101 (by decide) (rv := (1 : Nat)) (a := 0) (b := 1) (if_neg hw).symm (fun _ => hT) (fun h => absurd h (by decide))
set_option maxHeartbeats 4000000 in
set_option maxRecDepth 100000 in
theorem lc_14 {X : Ctx} {b L : Nat} {xs : Nat → Int32} {Inv : Mem → Prop} (C : Cx X cL_law RL lw_tbl 7 10 236) (E : Lx X b L xs) (iv : Int32) (h1 : vp_in (iv + 1) L) (o : Int64) (kc ks : Nat) (hk1 : kc + 1 ≤ 601024) (hk2 : ks + 6 ≤ 7293034) (σ : Mem) (hs : StpG Inv (f_X9_versions (xs (iv + 1).toNatClampNeg)) (f_X10_versions ((xs (iv + 1).toNatClampNeg))) [3] σ) (kk : ∀ (o' : Int64) (u2 : Mem), Inv u2 → Bk X 7 o' (kc + 1) (ks + 6) 1897 [(0, .ref b), (1, .ref (ad X 9)), (2, .ref (ad X 10)), (3, .ref (ad X 5)), (4, .int iv)] [] u2) : Bk X 7 o kc ks 1119 [(0, .ref b), (1, .ref (ad X 9)), (2, .ref (ad X 10)), (3, .ref (ad X 5)), (4, .int iv)] [] σ := by
  obtain ⟨oc, u, r, u2, hA, hoc, hM, hth, hr, hI⟩ := hs
  refine b_aload_n C dL_law_1119 rfl 1 rfl ?_
  refine b_aload_n C dL_law_1120 rfl 0 rfl ?_
  refine b_iload C dL_law_1121 4 rfl ?_
  refine b_iconst C (v := 1) dL_law_1123 (by decide) ?_
  refine b_iadd C dL_law_1124 ?_
  refine b_sld C E h1 dL_law_1125 ?_
  refine b_aload_n C dL_law_1126 rfl 3 rfl ?_
  refine b_lcallW (n := 3) C E (fun G => [.ref (G.1 9), .int (xs (iv + 1).toNatClampNeg), .ref (G.1 5)]) (c_L_versions ((xs (iv + 1).toNatClampNeg))) hA hoc gT_L_versions rfl (by decide +kernel) rfl (by decide) (by decide) (Nat.le_of_ble_eq_true rfl) hk1 hk2 dL_law_1127 ?_
  refine b_istore (lv' := [(5, .int (wcode [3] oc.1)), (0, .ref b), (1, .ref (ad X 9)), (2, .ref (ad X 10)), (3, .ref (ad X 5)), (4, .int iv)]) C dL_law_1130 (by decide) rfl ?_
  refine b_aload_n C dL_law_1132 rfl 3 rfl ?_
  refine b_aload_n C dL_law_1133 rfl 1 rfl ?_
  refine b_iload C dL_law_1134 5 rfl ?_
  refine b_iconst C (v := 1) dL_law_1136 (by decide) ?_
  refine b_iadd C dL_law_1137 ?_
  refine b_sld C E h1 dL_law_1138 ?_
  refine b_lcallV (n := 1) C E (10) 10 (isObj_s (by decide) (by decide)) rfl (fun _ => [.int (xs (iv + 1).toNatClampNeg)]) (c_X10_versions ((xs (iv + 1).toNatClampNeg))) hM gT_X10_versions rfl (by decide +kernel) rfl (by decide) (by decide) (Nat.le_of_ble_eq_true rfl) hk1 hk2 dL_law_1139 ?_
  refine b_istore (lv' := [(6, .int r), (5, .int (wcode [3] oc.1)), (0, .ref b), (1, .ref (ad X 9)), (2, .ref (ad X 10)), (3, .ref (ad X 5)), (4, .int iv)]) C dL_law_1142 (by decide) rfl ?_
  refine b_aload_n C dL_law_1144 rfl 4 rfl ?_
  refine b_lcallV (n := 0) C E (10) 10 (isObj_s (by decide) (by decide)) rfl (fun _ => []) (c_X10_thrown ) (rfl : f_X10_thrown u2 = some (u2 76 22, u2)) gT_X10_thrown rfl (by decide +kernel) rfl (by decide) (by decide) (Nat.le_of_ble_eq_true rfl) hk1 hk2 dL_law_1145 ?_
  refine b_iload C dL_law_1148 1 rfl ?_
  refine b_icmp_eq C 1155 dL_law_1150 (by decide) (rv := (0 : Nat)) (a := 0) (b := 1) (if_pos hth).symm (fun _ => ?_) (fun h => absurd h (by decide))
  refine b_iload C dL_law_1155 1 rfl ?_
  have hT : Bk X 7 (wout false oc o) (kc + 1) (ks + 6) 1172 [(6, .int r), (5, .int (wcode [3] oc.1)), (0, .ref b), (1, .ref (ad X 9)), (2, .ref (ad X 10)), (3, .ref (ad X 5)), (4, .int iv)] [] u2 := by
    refine b_goto C 1897 dL_law_1172 (by decide) ?_
    exact b_sub [2, 3, 4, 5, 6] rfl (kk _ _ hI)
  by_cases h0 : oc.1 = 0
  · have hw : wcode [3] oc.1 = 0 := if_pos h0
    refine b_if_ne C 1172 dL_law_1157 (by decide) (rv := (0 : Nat)) (a := 0) (b := 1) (if_pos hw).symm (fun h => absurd h (by decide)) (fun _ => ?_)
    refine b_aload_n C dL_law_1160 rfl 5 rfl ?_
    refine b_iconst C (v := 0) dL_law_1161 (by decide) ?_
    refine b_lald C dL_law_1162 ?_
    refine b_iload C dL_law_1163 0 rfl ?_
    refine b_i2l C dL_law_1165 ?_
    have ho : wout false oc o = r.toInt64 := by rw [← hr h0]; exact if_pos h0
    refine b_lcmp C dL_law_1166 ?_
    refine b_if_eq C 1172 dL_law_1167 (by decide) (rv := (0 : Nat)) (a := 0) (b := 1) (if_pos (by rw [ho]; exact lcmp_same _)).symm (fun _ => hT) (fun h => absurd h (by decide))
  · have hw : ¬ wcode [3] oc.1 = 0 := by
      have hoc2 : oc.1 = 3 := by simpa [h0] using hoc
      rw [hoc2]; decide
    exact b_if_ne C 1172 dL_law_1157 (by decide) (rv := (1 : Nat)) (a := 0) (b := 1) (if_neg hw).symm (fun _ => hT) (fun h => absurd h (by decide))
set_option maxHeartbeats 4000000 in
set_option maxRecDepth 100000 in
theorem lc_15 {X : Ctx} {b L : Nat} {xs : Nat → Int32} {Inv : Mem → Prop} (C : Cx X cL_law RL lw_tbl 7 10 236) (E : Lx X b L xs) (iv : Int32) (h1 : vp_in (iv + 1) L) (h2 : vp_in (iv + 2) L) (h3 : vp_in (iv + 3) L) (o : Int64) (kc ks : Nat) (hk1 : kc + 1 ≤ 601024) (hk2 : ks + 6 ≤ 7293034) (σ : Mem) (hs : StpG Inv (f_X9_markOf (xs (iv + 1).toNatClampNeg) (xs (iv + 2).toNatClampNeg) (xs (iv + 3).toNatClampNeg)) (f_X10_markOf ((xs (iv + 1).toNatClampNeg)) ((xs (iv + 2).toNatClampNeg)) ((xs (iv + 3).toNatClampNeg))) [3, 1] σ) (kk : ∀ (o' : Int64) (u2 : Mem), Inv u2 → Bk X 7 o' (kc + 1) (ks + 6) 1897 [(0, .ref b), (1, .ref (ad X 9)), (2, .ref (ad X 10)), (3, .ref (ad X 5)), (4, .int iv)] [] u2) : Bk X 7 o kc ks 1175 [(0, .ref b), (1, .ref (ad X 9)), (2, .ref (ad X 10)), (3, .ref (ad X 5)), (4, .int iv)] [] σ := by
  obtain ⟨oc, u, r, u2, hA, hoc, hM, hth, hr, hI⟩ := hs
  refine b_aload_n C dL_law_1175 rfl 1 rfl ?_
  refine b_aload_n C dL_law_1176 rfl 0 rfl ?_
  refine b_iload C dL_law_1177 4 rfl ?_
  refine b_iconst C (v := 1) dL_law_1179 (by decide) ?_
  refine b_iadd C dL_law_1180 ?_
  refine b_sld C E h1 dL_law_1181 ?_
  refine b_aload_n C dL_law_1182 rfl 0 rfl ?_
  refine b_iload C dL_law_1183 4 rfl ?_
  refine b_iconst C (v := 2) dL_law_1185 (by decide) ?_
  refine b_iadd C dL_law_1186 ?_
  refine b_sld C E h2 dL_law_1187 ?_
  refine b_aload_n C dL_law_1188 rfl 0 rfl ?_
  refine b_iload C dL_law_1189 4 rfl ?_
  refine b_iconst C (v := 3) dL_law_1191 (by decide) ?_
  refine b_iadd C dL_law_1192 ?_
  refine b_sld C E h3 dL_law_1193 ?_
  refine b_aload_n C dL_law_1194 rfl 3 rfl ?_
  refine b_lcallW (n := 5) C E (fun G => [.ref (G.1 9), .int (xs (iv + 1).toNatClampNeg), .int (xs (iv + 2).toNatClampNeg), .int (xs (iv + 3).toNatClampNeg), .ref (G.1 5)]) (c_L_markOf ((xs (iv + 1).toNatClampNeg)) ((xs (iv + 2).toNatClampNeg)) ((xs (iv + 3).toNatClampNeg))) hA hoc gT_L_markOf rfl (by decide +kernel) rfl (by decide) (by decide) (Nat.le_of_ble_eq_true rfl) hk1 hk2 dL_law_1195 ?_
  refine b_istore (lv' := [(5, .int (wcode [3, 1] oc.1)), (0, .ref b), (1, .ref (ad X 9)), (2, .ref (ad X 10)), (3, .ref (ad X 5)), (4, .int iv)]) C dL_law_1198 (by decide) rfl ?_
  refine b_aload_n C dL_law_1200 rfl 3 rfl ?_
  refine b_aload_n C dL_law_1201 rfl 1 rfl ?_
  refine b_iload C dL_law_1202 5 rfl ?_
  refine b_iconst C (v := 1) dL_law_1204 (by decide) ?_
  refine b_iadd C dL_law_1205 ?_
  refine b_sld C E h1 dL_law_1206 ?_
  refine b_aload_n C dL_law_1207 rfl 1 rfl ?_
  refine b_iload C dL_law_1208 5 rfl ?_
  refine b_iconst C (v := 2) dL_law_1210 (by decide) ?_
  refine b_iadd C dL_law_1211 ?_
  refine b_sld C E h2 dL_law_1212 ?_
  refine b_aload_n C dL_law_1213 rfl 1 rfl ?_
  refine b_iload C dL_law_1214 5 rfl ?_
  refine b_iconst C (v := 3) dL_law_1216 (by decide) ?_
  refine b_iadd C dL_law_1217 ?_
  refine b_sld C E h3 dL_law_1218 ?_
  refine b_lcallV (n := 3) C E (10) 10 (isObj_s (by decide) (by decide)) rfl (fun _ => [.int (xs (iv + 1).toNatClampNeg), .int (xs (iv + 2).toNatClampNeg), .int (xs (iv + 3).toNatClampNeg)]) (c_X10_markOf ((xs (iv + 1).toNatClampNeg)) ((xs (iv + 2).toNatClampNeg)) ((xs (iv + 3).toNatClampNeg))) hM gT_X10_markOf rfl (by decide +kernel) rfl (by decide) (by decide) (Nat.le_of_ble_eq_true rfl) hk1 hk2 dL_law_1219 ?_
  refine b_istore (lv' := [(6, .int r), (5, .int (wcode [3, 1] oc.1)), (0, .ref b), (1, .ref (ad X 9)), (2, .ref (ad X 10)), (3, .ref (ad X 5)), (4, .int iv)]) C dL_law_1222 (by decide) rfl ?_
  refine b_aload_n C dL_law_1224 rfl 4 rfl ?_
  refine b_lcallV (n := 0) C E (10) 10 (isObj_s (by decide) (by decide)) rfl (fun _ => []) (c_X10_thrown ) (rfl : f_X10_thrown u2 = some (u2 76 22, u2)) gT_X10_thrown rfl (by decide +kernel) rfl (by decide) (by decide) (Nat.le_of_ble_eq_true rfl) hk1 hk2 dL_law_1225 ?_
  refine b_iload C dL_law_1228 1 rfl ?_
  refine b_icmp_eq C 1235 dL_law_1230 (by decide) (rv := (0 : Nat)) (a := 0) (b := 1) (if_pos hth).symm (fun _ => ?_) (fun h => absurd h (by decide))
  refine b_iload C dL_law_1235 1 rfl ?_
  have hT : Bk X 7 (wout false oc o) (kc + 1) (ks + 6) 1252 [(6, .int r), (5, .int (wcode [3, 1] oc.1)), (0, .ref b), (1, .ref (ad X 9)), (2, .ref (ad X 10)), (3, .ref (ad X 5)), (4, .int iv)] [] u2 := by
    refine b_goto C 1897 dL_law_1252 (by decide) ?_
    exact b_sub [2, 3, 4, 5, 6] rfl (kk _ _ hI)
  by_cases h0 : oc.1 = 0
  · have hw : wcode [3, 1] oc.1 = 0 := if_pos h0
    refine b_if_ne C 1252 dL_law_1237 (by decide) (rv := (0 : Nat)) (a := 0) (b := 1) (if_pos hw).symm (fun h => absurd h (by decide)) (fun _ => ?_)
    refine b_aload_n C dL_law_1240 rfl 5 rfl ?_
    refine b_iconst C (v := 0) dL_law_1241 (by decide) ?_
    refine b_lald C dL_law_1242 ?_
    refine b_iload C dL_law_1243 0 rfl ?_
    refine b_i2l C dL_law_1245 ?_
    have ho : wout false oc o = r.toInt64 := by rw [← hr h0]; exact if_pos h0
    refine b_lcmp C dL_law_1246 ?_
    refine b_if_eq C 1252 dL_law_1247 (by decide) (rv := (0 : Nat)) (a := 0) (b := 1) (if_pos (by rw [ho]; exact lcmp_same _)).symm (fun _ => hT) (fun h => absurd h (by decide))
  · have hw : ¬ wcode [3, 1] oc.1 = 0 := by
      have hoc2 : oc.1 = 3 ∨ oc.1 = 1 := by simpa [h0] using hoc
      rcases hoc2 with e | e <;> (rw [e]; decide)
    exact b_if_ne C 1252 dL_law_1237 (by decide) (rv := (1 : Nat)) (a := 0) (b := 1) (if_neg hw).symm (fun _ => hT) (fun h => absurd h (by decide))
set_option maxHeartbeats 4000000 in
set_option maxRecDepth 100000 in
theorem lc_16 {X : Ctx} {b L : Nat} {xs : Nat → Int32} {Inv : Mem → Prop} (C : Cx X cL_law RL lw_tbl 7 10 236) (E : Lx X b L xs) (iv : Int32) (h1 : vp_in (iv + 1) L) (h2 : vp_in (iv + 2) L) (h3 : vp_in (iv + 3) L) (o : Int64) (kc ks : Nat) (hk1 : kc + 1 ≤ 601024) (hk2 : ks + 6 ≤ 7293034) (σ : Mem) (hs : StpG Inv (f_X9_written (xs (iv + 1).toNatClampNeg) (xs (iv + 2).toNatClampNeg) (xs (iv + 3).toNatClampNeg)) (f_X10_written ((xs (iv + 1).toNatClampNeg)) ((xs (iv + 2).toNatClampNeg)) ((xs (iv + 3).toNatClampNeg))) [3] σ) (kk : ∀ (o' : Int64) (u2 : Mem), Inv u2 → Bk X 7 o' (kc + 1) (ks + 6) 1897 [(0, .ref b), (1, .ref (ad X 9)), (2, .ref (ad X 10)), (3, .ref (ad X 5)), (4, .int iv)] [] u2) : Bk X 7 o kc ks 1255 [(0, .ref b), (1, .ref (ad X 9)), (2, .ref (ad X 10)), (3, .ref (ad X 5)), (4, .int iv)] [] σ := by
  obtain ⟨oc, u, r, u2, hA, hoc, hM, hth, hr, hI⟩ := hs
  refine b_aload_n C dL_law_1255 rfl 1 rfl ?_
  refine b_aload_n C dL_law_1256 rfl 0 rfl ?_
  refine b_iload C dL_law_1257 4 rfl ?_
  refine b_iconst C (v := 1) dL_law_1259 (by decide) ?_
  refine b_iadd C dL_law_1260 ?_
  refine b_sld C E h1 dL_law_1261 ?_
  refine b_aload_n C dL_law_1262 rfl 0 rfl ?_
  refine b_iload C dL_law_1263 4 rfl ?_
  refine b_iconst C (v := 2) dL_law_1265 (by decide) ?_
  refine b_iadd C dL_law_1266 ?_
  refine b_sld C E h2 dL_law_1267 ?_
  refine b_aload_n C dL_law_1268 rfl 0 rfl ?_
  refine b_iload C dL_law_1269 4 rfl ?_
  refine b_iconst C (v := 3) dL_law_1271 (by decide) ?_
  refine b_iadd C dL_law_1272 ?_
  refine b_sld C E h3 dL_law_1273 ?_
  refine b_aload_n C dL_law_1274 rfl 3 rfl ?_
  refine b_lcallW (n := 5) C E (fun G => [.ref (G.1 9), .int (xs (iv + 1).toNatClampNeg), .int (xs (iv + 2).toNatClampNeg), .int (xs (iv + 3).toNatClampNeg), .ref (G.1 5)]) (c_L_written ((xs (iv + 1).toNatClampNeg)) ((xs (iv + 2).toNatClampNeg)) ((xs (iv + 3).toNatClampNeg))) hA hoc gT_L_written rfl (by decide +kernel) rfl (by decide) (by decide) (Nat.le_of_ble_eq_true rfl) hk1 hk2 dL_law_1275 ?_
  refine b_istore (lv' := [(5, .int (wcode [3] oc.1)), (0, .ref b), (1, .ref (ad X 9)), (2, .ref (ad X 10)), (3, .ref (ad X 5)), (4, .int iv)]) C dL_law_1278 (by decide) rfl ?_
  refine b_aload_n C dL_law_1280 rfl 3 rfl ?_
  refine b_aload_n C dL_law_1281 rfl 1 rfl ?_
  refine b_iload C dL_law_1282 5 rfl ?_
  refine b_iconst C (v := 1) dL_law_1284 (by decide) ?_
  refine b_iadd C dL_law_1285 ?_
  refine b_sld C E h1 dL_law_1286 ?_
  refine b_aload_n C dL_law_1287 rfl 1 rfl ?_
  refine b_iload C dL_law_1288 5 rfl ?_
  refine b_iconst C (v := 2) dL_law_1290 (by decide) ?_
  refine b_iadd C dL_law_1291 ?_
  refine b_sld C E h2 dL_law_1292 ?_
  refine b_aload_n C dL_law_1293 rfl 1 rfl ?_
  refine b_iload C dL_law_1294 5 rfl ?_
  refine b_iconst C (v := 3) dL_law_1296 (by decide) ?_
  refine b_iadd C dL_law_1297 ?_
  refine b_sld C E h3 dL_law_1298 ?_
  refine b_lcallV (n := 3) C E (10) 10 (isObj_s (by decide) (by decide)) rfl (fun _ => [.int (xs (iv + 1).toNatClampNeg), .int (xs (iv + 2).toNatClampNeg), .int (xs (iv + 3).toNatClampNeg)]) (c_X10_written ((xs (iv + 1).toNatClampNeg)) ((xs (iv + 2).toNatClampNeg)) ((xs (iv + 3).toNatClampNeg))) hM gT_X10_written rfl (by decide +kernel) rfl (by decide) (by decide) (Nat.le_of_ble_eq_true rfl) hk1 hk2 dL_law_1299 ?_
  refine b_istore (lv' := [(6, .int r), (5, .int (wcode [3] oc.1)), (0, .ref b), (1, .ref (ad X 9)), (2, .ref (ad X 10)), (3, .ref (ad X 5)), (4, .int iv)]) C dL_law_1302 (by decide) rfl ?_
  refine b_aload_n C dL_law_1304 rfl 4 rfl ?_
  refine b_lcallV (n := 0) C E (10) 10 (isObj_s (by decide) (by decide)) rfl (fun _ => []) (c_X10_thrown ) (rfl : f_X10_thrown u2 = some (u2 76 22, u2)) gT_X10_thrown rfl (by decide +kernel) rfl (by decide) (by decide) (Nat.le_of_ble_eq_true rfl) hk1 hk2 dL_law_1305 ?_
  refine b_iload C dL_law_1308 1 rfl ?_
  refine b_icmp_eq C 1315 dL_law_1310 (by decide) (rv := (0 : Nat)) (a := 0) (b := 1) (if_pos hth).symm (fun _ => ?_) (fun h => absurd h (by decide))
  refine b_iload C dL_law_1315 1 rfl ?_
  have hT : Bk X 7 (wout false oc o) (kc + 1) (ks + 6) 1332 [(6, .int r), (5, .int (wcode [3] oc.1)), (0, .ref b), (1, .ref (ad X 9)), (2, .ref (ad X 10)), (3, .ref (ad X 5)), (4, .int iv)] [] u2 := by
    refine b_goto C 1897 dL_law_1332 (by decide) ?_
    exact b_sub [2, 3, 4, 5, 6] rfl (kk _ _ hI)
  by_cases h0 : oc.1 = 0
  · have hw : wcode [3] oc.1 = 0 := if_pos h0
    refine b_if_ne C 1332 dL_law_1317 (by decide) (rv := (0 : Nat)) (a := 0) (b := 1) (if_pos hw).symm (fun h => absurd h (by decide)) (fun _ => ?_)
    refine b_aload_n C dL_law_1320 rfl 5 rfl ?_
    refine b_iconst C (v := 0) dL_law_1321 (by decide) ?_
    refine b_lald C dL_law_1322 ?_
    refine b_iload C dL_law_1323 0 rfl ?_
    refine b_i2l C dL_law_1325 ?_
    have ho : wout false oc o = r.toInt64 := by rw [← hr h0]; exact if_pos h0
    refine b_lcmp C dL_law_1326 ?_
    refine b_if_eq C 1332 dL_law_1327 (by decide) (rv := (0 : Nat)) (a := 0) (b := 1) (if_pos (by rw [ho]; exact lcmp_same _)).symm (fun _ => hT) (fun h => absurd h (by decide))
  · have hw : ¬ wcode [3] oc.1 = 0 := by
      have hoc2 : oc.1 = 3 := by simpa [h0] using hoc
      rw [hoc2]; decide
    exact b_if_ne C 1332 dL_law_1317 (by decide) (rv := (1 : Nat)) (a := 0) (b := 1) (if_neg hw).symm (fun _ => hT) (fun h => absurd h (by decide))
set_option maxHeartbeats 4000000 in
set_option maxRecDepth 100000 in
theorem lc_17 {X : Ctx} {b L : Nat} {xs : Nat → Int32} {Inv : Mem → Prop} (C : Cx X cL_law RL lw_tbl 7 10 236) (E : Lx X b L xs) (iv : Int32) (h1 : vp_in (iv + 1) L) (h2 : vp_in (iv + 2) L) (o : Int64) (kc ks : Nat) (hk1 : kc + 1 ≤ 601024) (hk2 : ks + 6 ≤ 7293034) (σ : Mem) (hs : StpG Inv (f_X9_mark (xs (iv + 1).toNatClampNeg) (xs (iv + 2).toNatClampNeg)) (f_X10_mark ((xs (iv + 1).toNatClampNeg)) ((xs (iv + 2).toNatClampNeg))) [3] σ) (kk : ∀ (o' : Int64) (u2 : Mem), Inv u2 → Bk X 7 o' (kc + 1) (ks + 6) 1897 [(0, .ref b), (1, .ref (ad X 9)), (2, .ref (ad X 10)), (3, .ref (ad X 5)), (4, .int iv)] [] u2) : Bk X 7 o kc ks 1335 [(0, .ref b), (1, .ref (ad X 9)), (2, .ref (ad X 10)), (3, .ref (ad X 5)), (4, .int iv)] [] σ := by
  obtain ⟨oc, u, r, u2, hA, hoc, hM, hth, hr, hI⟩ := hs
  refine b_aload_n C dL_law_1335 rfl 1 rfl ?_
  refine b_aload_n C dL_law_1336 rfl 0 rfl ?_
  refine b_iload C dL_law_1337 4 rfl ?_
  refine b_iconst C (v := 1) dL_law_1339 (by decide) ?_
  refine b_iadd C dL_law_1340 ?_
  refine b_sld C E h1 dL_law_1341 ?_
  refine b_aload_n C dL_law_1342 rfl 0 rfl ?_
  refine b_iload C dL_law_1343 4 rfl ?_
  refine b_iconst C (v := 2) dL_law_1345 (by decide) ?_
  refine b_iadd C dL_law_1346 ?_
  refine b_sld C E h2 dL_law_1347 ?_
  refine b_aload_n C dL_law_1348 rfl 3 rfl ?_
  refine b_lcallW (n := 4) C E (fun G => [.ref (G.1 9), .int (xs (iv + 1).toNatClampNeg), .int (xs (iv + 2).toNatClampNeg), .ref (G.1 5)]) (c_L_mark ((xs (iv + 1).toNatClampNeg)) ((xs (iv + 2).toNatClampNeg))) hA hoc gT_L_mark rfl (by decide +kernel) rfl (by decide) (by decide) (Nat.le_of_ble_eq_true rfl) hk1 hk2 dL_law_1349 ?_
  refine b_istore (lv' := [(5, .int (wcode [3] oc.1)), (0, .ref b), (1, .ref (ad X 9)), (2, .ref (ad X 10)), (3, .ref (ad X 5)), (4, .int iv)]) C dL_law_1352 (by decide) rfl ?_
  refine b_aload_n C dL_law_1354 rfl 3 rfl ?_
  refine b_aload_n C dL_law_1355 rfl 1 rfl ?_
  refine b_iload C dL_law_1356 5 rfl ?_
  refine b_iconst C (v := 1) dL_law_1358 (by decide) ?_
  refine b_iadd C dL_law_1359 ?_
  refine b_sld C E h1 dL_law_1360 ?_
  refine b_aload_n C dL_law_1361 rfl 1 rfl ?_
  refine b_iload C dL_law_1362 5 rfl ?_
  refine b_iconst C (v := 2) dL_law_1364 (by decide) ?_
  refine b_iadd C dL_law_1365 ?_
  refine b_sld C E h2 dL_law_1366 ?_
  refine b_lcallV (n := 2) C E (10) 10 (isObj_s (by decide) (by decide)) rfl (fun _ => [.int (xs (iv + 1).toNatClampNeg), .int (xs (iv + 2).toNatClampNeg)]) (c_X10_mark ((xs (iv + 1).toNatClampNeg)) ((xs (iv + 2).toNatClampNeg))) hM gT_X10_mark rfl (by decide +kernel) rfl (by decide) (by decide) (Nat.le_of_ble_eq_true rfl) hk1 hk2 dL_law_1367 ?_
  refine b_istore (lv' := [(6, .int r), (5, .int (wcode [3] oc.1)), (0, .ref b), (1, .ref (ad X 9)), (2, .ref (ad X 10)), (3, .ref (ad X 5)), (4, .int iv)]) C dL_law_1370 (by decide) rfl ?_
  refine b_aload_n C dL_law_1372 rfl 4 rfl ?_
  refine b_lcallV (n := 0) C E (10) 10 (isObj_s (by decide) (by decide)) rfl (fun _ => []) (c_X10_thrown ) (rfl : f_X10_thrown u2 = some (u2 76 22, u2)) gT_X10_thrown rfl (by decide +kernel) rfl (by decide) (by decide) (Nat.le_of_ble_eq_true rfl) hk1 hk2 dL_law_1373 ?_
  refine b_iload C dL_law_1376 1 rfl ?_
  refine b_icmp_eq C 1383 dL_law_1378 (by decide) (rv := (0 : Nat)) (a := 0) (b := 1) (if_pos hth).symm (fun _ => ?_) (fun h => absurd h (by decide))
  refine b_iload C dL_law_1383 1 rfl ?_
  have hT : Bk X 7 (wout false oc o) (kc + 1) (ks + 6) 1400 [(6, .int r), (5, .int (wcode [3] oc.1)), (0, .ref b), (1, .ref (ad X 9)), (2, .ref (ad X 10)), (3, .ref (ad X 5)), (4, .int iv)] [] u2 := by
    refine b_goto C 1897 dL_law_1400 (by decide) ?_
    exact b_sub [2, 3, 4, 5, 6] rfl (kk _ _ hI)
  by_cases h0 : oc.1 = 0
  · have hw : wcode [3] oc.1 = 0 := if_pos h0
    refine b_if_ne C 1400 dL_law_1385 (by decide) (rv := (0 : Nat)) (a := 0) (b := 1) (if_pos hw).symm (fun h => absurd h (by decide)) (fun _ => ?_)
    refine b_aload_n C dL_law_1388 rfl 5 rfl ?_
    refine b_iconst C (v := 0) dL_law_1389 (by decide) ?_
    refine b_lald C dL_law_1390 ?_
    refine b_iload C dL_law_1391 0 rfl ?_
    refine b_i2l C dL_law_1393 ?_
    have ho : wout false oc o = r.toInt64 := by rw [← hr h0]; exact if_pos h0
    refine b_lcmp C dL_law_1394 ?_
    refine b_if_eq C 1400 dL_law_1395 (by decide) (rv := (0 : Nat)) (a := 0) (b := 1) (if_pos (by rw [ho]; exact lcmp_same _)).symm (fun _ => hT) (fun h => absurd h (by decide))
  · have hw : ¬ wcode [3] oc.1 = 0 := by
      have hoc2 : oc.1 = 3 := by simpa [h0] using hoc
      rw [hoc2]; decide
    exact b_if_ne C 1400 dL_law_1385 (by decide) (rv := (1 : Nat)) (a := 0) (b := 1) (if_neg hw).symm (fun _ => hT) (fun h => absurd h (by decide))
set_option maxHeartbeats 4000000 in
set_option maxRecDepth 100000 in
theorem lc_18 {X : Ctx} {b L : Nat} {xs : Nat → Int32} {Inv : Mem → Prop} (C : Cx X cL_law RL lw_tbl 7 10 236) (E : Lx X b L xs) (iv : Int32) (h1 : vp_in (iv + 1) L) (h2 : vp_in (iv + 2) L) (o : Int64) (kc ks : Nat) (hk1 : kc + 1 ≤ 601024) (hk2 : ks + 6 ≤ 7293034) (σ : Mem) (hs : StpG Inv (f_X9_markAnew (xs (iv + 1).toNatClampNeg) (xs (iv + 2).toNatClampNeg)) (f_X10_markAnew ((xs (iv + 1).toNatClampNeg)) ((xs (iv + 2).toNatClampNeg))) [3] σ) (kk : ∀ (o' : Int64) (u2 : Mem), Inv u2 → Bk X 7 o' (kc + 1) (ks + 6) 1897 [(0, .ref b), (1, .ref (ad X 9)), (2, .ref (ad X 10)), (3, .ref (ad X 5)), (4, .int iv)] [] u2) : Bk X 7 o kc ks 1403 [(0, .ref b), (1, .ref (ad X 9)), (2, .ref (ad X 10)), (3, .ref (ad X 5)), (4, .int iv)] [] σ := by
  obtain ⟨oc, u, r, u2, hA, hoc, hM, hth, hr, hI⟩ := hs
  refine b_aload_n C dL_law_1403 rfl 1 rfl ?_
  refine b_aload_n C dL_law_1404 rfl 0 rfl ?_
  refine b_iload C dL_law_1405 4 rfl ?_
  refine b_iconst C (v := 1) dL_law_1407 (by decide) ?_
  refine b_iadd C dL_law_1408 ?_
  refine b_sld C E h1 dL_law_1409 ?_
  refine b_aload_n C dL_law_1410 rfl 0 rfl ?_
  refine b_iload C dL_law_1411 4 rfl ?_
  refine b_iconst C (v := 2) dL_law_1413 (by decide) ?_
  refine b_iadd C dL_law_1414 ?_
  refine b_sld C E h2 dL_law_1415 ?_
  refine b_aload_n C dL_law_1416 rfl 3 rfl ?_
  refine b_lcallW (n := 4) C E (fun G => [.ref (G.1 9), .int (xs (iv + 1).toNatClampNeg), .int (xs (iv + 2).toNatClampNeg), .ref (G.1 5)]) (c_L_markAnew ((xs (iv + 1).toNatClampNeg)) ((xs (iv + 2).toNatClampNeg))) hA hoc gT_L_markAnew rfl (by decide +kernel) rfl (by decide) (by decide) (Nat.le_of_ble_eq_true rfl) hk1 hk2 dL_law_1417 ?_
  refine b_istore (lv' := [(5, .int (wcode [3] oc.1)), (0, .ref b), (1, .ref (ad X 9)), (2, .ref (ad X 10)), (3, .ref (ad X 5)), (4, .int iv)]) C dL_law_1420 (by decide) rfl ?_
  refine b_aload_n C dL_law_1422 rfl 3 rfl ?_
  refine b_aload_n C dL_law_1423 rfl 1 rfl ?_
  refine b_iload C dL_law_1424 5 rfl ?_
  refine b_iconst C (v := 1) dL_law_1426 (by decide) ?_
  refine b_iadd C dL_law_1427 ?_
  refine b_sld C E h1 dL_law_1428 ?_
  refine b_aload_n C dL_law_1429 rfl 1 rfl ?_
  refine b_iload C dL_law_1430 5 rfl ?_
  refine b_iconst C (v := 2) dL_law_1432 (by decide) ?_
  refine b_iadd C dL_law_1433 ?_
  refine b_sld C E h2 dL_law_1434 ?_
  refine b_lcallV (n := 2) C E (10) 10 (isObj_s (by decide) (by decide)) rfl (fun _ => [.int (xs (iv + 1).toNatClampNeg), .int (xs (iv + 2).toNatClampNeg)]) (c_X10_markAnew ((xs (iv + 1).toNatClampNeg)) ((xs (iv + 2).toNatClampNeg))) hM gT_X10_markAnew rfl (by decide +kernel) rfl (by decide) (by decide) (Nat.le_of_ble_eq_true rfl) hk1 hk2 dL_law_1435 ?_
  refine b_istore (lv' := [(6, .int r), (5, .int (wcode [3] oc.1)), (0, .ref b), (1, .ref (ad X 9)), (2, .ref (ad X 10)), (3, .ref (ad X 5)), (4, .int iv)]) C dL_law_1438 (by decide) rfl ?_
  refine b_aload_n C dL_law_1440 rfl 4 rfl ?_
  refine b_lcallV (n := 0) C E (10) 10 (isObj_s (by decide) (by decide)) rfl (fun _ => []) (c_X10_thrown ) (rfl : f_X10_thrown u2 = some (u2 76 22, u2)) gT_X10_thrown rfl (by decide +kernel) rfl (by decide) (by decide) (Nat.le_of_ble_eq_true rfl) hk1 hk2 dL_law_1441 ?_
  refine b_iload C dL_law_1444 1 rfl ?_
  refine b_icmp_eq C 1451 dL_law_1446 (by decide) (rv := (0 : Nat)) (a := 0) (b := 1) (if_pos hth).symm (fun _ => ?_) (fun h => absurd h (by decide))
  refine b_iload C dL_law_1451 1 rfl ?_
  have hT : Bk X 7 (wout false oc o) (kc + 1) (ks + 6) 1468 [(6, .int r), (5, .int (wcode [3] oc.1)), (0, .ref b), (1, .ref (ad X 9)), (2, .ref (ad X 10)), (3, .ref (ad X 5)), (4, .int iv)] [] u2 := by
    refine b_goto C 1897 dL_law_1468 (by decide) ?_
    exact b_sub [2, 3, 4, 5, 6] rfl (kk _ _ hI)
  by_cases h0 : oc.1 = 0
  · have hw : wcode [3] oc.1 = 0 := if_pos h0
    refine b_if_ne C 1468 dL_law_1453 (by decide) (rv := (0 : Nat)) (a := 0) (b := 1) (if_pos hw).symm (fun h => absurd h (by decide)) (fun _ => ?_)
    refine b_aload_n C dL_law_1456 rfl 5 rfl ?_
    refine b_iconst C (v := 0) dL_law_1457 (by decide) ?_
    refine b_lald C dL_law_1458 ?_
    refine b_iload C dL_law_1459 0 rfl ?_
    refine b_i2l C dL_law_1461 ?_
    have ho : wout false oc o = r.toInt64 := by rw [← hr h0]; exact if_pos h0
    refine b_lcmp C dL_law_1462 ?_
    refine b_if_eq C 1468 dL_law_1463 (by decide) (rv := (0 : Nat)) (a := 0) (b := 1) (if_pos (by rw [ho]; exact lcmp_same _)).symm (fun _ => hT) (fun h => absurd h (by decide))
  · have hw : ¬ wcode [3] oc.1 = 0 := by
      have hoc2 : oc.1 = 3 := by simpa [h0] using hoc
      rw [hoc2]; decide
    exact b_if_ne C 1468 dL_law_1453 (by decide) (rv := (1 : Nat)) (a := 0) (b := 1) (if_neg hw).symm (fun _ => hT) (fun h => absurd h (by decide))
set_option maxHeartbeats 4000000 in
set_option maxRecDepth 100000 in
theorem lc_19 {X : Ctx} {b L : Nat} {xs : Nat → Int32} {Inv : Mem → Prop} (C : Cx X cL_law RL lw_tbl 7 10 236) (E : Lx X b L xs) (iv : Int32) (h1 : vp_in (iv + 1) L) (h2 : vp_in (iv + 2) L) (h3 : vp_in (iv + 3) L) (o : Int64) (kc ks : Nat) (hk1 : kc + 1 ≤ 601024) (hk2 : ks + 6 ≤ 7293034) (σ : Mem) (hs : StpG Inv (f_X9_answer (xs (iv + 1).toNatClampNeg) (xs (iv + 2).toNatClampNeg) (xs (iv + 3).toNatClampNeg)) (f_X10_answer ((xs (iv + 1).toNatClampNeg)) ((xs (iv + 2).toNatClampNeg)) ((xs (iv + 3).toNatClampNeg))) [3, 1] σ) (kk : ∀ (o' : Int64) (u2 : Mem), Inv u2 → Bk X 7 o' (kc + 1) (ks + 6) 1897 [(0, .ref b), (1, .ref (ad X 9)), (2, .ref (ad X 10)), (3, .ref (ad X 5)), (4, .int iv)] [] u2) : Bk X 7 o kc ks 1471 [(0, .ref b), (1, .ref (ad X 9)), (2, .ref (ad X 10)), (3, .ref (ad X 5)), (4, .int iv)] [] σ := by
  obtain ⟨oc, u, r, u2, hA, hoc, hM, hth, hr, hI⟩ := hs
  refine b_aload_n C dL_law_1471 rfl 1 rfl ?_
  refine b_aload_n C dL_law_1472 rfl 0 rfl ?_
  refine b_iload C dL_law_1473 4 rfl ?_
  refine b_iconst C (v := 1) dL_law_1475 (by decide) ?_
  refine b_iadd C dL_law_1476 ?_
  refine b_sld C E h1 dL_law_1477 ?_
  refine b_aload_n C dL_law_1478 rfl 0 rfl ?_
  refine b_iload C dL_law_1479 4 rfl ?_
  refine b_iconst C (v := 2) dL_law_1481 (by decide) ?_
  refine b_iadd C dL_law_1482 ?_
  refine b_sld C E h2 dL_law_1483 ?_
  refine b_aload_n C dL_law_1484 rfl 0 rfl ?_
  refine b_iload C dL_law_1485 4 rfl ?_
  refine b_iconst C (v := 3) dL_law_1487 (by decide) ?_
  refine b_iadd C dL_law_1488 ?_
  refine b_sld C E h3 dL_law_1489 ?_
  refine b_aload_n C dL_law_1490 rfl 3 rfl ?_
  refine b_lcallW (n := 5) C E (fun G => [.ref (G.1 9), .int (xs (iv + 1).toNatClampNeg), .int (xs (iv + 2).toNatClampNeg), .int (xs (iv + 3).toNatClampNeg), .ref (G.1 5)]) (c_L_answer ((xs (iv + 1).toNatClampNeg)) ((xs (iv + 2).toNatClampNeg)) ((xs (iv + 3).toNatClampNeg))) hA hoc gT_L_answer rfl (by decide +kernel) rfl (by decide) (by decide) (Nat.le_of_ble_eq_true rfl) hk1 hk2 dL_law_1491 ?_
  refine b_istore (lv' := [(5, .int (wcode [3, 1] oc.1)), (0, .ref b), (1, .ref (ad X 9)), (2, .ref (ad X 10)), (3, .ref (ad X 5)), (4, .int iv)]) C dL_law_1494 (by decide) rfl ?_
  refine b_aload_n C dL_law_1496 rfl 3 rfl ?_
  refine b_aload_n C dL_law_1497 rfl 1 rfl ?_
  refine b_iload C dL_law_1498 5 rfl ?_
  refine b_iconst C (v := 1) dL_law_1500 (by decide) ?_
  refine b_iadd C dL_law_1501 ?_
  refine b_sld C E h1 dL_law_1502 ?_
  refine b_aload_n C dL_law_1503 rfl 1 rfl ?_
  refine b_iload C dL_law_1504 5 rfl ?_
  refine b_iconst C (v := 2) dL_law_1506 (by decide) ?_
  refine b_iadd C dL_law_1507 ?_
  refine b_sld C E h2 dL_law_1508 ?_
  refine b_aload_n C dL_law_1509 rfl 1 rfl ?_
  refine b_iload C dL_law_1510 5 rfl ?_
  refine b_iconst C (v := 3) dL_law_1512 (by decide) ?_
  refine b_iadd C dL_law_1513 ?_
  refine b_sld C E h3 dL_law_1514 ?_
  refine b_lcallV (n := 3) C E (10) 10 (isObj_s (by decide) (by decide)) rfl (fun _ => [.int (xs (iv + 1).toNatClampNeg), .int (xs (iv + 2).toNatClampNeg), .int (xs (iv + 3).toNatClampNeg)]) (c_X10_answer ((xs (iv + 1).toNatClampNeg)) ((xs (iv + 2).toNatClampNeg)) ((xs (iv + 3).toNatClampNeg))) hM gT_X10_answer rfl (by decide +kernel) rfl (by decide) (by decide) (Nat.le_of_ble_eq_true rfl) hk1 hk2 dL_law_1515 ?_
  refine b_istore (lv' := [(6, .int r), (5, .int (wcode [3, 1] oc.1)), (0, .ref b), (1, .ref (ad X 9)), (2, .ref (ad X 10)), (3, .ref (ad X 5)), (4, .int iv)]) C dL_law_1518 (by decide) rfl ?_
  refine b_aload_n C dL_law_1520 rfl 4 rfl ?_
  refine b_lcallV (n := 0) C E (10) 10 (isObj_s (by decide) (by decide)) rfl (fun _ => []) (c_X10_thrown ) (rfl : f_X10_thrown u2 = some (u2 76 22, u2)) gT_X10_thrown rfl (by decide +kernel) rfl (by decide) (by decide) (Nat.le_of_ble_eq_true rfl) hk1 hk2 dL_law_1521 ?_
  refine b_iload C dL_law_1524 1 rfl ?_
  refine b_icmp_eq C 1531 dL_law_1526 (by decide) (rv := (0 : Nat)) (a := 0) (b := 1) (if_pos hth).symm (fun _ => ?_) (fun h => absurd h (by decide))
  refine b_iload C dL_law_1531 1 rfl ?_
  have hT : Bk X 7 (wout false oc o) (kc + 1) (ks + 6) 1548 [(6, .int r), (5, .int (wcode [3, 1] oc.1)), (0, .ref b), (1, .ref (ad X 9)), (2, .ref (ad X 10)), (3, .ref (ad X 5)), (4, .int iv)] [] u2 := by
    refine b_goto C 1897 dL_law_1548 (by decide) ?_
    exact b_sub [2, 3, 4, 5, 6] rfl (kk _ _ hI)
  by_cases h0 : oc.1 = 0
  · have hw : wcode [3, 1] oc.1 = 0 := if_pos h0
    refine b_if_ne C 1548 dL_law_1533 (by decide) (rv := (0 : Nat)) (a := 0) (b := 1) (if_pos hw).symm (fun h => absurd h (by decide)) (fun _ => ?_)
    refine b_aload_n C dL_law_1536 rfl 5 rfl ?_
    refine b_iconst C (v := 0) dL_law_1537 (by decide) ?_
    refine b_lald C dL_law_1538 ?_
    refine b_iload C dL_law_1539 0 rfl ?_
    refine b_i2l C dL_law_1541 ?_
    have ho : wout false oc o = r.toInt64 := by rw [← hr h0]; exact if_pos h0
    refine b_lcmp C dL_law_1542 ?_
    refine b_if_eq C 1548 dL_law_1543 (by decide) (rv := (0 : Nat)) (a := 0) (b := 1) (if_pos (by rw [ho]; exact lcmp_same _)).symm (fun _ => hT) (fun h => absurd h (by decide))
  · have hw : ¬ wcode [3, 1] oc.1 = 0 := by
      have hoc2 : oc.1 = 3 ∨ oc.1 = 1 := by simpa [h0] using hoc
      rcases hoc2 with e | e <;> (rw [e]; decide)
    exact b_if_ne C 1548 dL_law_1533 (by decide) (rv := (1 : Nat)) (a := 0) (b := 1) (if_neg hw).symm (fun _ => hT) (fun h => absurd h (by decide))
set_option maxHeartbeats 4000000 in
set_option maxRecDepth 100000 in
theorem lc_20 {X : Ctx} {b L : Nat} {xs : Nat → Int32} {Inv : Mem → Prop} (C : Cx X cL_law RL lw_tbl 7 10 236) (E : Lx X b L xs) (iv : Int32) (h1 : vp_in (iv + 1) L) (o : Int64) (kc ks : Nat) (hk1 : kc + 1 ≤ 601024) (hk2 : ks + 6 ≤ 7293034) (σ : Mem) (hs : StpG Inv (f_X9_total (xs (iv + 1).toNatClampNeg)) (f_X10_total ((xs (iv + 1).toNatClampNeg))) [3] σ) (kk : ∀ (o' : Int64) (u2 : Mem), Inv u2 → Bk X 7 o' (kc + 1) (ks + 6) 1897 [(0, .ref b), (1, .ref (ad X 9)), (2, .ref (ad X 10)), (3, .ref (ad X 5)), (4, .int iv)] [] u2) : Bk X 7 o kc ks 1551 [(0, .ref b), (1, .ref (ad X 9)), (2, .ref (ad X 10)), (3, .ref (ad X 5)), (4, .int iv)] [] σ := by
  obtain ⟨oc, u, r, u2, hA, hoc, hM, hth, hr, hI⟩ := hs
  refine b_aload_n C dL_law_1551 rfl 1 rfl ?_
  refine b_aload_n C dL_law_1552 rfl 0 rfl ?_
  refine b_iload C dL_law_1553 4 rfl ?_
  refine b_iconst C (v := 1) dL_law_1555 (by decide) ?_
  refine b_iadd C dL_law_1556 ?_
  refine b_sld C E h1 dL_law_1557 ?_
  refine b_aload_n C dL_law_1558 rfl 3 rfl ?_
  refine b_lcallW (n := 3) C E (fun G => [.ref (G.1 9), .int (xs (iv + 1).toNatClampNeg), .ref (G.1 5)]) (c_L_total ((xs (iv + 1).toNatClampNeg))) hA hoc gT_L_total rfl (by decide +kernel) rfl (by decide) (by decide) (Nat.le_of_ble_eq_true rfl) hk1 hk2 dL_law_1559 ?_
  refine b_istore (lv' := [(5, .int (wcode [3] oc.1)), (0, .ref b), (1, .ref (ad X 9)), (2, .ref (ad X 10)), (3, .ref (ad X 5)), (4, .int iv)]) C dL_law_1562 (by decide) rfl ?_
  refine b_aload_n C dL_law_1564 rfl 3 rfl ?_
  refine b_aload_n C dL_law_1565 rfl 1 rfl ?_
  refine b_iload C dL_law_1566 5 rfl ?_
  refine b_iconst C (v := 1) dL_law_1568 (by decide) ?_
  refine b_iadd C dL_law_1569 ?_
  refine b_sld C E h1 dL_law_1570 ?_
  refine b_lcallV (n := 1) C E (10) 10 (isObj_s (by decide) (by decide)) rfl (fun _ => [.int (xs (iv + 1).toNatClampNeg)]) (c_X10_total ((xs (iv + 1).toNatClampNeg))) hM gT_X10_total rfl (by decide +kernel) rfl (by decide) (by decide) (Nat.le_of_ble_eq_true rfl) hk1 hk2 dL_law_1571 ?_
  refine b_istore (lv' := [(6, .int r), (5, .int (wcode [3] oc.1)), (0, .ref b), (1, .ref (ad X 9)), (2, .ref (ad X 10)), (3, .ref (ad X 5)), (4, .int iv)]) C dL_law_1574 (by decide) rfl ?_
  refine b_aload_n C dL_law_1576 rfl 4 rfl ?_
  refine b_lcallV (n := 0) C E (10) 10 (isObj_s (by decide) (by decide)) rfl (fun _ => []) (c_X10_thrown ) (rfl : f_X10_thrown u2 = some (u2 76 22, u2)) gT_X10_thrown rfl (by decide +kernel) rfl (by decide) (by decide) (Nat.le_of_ble_eq_true rfl) hk1 hk2 dL_law_1577 ?_
  refine b_iload C dL_law_1580 1 rfl ?_
  refine b_icmp_eq C 1587 dL_law_1582 (by decide) (rv := (0 : Nat)) (a := 0) (b := 1) (if_pos hth).symm (fun _ => ?_) (fun h => absurd h (by decide))
  refine b_iload C dL_law_1587 1 rfl ?_
  have hT : Bk X 7 (wout false oc o) (kc + 1) (ks + 6) 1604 [(6, .int r), (5, .int (wcode [3] oc.1)), (0, .ref b), (1, .ref (ad X 9)), (2, .ref (ad X 10)), (3, .ref (ad X 5)), (4, .int iv)] [] u2 := by
    refine b_goto C 1897 dL_law_1604 (by decide) ?_
    exact b_sub [2, 3, 4, 5, 6] rfl (kk _ _ hI)
  by_cases h0 : oc.1 = 0
  · have hw : wcode [3] oc.1 = 0 := if_pos h0
    refine b_if_ne C 1604 dL_law_1589 (by decide) (rv := (0 : Nat)) (a := 0) (b := 1) (if_pos hw).symm (fun h => absurd h (by decide)) (fun _ => ?_)
    refine b_aload_n C dL_law_1592 rfl 5 rfl ?_
    refine b_iconst C (v := 0) dL_law_1593 (by decide) ?_
    refine b_lald C dL_law_1594 ?_
    refine b_iload C dL_law_1595 0 rfl ?_
    refine b_i2l C dL_law_1597 ?_
    have ho : wout false oc o = r.toInt64 := by rw [← hr h0]; exact if_pos h0
    refine b_lcmp C dL_law_1598 ?_
    refine b_if_eq C 1604 dL_law_1599 (by decide) (rv := (0 : Nat)) (a := 0) (b := 1) (if_pos (by rw [ho]; exact lcmp_same _)).symm (fun _ => hT) (fun h => absurd h (by decide))
  · have hw : ¬ wcode [3] oc.1 = 0 := by
      have hoc2 : oc.1 = 3 := by simpa [h0] using hoc
      rw [hoc2]; decide
    exact b_if_ne C 1604 dL_law_1589 (by decide) (rv := (1 : Nat)) (a := 0) (b := 1) (if_neg hw).symm (fun _ => hT) (fun h => absurd h (by decide))
set_option maxHeartbeats 4000000 in
set_option maxRecDepth 100000 in
theorem lc_21 {X : Ctx} {b L : Nat} {xs : Nat → Int32} {Inv : Mem → Prop} (C : Cx X cL_law RL lw_tbl 7 10 236) (E : Lx X b L xs) (iv : Int32) (h1 : vp_in (iv + 1) L) (h2 : vp_in (iv + 2) L) (o : Int64) (kc ks : Nat) (hk1 : kc + 1 ≤ 601024) (hk2 : ks + 6 ≤ 7293034) (σ : Mem) (hs : StpG Inv (f_X9_grade (xs (iv + 1).toNatClampNeg) (bz (xs (iv + 2).toNatClampNeg))) (f_X10_grade ((xs (iv + 1).toNatClampNeg)) ((bz (xs (iv + 2).toNatClampNeg)))) [3] σ) (kk : ∀ (o' : Int64) (u2 : Mem), Inv u2 → Bk X 7 o' (kc + 1) (ks + 6) 1897 [(0, .ref b), (1, .ref (ad X 9)), (2, .ref (ad X 10)), (3, .ref (ad X 5)), (4, .int iv)] [] u2) : Bk X 7 o kc ks 1607 [(0, .ref b), (1, .ref (ad X 9)), (2, .ref (ad X 10)), (3, .ref (ad X 5)), (4, .int iv)] [] σ := by
  obtain ⟨oc, u, r, u2, hA, hoc, hM, hth, hr, hI⟩ := hs
  refine b_aload_n C dL_law_1607 rfl 1 rfl ?_
  refine b_aload_n C dL_law_1608 rfl 0 rfl ?_
  refine b_iload C dL_law_1609 4 rfl ?_
  refine b_iconst C (v := 1) dL_law_1611 (by decide) ?_
  refine b_iadd C dL_law_1612 ?_
  refine b_sld C E h1 dL_law_1613 ?_
  refine b_aload_n C dL_law_1614 rfl 0 rfl ?_
  refine b_iload C dL_law_1615 4 rfl ?_
  refine b_iconst C (v := 2) dL_law_1617 (by decide) ?_
  refine b_iadd C dL_law_1618 ?_
  refine b_sld C E h2 dL_law_1619 ?_
  suffices hJ1 : Bk X 7 o kc ks 1628 [(0, .ref b), (1, .ref (ad X 9)), (2, .ref (ad X 10)), (3, .ref (ad X 5)), (4, .int iv)] [.int (bz (xs (iv + 2).toNatClampNeg)), .int (xs (iv + 1).toNatClampNeg), .ref (ad X 9)] σ by
    refine b_if_eq C 1627 dL_law_1620 (by decide) (rv := bz (xs (iv + 2).toNatClampNeg)) (a := 0) (b := 1) rfl (fun h => ?_) (fun h => ?_)
    · rw [h] at hJ1
      exact b_iconst C (v := 0) dL_law_1627 (by decide) hJ1
    · rw [h] at hJ1
      refine b_iconst C (v := 1) dL_law_1623 (by decide) ?_
      exact b_goto C 1628 dL_law_1624 (by decide) hJ1
  refine b_aload_n C dL_law_1628 rfl 3 rfl ?_
  refine b_lcallW (n := 4) C E (fun G => [.ref (G.1 9), .int (xs (iv + 1).toNatClampNeg), .int (bz (xs (iv + 2).toNatClampNeg)), .ref (G.1 5)]) (c_L_grade ((xs (iv + 1).toNatClampNeg)) ((bz (xs (iv + 2).toNatClampNeg)))) hA hoc gT_L_grade rfl (by decide +kernel) rfl (by decide) (by decide) (Nat.le_of_ble_eq_true rfl) hk1 hk2 dL_law_1629 ?_
  refine b_istore (lv' := [(5, .int (wcode [3] oc.1)), (0, .ref b), (1, .ref (ad X 9)), (2, .ref (ad X 10)), (3, .ref (ad X 5)), (4, .int iv)]) C dL_law_1632 (by decide) rfl ?_
  refine b_aload_n C dL_law_1634 rfl 3 rfl ?_
  refine b_aload_n C dL_law_1635 rfl 1 rfl ?_
  refine b_iload C dL_law_1636 5 rfl ?_
  refine b_iconst C (v := 1) dL_law_1638 (by decide) ?_
  refine b_iadd C dL_law_1639 ?_
  refine b_sld C E h1 dL_law_1640 ?_
  refine b_aload_n C dL_law_1641 rfl 1 rfl ?_
  refine b_iload C dL_law_1642 5 rfl ?_
  refine b_iconst C (v := 2) dL_law_1644 (by decide) ?_
  refine b_iadd C dL_law_1645 ?_
  refine b_sld C E h2 dL_law_1646 ?_
  suffices hJ2 : Bk X 7 (wout false oc o) (kc + 1) (ks + 6) 1655 [(5, .int (wcode [3] oc.1)), (0, .ref b), (1, .ref (ad X 9)), (2, .ref (ad X 10)), (3, .ref (ad X 5)), (4, .int iv)] [.int (bz (xs (iv + 2).toNatClampNeg)), .int (xs (iv + 1).toNatClampNeg), .ref (ad X 10)] u by
    refine b_if_eq C 1654 dL_law_1647 (by decide) (rv := bz (xs (iv + 2).toNatClampNeg)) (a := 0) (b := 1) rfl (fun h => ?_) (fun h => ?_)
    · rw [h] at hJ2
      exact b_iconst C (v := 0) dL_law_1654 (by decide) hJ2
    · rw [h] at hJ2
      refine b_iconst C (v := 1) dL_law_1650 (by decide) ?_
      exact b_goto C 1655 dL_law_1651 (by decide) hJ2
  refine b_lcallV (n := 2) C E (10) 10 (isObj_s (by decide) (by decide)) rfl (fun _ => [.int (xs (iv + 1).toNatClampNeg), .int (bz (xs (iv + 2).toNatClampNeg))]) (c_X10_grade ((xs (iv + 1).toNatClampNeg)) ((bz (xs (iv + 2).toNatClampNeg)))) hM gT_X10_grade rfl (by decide +kernel) rfl (by decide) (by decide) (Nat.le_of_ble_eq_true rfl) hk1 hk2 dL_law_1655 ?_
  refine b_istore (lv' := [(6, .int r), (5, .int (wcode [3] oc.1)), (0, .ref b), (1, .ref (ad X 9)), (2, .ref (ad X 10)), (3, .ref (ad X 5)), (4, .int iv)]) C dL_law_1658 (by decide) rfl ?_
  refine b_aload_n C dL_law_1660 rfl 4 rfl ?_
  refine b_lcallV (n := 0) C E (10) 10 (isObj_s (by decide) (by decide)) rfl (fun _ => []) (c_X10_thrown ) (rfl : f_X10_thrown u2 = some (u2 76 22, u2)) gT_X10_thrown rfl (by decide +kernel) rfl (by decide) (by decide) (Nat.le_of_ble_eq_true rfl) hk1 hk2 dL_law_1661 ?_
  refine b_iload C dL_law_1664 1 rfl ?_
  refine b_icmp_eq C 1671 dL_law_1666 (by decide) (rv := (0 : Nat)) (a := 0) (b := 1) (if_pos hth).symm (fun _ => ?_) (fun h => absurd h (by decide))
  refine b_iload C dL_law_1671 1 rfl ?_
  have hT : Bk X 7 (wout false oc o) (kc + 1) (ks + 6) 1688 [(6, .int r), (5, .int (wcode [3] oc.1)), (0, .ref b), (1, .ref (ad X 9)), (2, .ref (ad X 10)), (3, .ref (ad X 5)), (4, .int iv)] [] u2 := by
    refine b_goto C 1897 dL_law_1688 (by decide) ?_
    exact b_sub [2, 3, 4, 5, 6] rfl (kk _ _ hI)
  by_cases h0 : oc.1 = 0
  · have hw : wcode [3] oc.1 = 0 := if_pos h0
    refine b_if_ne C 1688 dL_law_1673 (by decide) (rv := (0 : Nat)) (a := 0) (b := 1) (if_pos hw).symm (fun h => absurd h (by decide)) (fun _ => ?_)
    refine b_aload_n C dL_law_1676 rfl 5 rfl ?_
    refine b_iconst C (v := 0) dL_law_1677 (by decide) ?_
    refine b_lald C dL_law_1678 ?_
    refine b_iload C dL_law_1679 0 rfl ?_
    refine b_i2l C dL_law_1681 ?_
    have ho : wout false oc o = r.toInt64 := by rw [← hr h0]; exact if_pos h0
    refine b_lcmp C dL_law_1682 ?_
    refine b_if_eq C 1688 dL_law_1683 (by decide) (rv := (0 : Nat)) (a := 0) (b := 1) (if_pos (by rw [ho]; exact lcmp_same _)).symm (fun _ => hT) (fun h => absurd h (by decide))
  · have hw : ¬ wcode [3] oc.1 = 0 := by
      have hoc2 : oc.1 = 3 := by simpa [h0] using hoc
      rw [hoc2]; decide
    exact b_if_ne C 1688 dL_law_1673 (by decide) (rv := (1 : Nat)) (a := 0) (b := 1) (if_neg hw).symm (fun _ => hT) (fun h => absurd h (by decide))
set_option maxHeartbeats 4000000 in
set_option maxRecDepth 100000 in
theorem lc_22 {X : Ctx} {b L : Nat} {xs : Nat → Int32} {Inv : Mem → Prop} (C : Cx X cL_law RL lw_tbl 7 10 236) (E : Lx X b L xs) (iv : Int32) (o : Int64) (kc ks : Nat) (hk1 : kc + 1 ≤ 601024) (hk2 : ks + 6 ≤ 7293034) (σ : Mem) (hs : StpQ Inv (f_X9_changed) (f_X10_changed ) σ) (kk : ∀ (o' : Int64) (u2 : Mem), Inv u2 → Bk X 7 o' (kc + 1) (ks + 6) 1897 [(0, .ref b), (1, .ref (ad X 9)), (2, .ref (ad X 10)), (3, .ref (ad X 5)), (4, .int iv)] [] u2) : Bk X 7 o kc ks 1691 [(0, .ref b), (1, .ref (ad X 9)), (2, .ref (ad X 10)), (3, .ref (ad X 5)), (4, .int iv)] [] σ := by
  obtain ⟨r, u, u2, hA, hM, hI⟩ := hs
  refine b_aload_n C dL_law_1691 rfl 1 rfl ?_
  refine b_lcallV (n := 0) C E (9) 9 (isObj_s (by decide) (by decide)) rfl (fun _ => []) (c_X9_changed ) hA gT_X9_changed rfl (by decide +kernel) rfl (by decide) (by decide) (Nat.le_of_ble_eq_true rfl) (by omega) (by omega) dL_law_1692 ?_
  refine b_aload_n C dL_law_1695 rfl 2 rfl ?_
  refine b_lcallV (n := 0) C E (10) 10 (isObj_s (by decide) (by decide)) rfl (fun _ => []) (c_X10_changed ) hM gT_X10_changed rfl (by decide +kernel) rfl (by decide) (by decide) (Nat.le_of_ble_eq_true rfl) (by omega) (by omega) dL_law_1696 ?_
  refine b_icmp_eq C 1897 dL_law_1699 (by decide) (rv := (0 : Nat)) (a := 0) (b := 1) (if_pos rfl).symm (fun _ => ?_) (fun h => absurd h (by decide))
  exact b_widen (Nat.le_succ _) (Nat.le_add_right _ 6) (kk _ _ hI)
set_option maxHeartbeats 4000000 in
set_option maxRecDepth 100000 in
theorem lc_23 {X : Ctx} {b L : Nat} {xs : Nat → Int32} {Inv : Mem → Prop} (C : Cx X cL_law RL lw_tbl 7 10 236) (E : Lx X b L xs) (iv : Int32) (h1 : vp_in (iv + 1) L) (o : Int64) (kc ks : Nat) (hk1 : kc + 1 ≤ 601024) (hk2 : ks + 6 ≤ 7293034) (σ : Mem) (hs : StpG Inv (f_X9_lineOf (xs (iv + 1).toNatClampNeg)) (f_X10_lineOf ((xs (iv + 1).toNatClampNeg))) [1] σ) (kk : ∀ (o' : Int64) (u2 : Mem), Inv u2 → Bk X 7 o' (kc + 1) (ks + 6) 1897 [(0, .ref b), (1, .ref (ad X 9)), (2, .ref (ad X 10)), (3, .ref (ad X 5)), (4, .int iv)] [] u2) : Bk X 7 o kc ks 1704 [(0, .ref b), (1, .ref (ad X 9)), (2, .ref (ad X 10)), (3, .ref (ad X 5)), (4, .int iv)] [] σ := by
  obtain ⟨oc, u, r, u2, hA, hoc, hM, hth, hr, hI⟩ := hs
  refine b_aload_n C dL_law_1704 rfl 1 rfl ?_
  refine b_aload_n C dL_law_1705 rfl 0 rfl ?_
  refine b_iload C dL_law_1706 4 rfl ?_
  refine b_iconst C (v := 1) dL_law_1708 (by decide) ?_
  refine b_iadd C dL_law_1709 ?_
  refine b_sld C E h1 dL_law_1710 ?_
  refine b_aload_n C dL_law_1711 rfl 3 rfl ?_
  refine b_lcallW (n := 3) C E (fun G => [.ref (G.1 9), .int (xs (iv + 1).toNatClampNeg), .ref (G.1 5)]) (c_L_lineOf ((xs (iv + 1).toNatClampNeg))) hA hoc gT_L_lineOf rfl (by decide +kernel) rfl (by decide) (by decide) (Nat.le_of_ble_eq_true rfl) hk1 hk2 dL_law_1712 ?_
  refine b_istore (lv' := [(5, .int (wcode [1] oc.1)), (0, .ref b), (1, .ref (ad X 9)), (2, .ref (ad X 10)), (3, .ref (ad X 5)), (4, .int iv)]) C dL_law_1715 (by decide) rfl ?_
  refine b_aload_n C dL_law_1717 rfl 3 rfl ?_
  refine b_aload_n C dL_law_1718 rfl 1 rfl ?_
  refine b_iload C dL_law_1719 5 rfl ?_
  refine b_iconst C (v := 1) dL_law_1721 (by decide) ?_
  refine b_iadd C dL_law_1722 ?_
  refine b_sld C E h1 dL_law_1723 ?_
  refine b_lcallV (n := 1) C E (10) 10 (isObj_s (by decide) (by decide)) rfl (fun _ => [.int (xs (iv + 1).toNatClampNeg)]) (c_X10_lineOf ((xs (iv + 1).toNatClampNeg))) hM gT_X10_lineOf rfl (by decide +kernel) rfl (by decide) (by decide) (Nat.le_of_ble_eq_true rfl) hk1 hk2 dL_law_1724 ?_
  refine b_istore (lv' := [(6, .int r), (5, .int (wcode [1] oc.1)), (0, .ref b), (1, .ref (ad X 9)), (2, .ref (ad X 10)), (3, .ref (ad X 5)), (4, .int iv)]) C dL_law_1727 (by decide) rfl ?_
  refine b_aload_n C dL_law_1729 rfl 4 rfl ?_
  refine b_lcallV (n := 0) C E (10) 10 (isObj_s (by decide) (by decide)) rfl (fun _ => []) (c_X10_thrown ) (rfl : f_X10_thrown u2 = some (u2 76 22, u2)) gT_X10_thrown rfl (by decide +kernel) rfl (by decide) (by decide) (Nat.le_of_ble_eq_true rfl) hk1 hk2 dL_law_1730 ?_
  refine b_iload C dL_law_1733 1 rfl ?_
  refine b_icmp_eq C 1740 dL_law_1735 (by decide) (rv := (0 : Nat)) (a := 0) (b := 1) (if_pos hth).symm (fun _ => ?_) (fun h => absurd h (by decide))
  refine b_iload C dL_law_1740 1 rfl ?_
  have hT : Bk X 7 (wout false oc o) (kc + 1) (ks + 6) 1757 [(6, .int r), (5, .int (wcode [1] oc.1)), (0, .ref b), (1, .ref (ad X 9)), (2, .ref (ad X 10)), (3, .ref (ad X 5)), (4, .int iv)] [] u2 := by
    refine b_goto C 1897 dL_law_1757 (by decide) ?_
    exact b_sub [2, 3, 4, 5, 6] rfl (kk _ _ hI)
  by_cases h0 : oc.1 = 0
  · have hw : wcode [1] oc.1 = 0 := if_pos h0
    refine b_if_ne C 1757 dL_law_1742 (by decide) (rv := (0 : Nat)) (a := 0) (b := 1) (if_pos hw).symm (fun h => absurd h (by decide)) (fun _ => ?_)
    refine b_aload_n C dL_law_1745 rfl 5 rfl ?_
    refine b_iconst C (v := 0) dL_law_1746 (by decide) ?_
    refine b_lald C dL_law_1747 ?_
    refine b_iload C dL_law_1748 0 rfl ?_
    refine b_i2l C dL_law_1750 ?_
    have ho : wout false oc o = r.toInt64 := by rw [← hr h0]; exact if_pos h0
    refine b_lcmp C dL_law_1751 ?_
    refine b_if_eq C 1757 dL_law_1752 (by decide) (rv := (0 : Nat)) (a := 0) (b := 1) (if_pos (by rw [ho]; exact lcmp_same _)).symm (fun _ => hT) (fun h => absurd h (by decide))
  · have hw : ¬ wcode [1] oc.1 = 0 := by
      have hoc2 : oc.1 = 1 := by simpa [h0] using hoc
      rw [hoc2]; decide
    exact b_if_ne C 1757 dL_law_1742 (by decide) (rv := (1 : Nat)) (a := 0) (b := 1) (if_neg hw).symm (fun _ => hT) (fun h => absurd h (by decide))
set_option maxHeartbeats 4000000 in
set_option maxRecDepth 100000 in
theorem lc_24 {X : Ctx} {b L : Nat} {xs : Nat → Int32} {Inv : Mem → Prop} (C : Cx X cL_law RL lw_tbl 7 10 236) (E : Lx X b L xs) (iv : Int32) (h1 : vp_in (iv + 1) L) (o : Int64) (kc ks : Nat) (hk1 : kc + 1 ≤ 601024) (hk2 : ks + 6 ≤ 7293034) (σ : Mem) (hs : StpG Inv (f_X9_lineAnew (xs (iv + 1).toNatClampNeg)) (f_X10_lineAnew ((xs (iv + 1).toNatClampNeg))) [1] σ) (kk : ∀ (o' : Int64) (u2 : Mem), Inv u2 → Bk X 7 o' (kc + 1) (ks + 6) 1897 [(0, .ref b), (1, .ref (ad X 9)), (2, .ref (ad X 10)), (3, .ref (ad X 5)), (4, .int iv)] [] u2) : Bk X 7 o kc ks 1760 [(0, .ref b), (1, .ref (ad X 9)), (2, .ref (ad X 10)), (3, .ref (ad X 5)), (4, .int iv)] [] σ := by
  obtain ⟨oc, u, r, u2, hA, hoc, hM, hth, hr, hI⟩ := hs
  refine b_aload_n C dL_law_1760 rfl 1 rfl ?_
  refine b_aload_n C dL_law_1761 rfl 0 rfl ?_
  refine b_iload C dL_law_1762 4 rfl ?_
  refine b_iconst C (v := 1) dL_law_1764 (by decide) ?_
  refine b_iadd C dL_law_1765 ?_
  refine b_sld C E h1 dL_law_1766 ?_
  refine b_aload_n C dL_law_1767 rfl 3 rfl ?_
  refine b_lcallW (n := 3) C E (fun G => [.ref (G.1 9), .int (xs (iv + 1).toNatClampNeg), .ref (G.1 5)]) (c_L_lineAnew ((xs (iv + 1).toNatClampNeg))) hA hoc gT_L_lineAnew rfl (by decide +kernel) rfl (by decide) (by decide) (Nat.le_of_ble_eq_true rfl) hk1 hk2 dL_law_1768 ?_
  refine b_istore (lv' := [(5, .int (wcode [1] oc.1)), (0, .ref b), (1, .ref (ad X 9)), (2, .ref (ad X 10)), (3, .ref (ad X 5)), (4, .int iv)]) C dL_law_1771 (by decide) rfl ?_
  refine b_aload_n C dL_law_1773 rfl 3 rfl ?_
  refine b_aload_n C dL_law_1774 rfl 1 rfl ?_
  refine b_iload C dL_law_1775 5 rfl ?_
  refine b_iconst C (v := 1) dL_law_1777 (by decide) ?_
  refine b_iadd C dL_law_1778 ?_
  refine b_sld C E h1 dL_law_1779 ?_
  refine b_lcallV (n := 1) C E (10) 10 (isObj_s (by decide) (by decide)) rfl (fun _ => [.int (xs (iv + 1).toNatClampNeg)]) (c_X10_lineAnew ((xs (iv + 1).toNatClampNeg))) hM gT_X10_lineAnew rfl (by decide +kernel) rfl (by decide) (by decide) (Nat.le_of_ble_eq_true rfl) hk1 hk2 dL_law_1780 ?_
  refine b_istore (lv' := [(6, .int r), (5, .int (wcode [1] oc.1)), (0, .ref b), (1, .ref (ad X 9)), (2, .ref (ad X 10)), (3, .ref (ad X 5)), (4, .int iv)]) C dL_law_1783 (by decide) rfl ?_
  refine b_aload_n C dL_law_1785 rfl 4 rfl ?_
  refine b_lcallV (n := 0) C E (10) 10 (isObj_s (by decide) (by decide)) rfl (fun _ => []) (c_X10_thrown ) (rfl : f_X10_thrown u2 = some (u2 76 22, u2)) gT_X10_thrown rfl (by decide +kernel) rfl (by decide) (by decide) (Nat.le_of_ble_eq_true rfl) hk1 hk2 dL_law_1786 ?_
  refine b_iload C dL_law_1789 1 rfl ?_
  refine b_icmp_eq C 1796 dL_law_1791 (by decide) (rv := (0 : Nat)) (a := 0) (b := 1) (if_pos hth).symm (fun _ => ?_) (fun h => absurd h (by decide))
  refine b_iload C dL_law_1796 1 rfl ?_
  have hT : Bk X 7 (wout false oc o) (kc + 1) (ks + 6) 1813 [(6, .int r), (5, .int (wcode [1] oc.1)), (0, .ref b), (1, .ref (ad X 9)), (2, .ref (ad X 10)), (3, .ref (ad X 5)), (4, .int iv)] [] u2 := by
    refine b_goto C 1897 dL_law_1813 (by decide) ?_
    exact b_sub [2, 3, 4, 5, 6] rfl (kk _ _ hI)
  by_cases h0 : oc.1 = 0
  · have hw : wcode [1] oc.1 = 0 := if_pos h0
    refine b_if_ne C 1813 dL_law_1798 (by decide) (rv := (0 : Nat)) (a := 0) (b := 1) (if_pos hw).symm (fun h => absurd h (by decide)) (fun _ => ?_)
    refine b_aload_n C dL_law_1801 rfl 5 rfl ?_
    refine b_iconst C (v := 0) dL_law_1802 (by decide) ?_
    refine b_lald C dL_law_1803 ?_
    refine b_iload C dL_law_1804 0 rfl ?_
    refine b_i2l C dL_law_1806 ?_
    have ho : wout false oc o = r.toInt64 := by rw [← hr h0]; exact if_pos h0
    refine b_lcmp C dL_law_1807 ?_
    refine b_if_eq C 1813 dL_law_1808 (by decide) (rv := (0 : Nat)) (a := 0) (b := 1) (if_pos (by rw [ho]; exact lcmp_same _)).symm (fun _ => hT) (fun h => absurd h (by decide))
  · have hw : ¬ wcode [1] oc.1 = 0 := by
      have hoc2 : oc.1 = 1 := by simpa [h0] using hoc
      rw [hoc2]; decide
    exact b_if_ne C 1813 dL_law_1798 (by decide) (rv := (1 : Nat)) (a := 0) (b := 1) (if_neg hw).symm (fun _ => hT) (fun h => absurd h (by decide))
set_option maxHeartbeats 4000000 in
set_option maxRecDepth 100000 in
theorem lc_25 {X : Ctx} {b L : Nat} {xs : Nat → Int32} {Inv : Mem → Prop} (C : Cx X cL_law RL lw_tbl 7 10 236) (E : Lx X b L xs) (iv : Int32) (h1 : vp_in (iv + 1) L) (h2 : vp_in (iv + 2) L) (o : Int64) (kc ks : Nat) (hk1 : kc + 1 ≤ 601024) (hk2 : ks + 6 ≤ 7293034) (σ : Mem) (hs : StpG Inv (f_X9_ofReader (xs (iv + 1).toNatClampNeg) (xs (iv + 2).toNatClampNeg)) (f_X10_ofReader ((xs (iv + 1).toNatClampNeg)) ((xs (iv + 2).toNatClampNeg))) [3, 1] σ) (kk : ∀ (o' : Int64) (u2 : Mem), Inv u2 → Bk X 7 o' (kc + 1) (ks + 6) 1897 [(0, .ref b), (1, .ref (ad X 9)), (2, .ref (ad X 10)), (3, .ref (ad X 5)), (4, .int iv)] [] u2) : Bk X 7 o kc ks 1816 [(0, .ref b), (1, .ref (ad X 9)), (2, .ref (ad X 10)), (3, .ref (ad X 5)), (4, .int iv)] [] σ := by
  obtain ⟨oc, u, r, u2, hA, hoc, hM, hth, hr, hI⟩ := hs
  refine b_aload_n C dL_law_1816 rfl 1 rfl ?_
  refine b_aload_n C dL_law_1817 rfl 0 rfl ?_
  refine b_iload C dL_law_1818 4 rfl ?_
  refine b_iconst C (v := 1) dL_law_1820 (by decide) ?_
  refine b_iadd C dL_law_1821 ?_
  refine b_sld C E h1 dL_law_1822 ?_
  refine b_aload_n C dL_law_1823 rfl 0 rfl ?_
  refine b_iload C dL_law_1824 4 rfl ?_
  refine b_iconst C (v := 2) dL_law_1826 (by decide) ?_
  refine b_iadd C dL_law_1827 ?_
  refine b_sld C E h2 dL_law_1828 ?_
  refine b_aload_n C dL_law_1829 rfl 3 rfl ?_
  refine b_lcallW (n := 4) C E (fun G => [.ref (G.1 9), .int (xs (iv + 1).toNatClampNeg), .int (xs (iv + 2).toNatClampNeg), .ref (G.1 5)]) (c_L_ofReader ((xs (iv + 1).toNatClampNeg)) ((xs (iv + 2).toNatClampNeg))) hA hoc gT_L_ofReader rfl (by decide +kernel) rfl (by decide) (by decide) (Nat.le_of_ble_eq_true rfl) hk1 hk2 dL_law_1830 ?_
  refine b_istore (lv' := [(5, .int (wcode [3, 1] oc.1)), (0, .ref b), (1, .ref (ad X 9)), (2, .ref (ad X 10)), (3, .ref (ad X 5)), (4, .int iv)]) C dL_law_1833 (by decide) rfl ?_
  refine b_aload_n C dL_law_1835 rfl 3 rfl ?_
  refine b_aload_n C dL_law_1836 rfl 1 rfl ?_
  refine b_iload C dL_law_1837 5 rfl ?_
  refine b_iconst C (v := 1) dL_law_1839 (by decide) ?_
  refine b_iadd C dL_law_1840 ?_
  refine b_sld C E h1 dL_law_1841 ?_
  refine b_aload_n C dL_law_1842 rfl 1 rfl ?_
  refine b_iload C dL_law_1843 5 rfl ?_
  refine b_iconst C (v := 2) dL_law_1845 (by decide) ?_
  refine b_iadd C dL_law_1846 ?_
  refine b_sld C E h2 dL_law_1847 ?_
  refine b_lcallV (n := 2) C E (10) 10 (isObj_s (by decide) (by decide)) rfl (fun _ => [.int (xs (iv + 1).toNatClampNeg), .int (xs (iv + 2).toNatClampNeg)]) (c_X10_ofReader ((xs (iv + 1).toNatClampNeg)) ((xs (iv + 2).toNatClampNeg))) hM gT_X10_ofReader rfl (by decide +kernel) rfl (by decide) (by decide) (Nat.le_of_ble_eq_true rfl) hk1 hk2 dL_law_1848 ?_
  refine b_istore (lv' := [(6, .int r), (5, .int (wcode [3, 1] oc.1)), (0, .ref b), (1, .ref (ad X 9)), (2, .ref (ad X 10)), (3, .ref (ad X 5)), (4, .int iv)]) C dL_law_1851 (by decide) rfl ?_
  refine b_aload_n C dL_law_1853 rfl 4 rfl ?_
  refine b_lcallV (n := 0) C E (10) 10 (isObj_s (by decide) (by decide)) rfl (fun _ => []) (c_X10_thrown ) (rfl : f_X10_thrown u2 = some (u2 76 22, u2)) gT_X10_thrown rfl (by decide +kernel) rfl (by decide) (by decide) (Nat.le_of_ble_eq_true rfl) hk1 hk2 dL_law_1854 ?_
  refine b_iload C dL_law_1857 1 rfl ?_
  refine b_icmp_eq C 1864 dL_law_1859 (by decide) (rv := (0 : Nat)) (a := 0) (b := 1) (if_pos hth).symm (fun _ => ?_) (fun h => absurd h (by decide))
  refine b_iload C dL_law_1864 1 rfl ?_
  have hT : Bk X 7 (wout false oc o) (kc + 1) (ks + 6) 1881 [(6, .int r), (5, .int (wcode [3, 1] oc.1)), (0, .ref b), (1, .ref (ad X 9)), (2, .ref (ad X 10)), (3, .ref (ad X 5)), (4, .int iv)] [] u2 := by
    refine b_goto C 1897 dL_law_1881 (by decide) ?_
    exact b_sub [2, 3, 4, 5, 6] rfl (kk _ _ hI)
  by_cases h0 : oc.1 = 0
  · have hw : wcode [3, 1] oc.1 = 0 := if_pos h0
    refine b_if_ne C 1881 dL_law_1866 (by decide) (rv := (0 : Nat)) (a := 0) (b := 1) (if_pos hw).symm (fun h => absurd h (by decide)) (fun _ => ?_)
    refine b_aload_n C dL_law_1869 rfl 5 rfl ?_
    refine b_iconst C (v := 0) dL_law_1870 (by decide) ?_
    refine b_lald C dL_law_1871 ?_
    refine b_iload C dL_law_1872 0 rfl ?_
    refine b_i2l C dL_law_1874 ?_
    have ho : wout false oc o = r.toInt64 := by rw [← hr h0]; exact if_pos h0
    refine b_lcmp C dL_law_1875 ?_
    refine b_if_eq C 1881 dL_law_1876 (by decide) (rv := (0 : Nat)) (a := 0) (b := 1) (if_pos (by rw [ho]; exact lcmp_same _)).symm (fun _ => hT) (fun h => absurd h (by decide))
  · have hw : ¬ wcode [3, 1] oc.1 = 0 := by
      have hoc2 : oc.1 = 3 ∨ oc.1 = 1 := by simpa [h0] using hoc
      rcases hoc2 with e | e <;> (rw [e]; decide)
    exact b_if_ne C 1881 dL_law_1866 (by decide) (rv := (1 : Nat)) (a := 0) (b := 1) (if_neg hw).symm (fun _ => hT) (fun h => absurd h (by decide))
set_option maxHeartbeats 4000000 in
set_option maxRecDepth 100000 in
theorem lc_26 {X : Ctx} {b L : Nat} {xs : Nat → Int32} {Inv : Mem → Prop} (C : Cx X cL_law RL lw_tbl 7 10 236) (E : Lx X b L xs) (iv : Int32) (o : Int64) (kc ks : Nat) (hk1 : kc + 1 ≤ 601024) (hk2 : ks + 6 ≤ 7293034) (σ : Mem) (hs : StpQ Inv (f_X9_wanted) (f_X10_wanted ) σ) (kk : ∀ (o' : Int64) (u2 : Mem), Inv u2 → Bk X 7 o' (kc + 1) (ks + 6) 1897 [(0, .ref b), (1, .ref (ad X 9)), (2, .ref (ad X 10)), (3, .ref (ad X 5)), (4, .int iv)] [] u2) : Bk X 7 o kc ks 1884 [(0, .ref b), (1, .ref (ad X 9)), (2, .ref (ad X 10)), (3, .ref (ad X 5)), (4, .int iv)] [] σ := by
  obtain ⟨r, u, u2, hA, hM, hI⟩ := hs
  refine b_aload_n C dL_law_1884 rfl 1 rfl ?_
  refine b_lcallV (n := 0) C E (9) 9 (isObj_s (by decide) (by decide)) rfl (fun _ => []) (c_X9_wanted ) hA gT_X9_wanted rfl (by decide +kernel) rfl (by decide) (by decide) (Nat.le_of_ble_eq_true rfl) (by omega) (by omega) dL_law_1885 ?_
  refine b_aload_n C dL_law_1888 rfl 2 rfl ?_
  refine b_lcallV (n := 0) C E (10) 10 (isObj_s (by decide) (by decide)) rfl (fun _ => []) (c_X10_wanted ) hM gT_X10_wanted rfl (by decide +kernel) rfl (by decide) (by decide) (Nat.le_of_ble_eq_true rfl) (by omega) (by omega) dL_law_1889 ?_
  refine b_icmp_eq C 1897 dL_law_1892 (by decide) (rv := (0 : Nat)) (a := 0) (b := 1) (if_pos rfl).symm (fun _ => ?_) (fun h => absurd h (by decide))
  exact b_widen (Nat.le_succ _) (Nat.le_add_right _ 6) (kk _ _ hI)
def Step (Inv : Mem → Prop) (σ : Mem) (x1 x2 x3 : Int32) (k : Nat) : Prop := match k with
  | 0 => StpG Inv (f_X9_pupil (x1) (x2) (bz (x3))) (f_X10_pupil ((x1)) ((x2)) ((bz (x3)))) [1, 2] σ
  | 1 => StpG Inv (f_X9_gift (x1) (x2)) (f_X10_gift ((x1)) ((x2))) [3, 1] σ
  | 2 => StpG Inv (f_X9_type (x1)) (f_X10_type ((x1))) [1, 2] σ
  | 3 => StpG Inv (f_X9_scheme (x1)) (f_X10_scheme ((x1))) [3, 2] σ
  | 4 => StpG Inv (f_X9_twice (x1) (bz (x2))) (f_X10_twice ((x1)) ((bz (x2)))) [3] σ
  | 5 => StpG Inv (f_X9_tolerance (x1)) (f_X10_tolerance ((x1))) [1] σ
  | 6 => StpG Inv (f_X9_reader (x1) (x2) (bz (x3))) (f_X10_reader ((x1)) ((x2)) ((bz (x3)))) [1, 2] σ
  | 7 => StpG Inv (f_X9_seed (x1) (x2)) (f_X10_seed ((x1)) ((x2))) [3, 1, 2] σ
  | 8 => StpG Inv (f_X9_next (x1)) (f_X10_next ((x1))) [3, 2] σ
  | 9 => StpG Inv (f_X9_read (x1) (x2)) (f_X10_read ((x1)) ((x2))) [3, 1, 2] σ
  | 10 => StpG Inv (f_X9_goOn (x1)) (f_X10_goOn ((x1))) [3, 2] σ
  | 11 => StpG Inv (f_X9_lines (x1) (x2) (x3)) (f_X10_lines ((x1)) ((x2)) ((x3))) [1, 2] σ
  | 12 => StpG Inv (f_X9_release ) (f_X10_release ) [2] σ
  | 13 => StpG Inv (f_X9_appeal (x1) (x2)) (f_X10_appeal ((x1)) ((x2))) [3, 2] σ
  | 14 => StpG Inv (f_X9_versions (x1)) (f_X10_versions ((x1))) [3] σ
  | 15 => StpG Inv (f_X9_markOf (x1) (x2) (x3)) (f_X10_markOf ((x1)) ((x2)) ((x3))) [3, 1] σ
  | 16 => StpG Inv (f_X9_written (x1) (x2) (x3)) (f_X10_written ((x1)) ((x2)) ((x3))) [3] σ
  | 17 => StpG Inv (f_X9_mark (x1) (x2)) (f_X10_mark ((x1)) ((x2))) [3] σ
  | 18 => StpG Inv (f_X9_markAnew (x1) (x2)) (f_X10_markAnew ((x1)) ((x2))) [3] σ
  | 19 => StpG Inv (f_X9_answer (x1) (x2) (x3)) (f_X10_answer ((x1)) ((x2)) ((x3))) [3, 1] σ
  | 20 => StpG Inv (f_X9_total (x1)) (f_X10_total ((x1))) [3] σ
  | 21 => StpG Inv (f_X9_grade (x1) (bz (x2))) (f_X10_grade ((x1)) ((bz (x2)))) [3] σ
  | 22 => StpQ Inv (f_X9_changed) (f_X10_changed ) σ
  | 23 => StpG Inv (f_X9_lineOf (x1)) (f_X10_lineOf ((x1))) [1] σ
  | 24 => StpG Inv (f_X9_lineAnew (x1)) (f_X10_lineAnew ((x1))) [1] σ
  | 25 => StpG Inv (f_X9_ofReader (x1) (x2)) (f_X10_ofReader ((x1)) ((x2))) [3, 1] σ
  | 26 => StpQ Inv (f_X9_wanted) (f_X10_wanted ) σ
  | _ => True
set_option maxHeartbeats 4000000 in
set_option maxRecDepth 100000 in
theorem lc_all {X : Ctx} {b L : Nat} {xs : Nat → Int32} {Inv : Mem → Prop} (C : Cx X cL_law RL lw_tbl 7 10 236) (E : Lx X b L xs) (iv : Int32) (h0 : vp_in iv L) (h1 : vp_in (iv + 1) L) (h2 : vp_in (iv + 2) L) (h3 : vp_in (iv + 3) L) (o : Int64) (kc ks : Nat) (hk1 : kc + 1 ≤ 601024) (hk2 : ks + 6 ≤ 7293034) (σ : Mem) (hst : ∀ k, k < 27 → Step Inv σ (xs (iv + 1).toNatClampNeg) (xs (iv + 2).toNatClampNeg) (xs (iv + 3).toNatClampNeg) k) (hI0 : Inv σ) (kk : ∀ (o' : Int64) (u2 : Mem), Inv u2 → Bk X 7 o' (kc + 1) (ks + 6) 1897 [(0, .ref b), (1, .ref (ad X 9)), (2, .ref (ad X 10)), (3, .ref (ad X 5)), (4, .int iv)] [] u2) : Bk X 7 o kc ks 32 [(0, .ref b), (1, .ref (ad X 9)), (2, .ref (ad X 10)), (3, .ref (ad X 5)), (4, .int iv)] [] σ := by
  refine b_aload_n C dL_law_32 rfl 0 rfl ?_
  refine b_iload C dL_law_33 4 rfl ?_
  refine b_sld C E h0 dL_law_35 ?_
  refine b_bipush C (v := 31) dL_law_36 (by decide) ?_
  refine b_iand C dL_law_38 ?_
  obtain ⟨q, hq, e⟩ := and31 (xs iv.toNatClampNeg)
  rw [e]
  by_cases hc0 : q = 0
  · subst hc0
    exact b_tableIn C 160 dL_law_39 (by decide) (by decide) (by rfl) (by decide) (lc_0 C E iv h1 h2 h3 o kc ks hk1 hk2 σ (hst 0 (by decide)) kk)
  by_cases hc1 : q = 1
  · subst hc1
    exact b_tableIn C 256 dL_law_39 (by decide) (by decide) (by rfl) (by decide) (lc_1 C E iv h1 h2 o kc ks hk1 hk2 σ (hst 1 (by decide)) kk)
  by_cases hc2 : q = 2
  · subst hc2
    exact b_tableIn C 324 dL_law_39 (by decide) (by decide) (by rfl) (by decide) (lc_2 C E iv h1 o kc ks hk1 hk2 σ (hst 2 (by decide)) kk)
  by_cases hc3 : q = 3
  · subst hc3
    exact b_tableIn C 380 dL_law_39 (by decide) (by decide) (by rfl) (by decide) (lc_3 C E iv h1 o kc ks hk1 hk2 σ (hst 3 (by decide)) kk)
  by_cases hc4 : q = 4
  · subst hc4
    exact b_tableIn C 436 dL_law_39 (by decide) (by decide) (by rfl) (by decide) (lc_4 C E iv h1 h2 o kc ks hk1 hk2 σ (hst 4 (by decide)) kk)
  by_cases hc5 : q = 5
  · subst hc5
    exact b_tableIn C 527 dL_law_39 (by decide) (by decide) (by rfl) (by decide) (lc_5 C E iv h1 o kc ks hk1 hk2 σ (hst 5 (by decide)) kk)
  by_cases hc6 : q = 6
  · subst hc6
    exact b_tableIn C 583 dL_law_39 (by decide) (by decide) (by rfl) (by decide) (lc_6 C E iv h1 h2 h3 o kc ks hk1 hk2 σ (hst 6 (by decide)) kk)
  by_cases hc7 : q = 7
  · subst hc7
    exact b_tableIn C 679 dL_law_39 (by decide) (by decide) (by rfl) (by decide) (lc_7 C E iv h1 h2 o kc ks hk1 hk2 σ (hst 7 (by decide)) kk)
  by_cases hc8 : q = 8
  · subst hc8
    exact b_tableIn C 747 dL_law_39 (by decide) (by decide) (by rfl) (by decide) (lc_8 C E iv h1 o kc ks hk1 hk2 σ (hst 8 (by decide)) kk)
  by_cases hc9 : q = 9
  · subst hc9
    exact b_tableIn C 803 dL_law_39 (by decide) (by decide) (by rfl) (by decide) (lc_9 C E iv h1 h2 o kc ks hk1 hk2 σ (hst 9 (by decide)) kk)
  by_cases hc10 : q = 10
  · subst hc10
    exact b_tableIn C 871 dL_law_39 (by decide) (by decide) (by rfl) (by decide) (lc_10 C E iv h1 o kc ks hk1 hk2 σ (hst 10 (by decide)) kk)
  by_cases hc11 : q = 11
  · subst hc11
    exact b_tableIn C 927 dL_law_39 (by decide) (by decide) (by rfl) (by decide) (lc_11 C E iv h1 h2 h3 o kc ks hk1 hk2 σ (hst 11 (by decide)) kk)
  by_cases hc12 : q = 12
  · subst hc12
    exact b_tableIn C 1007 dL_law_39 (by decide) (by decide) (by rfl) (by decide) (lc_12 C E iv  o kc ks hk1 hk2 σ (hst 12 (by decide)) kk)
  by_cases hc13 : q = 13
  · subst hc13
    exact b_tableIn C 1051 dL_law_39 (by decide) (by decide) (by rfl) (by decide) (lc_13 C E iv h1 h2 o kc ks hk1 hk2 σ (hst 13 (by decide)) kk)
  by_cases hc14 : q = 14
  · subst hc14
    exact b_tableIn C 1119 dL_law_39 (by decide) (by decide) (by rfl) (by decide) (lc_14 C E iv h1 o kc ks hk1 hk2 σ (hst 14 (by decide)) kk)
  by_cases hc15 : q = 15
  · subst hc15
    exact b_tableIn C 1175 dL_law_39 (by decide) (by decide) (by rfl) (by decide) (lc_15 C E iv h1 h2 h3 o kc ks hk1 hk2 σ (hst 15 (by decide)) kk)
  by_cases hc16 : q = 16
  · subst hc16
    exact b_tableIn C 1255 dL_law_39 (by decide) (by decide) (by rfl) (by decide) (lc_16 C E iv h1 h2 h3 o kc ks hk1 hk2 σ (hst 16 (by decide)) kk)
  by_cases hc17 : q = 17
  · subst hc17
    exact b_tableIn C 1335 dL_law_39 (by decide) (by decide) (by rfl) (by decide) (lc_17 C E iv h1 h2 o kc ks hk1 hk2 σ (hst 17 (by decide)) kk)
  by_cases hc18 : q = 18
  · subst hc18
    exact b_tableIn C 1403 dL_law_39 (by decide) (by decide) (by rfl) (by decide) (lc_18 C E iv h1 h2 o kc ks hk1 hk2 σ (hst 18 (by decide)) kk)
  by_cases hc19 : q = 19
  · subst hc19
    exact b_tableIn C 1471 dL_law_39 (by decide) (by decide) (by rfl) (by decide) (lc_19 C E iv h1 h2 h3 o kc ks hk1 hk2 σ (hst 19 (by decide)) kk)
  by_cases hc20 : q = 20
  · subst hc20
    exact b_tableIn C 1551 dL_law_39 (by decide) (by decide) (by rfl) (by decide) (lc_20 C E iv h1 o kc ks hk1 hk2 σ (hst 20 (by decide)) kk)
  by_cases hc21 : q = 21
  · subst hc21
    exact b_tableIn C 1607 dL_law_39 (by decide) (by decide) (by rfl) (by decide) (lc_21 C E iv h1 h2 o kc ks hk1 hk2 σ (hst 21 (by decide)) kk)
  by_cases hc22 : q = 22
  · subst hc22
    exact b_tableIn C 1691 dL_law_39 (by decide) (by decide) (by rfl) (by decide) (lc_22 C E iv  o kc ks hk1 hk2 σ (hst 22 (by decide)) kk)
  by_cases hc23 : q = 23
  · subst hc23
    exact b_tableIn C 1704 dL_law_39 (by decide) (by decide) (by rfl) (by decide) (lc_23 C E iv h1 o kc ks hk1 hk2 σ (hst 23 (by decide)) kk)
  by_cases hc24 : q = 24
  · subst hc24
    exact b_tableIn C 1760 dL_law_39 (by decide) (by decide) (by rfl) (by decide) (lc_24 C E iv h1 o kc ks hk1 hk2 σ (hst 24 (by decide)) kk)
  by_cases hc25 : q = 25
  · subst hc25
    exact b_tableIn C 1816 dL_law_39 (by decide) (by decide) (by rfl) (by decide) (lc_25 C E iv h1 h2 o kc ks hk1 hk2 σ (hst 25 (by decide)) kk)
  by_cases hc26 : q = 26
  · subst hc26
    exact b_tableIn C 1884 dL_law_39 (by decide) (by decide) (by rfl) (by decide) (lc_26 C E iv  o kc ks hk1 hk2 σ (hst 26 (by decide)) kk)
  have hge : 27 ≤ q := by omega
  refine b_tableOut C 1897 dL_law_39 (Or.inr (by rw [nI_toInt (by omega)]; omega)) (by decide) ?_
  exact b_widen (Nat.le_succ _) (Nat.le_add_right _ 6) (kk _ _ hI0)
set_option maxHeartbeats 4000000 in
set_option maxRecDepth 100000 in
/-- the law's loop: with j ints read -/
theorem lw_loop {X : Ctx} {b L : Nat} {xs : Nat → Int32} {Inv : Mem → Prop} (C : Cx X cL_law RL lw_tbl 7 10 236) (E : Lx X b L xs) (hL : L ≤ 2048) (hst : ∀ σ, Inv σ → ∀ x1 x2 x3 k, k < 27 → Step Inv σ x1 x2 x3 k) (hend : ∀ (o : Int64) (kc ks : Nat) (lv : List (Nat × Value)) (σ : Mem), kc ≤ 601024 → ks ≤ 7293034 → Bk X 7 o kc ks 1904 lv [.int 1] σ) :
    ∀ (n j : Nat) (o : Int64) (kc ks : Nat) (σ : Mem), j ≤ L + 3 → L + 4 ≤ j + 4 * n → kc ≤ 200 + j → ks ≤ 20000 + 6 * j → Inv σ → Bk X 7 o kc ks 23 [(0, .ref b), (1, .ref (ad X 9)), (2, .ref (ad X 10)), (3, .ref (ad X 5)), (4, .int (nI j))] [] σ := by
  intro n
  induction n with
  | zero => intro j o kc ks σ h1 h2; omega
  | succ n ih =>
    intro j o kc ks σ h1 h2 h3 h4 hI
    refine b_iload C dL_law_23 4 rfl ?_
    refine b_aload_n C dL_law_25 rfl 0 rfl ?_
    refine b_slen C E dL_law_26 ?_
    refine b_iconst C (v := 4) dL_law_27 (by decide) ?_
    refine b_isub C dL_law_28 ?_
    have hsub : (nI L - 4).toInt = (L : Int) - 4 := by
      rw [show (4 : Int32) = nI 4 from rfl]
      exact pk_sub_toInt (by omega) (by omega)
    have hj : (nI j).toInt = (j : Int) := nI_toInt (by omega)
    by_cases hlt : nI L - 4 < nI j
    · refine b_icmp_gt C 1903 dL_law_29 (by decide) (rv := (0 : Nat)) (a := 0) (b := 1) (if_pos hlt).symm (fun _ => ?_) (fun h => absurd h (by decide))
      refine b_iconst C (v := 1) dL_law_1903 (by decide) ?_
      exact hend _ _ _ _ _ (by omega) (by omega)
    · refine b_icmp_gt C 1903 dL_law_29 (by decide) (rv := (1 : Nat)) (a := 0) (b := 1) (if_neg hlt).symm (fun h => absurd h (by decide)) (fun _ => ?_)
      have hle : j + 4 ≤ L := by
        rw [Int32.lt_iff_toInt_lt, hsub, hj] at hlt
        omega
      have e1 : nI j + 1 = nI (j + 1) := nI_1 j
      have e2 : nI j + 2 = nI (j + 2) := nI_add j 2
      have e3 : nI j + 3 = nI (j + 3) := nI_add j 3
      refine lc_all C E (nI j) (vp_in_nI (by omega) (by omega)) (by rw [e1]; exact vp_in_nI (by omega) (by omega)) (by rw [e2]; exact vp_in_nI (by omega) (by omega)) (by rw [e3]; exact vp_in_nI (by omega) (by omega)) o kc ks (by omega) (by omega) σ (fun k hk => hst σ hI _ _ _ k hk) hI (fun o' u2 hI2 => ?_)
      refine b_iinc (v := nI (j + 4)) (lv' := [(4, .int (nI (j + 4))), (0, .ref b), (1, .ref (ad X 9)), (2, .ref (ad X 10)), (3, .ref (ad X 5))]) C dL_law_1897 4 rfl (nI_add j 4) (by decide) rfl ?_
      refine b_goto C 23 dL_law_1900 (by decide) ?_
      exact b_sub [1, 2, 3, 4, 0] rfl (ih (j + 4) o' (kc + 1) (ks + 6) u2 (by omega) (by omega) (by omega) (by omega) hI2)
