/-! printed by wip/whole/gen/wrap.py -/
theorem kL_pupil_e1 : Cond.classLink RL 13 (exN 1) ∈ wsL_pupil := by decide +kernel
theorem kL_pupil_e2 : Cond.classLink RL 15 (exN 2) ∈ wsL_pupil := by decide +kernel
set_option maxHeartbeats 4000000 in
set_option maxRecDepth 100000 in
theorem c_L_pupil (a0 a1 a2 : Int32) (l : Launch) (hfl : l.stackTraces = false) : Ctw l yL_pupil wsL_pupil 7 112 (fun G => [.ref (G.1 (9)), .int (a0), .int (a1), .int (a2), .ref (G.1 (5))]) (f_X9_pupil a0 a1 a2) [1, 2] false := by
  refine mk_w (cc := cL_pupil) (nL := 6) (hh := [(0, 12, 15, 13), (0, 12, 19, 15)]) hfl (by decide) rfl rfl (fun _ => Nat.le_of_ble_eq_true rfl) (fun X o σ oc u C E hR hf hoc => ?_)
  show Bk X 6 o 0 0 0 [(0, .ref (ad X (9))), (1, .int (a0)), (2, .int (a1)), (3, .int (a2)), (4, .ref (ad X (5)))] [] σ
  refine b_aload C dL_pupil_0 4 rfl ?_
  refine b_iconst C (v := 0) dL_pupil_2 (by decide) ?_
  refine b_aload_n C dL_pupil_3 rfl 0 rfl ?_
  refine b_iload_n C dL_pupil_4 rfl 1 rfl ?_
  refine b_iload_n C dL_pupil_5 rfl 2 rfl ?_
  refine b_iload_n C dL_pupil_6 rfl 3 rfl ?_
  refine b_callE (n := 3) C E (fun _ => [.int a0, .int a1, .int a2]) (c_X9_pupil a0 a1 a2) hf gL_pupil_X9_pupil rfl (by decide +kernel) rfl (by decide) (by decide) (Nat.le_of_ble_eq_true rfl) dL_pupil_7 (fun r hr => ?_) (fun h0 => ?_)
  · subst hr
    have hR : Rw X cL_pupil 6 0 (u, r.toInt64) := hR
    refine b_i2l C dL_pupil_10 ?_
    refine b_last C dL_pupil_11 ?_
    refine b_goto C 23 dL_pupil_12 (by decide) ?_
    refine b_iconst C (v := 0) dL_pupil_23 (by decide) ?_
    exact hR _ _ _ _ dL_pupil_24 rfl
  · have hoc2 : oc.1 = 1 ∨ oc.1 = 2 := by simpa [h0] using hoc
    have ho : wout false oc o = o := if_neg h0
    rcases hoc2 with e | e
    · have hw : wcode [1, 2] oc.1 = 1 := by rw [e]; decide
      rw [hw, ho] at hR
      rw [e]
      refine b_catch C E 1 (by decide) [] ⟨0, 12, 15, 13⟩ [⟨0, 12, 19, 15⟩] rfl (fun z hz => nomatch hz) rfl (by decide) kL_pupil_e1 (fun q9 => ?_)
      refine b_astore (lv' := [(5, .ref q9), (0, .ref (ad X (9))), (1, .int (a0)), (2, .int (a1)), (3, .int (a2)), (4, .ref (ad X (5)))]) C dL_pupil_15 (by decide) rfl ?_
      refine b_iconst C (v := 1) dL_pupil_17 (by decide) ?_
      exact hR _ _ _ _ dL_pupil_18 rfl
    · have hw : wcode [1, 2] oc.1 = 2 := by rw [e]; decide
      rw [hw, ho] at hR
      rw [e]
      refine b_catch C E 2 (by decide) [⟨0, 12, 15, 13⟩] ⟨0, 12, 19, 15⟩ [] rfl (fun z hz => by rw [List.mem_singleton.mp hz]; exact ⟨by decide, 1, by decide, by decide, kL_pupil_e1⟩) rfl (by decide) kL_pupil_e2 (fun q9 => ?_)
      refine b_astore (lv' := [(5, .ref q9), (0, .ref (ad X (9))), (1, .int (a0)), (2, .int (a1)), (3, .int (a2)), (4, .ref (ad X (5)))]) C dL_pupil_19 (by decide) rfl ?_
      refine b_iconst C (v := 2) dL_pupil_21 (by decide) ?_
      exact hR _ _ _ _ dL_pupil_22 rfl
theorem kL_gift_e1 : Cond.classLink RL 13 (exN 1) ∈ wsL_gift := by decide +kernel
theorem kL_gift_e3 : Cond.classLink RL 21 (exN 3) ∈ wsL_gift := by decide +kernel
set_option maxHeartbeats 4000000 in
set_option maxRecDepth 100000 in
theorem c_L_gift (a0 a1 : Int32) (l : Launch) (hfl : l.stackTraces = false) : Ctw l yL_gift wsL_gift 7 112 (fun G => [.ref (G.1 (9)), .int (a0), .int (a1), .ref (G.1 (5))]) (f_X9_gift a0 a1) [3, 1] false := by
  refine mk_w (cc := cL_gift) (nL := 5) (hh := [(0, 10, 13, 21), (0, 10, 17, 13)]) hfl (by decide) rfl rfl (fun _ => Nat.le_of_ble_eq_true rfl) (fun X o σ oc u C E hR hf hoc => ?_)
  show Bk X 5 o 0 0 0 [(0, .ref (ad X (9))), (1, .int (a0)), (2, .int (a1)), (3, .ref (ad X (5)))] [] σ
  refine b_aload_n C dL_gift_0 rfl 3 rfl ?_
  refine b_iconst C (v := 0) dL_gift_1 (by decide) ?_
  refine b_aload_n C dL_gift_2 rfl 0 rfl ?_
  refine b_iload_n C dL_gift_3 rfl 1 rfl ?_
  refine b_iload_n C dL_gift_4 rfl 2 rfl ?_
  refine b_callE (n := 2) C E (fun _ => [.int a0, .int a1]) (c_X9_gift a0 a1) hf gL_gift_X9_gift rfl (by decide +kernel) rfl (by decide) (by decide) (Nat.le_of_ble_eq_true rfl) dL_gift_5 (fun r hr => ?_) (fun h0 => ?_)
  · subst hr
    have hR : Rw X cL_gift 5 0 (u, r.toInt64) := hR
    refine b_i2l C dL_gift_8 ?_
    refine b_last C dL_gift_9 ?_
    refine b_goto C 21 dL_gift_10 (by decide) ?_
    refine b_iconst C (v := 0) dL_gift_21 (by decide) ?_
    exact hR _ _ _ _ dL_gift_22 rfl
  · have hoc2 : oc.1 = 3 ∨ oc.1 = 1 := by simpa [h0] using hoc
    have ho : wout false oc o = o := if_neg h0
    rcases hoc2 with e | e
    · have hw : wcode [3, 1] oc.1 = 1 := by rw [e]; decide
      rw [hw, ho] at hR
      rw [e]
      refine b_catch C E 3 (by decide) [] ⟨0, 10, 13, 21⟩ [⟨0, 10, 17, 13⟩] rfl (fun z hz => nomatch hz) rfl (by decide) kL_gift_e3 (fun q9 => ?_)
      refine b_astore (lv' := [(4, .ref q9), (0, .ref (ad X (9))), (1, .int (a0)), (2, .int (a1)), (3, .ref (ad X (5)))]) C dL_gift_13 (by decide) rfl ?_
      refine b_iconst C (v := 1) dL_gift_15 (by decide) ?_
      exact hR _ _ _ _ dL_gift_16 rfl
    · have hw : wcode [3, 1] oc.1 = 2 := by rw [e]; decide
      rw [hw, ho] at hR
      rw [e]
      refine b_catch C E 1 (by decide) [⟨0, 10, 13, 21⟩] ⟨0, 10, 17, 13⟩ [] rfl (fun z hz => by rw [List.mem_singleton.mp hz]; exact ⟨by decide, 3, by decide, by decide, kL_gift_e3⟩) rfl (by decide) kL_gift_e1 (fun q9 => ?_)
      refine b_astore (lv' := [(4, .ref q9), (0, .ref (ad X (9))), (1, .int (a0)), (2, .int (a1)), (3, .ref (ad X (5)))]) C dL_gift_17 (by decide) rfl ?_
      refine b_iconst C (v := 2) dL_gift_19 (by decide) ?_
      exact hR _ _ _ _ dL_gift_20 rfl
theorem kL_type_e1 : Cond.classLink RL 13 (exN 1) ∈ wsL_type := by decide +kernel
theorem kL_type_e2 : Cond.classLink RL 15 (exN 2) ∈ wsL_type := by decide +kernel
set_option maxHeartbeats 4000000 in
set_option maxRecDepth 100000 in
theorem c_L_type (a0 : Int32) (l : Launch) (hfl : l.stackTraces = false) : Ctw l yL_type wsL_type 7 110 (fun G => [.ref (G.1 (9)), .int (a0), .ref (G.1 (5))]) (f_X9_type a0) [1, 2] false := by
  refine mk_w (cc := cL_type) (nL := 4) (hh := [(0, 9, 12, 13), (0, 9, 15, 15)]) hfl (by decide) rfl rfl (fun _ => Nat.le_of_ble_eq_true rfl) (fun X o σ oc u C E hR hf hoc => ?_)
  show Bk X 4 o 0 0 0 [(0, .ref (ad X (9))), (1, .int (a0)), (2, .ref (ad X (5)))] [] σ
  refine b_aload_n C dL_type_0 rfl 2 rfl ?_
  refine b_iconst C (v := 0) dL_type_1 (by decide) ?_
  refine b_aload_n C dL_type_2 rfl 0 rfl ?_
  refine b_iload_n C dL_type_3 rfl 1 rfl ?_
  refine b_callE (n := 1) C E (fun _ => [.int a0]) (c_X9_type a0) hf gL_type_X9_type rfl (by decide +kernel) rfl (by decide) (by decide) (Nat.le_of_ble_eq_true rfl) dL_type_4 (fun r hr => ?_) (fun h0 => ?_)
  · subst hr
    have hR : Rw X cL_type 4 0 (u, r.toInt64) := hR
    refine b_i2l C dL_type_7 ?_
    refine b_last C dL_type_8 ?_
    refine b_goto C 18 dL_type_9 (by decide) ?_
    refine b_iconst C (v := 0) dL_type_18 (by decide) ?_
    exact hR _ _ _ _ dL_type_19 rfl
  · have hoc2 : oc.1 = 1 ∨ oc.1 = 2 := by simpa [h0] using hoc
    have ho : wout false oc o = o := if_neg h0
    rcases hoc2 with e | e
    · have hw : wcode [1, 2] oc.1 = 1 := by rw [e]; decide
      rw [hw, ho] at hR
      rw [e]
      refine b_catch C E 1 (by decide) [] ⟨0, 9, 12, 13⟩ [⟨0, 9, 15, 15⟩] rfl (fun z hz => nomatch hz) rfl (by decide) kL_type_e1 (fun q9 => ?_)
      refine b_astore_n (lv' := [(3, .ref q9), (0, .ref (ad X (9))), (1, .int (a0)), (2, .ref (ad X (5)))]) C dL_type_12 rfl (by decide) rfl ?_
      refine b_iconst C (v := 1) dL_type_13 (by decide) ?_
      exact hR _ _ _ _ dL_type_14 rfl
    · have hw : wcode [1, 2] oc.1 = 2 := by rw [e]; decide
      rw [hw, ho] at hR
      rw [e]
      refine b_catch C E 2 (by decide) [⟨0, 9, 12, 13⟩] ⟨0, 9, 15, 15⟩ [] rfl (fun z hz => by rw [List.mem_singleton.mp hz]; exact ⟨by decide, 1, by decide, by decide, kL_type_e1⟩) rfl (by decide) kL_type_e2 (fun q9 => ?_)
      refine b_astore_n (lv' := [(3, .ref q9), (0, .ref (ad X (9))), (1, .int (a0)), (2, .ref (ad X (5)))]) C dL_type_15 rfl (by decide) rfl ?_
      refine b_iconst C (v := 2) dL_type_16 (by decide) ?_
      exact hR _ _ _ _ dL_type_17 rfl
theorem kL_scheme_e2 : Cond.classLink RL 15 (exN 2) ∈ wsL_scheme := by decide +kernel
theorem kL_scheme_e3 : Cond.classLink RL 21 (exN 3) ∈ wsL_scheme := by decide +kernel
set_option maxHeartbeats 4000000 in
set_option maxRecDepth 100000 in
theorem c_L_scheme (a0 : Int32) (l : Launch) (hfl : l.stackTraces = false) : Ctw l yL_scheme wsL_scheme 7 152 (fun G => [.ref (G.1 (9)), .int (a0), .ref (G.1 (5))]) (f_X9_scheme a0) [3, 2] false := by
  refine mk_w (cc := cL_scheme) (nL := 4) (hh := [(0, 9, 12, 21), (0, 9, 15, 15)]) hfl (by decide) rfl rfl (fun _ => Nat.le_of_ble_eq_true rfl) (fun X o σ oc u C E hR hf hoc => ?_)
  show Bk X 4 o 0 0 0 [(0, .ref (ad X (9))), (1, .int (a0)), (2, .ref (ad X (5)))] [] σ
  refine b_aload_n C dL_scheme_0 rfl 2 rfl ?_
  refine b_iconst C (v := 0) dL_scheme_1 (by decide) ?_
  refine b_aload_n C dL_scheme_2 rfl 0 rfl ?_
  refine b_iload_n C dL_scheme_3 rfl 1 rfl ?_
  refine b_callE (n := 1) C E (fun _ => [.int a0]) (c_X9_scheme a0) hf gL_scheme_X9_scheme rfl (by decide +kernel) rfl (by decide) (by decide) (Nat.le_of_ble_eq_true rfl) dL_scheme_4 (fun r hr => ?_) (fun h0 => ?_)
  · subst hr
    have hR : Rw X cL_scheme 4 0 (u, r.toInt64) := hR
    refine b_i2l C dL_scheme_7 ?_
    refine b_last C dL_scheme_8 ?_
    refine b_goto C 18 dL_scheme_9 (by decide) ?_
    refine b_iconst C (v := 0) dL_scheme_18 (by decide) ?_
    exact hR _ _ _ _ dL_scheme_19 rfl
  · have hoc2 : oc.1 = 3 ∨ oc.1 = 2 := by simpa [h0] using hoc
    have ho : wout false oc o = o := if_neg h0
    rcases hoc2 with e | e
    · have hw : wcode [3, 2] oc.1 = 1 := by rw [e]; decide
      rw [hw, ho] at hR
      rw [e]
      refine b_catch C E 3 (by decide) [] ⟨0, 9, 12, 21⟩ [⟨0, 9, 15, 15⟩] rfl (fun z hz => nomatch hz) rfl (by decide) kL_scheme_e3 (fun q9 => ?_)
      refine b_astore_n (lv' := [(3, .ref q9), (0, .ref (ad X (9))), (1, .int (a0)), (2, .ref (ad X (5)))]) C dL_scheme_12 rfl (by decide) rfl ?_
      refine b_iconst C (v := 1) dL_scheme_13 (by decide) ?_
      exact hR _ _ _ _ dL_scheme_14 rfl
    · have hw : wcode [3, 2] oc.1 = 2 := by rw [e]; decide
      rw [hw, ho] at hR
      rw [e]
      refine b_catch C E 2 (by decide) [⟨0, 9, 12, 21⟩] ⟨0, 9, 15, 15⟩ [] rfl (fun z hz => by rw [List.mem_singleton.mp hz]; exact ⟨by decide, 3, by decide, by decide, kL_scheme_e3⟩) rfl (by decide) kL_scheme_e2 (fun q9 => ?_)
      refine b_astore_n (lv' := [(3, .ref q9), (0, .ref (ad X (9))), (1, .int (a0)), (2, .ref (ad X (5)))]) C dL_scheme_15 rfl (by decide) rfl ?_
      refine b_iconst C (v := 2) dL_scheme_16 (by decide) ?_
      exact hR _ _ _ _ dL_scheme_17 rfl
theorem kL_twice_e3 : Cond.classLink RL 21 (exN 3) ∈ wsL_twice := by decide +kernel
set_option maxHeartbeats 4000000 in
set_option maxRecDepth 100000 in
theorem c_L_twice (a0 a1 : Int32) (l : Launch) (hfl : l.stackTraces = false) : Ctw l yL_twice wsL_twice 7 112 (fun G => [.ref (G.1 (9)), .int (a0), .int (a1), .ref (G.1 (5))]) (f_X9_twice a0 a1) [3] true := by
  refine mk_w (cc := cL_twice) (nL := 5) (hh := [(0, 17, 20, 21)]) hfl (by decide) rfl rfl (fun _ => Nat.le_of_ble_eq_true rfl) (fun X o σ oc u C E hR hf hoc => ?_)
  show Bk X 5 o 0 0 0 [(0, .ref (ad X (9))), (1, .int (a0)), (2, .int (a1)), (3, .ref (ad X (5)))] [] σ
  refine b_aload_n C dL_twice_0 rfl 3 rfl ?_
  refine b_iconst C (v := 0) dL_twice_1 (by decide) ?_
  refine b_aload_n C dL_twice_2 rfl 0 rfl ?_
  refine b_iload_n C dL_twice_3 rfl 1 rfl ?_
  refine b_iload_n C dL_twice_4 rfl 2 rfl ?_
  refine b_callE (n := 2) C E (fun _ => [.int a0, .int a1]) (c_X9_twice a0 a1) hf gL_twice_X9_twice rfl (by decide +kernel) rfl (by decide) (by decide) (Nat.le_of_ble_eq_true rfl) dL_twice_5 (fun r hr => ?_) (fun h0 => ?_)
  · subst hr
    have hR : Rw X cL_twice 5 0 (u, if r = 0 then 0 else 1) := hR
    refine b_if_eq C 15 dL_twice_8 (by decide) (rv := (if r = 0 then (0 : Int64) else 1)) (a := 0) (b := 1) rfl (fun hz => ?_) (fun hz => ?_)
    · rw [hz] at hR
      refine b_lconst C (v := 0) dL_twice_15 (by decide) ?_
      refine b_last C dL_twice_16 ?_
      refine b_goto C 24 dL_twice_17 (by decide) ?_
      refine b_iconst C (v := 0) dL_twice_24 (by decide) ?_
      exact hR _ _ _ _ dL_twice_25 rfl
    · rw [hz] at hR
      refine b_lconst C (v := 1) dL_twice_11 (by decide) ?_
      refine b_goto C 16 dL_twice_12 (by decide) ?_
      refine b_last C dL_twice_16 ?_
      refine b_goto C 24 dL_twice_17 (by decide) ?_
      refine b_iconst C (v := 0) dL_twice_24 (by decide) ?_
      exact hR _ _ _ _ dL_twice_25 rfl
  · have hoc2 : oc.1 = 3 := by simpa [h0] using hoc
    have ho : wout true oc o = o := if_neg h0
    have e := hoc2
    have hw : wcode [3] oc.1 = 1 := by rw [e]; decide
    rw [hw, ho] at hR
    rw [e]
    refine b_catch C E 3 (by decide) [] ⟨0, 17, 20, 21⟩ [] rfl (fun z hz => nomatch hz) rfl (by decide) kL_twice_e3 (fun q9 => ?_)
    refine b_astore (lv' := [(4, .ref q9), (0, .ref (ad X (9))), (1, .int (a0)), (2, .int (a1)), (3, .ref (ad X (5)))]) C dL_twice_20 (by decide) rfl ?_
    refine b_iconst C (v := 1) dL_twice_22 (by decide) ?_
    exact hR _ _ _ _ dL_twice_23 rfl
theorem kL_tolerance_e1 : Cond.classLink RL 13 (exN 1) ∈ wsL_tolerance := by decide +kernel
set_option maxHeartbeats 4000000 in
set_option maxRecDepth 100000 in
theorem c_L_tolerance (a0 : Int32) (l : Launch) (hfl : l.stackTraces = false) : Ctw l yL_tolerance wsL_tolerance 7 111 (fun G => [.ref (G.1 (9)), .int (a0), .ref (G.1 (5))]) (f_X9_tolerance a0) [1] false := by
  refine mk_w (cc := cL_tolerance) (nL := 4) (hh := [(0, 9, 12, 13)]) hfl (by decide) rfl rfl (fun _ => Nat.le_of_ble_eq_true rfl) (fun X o σ oc u C E hR hf hoc => ?_)
  show Bk X 4 o 0 0 0 [(0, .ref (ad X (9))), (1, .int (a0)), (2, .ref (ad X (5)))] [] σ
  refine b_aload_n C dL_tolerance_0 rfl 2 rfl ?_
  refine b_iconst C (v := 0) dL_tolerance_1 (by decide) ?_
  refine b_aload_n C dL_tolerance_2 rfl 0 rfl ?_
  refine b_iload_n C dL_tolerance_3 rfl 1 rfl ?_
  refine b_callE (n := 1) C E (fun _ => [.int a0]) (c_X9_tolerance a0) hf gL_tolerance_X9_tolerance rfl (by decide +kernel) rfl (by decide) (by decide) (Nat.le_of_ble_eq_true rfl) dL_tolerance_4 (fun r hr => ?_) (fun h0 => ?_)
  · subst hr
    have hR : Rw X cL_tolerance 4 0 (u, r.toInt64) := hR
    refine b_i2l C dL_tolerance_7 ?_
    refine b_last C dL_tolerance_8 ?_
    refine b_goto C 15 dL_tolerance_9 (by decide) ?_
    refine b_iconst C (v := 0) dL_tolerance_15 (by decide) ?_
    exact hR _ _ _ _ dL_tolerance_16 rfl
  · have hoc2 : oc.1 = 1 := by simpa [h0] using hoc
    have ho : wout false oc o = o := if_neg h0
    have e := hoc2
    have hw : wcode [1] oc.1 = 1 := by rw [e]; decide
    rw [hw, ho] at hR
    rw [e]
    refine b_catch C E 1 (by decide) [] ⟨0, 9, 12, 13⟩ [] rfl (fun z hz => nomatch hz) rfl (by decide) kL_tolerance_e1 (fun q9 => ?_)
    refine b_astore_n (lv' := [(3, .ref q9), (0, .ref (ad X (9))), (1, .int (a0)), (2, .ref (ad X (5)))]) C dL_tolerance_12 rfl (by decide) rfl ?_
    refine b_iconst C (v := 1) dL_tolerance_13 (by decide) ?_
    exact hR _ _ _ _ dL_tolerance_14 rfl
theorem kL_reader_e1 : Cond.classLink RL 13 (exN 1) ∈ wsL_reader := by decide +kernel
theorem kL_reader_e2 : Cond.classLink RL 15 (exN 2) ∈ wsL_reader := by decide +kernel
set_option maxHeartbeats 4000000 in
set_option maxRecDepth 100000 in
theorem c_L_reader (a0 a1 a2 : Int32) (l : Launch) (hfl : l.stackTraces = false) : Ctw l yL_reader wsL_reader 7 112 (fun G => [.ref (G.1 (9)), .int (a0), .int (a1), .int (a2), .ref (G.1 (5))]) (f_X9_reader a0 a1 a2) [1, 2] false := by
  refine mk_w (cc := cL_reader) (nL := 6) (hh := [(0, 12, 15, 13), (0, 12, 19, 15)]) hfl (by decide) rfl rfl (fun _ => Nat.le_of_ble_eq_true rfl) (fun X o σ oc u C E hR hf hoc => ?_)
  show Bk X 6 o 0 0 0 [(0, .ref (ad X (9))), (1, .int (a0)), (2, .int (a1)), (3, .int (a2)), (4, .ref (ad X (5)))] [] σ
  refine b_aload C dL_reader_0 4 rfl ?_
  refine b_iconst C (v := 0) dL_reader_2 (by decide) ?_
  refine b_aload_n C dL_reader_3 rfl 0 rfl ?_
  refine b_iload_n C dL_reader_4 rfl 1 rfl ?_
  refine b_iload_n C dL_reader_5 rfl 2 rfl ?_
  refine b_iload_n C dL_reader_6 rfl 3 rfl ?_
  refine b_callE (n := 3) C E (fun _ => [.int a0, .int a1, .int a2]) (c_X9_reader a0 a1 a2) hf gL_reader_X9_reader rfl (by decide +kernel) rfl (by decide) (by decide) (Nat.le_of_ble_eq_true rfl) dL_reader_7 (fun r hr => ?_) (fun h0 => ?_)
  · subst hr
    have hR : Rw X cL_reader 6 0 (u, r.toInt64) := hR
    refine b_i2l C dL_reader_10 ?_
    refine b_last C dL_reader_11 ?_
    refine b_goto C 23 dL_reader_12 (by decide) ?_
    refine b_iconst C (v := 0) dL_reader_23 (by decide) ?_
    exact hR _ _ _ _ dL_reader_24 rfl
  · have hoc2 : oc.1 = 1 ∨ oc.1 = 2 := by simpa [h0] using hoc
    have ho : wout false oc o = o := if_neg h0
    rcases hoc2 with e | e
    · have hw : wcode [1, 2] oc.1 = 1 := by rw [e]; decide
      rw [hw, ho] at hR
      rw [e]
      refine b_catch C E 1 (by decide) [] ⟨0, 12, 15, 13⟩ [⟨0, 12, 19, 15⟩] rfl (fun z hz => nomatch hz) rfl (by decide) kL_reader_e1 (fun q9 => ?_)
      refine b_astore (lv' := [(5, .ref q9), (0, .ref (ad X (9))), (1, .int (a0)), (2, .int (a1)), (3, .int (a2)), (4, .ref (ad X (5)))]) C dL_reader_15 (by decide) rfl ?_
      refine b_iconst C (v := 1) dL_reader_17 (by decide) ?_
      exact hR _ _ _ _ dL_reader_18 rfl
    · have hw : wcode [1, 2] oc.1 = 2 := by rw [e]; decide
      rw [hw, ho] at hR
      rw [e]
      refine b_catch C E 2 (by decide) [⟨0, 12, 15, 13⟩] ⟨0, 12, 19, 15⟩ [] rfl (fun z hz => by rw [List.mem_singleton.mp hz]; exact ⟨by decide, 1, by decide, by decide, kL_reader_e1⟩) rfl (by decide) kL_reader_e2 (fun q9 => ?_)
      refine b_astore (lv' := [(5, .ref q9), (0, .ref (ad X (9))), (1, .int (a0)), (2, .int (a1)), (3, .int (a2)), (4, .ref (ad X (5)))]) C dL_reader_19 (by decide) rfl ?_
      refine b_iconst C (v := 2) dL_reader_21 (by decide) ?_
      exact hR _ _ _ _ dL_reader_22 rfl
theorem kL_seed_e1 : Cond.classLink RL 13 (exN 1) ∈ wsL_seed := by decide +kernel
theorem kL_seed_e2 : Cond.classLink RL 15 (exN 2) ∈ wsL_seed := by decide +kernel
theorem kL_seed_e3 : Cond.classLink RL 21 (exN 3) ∈ wsL_seed := by decide +kernel
set_option maxHeartbeats 4000000 in
set_option maxRecDepth 100000 in
theorem c_L_seed (a0 a1 : Int32) (l : Launch) (hfl : l.stackTraces = false) : Ctw l yL_seed wsL_seed 7 111 (fun G => [.ref (G.1 (9)), .int (a0), .int (a1), .ref (G.1 (5))]) (f_X9_seed a0 a1) [3, 1, 2] false := by
  refine mk_w (cc := cL_seed) (nL := 5) (hh := [(0, 10, 13, 21), (0, 10, 17, 13), (0, 10, 21, 15)]) hfl (by decide) rfl rfl (fun _ => Nat.le_of_ble_eq_true rfl) (fun X o σ oc u C E hR hf hoc => ?_)
  show Bk X 5 o 0 0 0 [(0, .ref (ad X (9))), (1, .int (a0)), (2, .int (a1)), (3, .ref (ad X (5)))] [] σ
  refine b_aload_n C dL_seed_0 rfl 3 rfl ?_
  refine b_iconst C (v := 0) dL_seed_1 (by decide) ?_
  refine b_aload_n C dL_seed_2 rfl 0 rfl ?_
  refine b_iload_n C dL_seed_3 rfl 1 rfl ?_
  refine b_iload_n C dL_seed_4 rfl 2 rfl ?_
  refine b_callE (n := 2) C E (fun _ => [.int a0, .int a1]) (c_X9_seed a0 a1) hf gL_seed_X9_seed rfl (by decide +kernel) rfl (by decide) (by decide) (Nat.le_of_ble_eq_true rfl) dL_seed_5 (fun r hr => ?_) (fun h0 => ?_)
  · subst hr
    have hR : Rw X cL_seed 5 0 (u, r.toInt64) := hR
    refine b_i2l C dL_seed_8 ?_
    refine b_last C dL_seed_9 ?_
    refine b_goto C 25 dL_seed_10 (by decide) ?_
    refine b_iconst C (v := 0) dL_seed_25 (by decide) ?_
    exact hR _ _ _ _ dL_seed_26 rfl
  · have hoc2 : oc.1 = 3 ∨ oc.1 = 1 ∨ oc.1 = 2 := by simpa [h0] using hoc
    have ho : wout false oc o = o := if_neg h0
    rcases hoc2 with e | e | e
    · have hw : wcode [3, 1, 2] oc.1 = 1 := by rw [e]; decide
      rw [hw, ho] at hR
      rw [e]
      refine b_catch C E 3 (by decide) [] ⟨0, 10, 13, 21⟩ [⟨0, 10, 17, 13⟩, ⟨0, 10, 21, 15⟩] rfl (fun z hz => nomatch hz) rfl (by decide) kL_seed_e3 (fun q9 => ?_)
      refine b_astore (lv' := [(4, .ref q9), (0, .ref (ad X (9))), (1, .int (a0)), (2, .int (a1)), (3, .ref (ad X (5)))]) C dL_seed_13 (by decide) rfl ?_
      refine b_iconst C (v := 1) dL_seed_15 (by decide) ?_
      exact hR _ _ _ _ dL_seed_16 rfl
    · have hw : wcode [3, 1, 2] oc.1 = 2 := by rw [e]; decide
      rw [hw, ho] at hR
      rw [e]
      refine b_catch C E 1 (by decide) [⟨0, 10, 13, 21⟩] ⟨0, 10, 17, 13⟩ [⟨0, 10, 21, 15⟩] rfl (fun z hz => by rw [List.mem_singleton.mp hz]; exact ⟨by decide, 3, by decide, by decide, kL_seed_e3⟩) rfl (by decide) kL_seed_e1 (fun q9 => ?_)
      refine b_astore (lv' := [(4, .ref q9), (0, .ref (ad X (9))), (1, .int (a0)), (2, .int (a1)), (3, .ref (ad X (5)))]) C dL_seed_17 (by decide) rfl ?_
      refine b_iconst C (v := 2) dL_seed_19 (by decide) ?_
      exact hR _ _ _ _ dL_seed_20 rfl
    · have hw : wcode [3, 1, 2] oc.1 = 3 := by rw [e]; decide
      rw [hw, ho] at hR
      rw [e]
      refine b_catch C E 2 (by decide) [⟨0, 10, 13, 21⟩, ⟨0, 10, 17, 13⟩] ⟨0, 10, 21, 15⟩ [] rfl (fun z hz => by
        rcases List.mem_cons.mp hz with rfl | hz
        · exact ⟨by decide, 3, by decide, by decide, kL_seed_e3⟩
        rw [List.mem_singleton.mp hz]; exact ⟨by decide, 1, by decide, by decide, kL_seed_e1⟩) rfl (by decide) kL_seed_e2 (fun q9 => ?_)
      refine b_astore (lv' := [(4, .ref q9), (0, .ref (ad X (9))), (1, .int (a0)), (2, .int (a1)), (3, .ref (ad X (5)))]) C dL_seed_21 (by decide) rfl ?_
      refine b_iconst C (v := 3) dL_seed_23 (by decide) ?_
      exact hR _ _ _ _ dL_seed_24 rfl
theorem kL_next_e2 : Cond.classLink RL 15 (exN 2) ∈ wsL_next := by decide +kernel
theorem kL_next_e3 : Cond.classLink RL 21 (exN 3) ∈ wsL_next := by decide +kernel
set_option maxHeartbeats 4000000 in
set_option maxRecDepth 100000 in
theorem c_L_next (a0 : Int32) (l : Launch) (hfl : l.stackTraces = false) : Ctw l yL_next wsL_next 7 163 (fun G => [.ref (G.1 (9)), .int (a0), .ref (G.1 (5))]) (f_X9_next a0) [3, 2] false := by
  refine mk_w (cc := cL_next) (nL := 4) (hh := [(0, 9, 12, 21), (0, 9, 15, 15)]) hfl (by decide) rfl rfl (fun _ => Nat.le_of_ble_eq_true rfl) (fun X o σ oc u C E hR hf hoc => ?_)
  show Bk X 4 o 0 0 0 [(0, .ref (ad X (9))), (1, .int (a0)), (2, .ref (ad X (5)))] [] σ
  refine b_aload_n C dL_next_0 rfl 2 rfl ?_
  refine b_iconst C (v := 0) dL_next_1 (by decide) ?_
  refine b_aload_n C dL_next_2 rfl 0 rfl ?_
  refine b_iload_n C dL_next_3 rfl 1 rfl ?_
  refine b_callE (n := 1) C E (fun _ => [.int a0]) (c_X9_next a0) hf gL_next_X9_next rfl (by decide +kernel) rfl (by decide) (by decide) (Nat.le_of_ble_eq_true rfl) dL_next_4 (fun r hr => ?_) (fun h0 => ?_)
  · subst hr
    have hR : Rw X cL_next 4 0 (u, r.toInt64) := hR
    refine b_i2l C dL_next_7 ?_
    refine b_last C dL_next_8 ?_
    refine b_goto C 18 dL_next_9 (by decide) ?_
    refine b_iconst C (v := 0) dL_next_18 (by decide) ?_
    exact hR _ _ _ _ dL_next_19 rfl
  · have hoc2 : oc.1 = 3 ∨ oc.1 = 2 := by simpa [h0] using hoc
    have ho : wout false oc o = o := if_neg h0
    rcases hoc2 with e | e
    · have hw : wcode [3, 2] oc.1 = 1 := by rw [e]; decide
      rw [hw, ho] at hR
      rw [e]
      refine b_catch C E 3 (by decide) [] ⟨0, 9, 12, 21⟩ [⟨0, 9, 15, 15⟩] rfl (fun z hz => nomatch hz) rfl (by decide) kL_next_e3 (fun q9 => ?_)
      refine b_astore_n (lv' := [(3, .ref q9), (0, .ref (ad X (9))), (1, .int (a0)), (2, .ref (ad X (5)))]) C dL_next_12 rfl (by decide) rfl ?_
      refine b_iconst C (v := 1) dL_next_13 (by decide) ?_
      exact hR _ _ _ _ dL_next_14 rfl
    · have hw : wcode [3, 2] oc.1 = 2 := by rw [e]; decide
      rw [hw, ho] at hR
      rw [e]
      refine b_catch C E 2 (by decide) [⟨0, 9, 12, 21⟩] ⟨0, 9, 15, 15⟩ [] rfl (fun z hz => by rw [List.mem_singleton.mp hz]; exact ⟨by decide, 3, by decide, by decide, kL_next_e3⟩) rfl (by decide) kL_next_e2 (fun q9 => ?_)
      refine b_astore_n (lv' := [(3, .ref q9), (0, .ref (ad X (9))), (1, .int (a0)), (2, .ref (ad X (5)))]) C dL_next_15 rfl (by decide) rfl ?_
      refine b_iconst C (v := 2) dL_next_16 (by decide) ?_
      exact hR _ _ _ _ dL_next_17 rfl
theorem kL_read_e1 : Cond.classLink RL 13 (exN 1) ∈ wsL_read := by decide +kernel
theorem kL_read_e2 : Cond.classLink RL 15 (exN 2) ∈ wsL_read := by decide +kernel
theorem kL_read_e3 : Cond.classLink RL 21 (exN 3) ∈ wsL_read := by decide +kernel
set_option maxHeartbeats 4000000 in
set_option maxRecDepth 100000 in
theorem c_L_read (a0 a1 : Int32) (l : Launch) (hfl : l.stackTraces = false) : Ctw l yL_read wsL_read 7 146 (fun G => [.ref (G.1 (9)), .int (a0), .int (a1), .ref (G.1 (5))]) (f_X9_read a0 a1) [3, 1, 2] false := by
  refine mk_w (cc := cL_read) (nL := 5) (hh := [(0, 10, 13, 21), (0, 10, 17, 13), (0, 10, 21, 15)]) hfl (by decide) rfl rfl (fun _ => Nat.le_of_ble_eq_true rfl) (fun X o σ oc u C E hR hf hoc => ?_)
  show Bk X 5 o 0 0 0 [(0, .ref (ad X (9))), (1, .int (a0)), (2, .int (a1)), (3, .ref (ad X (5)))] [] σ
  refine b_aload_n C dL_read_0 rfl 3 rfl ?_
  refine b_iconst C (v := 0) dL_read_1 (by decide) ?_
  refine b_aload_n C dL_read_2 rfl 0 rfl ?_
  refine b_iload_n C dL_read_3 rfl 1 rfl ?_
  refine b_iload_n C dL_read_4 rfl 2 rfl ?_
  refine b_callE (n := 2) C E (fun _ => [.int a0, .int a1]) (c_X9_read a0 a1) hf gL_read_X9_read rfl (by decide +kernel) rfl (by decide) (by decide) (Nat.le_of_ble_eq_true rfl) dL_read_5 (fun r hr => ?_) (fun h0 => ?_)
  · subst hr
    have hR : Rw X cL_read 5 0 (u, r.toInt64) := hR
    refine b_i2l C dL_read_8 ?_
    refine b_last C dL_read_9 ?_
    refine b_goto C 25 dL_read_10 (by decide) ?_
    refine b_iconst C (v := 0) dL_read_25 (by decide) ?_
    exact hR _ _ _ _ dL_read_26 rfl
  · have hoc2 : oc.1 = 3 ∨ oc.1 = 1 ∨ oc.1 = 2 := by simpa [h0] using hoc
    have ho : wout false oc o = o := if_neg h0
    rcases hoc2 with e | e | e
    · have hw : wcode [3, 1, 2] oc.1 = 1 := by rw [e]; decide
      rw [hw, ho] at hR
      rw [e]
      refine b_catch C E 3 (by decide) [] ⟨0, 10, 13, 21⟩ [⟨0, 10, 17, 13⟩, ⟨0, 10, 21, 15⟩] rfl (fun z hz => nomatch hz) rfl (by decide) kL_read_e3 (fun q9 => ?_)
      refine b_astore (lv' := [(4, .ref q9), (0, .ref (ad X (9))), (1, .int (a0)), (2, .int (a1)), (3, .ref (ad X (5)))]) C dL_read_13 (by decide) rfl ?_
      refine b_iconst C (v := 1) dL_read_15 (by decide) ?_
      exact hR _ _ _ _ dL_read_16 rfl
    · have hw : wcode [3, 1, 2] oc.1 = 2 := by rw [e]; decide
      rw [hw, ho] at hR
      rw [e]
      refine b_catch C E 1 (by decide) [⟨0, 10, 13, 21⟩] ⟨0, 10, 17, 13⟩ [⟨0, 10, 21, 15⟩] rfl (fun z hz => by rw [List.mem_singleton.mp hz]; exact ⟨by decide, 3, by decide, by decide, kL_read_e3⟩) rfl (by decide) kL_read_e1 (fun q9 => ?_)
      refine b_astore (lv' := [(4, .ref q9), (0, .ref (ad X (9))), (1, .int (a0)), (2, .int (a1)), (3, .ref (ad X (5)))]) C dL_read_17 (by decide) rfl ?_
      refine b_iconst C (v := 2) dL_read_19 (by decide) ?_
      exact hR _ _ _ _ dL_read_20 rfl
    · have hw : wcode [3, 1, 2] oc.1 = 3 := by rw [e]; decide
      rw [hw, ho] at hR
      rw [e]
      refine b_catch C E 2 (by decide) [⟨0, 10, 13, 21⟩, ⟨0, 10, 17, 13⟩] ⟨0, 10, 21, 15⟩ [] rfl (fun z hz => by
        rcases List.mem_cons.mp hz with rfl | hz
        · exact ⟨by decide, 3, by decide, by decide, kL_read_e3⟩
        rw [List.mem_singleton.mp hz]; exact ⟨by decide, 1, by decide, by decide, kL_read_e1⟩) rfl (by decide) kL_read_e2 (fun q9 => ?_)
      refine b_astore (lv' := [(4, .ref q9), (0, .ref (ad X (9))), (1, .int (a0)), (2, .int (a1)), (3, .ref (ad X (5)))]) C dL_read_21 (by decide) rfl ?_
      refine b_iconst C (v := 3) dL_read_23 (by decide) ?_
      exact hR _ _ _ _ dL_read_24 rfl
theorem kL_goOn_e2 : Cond.classLink RL 15 (exN 2) ∈ wsL_goOn := by decide +kernel
theorem kL_goOn_e3 : Cond.classLink RL 21 (exN 3) ∈ wsL_goOn := by decide +kernel
set_option maxHeartbeats 4000000 in
set_option maxRecDepth 100000 in
theorem c_L_goOn (a0 : Int32) (l : Launch) (hfl : l.stackTraces = false) : Ctw l yL_goOn wsL_goOn 7 110 (fun G => [.ref (G.1 (9)), .int (a0), .ref (G.1 (5))]) (f_X9_goOn a0) [3, 2] false := by
  refine mk_w (cc := cL_goOn) (nL := 4) (hh := [(0, 9, 12, 21), (0, 9, 15, 15)]) hfl (by decide) rfl rfl (fun _ => Nat.le_of_ble_eq_true rfl) (fun X o σ oc u C E hR hf hoc => ?_)
  show Bk X 4 o 0 0 0 [(0, .ref (ad X (9))), (1, .int (a0)), (2, .ref (ad X (5)))] [] σ
  refine b_aload_n C dL_goOn_0 rfl 2 rfl ?_
  refine b_iconst C (v := 0) dL_goOn_1 (by decide) ?_
  refine b_aload_n C dL_goOn_2 rfl 0 rfl ?_
  refine b_iload_n C dL_goOn_3 rfl 1 rfl ?_
  refine b_callE (n := 1) C E (fun _ => [.int a0]) (c_X9_goOn a0) hf gL_goOn_X9_goOn rfl (by decide +kernel) rfl (by decide) (by decide) (Nat.le_of_ble_eq_true rfl) dL_goOn_4 (fun r hr => ?_) (fun h0 => ?_)
  · subst hr
    have hR : Rw X cL_goOn 4 0 (u, r.toInt64) := hR
    refine b_i2l C dL_goOn_7 ?_
    refine b_last C dL_goOn_8 ?_
    refine b_goto C 18 dL_goOn_9 (by decide) ?_
    refine b_iconst C (v := 0) dL_goOn_18 (by decide) ?_
    exact hR _ _ _ _ dL_goOn_19 rfl
  · have hoc2 : oc.1 = 3 ∨ oc.1 = 2 := by simpa [h0] using hoc
    have ho : wout false oc o = o := if_neg h0
    rcases hoc2 with e | e
    · have hw : wcode [3, 2] oc.1 = 1 := by rw [e]; decide
      rw [hw, ho] at hR
      rw [e]
      refine b_catch C E 3 (by decide) [] ⟨0, 9, 12, 21⟩ [⟨0, 9, 15, 15⟩] rfl (fun z hz => nomatch hz) rfl (by decide) kL_goOn_e3 (fun q9 => ?_)
      refine b_astore_n (lv' := [(3, .ref q9), (0, .ref (ad X (9))), (1, .int (a0)), (2, .ref (ad X (5)))]) C dL_goOn_12 rfl (by decide) rfl ?_
      refine b_iconst C (v := 1) dL_goOn_13 (by decide) ?_
      exact hR _ _ _ _ dL_goOn_14 rfl
    · have hw : wcode [3, 2] oc.1 = 2 := by rw [e]; decide
      rw [hw, ho] at hR
      rw [e]
      refine b_catch C E 2 (by decide) [⟨0, 9, 12, 21⟩] ⟨0, 9, 15, 15⟩ [] rfl (fun z hz => by rw [List.mem_singleton.mp hz]; exact ⟨by decide, 3, by decide, by decide, kL_goOn_e3⟩) rfl (by decide) kL_goOn_e2 (fun q9 => ?_)
      refine b_astore_n (lv' := [(3, .ref q9), (0, .ref (ad X (9))), (1, .int (a0)), (2, .ref (ad X (5)))]) C dL_goOn_15 rfl (by decide) rfl ?_
      refine b_iconst C (v := 2) dL_goOn_16 (by decide) ?_
      exact hR _ _ _ _ dL_goOn_17 rfl
theorem kL_lines_e1 : Cond.classLink RL 13 (exN 1) ∈ wsL_lines := by decide +kernel
theorem kL_lines_e2 : Cond.classLink RL 15 (exN 2) ∈ wsL_lines := by decide +kernel
set_option maxHeartbeats 4000000 in
set_option maxRecDepth 100000 in
theorem c_L_lines (a0 a1 a2 : Int32) (l : Launch) (hfl : l.stackTraces = false) : Ctw l yL_lines wsL_lines 7 160 (fun G => [.ref (G.1 (9)), .int (a0), .int (a1), .int (a2), .ref (G.1 (5))]) (f_X9_lines a0 a1 a2) [1, 2] false := by
  refine mk_w (cc := cL_lines) (nL := 6) (hh := [(0, 12, 15, 13), (0, 12, 19, 15)]) hfl (by decide) rfl rfl (fun _ => Nat.le_of_ble_eq_true rfl) (fun X o σ oc u C E hR hf hoc => ?_)
  show Bk X 6 o 0 0 0 [(0, .ref (ad X (9))), (1, .int (a0)), (2, .int (a1)), (3, .int (a2)), (4, .ref (ad X (5)))] [] σ
  refine b_aload C dL_lines_0 4 rfl ?_
  refine b_iconst C (v := 0) dL_lines_2 (by decide) ?_
  refine b_aload_n C dL_lines_3 rfl 0 rfl ?_
  refine b_iload_n C dL_lines_4 rfl 1 rfl ?_
  refine b_iload_n C dL_lines_5 rfl 2 rfl ?_
  refine b_iload_n C dL_lines_6 rfl 3 rfl ?_
  refine b_callE (n := 3) C E (fun _ => [.int a0, .int a1, .int a2]) (c_X9_lines a0 a1 a2) hf gL_lines_X9_lines rfl (by decide +kernel) rfl (by decide) (by decide) (Nat.le_of_ble_eq_true rfl) dL_lines_7 (fun r hr => ?_) (fun h0 => ?_)
  · subst hr
    have hR : Rw X cL_lines 6 0 (u, r.toInt64) := hR
    refine b_i2l C dL_lines_10 ?_
    refine b_last C dL_lines_11 ?_
    refine b_goto C 23 dL_lines_12 (by decide) ?_
    refine b_iconst C (v := 0) dL_lines_23 (by decide) ?_
    exact hR _ _ _ _ dL_lines_24 rfl
  · have hoc2 : oc.1 = 1 ∨ oc.1 = 2 := by simpa [h0] using hoc
    have ho : wout false oc o = o := if_neg h0
    rcases hoc2 with e | e
    · have hw : wcode [1, 2] oc.1 = 1 := by rw [e]; decide
      rw [hw, ho] at hR
      rw [e]
      refine b_catch C E 1 (by decide) [] ⟨0, 12, 15, 13⟩ [⟨0, 12, 19, 15⟩] rfl (fun z hz => nomatch hz) rfl (by decide) kL_lines_e1 (fun q9 => ?_)
      refine b_astore (lv' := [(5, .ref q9), (0, .ref (ad X (9))), (1, .int (a0)), (2, .int (a1)), (3, .int (a2)), (4, .ref (ad X (5)))]) C dL_lines_15 (by decide) rfl ?_
      refine b_iconst C (v := 1) dL_lines_17 (by decide) ?_
      exact hR _ _ _ _ dL_lines_18 rfl
    · have hw : wcode [1, 2] oc.1 = 2 := by rw [e]; decide
      rw [hw, ho] at hR
      rw [e]
      refine b_catch C E 2 (by decide) [⟨0, 12, 15, 13⟩] ⟨0, 12, 19, 15⟩ [] rfl (fun z hz => by rw [List.mem_singleton.mp hz]; exact ⟨by decide, 1, by decide, by decide, kL_lines_e1⟩) rfl (by decide) kL_lines_e2 (fun q9 => ?_)
      refine b_astore (lv' := [(5, .ref q9), (0, .ref (ad X (9))), (1, .int (a0)), (2, .int (a1)), (3, .int (a2)), (4, .ref (ad X (5)))]) C dL_lines_19 (by decide) rfl ?_
      refine b_iconst C (v := 2) dL_lines_21 (by decide) ?_
      exact hR _ _ _ _ dL_lines_22 rfl
theorem kL_release_e2 : Cond.classLink RL 15 (exN 2) ∈ wsL_release := by decide +kernel
set_option maxHeartbeats 4000000 in
set_option maxRecDepth 100000 in
theorem c_L_release (l : Launch) (hfl : l.stackTraces = false) : Ctw l yL_release wsL_release 7 160 (fun G => [.ref (G.1 (9)), .ref (G.1 (5))]) (f_X9_release ) [2] false := by
  refine mk_w (cc := cL_release) (nL := 3) (hh := [(0, 8, 11, 15)]) hfl (by decide) rfl rfl (fun _ => Nat.le_of_ble_eq_true rfl) (fun X o σ oc u C E hR hf hoc => ?_)
  show Bk X 3 o 0 0 0 [(0, .ref (ad X (9))), (1, .ref (ad X (5)))] [] σ
  refine b_aload_n C dL_release_0 rfl 1 rfl ?_
  refine b_iconst C (v := 0) dL_release_1 (by decide) ?_
  refine b_aload_n C dL_release_2 rfl 0 rfl ?_
  refine b_callE (n := 0) C E (fun _ => []) (c_X9_release ) hf gL_release_X9_release rfl (by decide +kernel) rfl (by decide) (by decide) (Nat.le_of_ble_eq_true rfl) dL_release_3 (fun r hr => ?_) (fun h0 => ?_)
  · subst hr
    have hR : Rw X cL_release 3 0 (u, r.toInt64) := hR
    refine b_i2l C dL_release_6 ?_
    refine b_last C dL_release_7 ?_
    refine b_goto C 14 dL_release_8 (by decide) ?_
    refine b_iconst C (v := 0) dL_release_14 (by decide) ?_
    exact hR _ _ _ _ dL_release_15 rfl
  · have hoc2 : oc.1 = 2 := by simpa [h0] using hoc
    have ho : wout false oc o = o := if_neg h0
    have e := hoc2
    have hw : wcode [2] oc.1 = 1 := by rw [e]; decide
    rw [hw, ho] at hR
    rw [e]
    refine b_catch C E 2 (by decide) [] ⟨0, 8, 11, 15⟩ [] rfl (fun z hz => nomatch hz) rfl (by decide) kL_release_e2 (fun q9 => ?_)
    refine b_astore_n (lv' := [(2, .ref q9), (0, .ref (ad X (9))), (1, .ref (ad X (5)))]) C dL_release_11 rfl (by decide) rfl ?_
    refine b_iconst C (v := 1) dL_release_12 (by decide) ?_
    exact hR _ _ _ _ dL_release_13 rfl
theorem kL_appeal_e2 : Cond.classLink RL 15 (exN 2) ∈ wsL_appeal := by decide +kernel
theorem kL_appeal_e3 : Cond.classLink RL 21 (exN 3) ∈ wsL_appeal := by decide +kernel
set_option maxHeartbeats 4000000 in
set_option maxRecDepth 100000 in
theorem c_L_appeal (a0 a1 : Int32) (l : Launch) (hfl : l.stackTraces = false) : Ctw l yL_appeal wsL_appeal 7 112 (fun G => [.ref (G.1 (9)), .int (a0), .int (a1), .ref (G.1 (5))]) (f_X9_appeal a0 a1) [3, 2] false := by
  refine mk_w (cc := cL_appeal) (nL := 5) (hh := [(0, 10, 13, 21), (0, 10, 17, 15)]) hfl (by decide) rfl rfl (fun _ => Nat.le_of_ble_eq_true rfl) (fun X o σ oc u C E hR hf hoc => ?_)
  show Bk X 5 o 0 0 0 [(0, .ref (ad X (9))), (1, .int (a0)), (2, .int (a1)), (3, .ref (ad X (5)))] [] σ
  refine b_aload_n C dL_appeal_0 rfl 3 rfl ?_
  refine b_iconst C (v := 0) dL_appeal_1 (by decide) ?_
  refine b_aload_n C dL_appeal_2 rfl 0 rfl ?_
  refine b_iload_n C dL_appeal_3 rfl 1 rfl ?_
  refine b_iload_n C dL_appeal_4 rfl 2 rfl ?_
  refine b_callE (n := 2) C E (fun _ => [.int a0, .int a1]) (c_X9_appeal a0 a1) hf gL_appeal_X9_appeal rfl (by decide +kernel) rfl (by decide) (by decide) (Nat.le_of_ble_eq_true rfl) dL_appeal_5 (fun r hr => ?_) (fun h0 => ?_)
  · subst hr
    have hR : Rw X cL_appeal 5 0 (u, r.toInt64) := hR
    refine b_i2l C dL_appeal_8 ?_
    refine b_last C dL_appeal_9 ?_
    refine b_goto C 21 dL_appeal_10 (by decide) ?_
    refine b_iconst C (v := 0) dL_appeal_21 (by decide) ?_
    exact hR _ _ _ _ dL_appeal_22 rfl
  · have hoc2 : oc.1 = 3 ∨ oc.1 = 2 := by simpa [h0] using hoc
    have ho : wout false oc o = o := if_neg h0
    rcases hoc2 with e | e
    · have hw : wcode [3, 2] oc.1 = 1 := by rw [e]; decide
      rw [hw, ho] at hR
      rw [e]
      refine b_catch C E 3 (by decide) [] ⟨0, 10, 13, 21⟩ [⟨0, 10, 17, 15⟩] rfl (fun z hz => nomatch hz) rfl (by decide) kL_appeal_e3 (fun q9 => ?_)
      refine b_astore (lv' := [(4, .ref q9), (0, .ref (ad X (9))), (1, .int (a0)), (2, .int (a1)), (3, .ref (ad X (5)))]) C dL_appeal_13 (by decide) rfl ?_
      refine b_iconst C (v := 1) dL_appeal_15 (by decide) ?_
      exact hR _ _ _ _ dL_appeal_16 rfl
    · have hw : wcode [3, 2] oc.1 = 2 := by rw [e]; decide
      rw [hw, ho] at hR
      rw [e]
      refine b_catch C E 2 (by decide) [⟨0, 10, 13, 21⟩] ⟨0, 10, 17, 15⟩ [] rfl (fun z hz => by rw [List.mem_singleton.mp hz]; exact ⟨by decide, 3, by decide, by decide, kL_appeal_e3⟩) rfl (by decide) kL_appeal_e2 (fun q9 => ?_)
      refine b_astore (lv' := [(4, .ref q9), (0, .ref (ad X (9))), (1, .int (a0)), (2, .int (a1)), (3, .ref (ad X (5)))]) C dL_appeal_17 (by decide) rfl ?_
      refine b_iconst C (v := 2) dL_appeal_19 (by decide) ?_
      exact hR _ _ _ _ dL_appeal_20 rfl
theorem kL_versions_e3 : Cond.classLink RL 21 (exN 3) ∈ wsL_versions := by decide +kernel
set_option maxHeartbeats 4000000 in
set_option maxRecDepth 100000 in
theorem c_L_versions (a0 : Int32) (l : Launch) (hfl : l.stackTraces = false) : Ctw l yL_versions wsL_versions 7 110 (fun G => [.ref (G.1 (9)), .int (a0), .ref (G.1 (5))]) (f_X9_versions a0) [3] false := by
  refine mk_w (cc := cL_versions) (nL := 4) (hh := [(0, 9, 12, 21)]) hfl (by decide) rfl rfl (fun _ => Nat.le_of_ble_eq_true rfl) (fun X o σ oc u C E hR hf hoc => ?_)
  show Bk X 4 o 0 0 0 [(0, .ref (ad X (9))), (1, .int (a0)), (2, .ref (ad X (5)))] [] σ
  refine b_aload_n C dL_versions_0 rfl 2 rfl ?_
  refine b_iconst C (v := 0) dL_versions_1 (by decide) ?_
  refine b_aload_n C dL_versions_2 rfl 0 rfl ?_
  refine b_iload_n C dL_versions_3 rfl 1 rfl ?_
  refine b_callE (n := 1) C E (fun _ => [.int a0]) (c_X9_versions a0) hf gL_versions_X9_versions rfl (by decide +kernel) rfl (by decide) (by decide) (Nat.le_of_ble_eq_true rfl) dL_versions_4 (fun r hr => ?_) (fun h0 => ?_)
  · subst hr
    have hR : Rw X cL_versions 4 0 (u, r.toInt64) := hR
    refine b_i2l C dL_versions_7 ?_
    refine b_last C dL_versions_8 ?_
    refine b_goto C 15 dL_versions_9 (by decide) ?_
    refine b_iconst C (v := 0) dL_versions_15 (by decide) ?_
    exact hR _ _ _ _ dL_versions_16 rfl
  · have hoc2 : oc.1 = 3 := by simpa [h0] using hoc
    have ho : wout false oc o = o := if_neg h0
    have e := hoc2
    have hw : wcode [3] oc.1 = 1 := by rw [e]; decide
    rw [hw, ho] at hR
    rw [e]
    refine b_catch C E 3 (by decide) [] ⟨0, 9, 12, 21⟩ [] rfl (fun z hz => nomatch hz) rfl (by decide) kL_versions_e3 (fun q9 => ?_)
    refine b_astore_n (lv' := [(3, .ref q9), (0, .ref (ad X (9))), (1, .int (a0)), (2, .ref (ad X (5)))]) C dL_versions_12 rfl (by decide) rfl ?_
    refine b_iconst C (v := 1) dL_versions_13 (by decide) ?_
    exact hR _ _ _ _ dL_versions_14 rfl
theorem kL_markOf_e1 : Cond.classLink RL 13 (exN 1) ∈ wsL_markOf := by decide +kernel
theorem kL_markOf_e3 : Cond.classLink RL 21 (exN 3) ∈ wsL_markOf := by decide +kernel
set_option maxHeartbeats 4000000 in
set_option maxRecDepth 100000 in
theorem c_L_markOf (a0 a1 a2 : Int32) (l : Launch) (hfl : l.stackTraces = false) : Ctw l yL_markOf wsL_markOf 7 112 (fun G => [.ref (G.1 (9)), .int (a0), .int (a1), .int (a2), .ref (G.1 (5))]) (f_X9_markOf a0 a1 a2) [3, 1] false := by
  refine mk_w (cc := cL_markOf) (nL := 6) (hh := [(0, 12, 15, 21), (0, 12, 19, 13)]) hfl (by decide) rfl rfl (fun _ => Nat.le_of_ble_eq_true rfl) (fun X o σ oc u C E hR hf hoc => ?_)
  show Bk X 6 o 0 0 0 [(0, .ref (ad X (9))), (1, .int (a0)), (2, .int (a1)), (3, .int (a2)), (4, .ref (ad X (5)))] [] σ
  refine b_aload C dL_markOf_0 4 rfl ?_
  refine b_iconst C (v := 0) dL_markOf_2 (by decide) ?_
  refine b_aload_n C dL_markOf_3 rfl 0 rfl ?_
  refine b_iload_n C dL_markOf_4 rfl 1 rfl ?_
  refine b_iload_n C dL_markOf_5 rfl 2 rfl ?_
  refine b_iload_n C dL_markOf_6 rfl 3 rfl ?_
  refine b_callE (n := 3) C E (fun _ => [.int a0, .int a1, .int a2]) (c_X9_markOf a0 a1 a2) hf gL_markOf_X9_markOf rfl (by decide +kernel) rfl (by decide) (by decide) (Nat.le_of_ble_eq_true rfl) dL_markOf_7 (fun r hr => ?_) (fun h0 => ?_)
  · subst hr
    have hR : Rw X cL_markOf 6 0 (u, r.toInt64) := hR
    refine b_i2l C dL_markOf_10 ?_
    refine b_last C dL_markOf_11 ?_
    refine b_goto C 23 dL_markOf_12 (by decide) ?_
    refine b_iconst C (v := 0) dL_markOf_23 (by decide) ?_
    exact hR _ _ _ _ dL_markOf_24 rfl
  · have hoc2 : oc.1 = 3 ∨ oc.1 = 1 := by simpa [h0] using hoc
    have ho : wout false oc o = o := if_neg h0
    rcases hoc2 with e | e
    · have hw : wcode [3, 1] oc.1 = 1 := by rw [e]; decide
      rw [hw, ho] at hR
      rw [e]
      refine b_catch C E 3 (by decide) [] ⟨0, 12, 15, 21⟩ [⟨0, 12, 19, 13⟩] rfl (fun z hz => nomatch hz) rfl (by decide) kL_markOf_e3 (fun q9 => ?_)
      refine b_astore (lv' := [(5, .ref q9), (0, .ref (ad X (9))), (1, .int (a0)), (2, .int (a1)), (3, .int (a2)), (4, .ref (ad X (5)))]) C dL_markOf_15 (by decide) rfl ?_
      refine b_iconst C (v := 1) dL_markOf_17 (by decide) ?_
      exact hR _ _ _ _ dL_markOf_18 rfl
    · have hw : wcode [3, 1] oc.1 = 2 := by rw [e]; decide
      rw [hw, ho] at hR
      rw [e]
      refine b_catch C E 1 (by decide) [⟨0, 12, 15, 21⟩] ⟨0, 12, 19, 13⟩ [] rfl (fun z hz => by rw [List.mem_singleton.mp hz]; exact ⟨by decide, 3, by decide, by decide, kL_markOf_e3⟩) rfl (by decide) kL_markOf_e1 (fun q9 => ?_)
      refine b_astore (lv' := [(5, .ref q9), (0, .ref (ad X (9))), (1, .int (a0)), (2, .int (a1)), (3, .int (a2)), (4, .ref (ad X (5)))]) C dL_markOf_19 (by decide) rfl ?_
      refine b_iconst C (v := 2) dL_markOf_21 (by decide) ?_
      exact hR _ _ _ _ dL_markOf_22 rfl
theorem kL_written_e3 : Cond.classLink RL 21 (exN 3) ∈ wsL_written := by decide +kernel
set_option maxHeartbeats 4000000 in
set_option maxRecDepth 100000 in
theorem c_L_written (a0 a1 a2 : Int32) (l : Launch) (hfl : l.stackTraces = false) : Ctw l yL_written wsL_written 7 112 (fun G => [.ref (G.1 (9)), .int (a0), .int (a1), .int (a2), .ref (G.1 (5))]) (f_X9_written a0 a1 a2) [3] false := by
  refine mk_w (cc := cL_written) (nL := 6) (hh := [(0, 12, 15, 21)]) hfl (by decide) rfl rfl (fun _ => Nat.le_of_ble_eq_true rfl) (fun X o σ oc u C E hR hf hoc => ?_)
  show Bk X 6 o 0 0 0 [(0, .ref (ad X (9))), (1, .int (a0)), (2, .int (a1)), (3, .int (a2)), (4, .ref (ad X (5)))] [] σ
  refine b_aload C dL_written_0 4 rfl ?_
  refine b_iconst C (v := 0) dL_written_2 (by decide) ?_
  refine b_aload_n C dL_written_3 rfl 0 rfl ?_
  refine b_iload_n C dL_written_4 rfl 1 rfl ?_
  refine b_iload_n C dL_written_5 rfl 2 rfl ?_
  refine b_iload_n C dL_written_6 rfl 3 rfl ?_
  refine b_callE (n := 3) C E (fun _ => [.int a0, .int a1, .int a2]) (c_X9_written a0 a1 a2) hf gL_written_X9_written rfl (by decide +kernel) rfl (by decide) (by decide) (Nat.le_of_ble_eq_true rfl) dL_written_7 (fun r hr => ?_) (fun h0 => ?_)
  · subst hr
    have hR : Rw X cL_written 6 0 (u, r.toInt64) := hR
    refine b_i2l C dL_written_10 ?_
    refine b_last C dL_written_11 ?_
    refine b_goto C 19 dL_written_12 (by decide) ?_
    refine b_iconst C (v := 0) dL_written_19 (by decide) ?_
    exact hR _ _ _ _ dL_written_20 rfl
  · have hoc2 : oc.1 = 3 := by simpa [h0] using hoc
    have ho : wout false oc o = o := if_neg h0
    have e := hoc2
    have hw : wcode [3] oc.1 = 1 := by rw [e]; decide
    rw [hw, ho] at hR
    rw [e]
    refine b_catch C E 3 (by decide) [] ⟨0, 12, 15, 21⟩ [] rfl (fun z hz => nomatch hz) rfl (by decide) kL_written_e3 (fun q9 => ?_)
    refine b_astore (lv' := [(5, .ref q9), (0, .ref (ad X (9))), (1, .int (a0)), (2, .int (a1)), (3, .int (a2)), (4, .ref (ad X (5)))]) C dL_written_15 (by decide) rfl ?_
    refine b_iconst C (v := 1) dL_written_17 (by decide) ?_
    exact hR _ _ _ _ dL_written_18 rfl
theorem kL_mark_e3 : Cond.classLink RL 21 (exN 3) ∈ wsL_mark := by decide +kernel
set_option maxHeartbeats 4000000 in
set_option maxRecDepth 100000 in
theorem c_L_mark (a0 a1 : Int32) (l : Launch) (hfl : l.stackTraces = false) : Ctw l yL_mark wsL_mark 7 111 (fun G => [.ref (G.1 (9)), .int (a0), .int (a1), .ref (G.1 (5))]) (f_X9_mark a0 a1) [3] false := by
  refine mk_w (cc := cL_mark) (nL := 5) (hh := [(0, 10, 13, 21)]) hfl (by decide) rfl rfl (fun _ => Nat.le_of_ble_eq_true rfl) (fun X o σ oc u C E hR hf hoc => ?_)
  show Bk X 5 o 0 0 0 [(0, .ref (ad X (9))), (1, .int (a0)), (2, .int (a1)), (3, .ref (ad X (5)))] [] σ
  refine b_aload_n C dL_mark_0 rfl 3 rfl ?_
  refine b_iconst C (v := 0) dL_mark_1 (by decide) ?_
  refine b_aload_n C dL_mark_2 rfl 0 rfl ?_
  refine b_iload_n C dL_mark_3 rfl 1 rfl ?_
  refine b_iload_n C dL_mark_4 rfl 2 rfl ?_
  refine b_callE (n := 2) C E (fun _ => [.int a0, .int a1]) (c_X9_mark a0 a1) hf gL_mark_X9_mark rfl (by decide +kernel) rfl (by decide) (by decide) (Nat.le_of_ble_eq_true rfl) dL_mark_5 (fun r hr => ?_) (fun h0 => ?_)
  · subst hr
    have hR : Rw X cL_mark 5 0 (u, r.toInt64) := hR
    refine b_i2l C dL_mark_8 ?_
    refine b_last C dL_mark_9 ?_
    refine b_goto C 17 dL_mark_10 (by decide) ?_
    refine b_iconst C (v := 0) dL_mark_17 (by decide) ?_
    exact hR _ _ _ _ dL_mark_18 rfl
  · have hoc2 : oc.1 = 3 := by simpa [h0] using hoc
    have ho : wout false oc o = o := if_neg h0
    have e := hoc2
    have hw : wcode [3] oc.1 = 1 := by rw [e]; decide
    rw [hw, ho] at hR
    rw [e]
    refine b_catch C E 3 (by decide) [] ⟨0, 10, 13, 21⟩ [] rfl (fun z hz => nomatch hz) rfl (by decide) kL_mark_e3 (fun q9 => ?_)
    refine b_astore (lv' := [(4, .ref q9), (0, .ref (ad X (9))), (1, .int (a0)), (2, .int (a1)), (3, .ref (ad X (5)))]) C dL_mark_13 (by decide) rfl ?_
    refine b_iconst C (v := 1) dL_mark_15 (by decide) ?_
    exact hR _ _ _ _ dL_mark_16 rfl
theorem kL_markAnew_e3 : Cond.classLink RL 21 (exN 3) ∈ wsL_markAnew := by decide +kernel
set_option maxHeartbeats 4000000 in
set_option maxRecDepth 100000 in
theorem c_L_markAnew (a0 a1 : Int32) (l : Launch) (hfl : l.stackTraces = false) : Ctw l yL_markAnew wsL_markAnew 7 166 (fun G => [.ref (G.1 (9)), .int (a0), .int (a1), .ref (G.1 (5))]) (f_X9_markAnew a0 a1) [3] false := by
  refine mk_w (cc := cL_markAnew) (nL := 5) (hh := [(0, 10, 13, 21)]) hfl (by decide) rfl rfl (fun _ => Nat.le_of_ble_eq_true rfl) (fun X o σ oc u C E hR hf hoc => ?_)
  show Bk X 5 o 0 0 0 [(0, .ref (ad X (9))), (1, .int (a0)), (2, .int (a1)), (3, .ref (ad X (5)))] [] σ
  refine b_aload_n C dL_markAnew_0 rfl 3 rfl ?_
  refine b_iconst C (v := 0) dL_markAnew_1 (by decide) ?_
  refine b_aload_n C dL_markAnew_2 rfl 0 rfl ?_
  refine b_iload_n C dL_markAnew_3 rfl 1 rfl ?_
  refine b_iload_n C dL_markAnew_4 rfl 2 rfl ?_
  refine b_callE (n := 2) C E (fun _ => [.int a0, .int a1]) (c_X9_markAnew a0 a1) hf gL_markAnew_X9_markAnew rfl (by decide +kernel) rfl (by decide) (by decide) (Nat.le_of_ble_eq_true rfl) dL_markAnew_5 (fun r hr => ?_) (fun h0 => ?_)
  · subst hr
    have hR : Rw X cL_markAnew 5 0 (u, r.toInt64) := hR
    refine b_i2l C dL_markAnew_8 ?_
    refine b_last C dL_markAnew_9 ?_
    refine b_goto C 17 dL_markAnew_10 (by decide) ?_
    refine b_iconst C (v := 0) dL_markAnew_17 (by decide) ?_
    exact hR _ _ _ _ dL_markAnew_18 rfl
  · have hoc2 : oc.1 = 3 := by simpa [h0] using hoc
    have ho : wout false oc o = o := if_neg h0
    have e := hoc2
    have hw : wcode [3] oc.1 = 1 := by rw [e]; decide
    rw [hw, ho] at hR
    rw [e]
    refine b_catch C E 3 (by decide) [] ⟨0, 10, 13, 21⟩ [] rfl (fun z hz => nomatch hz) rfl (by decide) kL_markAnew_e3 (fun q9 => ?_)
    refine b_astore (lv' := [(4, .ref q9), (0, .ref (ad X (9))), (1, .int (a0)), (2, .int (a1)), (3, .ref (ad X (5)))]) C dL_markAnew_13 (by decide) rfl ?_
    refine b_iconst C (v := 1) dL_markAnew_15 (by decide) ?_
    exact hR _ _ _ _ dL_markAnew_16 rfl
theorem kL_answer_e1 : Cond.classLink RL 13 (exN 1) ∈ wsL_answer := by decide +kernel
theorem kL_answer_e3 : Cond.classLink RL 21 (exN 3) ∈ wsL_answer := by decide +kernel
set_option maxHeartbeats 4000000 in
set_option maxRecDepth 100000 in
theorem c_L_answer (a0 a1 a2 : Int32) (l : Launch) (hfl : l.stackTraces = false) : Ctw l yL_answer wsL_answer 7 112 (fun G => [.ref (G.1 (9)), .int (a0), .int (a1), .int (a2), .ref (G.1 (5))]) (f_X9_answer a0 a1 a2) [3, 1] false := by
  refine mk_w (cc := cL_answer) (nL := 6) (hh := [(0, 12, 15, 21), (0, 12, 19, 13)]) hfl (by decide) rfl rfl (fun _ => Nat.le_of_ble_eq_true rfl) (fun X o σ oc u C E hR hf hoc => ?_)
  show Bk X 6 o 0 0 0 [(0, .ref (ad X (9))), (1, .int (a0)), (2, .int (a1)), (3, .int (a2)), (4, .ref (ad X (5)))] [] σ
  refine b_aload C dL_answer_0 4 rfl ?_
  refine b_iconst C (v := 0) dL_answer_2 (by decide) ?_
  refine b_aload_n C dL_answer_3 rfl 0 rfl ?_
  refine b_iload_n C dL_answer_4 rfl 1 rfl ?_
  refine b_iload_n C dL_answer_5 rfl 2 rfl ?_
  refine b_iload_n C dL_answer_6 rfl 3 rfl ?_
  refine b_callE (n := 3) C E (fun _ => [.int a0, .int a1, .int a2]) (c_X9_answer a0 a1 a2) hf gL_answer_X9_answer rfl (by decide +kernel) rfl (by decide) (by decide) (Nat.le_of_ble_eq_true rfl) dL_answer_7 (fun r hr => ?_) (fun h0 => ?_)
  · subst hr
    have hR : Rw X cL_answer 6 0 (u, r.toInt64) := hR
    refine b_i2l C dL_answer_10 ?_
    refine b_last C dL_answer_11 ?_
    refine b_goto C 23 dL_answer_12 (by decide) ?_
    refine b_iconst C (v := 0) dL_answer_23 (by decide) ?_
    exact hR _ _ _ _ dL_answer_24 rfl
  · have hoc2 : oc.1 = 3 ∨ oc.1 = 1 := by simpa [h0] using hoc
    have ho : wout false oc o = o := if_neg h0
    rcases hoc2 with e | e
    · have hw : wcode [3, 1] oc.1 = 1 := by rw [e]; decide
      rw [hw, ho] at hR
      rw [e]
      refine b_catch C E 3 (by decide) [] ⟨0, 12, 15, 21⟩ [⟨0, 12, 19, 13⟩] rfl (fun z hz => nomatch hz) rfl (by decide) kL_answer_e3 (fun q9 => ?_)
      refine b_astore (lv' := [(5, .ref q9), (0, .ref (ad X (9))), (1, .int (a0)), (2, .int (a1)), (3, .int (a2)), (4, .ref (ad X (5)))]) C dL_answer_15 (by decide) rfl ?_
      refine b_iconst C (v := 1) dL_answer_17 (by decide) ?_
      exact hR _ _ _ _ dL_answer_18 rfl
    · have hw : wcode [3, 1] oc.1 = 2 := by rw [e]; decide
      rw [hw, ho] at hR
      rw [e]
      refine b_catch C E 1 (by decide) [⟨0, 12, 15, 21⟩] ⟨0, 12, 19, 13⟩ [] rfl (fun z hz => by rw [List.mem_singleton.mp hz]; exact ⟨by decide, 3, by decide, by decide, kL_answer_e3⟩) rfl (by decide) kL_answer_e1 (fun q9 => ?_)
      refine b_astore (lv' := [(5, .ref q9), (0, .ref (ad X (9))), (1, .int (a0)), (2, .int (a1)), (3, .int (a2)), (4, .ref (ad X (5)))]) C dL_answer_19 (by decide) rfl ?_
      refine b_iconst C (v := 2) dL_answer_21 (by decide) ?_
      exact hR _ _ _ _ dL_answer_22 rfl
theorem kL_total_e3 : Cond.classLink RL 21 (exN 3) ∈ wsL_total := by decide +kernel
set_option maxHeartbeats 4000000 in
set_option maxRecDepth 100000 in
theorem c_L_total (a0 : Int32) (l : Launch) (hfl : l.stackTraces = false) : Ctw l yL_total wsL_total 7 135 (fun G => [.ref (G.1 (9)), .int (a0), .ref (G.1 (5))]) (f_X9_total a0) [3] false := by
  refine mk_w (cc := cL_total) (nL := 4) (hh := [(0, 9, 12, 21)]) hfl (by decide) rfl rfl (fun _ => Nat.le_of_ble_eq_true rfl) (fun X o σ oc u C E hR hf hoc => ?_)
  show Bk X 4 o 0 0 0 [(0, .ref (ad X (9))), (1, .int (a0)), (2, .ref (ad X (5)))] [] σ
  refine b_aload_n C dL_total_0 rfl 2 rfl ?_
  refine b_iconst C (v := 0) dL_total_1 (by decide) ?_
  refine b_aload_n C dL_total_2 rfl 0 rfl ?_
  refine b_iload_n C dL_total_3 rfl 1 rfl ?_
  refine b_callE (n := 1) C E (fun _ => [.int a0]) (c_X9_total a0) hf gL_total_X9_total rfl (by decide +kernel) rfl (by decide) (by decide) (Nat.le_of_ble_eq_true rfl) dL_total_4 (fun r hr => ?_) (fun h0 => ?_)
  · subst hr
    have hR : Rw X cL_total 4 0 (u, r.toInt64) := hR
    refine b_i2l C dL_total_7 ?_
    refine b_last C dL_total_8 ?_
    refine b_goto C 15 dL_total_9 (by decide) ?_
    refine b_iconst C (v := 0) dL_total_15 (by decide) ?_
    exact hR _ _ _ _ dL_total_16 rfl
  · have hoc2 : oc.1 = 3 := by simpa [h0] using hoc
    have ho : wout false oc o = o := if_neg h0
    have e := hoc2
    have hw : wcode [3] oc.1 = 1 := by rw [e]; decide
    rw [hw, ho] at hR
    rw [e]
    refine b_catch C E 3 (by decide) [] ⟨0, 9, 12, 21⟩ [] rfl (fun z hz => nomatch hz) rfl (by decide) kL_total_e3 (fun q9 => ?_)
    refine b_astore_n (lv' := [(3, .ref q9), (0, .ref (ad X (9))), (1, .int (a0)), (2, .ref (ad X (5)))]) C dL_total_12 rfl (by decide) rfl ?_
    refine b_iconst C (v := 1) dL_total_13 (by decide) ?_
    exact hR _ _ _ _ dL_total_14 rfl
theorem kL_grade_e3 : Cond.classLink RL 21 (exN 3) ∈ wsL_grade := by decide +kernel
set_option maxHeartbeats 4000000 in
set_option maxRecDepth 100000 in
theorem c_L_grade (a0 a1 : Int32) (l : Launch) (hfl : l.stackTraces = false) : Ctw l yL_grade wsL_grade 7 158 (fun G => [.ref (G.1 (9)), .int (a0), .int (a1), .ref (G.1 (5))]) (f_X9_grade a0 a1) [3] false := by
  refine mk_w (cc := cL_grade) (nL := 5) (hh := [(0, 10, 13, 21)]) hfl (by decide) rfl rfl (fun _ => Nat.le_of_ble_eq_true rfl) (fun X o σ oc u C E hR hf hoc => ?_)
  show Bk X 5 o 0 0 0 [(0, .ref (ad X (9))), (1, .int (a0)), (2, .int (a1)), (3, .ref (ad X (5)))] [] σ
  refine b_aload_n C dL_grade_0 rfl 3 rfl ?_
  refine b_iconst C (v := 0) dL_grade_1 (by decide) ?_
  refine b_aload_n C dL_grade_2 rfl 0 rfl ?_
  refine b_iload_n C dL_grade_3 rfl 1 rfl ?_
  refine b_iload_n C dL_grade_4 rfl 2 rfl ?_
  refine b_callE (n := 2) C E (fun _ => [.int a0, .int a1]) (c_X9_grade a0 a1) hf gL_grade_X9_grade rfl (by decide +kernel) rfl (by decide) (by decide) (Nat.le_of_ble_eq_true rfl) dL_grade_5 (fun r hr => ?_) (fun h0 => ?_)
  · subst hr
    have hR : Rw X cL_grade 5 0 (u, r.toInt64) := hR
    refine b_i2l C dL_grade_8 ?_
    refine b_last C dL_grade_9 ?_
    refine b_goto C 17 dL_grade_10 (by decide) ?_
    refine b_iconst C (v := 0) dL_grade_17 (by decide) ?_
    exact hR _ _ _ _ dL_grade_18 rfl
  · have hoc2 : oc.1 = 3 := by simpa [h0] using hoc
    have ho : wout false oc o = o := if_neg h0
    have e := hoc2
    have hw : wcode [3] oc.1 = 1 := by rw [e]; decide
    rw [hw, ho] at hR
    rw [e]
    refine b_catch C E 3 (by decide) [] ⟨0, 10, 13, 21⟩ [] rfl (fun z hz => nomatch hz) rfl (by decide) kL_grade_e3 (fun q9 => ?_)
    refine b_astore (lv' := [(4, .ref q9), (0, .ref (ad X (9))), (1, .int (a0)), (2, .int (a1)), (3, .ref (ad X (5)))]) C dL_grade_13 (by decide) rfl ?_
    refine b_iconst C (v := 1) dL_grade_15 (by decide) ?_
    exact hR _ _ _ _ dL_grade_16 rfl
theorem kL_lineOf_e1 : Cond.classLink RL 13 (exN 1) ∈ wsL_lineOf := by decide +kernel
set_option maxHeartbeats 4000000 in
set_option maxRecDepth 100000 in
theorem c_L_lineOf (a0 : Int32) (l : Launch) (hfl : l.stackTraces = false) : Ctw l yL_lineOf wsL_lineOf 7 162 (fun G => [.ref (G.1 (9)), .int (a0), .ref (G.1 (5))]) (f_X9_lineOf a0) [1] false := by
  refine mk_w (cc := cL_lineOf) (nL := 4) (hh := [(0, 9, 12, 13)]) hfl (by decide) rfl rfl (fun _ => Nat.le_of_ble_eq_true rfl) (fun X o σ oc u C E hR hf hoc => ?_)
  show Bk X 4 o 0 0 0 [(0, .ref (ad X (9))), (1, .int (a0)), (2, .ref (ad X (5)))] [] σ
  refine b_aload_n C dL_lineOf_0 rfl 2 rfl ?_
  refine b_iconst C (v := 0) dL_lineOf_1 (by decide) ?_
  refine b_aload_n C dL_lineOf_2 rfl 0 rfl ?_
  refine b_iload_n C dL_lineOf_3 rfl 1 rfl ?_
  refine b_callE (n := 1) C E (fun _ => [.int a0]) (c_X9_lineOf a0) hf gL_lineOf_X9_lineOf rfl (by decide +kernel) rfl (by decide) (by decide) (Nat.le_of_ble_eq_true rfl) dL_lineOf_4 (fun r hr => ?_) (fun h0 => ?_)
  · subst hr
    have hR : Rw X cL_lineOf 4 0 (u, r.toInt64) := hR
    refine b_i2l C dL_lineOf_7 ?_
    refine b_last C dL_lineOf_8 ?_
    refine b_goto C 15 dL_lineOf_9 (by decide) ?_
    refine b_iconst C (v := 0) dL_lineOf_15 (by decide) ?_
    exact hR _ _ _ _ dL_lineOf_16 rfl
  · have hoc2 : oc.1 = 1 := by simpa [h0] using hoc
    have ho : wout false oc o = o := if_neg h0
    have e := hoc2
    have hw : wcode [1] oc.1 = 1 := by rw [e]; decide
    rw [hw, ho] at hR
    rw [e]
    refine b_catch C E 1 (by decide) [] ⟨0, 9, 12, 13⟩ [] rfl (fun z hz => nomatch hz) rfl (by decide) kL_lineOf_e1 (fun q9 => ?_)
    refine b_astore_n (lv' := [(3, .ref q9), (0, .ref (ad X (9))), (1, .int (a0)), (2, .ref (ad X (5)))]) C dL_lineOf_12 rfl (by decide) rfl ?_
    refine b_iconst C (v := 1) dL_lineOf_13 (by decide) ?_
    exact hR _ _ _ _ dL_lineOf_14 rfl
theorem kL_lineAnew_e1 : Cond.classLink RL 13 (exN 1) ∈ wsL_lineAnew := by decide +kernel
set_option maxHeartbeats 4000000 in
set_option maxRecDepth 100000 in
theorem c_L_lineAnew (a0 : Int32) (l : Launch) (hfl : l.stackTraces = false) : Ctw l yL_lineAnew wsL_lineAnew 7 160 (fun G => [.ref (G.1 (9)), .int (a0), .ref (G.1 (5))]) (f_X9_lineAnew a0) [1] false := by
  refine mk_w (cc := cL_lineAnew) (nL := 4) (hh := [(0, 9, 12, 13)]) hfl (by decide) rfl rfl (fun _ => Nat.le_of_ble_eq_true rfl) (fun X o σ oc u C E hR hf hoc => ?_)
  show Bk X 4 o 0 0 0 [(0, .ref (ad X (9))), (1, .int (a0)), (2, .ref (ad X (5)))] [] σ
  refine b_aload_n C dL_lineAnew_0 rfl 2 rfl ?_
  refine b_iconst C (v := 0) dL_lineAnew_1 (by decide) ?_
  refine b_aload_n C dL_lineAnew_2 rfl 0 rfl ?_
  refine b_iload_n C dL_lineAnew_3 rfl 1 rfl ?_
  refine b_callE (n := 1) C E (fun _ => [.int a0]) (c_X9_lineAnew a0) hf gL_lineAnew_X9_lineAnew rfl (by decide +kernel) rfl (by decide) (by decide) (Nat.le_of_ble_eq_true rfl) dL_lineAnew_4 (fun r hr => ?_) (fun h0 => ?_)
  · subst hr
    have hR : Rw X cL_lineAnew 4 0 (u, r.toInt64) := hR
    refine b_i2l C dL_lineAnew_7 ?_
    refine b_last C dL_lineAnew_8 ?_
    refine b_goto C 15 dL_lineAnew_9 (by decide) ?_
    refine b_iconst C (v := 0) dL_lineAnew_15 (by decide) ?_
    exact hR _ _ _ _ dL_lineAnew_16 rfl
  · have hoc2 : oc.1 = 1 := by simpa [h0] using hoc
    have ho : wout false oc o = o := if_neg h0
    have e := hoc2
    have hw : wcode [1] oc.1 = 1 := by rw [e]; decide
    rw [hw, ho] at hR
    rw [e]
    refine b_catch C E 1 (by decide) [] ⟨0, 9, 12, 13⟩ [] rfl (fun z hz => nomatch hz) rfl (by decide) kL_lineAnew_e1 (fun q9 => ?_)
    refine b_astore_n (lv' := [(3, .ref q9), (0, .ref (ad X (9))), (1, .int (a0)), (2, .ref (ad X (5)))]) C dL_lineAnew_12 rfl (by decide) rfl ?_
    refine b_iconst C (v := 1) dL_lineAnew_13 (by decide) ?_
    exact hR _ _ _ _ dL_lineAnew_14 rfl
theorem kL_ofReader_e1 : Cond.classLink RL 13 (exN 1) ∈ wsL_ofReader := by decide +kernel
theorem kL_ofReader_e3 : Cond.classLink RL 21 (exN 3) ∈ wsL_ofReader := by decide +kernel
set_option maxHeartbeats 4000000 in
set_option maxRecDepth 100000 in
theorem c_L_ofReader (a0 a1 : Int32) (l : Launch) (hfl : l.stackTraces = false) : Ctw l yL_ofReader wsL_ofReader 7 111 (fun G => [.ref (G.1 (9)), .int (a0), .int (a1), .ref (G.1 (5))]) (f_X9_ofReader a0 a1) [3, 1] false := by
  refine mk_w (cc := cL_ofReader) (nL := 5) (hh := [(0, 10, 13, 21), (0, 10, 17, 13)]) hfl (by decide) rfl rfl (fun _ => Nat.le_of_ble_eq_true rfl) (fun X o σ oc u C E hR hf hoc => ?_)
  show Bk X 5 o 0 0 0 [(0, .ref (ad X (9))), (1, .int (a0)), (2, .int (a1)), (3, .ref (ad X (5)))] [] σ
  refine b_aload_n C dL_ofReader_0 rfl 3 rfl ?_
  refine b_iconst C (v := 0) dL_ofReader_1 (by decide) ?_
  refine b_aload_n C dL_ofReader_2 rfl 0 rfl ?_
  refine b_iload_n C dL_ofReader_3 rfl 1 rfl ?_
  refine b_iload_n C dL_ofReader_4 rfl 2 rfl ?_
  refine b_callE (n := 2) C E (fun _ => [.int a0, .int a1]) (c_X9_ofReader a0 a1) hf gL_ofReader_X9_ofReader rfl (by decide +kernel) rfl (by decide) (by decide) (Nat.le_of_ble_eq_true rfl) dL_ofReader_5 (fun r hr => ?_) (fun h0 => ?_)
  · subst hr
    have hR : Rw X cL_ofReader 5 0 (u, r.toInt64) := hR
    refine b_i2l C dL_ofReader_8 ?_
    refine b_last C dL_ofReader_9 ?_
    refine b_goto C 21 dL_ofReader_10 (by decide) ?_
    refine b_iconst C (v := 0) dL_ofReader_21 (by decide) ?_
    exact hR _ _ _ _ dL_ofReader_22 rfl
  · have hoc2 : oc.1 = 3 ∨ oc.1 = 1 := by simpa [h0] using hoc
    have ho : wout false oc o = o := if_neg h0
    rcases hoc2 with e | e
    · have hw : wcode [3, 1] oc.1 = 1 := by rw [e]; decide
      rw [hw, ho] at hR
      rw [e]
      refine b_catch C E 3 (by decide) [] ⟨0, 10, 13, 21⟩ [⟨0, 10, 17, 13⟩] rfl (fun z hz => nomatch hz) rfl (by decide) kL_ofReader_e3 (fun q9 => ?_)
      refine b_astore (lv' := [(4, .ref q9), (0, .ref (ad X (9))), (1, .int (a0)), (2, .int (a1)), (3, .ref (ad X (5)))]) C dL_ofReader_13 (by decide) rfl ?_
      refine b_iconst C (v := 1) dL_ofReader_15 (by decide) ?_
      exact hR _ _ _ _ dL_ofReader_16 rfl
    · have hw : wcode [3, 1] oc.1 = 2 := by rw [e]; decide
      rw [hw, ho] at hR
      rw [e]
      refine b_catch C E 1 (by decide) [⟨0, 10, 13, 21⟩] ⟨0, 10, 17, 13⟩ [] rfl (fun z hz => by rw [List.mem_singleton.mp hz]; exact ⟨by decide, 3, by decide, by decide, kL_ofReader_e3⟩) rfl (by decide) kL_ofReader_e1 (fun q9 => ?_)
      refine b_astore (lv' := [(4, .ref q9), (0, .ref (ad X (9))), (1, .int (a0)), (2, .int (a1)), (3, .ref (ad X (5)))]) C dL_ofReader_17 (by decide) rfl ?_
      refine b_iconst C (v := 2) dL_ofReader_19 (by decide) ?_
      exact hR _ _ _ _ dL_ofReader_20 rfl
