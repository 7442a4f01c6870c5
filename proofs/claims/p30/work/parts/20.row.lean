/-! printed by wip/p30/gen/gen.py -/
/-! the rows' own calls, without an Option -/
def FUEL : Nat := 100000
theorem rlt {r : Nat} (h : r < 43) : r < 76 := Nat.lt_trans h (by decide)
theorem rlen_ltB : ∀ r, r < 76 → rlen r < 10000 := by decide +kernel
def rget (r : Nat) (x : Int32) (σ : Mem) : Int32 := if inb x (rlen r) = true then σ r x.toNatClampNeg else 0
def ris (r : Nat) (x : Int32) (σ : Mem) : Int32 := if inb x (rlen r) = true ∧ σ r x.toNatClampNeg ≠ 0 then 1 else 0
def rset (r : Nat) (x v : Int32) (σ : Mem) : Mem := if inb x (rlen r) = true then wr σ r x.toNatClampNeg v else σ
def radd (r : Nat) (x v : Int32) (σ : Mem) : Mem := if inb x (rlen r) = true then wr σ r x.toNatClampNeg (σ r x.toNatClampNeg + v) else σ
def rput (r : Nat) (x v : Int32) (σ : Mem) : Mem := if inb x (rlen r) = true then wr σ r x.toNatClampNeg (if v = 0 then 0 else 1) else σ
def f_X5_get_23 (r : Nat)  (s0 : Int32) (σ : Mem) : Option (Int32 × Mem) := some (s0, σ)
def f_X5_get_22 (r : Nat)  (σ : Mem) : Option (Int32 × Mem) := (f_X5_get_23 r (0) σ)
def f_X5_get (r : Nat) (x1 : Int32) (σ : Mem) : Option (Int32 × Mem) := (if (x1) < 0 then (f_X5_get_22 r σ)
  else (if (Int32.ofNat (rlen r)) ≤ (x1) then (f_X5_get_22 r σ)
    else gd (inb (x1) (rlen r)) ((f_X5_get_23 r (σ r (Int32.toNatClampNeg (x1))) σ))))
def f_X5_set_20 (r : Nat)  (σ : Mem) : Option (Int32 × Mem) := some (0, σ)
def f_X5_set (r : Nat) (x1 x2 : Int32) (σ : Mem) : Option (Int32 × Mem) := (if (x1) < 0 then (f_X5_set_20 r σ)
  else (if (Int32.ofNat (rlen r)) ≤ (x1) then (f_X5_set_20 r σ)
    else gd (inb (x1) (rlen r)) (nw (wr σ r (Int32.toNatClampNeg (x1)) (x2)) (fun τ1 => (f_X5_set_20 r τ1)))))
def f_X5_add_23 (r : Nat)  (σ : Mem) : Option (Int32 × Mem) := some (0, σ)
def f_X5_add (r : Nat) (x1 x2 : Int32) (σ : Mem) : Option (Int32 × Mem) := (if (x1) < 0 then (f_X5_add_23 r σ)
  else (if (Int32.ofNat (rlen r)) ≤ (x1) then (f_X5_add_23 r σ)
    else gd (inb (x1) (rlen r)) (gd (inb (x1) (rlen r)) (nw (wr σ r (Int32.toNatClampNeg (x1)) ((σ r (Int32.toNatClampNeg (x1))) + (x2))) (fun τ1 => (f_X5_add_23 r τ1))))))
def f_X5_is_27 (r : Nat)  (s0 : Int32) (σ : Mem) : Option (Int32 × Mem) := gd (isZ (s0)) (some (s0, σ))
def f_X5_is_26 (r : Nat)  (σ : Mem) : Option (Int32 × Mem) := (f_X5_is_27 r (0) σ)
def f_X5_is (r : Nat) (x1 : Int32) (σ : Mem) : Option (Int32 × Mem) := (if (x1) < 0 then (f_X5_is_26 r σ)
  else (if (Int32.ofNat (rlen r)) ≤ (x1) then (f_X5_is_26 r σ)
    else gd (inb (x1) (rlen r)) ((if (σ r (Int32.toNatClampNeg (x1))) = 0 then (f_X5_is_26 r σ)
      else (f_X5_is_27 r (1) σ)))))
def f_X5_put_28 (r : Nat)  (σ : Mem) : Option (Int32 × Mem) := some (0, σ)
def f_X5_put_27 (r : Nat)  (s0 s1 : Int32) (σ : Mem) : Option (Int32 × Mem) := gd (inb (s1) (rlen r)) (nw (wr σ r (Int32.toNatClampNeg (s1)) (s0)) (fun τ1 => (f_X5_put_28 r τ1)))
def f_X5_put (r : Nat) (x1 x2 : Int32) (σ : Mem) : Option (Int32 × Mem) := (if (x1) < 0 then (f_X5_put_28 r σ)
  else (if (Int32.ofNat (rlen r)) ≤ (x1) then (f_X5_put_28 r σ)
    else (if (x2) = 0 then (f_X5_put_27 r (0) (x1) σ)
      else (f_X5_put_27 r (1) (x1) σ))))
theorem hiX5_get_5 : ∀ w ∈ wsX50, w ∈ wsX5_get := by decide +kernel
theorem kX5_get_13 : Cond.fieldLink RX5 13 "ScriptRoom$Row" "cells" "[I" ∈ wsX5_get := by decide +kernel
set_option maxHeartbeats 4000000 in
set_option maxRecDepth 100000 in
theorem w_X5_get_23 {X : Ctx} {o : Int64} {rv : Int32 × Mem} (r : Nat) (hr : r < 43) (C : Cx X cX5_get RX5 wsX5_get 2 0 0) (hR : Rt X cX5_get 2 o rv) : ∀ (s0 : Int32) (σ : Mem), some rv = f_X5_get_23 r s0 σ → Bk X 2 o 0 0 23 [] [.int (s0)] σ := by
  intro s0 σ hf
  unfold f_X5_get_23 at hf
  exact hR _ _ _ _ dX5_get_23 hf
set_option maxHeartbeats 4000000 in
set_option maxRecDepth 100000 in
theorem w_X5_get_22 {X : Ctx} {o : Int64} {rv : Int32 × Mem} (r : Nat) (hr : r < 43) (C : Cx X cX5_get RX5 wsX5_get 2 0 0) (hR : Rt X cX5_get 2 o rv) : ∀ (σ : Mem), some rv = f_X5_get_22 r σ → Bk X 2 o 0 0 22 [] [] σ := by
  intro σ hf
  unfold f_X5_get_22 at hf
  refine b_iconst C (v := 0) dX5_get_22 (by decide) ?_
  exact w_X5_get_23 r hr C hR _ _ hf
set_option maxHeartbeats 4000000 in
set_option maxRecDepth 100000 in
theorem c_X5_get (r : Nat) (hr : r < 43) (x1 : Int32) (l : Launch) : Cti l yX5_get wsX5_get 0 0 (fun G => [.ref (G.1 (9 + r)), .int (x1)]) (f_X5_get r x1) := by
  refine mk_i (cc := cX5_get) (nL := 2) (own := RX5) (by decide) rfl rfl (fun _ => Nat.le_of_ble_eq_true rfl) (fun X o σ rv C hR hf => ?_)
  show Bk X 2 o 0 0 0 [(0, .ref (ad X (9 + r))), (1, .int (x1))] [] σ
  unfold f_X5_get at hf
  refine b_iload_n C dX5_get_0 rfl 1 rfl ?_
  refine b_if_lt C 22 dX5_get_1 (by decide) hf (fun hf => ?_) (fun hf => ?_)
  · refine b_sub [] rfl ?_
    exact w_X5_get_22 r hr C hR _ hf
  · refine b_iload_n C dX5_get_4 rfl 1 rfl ?_
    refine b_aload_n C dX5_get_5 rfl 0 rfl ?_
    refine b_getC C hiX5_get_5 r hr kX5_get_13 dX5_get_6 ?_
    refine b_alen C r hr (v := Int32.ofNat (rlen r)) rfl dX5_get_9 ?_
    refine b_icmp_ge C 22 dX5_get_10 (by decide) hf (fun hf => ?_) (fun hf => ?_)
    · refine b_sub [] rfl ?_
      exact w_X5_get_22 r hr C hR _ hf
    · refine b_aload_n C dX5_get_13 rfl 0 rfl ?_
      refine b_getC C hiX5_get_5 r hr kX5_get_13 dX5_get_14 ?_
      refine b_iload_n C dX5_get_17 rfl 1 rfl ?_
      refine b_iald C r hr  dX5_get_18 hf (fun hf => ?_)
      refine b_goto C 23 dX5_get_19 (by decide) ?_
      refine b_sub [] rfl ?_
      exact w_X5_get_23 r hr C hR _ _ hf
theorem hiX5_set_5 : ∀ w ∈ wsX50, w ∈ wsX5_set := by decide +kernel
theorem kX5_set_13 : Cond.fieldLink RX5 13 "ScriptRoom$Row" "cells" "[I" ∈ wsX5_set := by decide +kernel
set_option maxHeartbeats 4000000 in
set_option maxRecDepth 100000 in
theorem w_X5_set_20 {X : Ctx} {o : Int64} {rv : Int32 × Mem} (r : Nat) (hr : r < 43) (C : Cx X cX5_set RX5 wsX5_set 3 0 0) (hR : Rv X cX5_set 3 o rv) : ∀ (σ : Mem), some rv = f_X5_set_20 r σ → Bk X 3 o 0 0 20 [] [] σ := by
  intro σ hf
  unfold f_X5_set_20 at hf
  exact hR _ _ _ _ dX5_set_20 hf
set_option maxHeartbeats 4000000 in
set_option maxRecDepth 100000 in
theorem c_X5_set (r : Nat) (hr : r < 43) (x1 x2 : Int32) (l : Launch) : Ctv l yX5_set wsX5_set 0 0 (fun G => [.ref (G.1 (9 + r)), .int (x1), .int (x2)]) (f_X5_set r x1 x2) := by
  refine mk_v (cc := cX5_set) (nL := 3) (own := RX5) (by decide) rfl rfl (fun _ => Nat.le_of_ble_eq_true rfl) (fun X o σ rv C hR hf => ?_)
  show Bk X 3 o 0 0 0 [(0, .ref (ad X (9 + r))), (1, .int (x1)), (2, .int (x2))] [] σ
  unfold f_X5_set at hf
  refine b_iload_n C dX5_set_0 rfl 1 rfl ?_
  refine b_if_lt C 20 dX5_set_1 (by decide) hf (fun hf => ?_) (fun hf => ?_)
  · refine b_sub [] rfl ?_
    exact w_X5_set_20 r hr C hR _ hf
  · refine b_iload_n C dX5_set_4 rfl 1 rfl ?_
    refine b_aload_n C dX5_set_5 rfl 0 rfl ?_
    refine b_getC C hiX5_set_5 r hr kX5_set_13 dX5_set_6 ?_
    refine b_alen C r hr (v := Int32.ofNat (rlen r)) rfl dX5_set_9 ?_
    refine b_icmp_ge C 20 dX5_set_10 (by decide) hf (fun hf => ?_) (fun hf => ?_)
    · refine b_sub [] rfl ?_
      exact w_X5_set_20 r hr C hR _ hf
    · refine b_aload_n C dX5_set_13 rfl 0 rfl ?_
      refine b_getC C hiX5_set_5 r hr kX5_set_13 dX5_set_14 ?_
      refine b_iload_n C dX5_set_17 rfl 1 rfl ?_
      refine b_iload_n C dX5_set_18 rfl 2 rfl ?_
      refine b_iast C r hr  dX5_set_19 hf (fun hf => ?_)
      refine b_nw hf (fun τ1 hf => ?_)
      refine b_sub [] rfl ?_
      exact w_X5_set_20 r hr C hR _ hf
theorem hiX5_add_5 : ∀ w ∈ wsX50, w ∈ wsX5_add := by decide +kernel
theorem kX5_add_13 : Cond.fieldLink RX5 13 "ScriptRoom$Row" "cells" "[I" ∈ wsX5_add := by decide +kernel
set_option maxHeartbeats 4000000 in
set_option maxRecDepth 100000 in
theorem w_X5_add_23 {X : Ctx} {o : Int64} {rv : Int32 × Mem} (r : Nat) (hr : r < 43) (C : Cx X cX5_add RX5 wsX5_add 3 0 0) (hR : Rv X cX5_add 3 o rv) : ∀ (σ : Mem), some rv = f_X5_add_23 r σ → Bk X 3 o 0 0 23 [] [] σ := by
  intro σ hf
  unfold f_X5_add_23 at hf
  exact hR _ _ _ _ dX5_add_23 hf
set_option maxHeartbeats 4000000 in
set_option maxRecDepth 100000 in
theorem c_X5_add (r : Nat) (hr : r < 43) (x1 x2 : Int32) (l : Launch) : Ctv l yX5_add wsX5_add 0 0 (fun G => [.ref (G.1 (9 + r)), .int (x1), .int (x2)]) (f_X5_add r x1 x2) := by
  refine mk_v (cc := cX5_add) (nL := 3) (own := RX5) (by decide) rfl rfl (fun _ => Nat.le_of_ble_eq_true rfl) (fun X o σ rv C hR hf => ?_)
  show Bk X 3 o 0 0 0 [(0, .ref (ad X (9 + r))), (1, .int (x1)), (2, .int (x2))] [] σ
  unfold f_X5_add at hf
  refine b_iload_n C dX5_add_0 rfl 1 rfl ?_
  refine b_if_lt C 23 dX5_add_1 (by decide) hf (fun hf => ?_) (fun hf => ?_)
  · refine b_sub [] rfl ?_
    exact w_X5_add_23 r hr C hR _ hf
  · refine b_iload_n C dX5_add_4 rfl 1 rfl ?_
    refine b_aload_n C dX5_add_5 rfl 0 rfl ?_
    refine b_getC C hiX5_add_5 r hr kX5_add_13 dX5_add_6 ?_
    refine b_alen C r hr (v := Int32.ofNat (rlen r)) rfl dX5_add_9 ?_
    refine b_icmp_ge C 23 dX5_add_10 (by decide) hf (fun hf => ?_) (fun hf => ?_)
    · refine b_sub [] rfl ?_
      exact w_X5_add_23 r hr C hR _ hf
    · refine b_aload_n C dX5_add_13 rfl 0 rfl ?_
      refine b_getC C hiX5_add_5 r hr kX5_add_13 dX5_add_14 ?_
      refine b_iload_n C dX5_add_17 rfl 1 rfl ?_
      refine b_dup2 C dX5_add_18 rfl rfl ?_
      refine b_iald C r hr  dX5_add_19 hf (fun hf => ?_)
      refine b_iload_n C dX5_add_20 rfl 2 rfl ?_
      refine b_iadd C dX5_add_21 ?_
      refine b_iast C r hr  dX5_add_22 hf (fun hf => ?_)
      refine b_nw hf (fun τ1 hf => ?_)
      refine b_sub [] rfl ?_
      exact w_X5_add_23 r hr C hR _ hf
theorem hiX5_is_5 : ∀ w ∈ wsX50, w ∈ wsX5_is := by decide +kernel
theorem kX5_is_13 : Cond.fieldLink RX5 13 "ScriptRoom$Row" "cells" "[I" ∈ wsX5_is := by decide +kernel
set_option maxHeartbeats 4000000 in
set_option maxRecDepth 100000 in
theorem w_X5_is_27 {X : Ctx} {o : Int64} {rv : Int32 × Mem} (r : Nat) (hr : r < 43) (C : Cx X cX5_is RX5 wsX5_is 2 0 0) (hR : Rz X cX5_is 2 o rv) : ∀ (s0 : Int32) (σ : Mem), some rv = f_X5_is_27 r s0 σ → Bk X 2 o 0 0 27 [] [.int (s0)] σ := by
  intro s0 σ hf
  unfold f_X5_is_27 at hf
  exact hR _ _ _ _ dX5_is_27 hf
set_option maxHeartbeats 4000000 in
set_option maxRecDepth 100000 in
theorem w_X5_is_26 {X : Ctx} {o : Int64} {rv : Int32 × Mem} (r : Nat) (hr : r < 43) (C : Cx X cX5_is RX5 wsX5_is 2 0 0) (hR : Rz X cX5_is 2 o rv) : ∀ (σ : Mem), some rv = f_X5_is_26 r σ → Bk X 2 o 0 0 26 [] [] σ := by
  intro σ hf
  unfold f_X5_is_26 at hf
  refine b_iconst C (v := 0) dX5_is_26 (by decide) ?_
  exact w_X5_is_27 r hr C hR _ _ hf
set_option maxHeartbeats 4000000 in
set_option maxRecDepth 100000 in
theorem c_X5_is (r : Nat) (hr : r < 43) (x1 : Int32) (l : Launch) : Cti l yX5_is wsX5_is 0 0 (fun G => [.ref (G.1 (9 + r)), .int (x1)]) (f_X5_is r x1) := by
  refine mk_z (cc := cX5_is) (nL := 2) (own := RX5) (by decide) rfl rfl (fun _ => Nat.le_of_ble_eq_true rfl) (fun X o σ rv C hR hf => ?_)
  show Bk X 2 o 0 0 0 [(0, .ref (ad X (9 + r))), (1, .int (x1))] [] σ
  unfold f_X5_is at hf
  refine b_iload_n C dX5_is_0 rfl 1 rfl ?_
  refine b_if_lt C 26 dX5_is_1 (by decide) hf (fun hf => ?_) (fun hf => ?_)
  · refine b_sub [] rfl ?_
    exact w_X5_is_26 r hr C hR _ hf
  · refine b_iload_n C dX5_is_4 rfl 1 rfl ?_
    refine b_aload_n C dX5_is_5 rfl 0 rfl ?_
    refine b_getC C hiX5_is_5 r hr kX5_is_13 dX5_is_6 ?_
    refine b_alen C r hr (v := Int32.ofNat (rlen r)) rfl dX5_is_9 ?_
    refine b_icmp_ge C 26 dX5_is_10 (by decide) hf (fun hf => ?_) (fun hf => ?_)
    · refine b_sub [] rfl ?_
      exact w_X5_is_26 r hr C hR _ hf
    · refine b_aload_n C dX5_is_13 rfl 0 rfl ?_
      refine b_getC C hiX5_is_5 r hr kX5_is_13 dX5_is_14 ?_
      refine b_iload_n C dX5_is_17 rfl 1 rfl ?_
      refine b_iald C r hr  dX5_is_18 hf (fun hf => ?_)
      refine b_if_eq C 26 dX5_is_19 (by decide) hf (fun hf => ?_) (fun hf => ?_)
      · refine b_sub [] rfl ?_
        exact w_X5_is_26 r hr C hR _ hf
      · refine b_iconst C (v := 1) dX5_is_22 (by decide) ?_
        refine b_goto C 27 dX5_is_23 (by decide) ?_
        refine b_sub [] rfl ?_
        exact w_X5_is_27 r hr C hR _ _ hf
theorem hiX5_put_5 : ∀ w ∈ wsX50, w ∈ wsX5_put := by decide +kernel
theorem kX5_put_13 : Cond.fieldLink RX5 13 "ScriptRoom$Row" "cells" "[I" ∈ wsX5_put := by decide +kernel
set_option maxHeartbeats 4000000 in
set_option maxRecDepth 100000 in
theorem w_X5_put_28 {X : Ctx} {o : Int64} {rv : Int32 × Mem} (r : Nat) (hr : r < 43) (C : Cx X cX5_put RX5 wsX5_put 3 0 0) (hR : Rv X cX5_put 3 o rv) : ∀ (σ : Mem), some rv = f_X5_put_28 r σ → Bk X 3 o 0 0 28 [] [] σ := by
  intro σ hf
  unfold f_X5_put_28 at hf
  exact hR _ _ _ _ dX5_put_28 hf
set_option maxHeartbeats 4000000 in
set_option maxRecDepth 100000 in
theorem w_X5_put_27 {X : Ctx} {o : Int64} {rv : Int32 × Mem} (r : Nat) (hr : r < 43) (C : Cx X cX5_put RX5 wsX5_put 3 0 0) (hR : Rv X cX5_put 3 o rv) : ∀ (s0 s1 : Int32) (σ : Mem), some rv = f_X5_put_27 r s0 s1 σ → Bk X 3 o 0 0 27 [] [.int (s0), .int (s1), .ref (ad X (52 + r))] σ := by
  intro s0 s1 σ hf
  unfold f_X5_put_27 at hf
  refine b_iast C r hr  dX5_put_27 hf (fun hf => ?_)
  refine b_nw hf (fun τ1 hf => ?_)
  exact w_X5_put_28 r hr C hR _ hf
set_option maxHeartbeats 4000000 in
set_option maxRecDepth 100000 in
theorem c_X5_put (r : Nat) (hr : r < 43) (x1 x2 : Int32) (l : Launch) : Ctv l yX5_put wsX5_put 0 0 (fun G => [.ref (G.1 (9 + r)), .int (x1), .int (x2)]) (f_X5_put r x1 x2) := by
  refine mk_v (cc := cX5_put) (nL := 3) (own := RX5) (by decide) rfl rfl (fun _ => Nat.le_of_ble_eq_true rfl) (fun X o σ rv C hR hf => ?_)
  show Bk X 3 o 0 0 0 [(0, .ref (ad X (9 + r))), (1, .int (x1)), (2, .int (x2))] [] σ
  unfold f_X5_put at hf
  refine b_iload_n C dX5_put_0 rfl 1 rfl ?_
  refine b_if_lt C 28 dX5_put_1 (by decide) hf (fun hf => ?_) (fun hf => ?_)
  · refine b_sub [] rfl ?_
    exact w_X5_put_28 r hr C hR _ hf
  · refine b_iload_n C dX5_put_4 rfl 1 rfl ?_
    refine b_aload_n C dX5_put_5 rfl 0 rfl ?_
    refine b_getC C hiX5_put_5 r hr kX5_put_13 dX5_put_6 ?_
    refine b_alen C r hr (v := Int32.ofNat (rlen r)) rfl dX5_put_9 ?_
    refine b_icmp_ge C 28 dX5_put_10 (by decide) hf (fun hf => ?_) (fun hf => ?_)
    · refine b_sub [] rfl ?_
      exact w_X5_put_28 r hr C hR _ hf
    · refine b_aload_n C dX5_put_13 rfl 0 rfl ?_
      refine b_getC C hiX5_put_5 r hr kX5_put_13 dX5_put_14 ?_
      refine b_iload_n C dX5_put_17 rfl 1 rfl ?_
      refine b_iload_n C dX5_put_18 rfl 2 rfl ?_
      refine b_if_eq C 26 dX5_put_19 (by decide) hf (fun hf => ?_) (fun hf => ?_)
      · refine b_iconst C (v := 0) dX5_put_26 (by decide) ?_
        refine b_sub [] rfl ?_
        exact w_X5_put_27 r hr C hR _ _ _ hf
      · refine b_iconst C (v := 1) dX5_put_22 (by decide) ?_
        refine b_goto C 27 dX5_put_23 (by decide) ?_
        refine b_sub [] rfl ?_
        exact w_X5_put_27 r hr C hR _ _ _ hf
theorem inb_at_ {x : Int32} {r : Nat} (hr : r < 43) : (inb x (rlen r) = true ↔ 0 ≤ x ∧ x < Int32.ofNat (rlen r)) := by
  have hb := rlen_ltB r (rlt hr)
  have e : (Int32.ofNat (rlen r)).toInt = (rlen r : Int) := nI_toInt (by omega)
  constructor
  · intro h
    have h1 := vp_in_iff.mp (inb_in h)
    rw [Int32.le_iff_toInt_le, Int32.lt_iff_toInt_lt, e]
    exact ⟨h1.1, h1.2⟩
  · rintro ⟨h1, h2⟩
    rw [Int32.le_iff_toInt_le] at h1
    rw [Int32.lt_iff_toInt_lt, e] at h2
    have h3 : vp_in x (rlen r) := vp_in_iff.mpr ⟨h1, h2⟩
    unfold vp_in at h3
    simp only [inb, Bool.not_eq_true', Bool.or_eq_false_iff, decide_eq_false_iff_not]
    exact ⟨fun h => h3 (Or.inl h), fun h => h3 (Or.inr h)⟩
theorem ge_len {x : Int32} {r : Nat} (hr : r < 76) (h0 : ¬ x < 0) : (Int32.ofNat (rlen r) ≤ x) ↔ ¬ inb x (rlen r) = true := by
  have hb := rlen_ltB r hr
  have e : (Int32.ofNat (rlen r)).toInt = (rlen r : Int) := nI_toInt (by omega)
  have h3 : vp_in x (rlen r) ↔ inb x (rlen r) = true := by
    unfold vp_in
    simp only [inb, Bool.not_eq_true', Bool.or_eq_false_iff, decide_eq_false_iff_not, not_or]
  rw [← h3, vp_in_iff, Int32.le_iff_toInt_le, e]
  rw [Int32.lt_iff_toInt_lt] at h0
  have : (0 : Int32).toInt = 0 := rfl
  omega
theorem lt_inb {x : Int32} {n : Nat} (h0 : x < 0) : ¬ inb x n = true := by
  simp [inb, h0]
theorem e_get (r : Nat) (hr : r < 76) (x : Int32) (σ : Mem) : f_X5_get r x σ = some (rget r x σ, σ) := by
  unfold f_X5_get f_X5_get_22 f_X5_get_23 rget
  by_cases h0 : x < 0
  · rw [if_pos h0, if_neg (lt_inb h0)]
  · rw [if_neg h0]
    by_cases h1 : Int32.ofNat (rlen r) ≤ x
    · rw [if_pos h1, if_neg ((ge_len hr h0).mp h1)]
    · have h2 : inb x (rlen r) = true := Decidable.of_not_not (fun h => h1 ((ge_len hr h0).mpr h))
      rw [if_neg h1, if_pos h2, h2]; rfl
theorem e_is (r : Nat) (hr : r < 76) (x : Int32) (σ : Mem) : f_X5_is r x σ = some (ris r x σ, σ) := by
  unfold f_X5_is f_X5_is_26 f_X5_is_27 ris
  by_cases h0 : x < 0
  · rw [if_pos h0, if_neg (fun h => lt_inb h0 h.1)]; rfl
  · rw [if_neg h0]
    by_cases h1 : Int32.ofNat (rlen r) ≤ x
    · rw [if_pos h1, if_neg (fun h => (ge_len hr h0).mp h1 h.1)]; rfl
    · have h2 : inb x (rlen r) = true := Decidable.of_not_not (fun h => h1 ((ge_len hr h0).mpr h))
      rw [if_neg h1, h2]
      by_cases h3 : σ r x.toNatClampNeg = 0
      · simp [gd, h3, isZ]
      · simp [gd, h3, isZ]
theorem e_set (r : Nat) (hr : r < 76) (x v : Int32) (σ : Mem) : f_X5_set r x v σ = some (0, rset r x v σ) := by
  unfold f_X5_set f_X5_set_20 rset
  by_cases h0 : x < 0
  · rw [if_pos h0, if_neg (lt_inb h0)]
  · rw [if_neg h0]
    by_cases h1 : Int32.ofNat (rlen r) ≤ x
    · rw [if_pos h1, if_neg ((ge_len hr h0).mp h1)]
    · have h2 : inb x (rlen r) = true := Decidable.of_not_not (fun h => h1 ((ge_len hr h0).mpr h))
      rw [if_neg h1, if_pos h2, h2]; rfl
theorem e_add (r : Nat) (hr : r < 76) (x v : Int32) (σ : Mem) : f_X5_add r x v σ = some (0, radd r x v σ) := by
  unfold f_X5_add f_X5_add_23 radd
  by_cases h0 : x < 0
  · rw [if_pos h0, if_neg (lt_inb h0)]
  · rw [if_neg h0]
    by_cases h1 : Int32.ofNat (rlen r) ≤ x
    · rw [if_pos h1, if_neg ((ge_len hr h0).mp h1)]
    · have h2 : inb x (rlen r) = true := Decidable.of_not_not (fun h => h1 ((ge_len hr h0).mpr h))
      rw [if_neg h1, if_pos h2, h2]; rfl
theorem e_put (r : Nat) (hr : r < 76) (x v : Int32) (σ : Mem) : f_X5_put r x v σ = some (0, rput r x v σ) := by
  unfold f_X5_put f_X5_put_27 f_X5_put_28 rput
  by_cases h0 : x < 0
  · rw [if_pos h0, if_neg (lt_inb h0)]
  · rw [if_neg h0]
    by_cases h1 : Int32.ofNat (rlen r) ≤ x
    · rw [if_pos h1, if_neg ((ge_len hr h0).mp h1)]
    · have h2 : inb x (rlen r) = true := Decidable.of_not_not (fun h => h1 ((ge_len hr h0).mpr h))
      rw [if_neg h1, if_pos h2, h2]
      by_cases h3 : v = 0
      · rw [if_pos h3, if_pos h3]; rfl
      · rw [if_neg h3, if_neg h3]; rfl
