/-! PURE: the state that both hold, and how each holds it. By hand. -/
/-- the state: a table, its rows named below -/
def A : Type := Nat → Nat → Nat
def A.m (s : A) : Nat := s 0 0
def A.l (s : A) (j : Nat) : Int32 := nI (s 1 j)
def A.P (s : A) : Nat := s 2 0
def A.sch (s : A) (j : Nat) : Int32 := nI (s 3 j)
def A.lack (s : A) (j : Nat) : Nat := s 4 j
def A.urg (s : A) (j : Nat) : Nat := s 5 j
def A.gift (s : A) (j : Nat) : Nat := s 6 j
def A.app (s : A) (j : Nat) : Nat := s 7 j
def A.rel (s : A) (j : Nat) : Int32 := nI (s 8 j) - 1
def A.V (s : A) (j : Nat) : Nat := s 9 j
def A.len (s : A) (j : Nat) : Nat := s 10 j
def A.tm (s : A) (j : Nat) : Nat := s 11 j
def A.most (s : A) (j : Nat) : Nat := s 12 j
def A.txt (s : A) (at9 j : Nat) : Int32 := nI (s 13 (100 * at9 + j))
def A.R (s : A) : Nat := s 14 0
def A.rs (s : A) (j : Nat) : Int32 := nI (s 15 j) - 1
def A.rq (s : A) (j : Nat) : Nat := s 16 j
def A.sen (s : A) (j : Nat) : Nat := s 17 j
def A.stp (s : A) (j : Nat) : Nat := s 18 j
def A.hc (s : A) (j : Nat) : Nat := s 19 j
def A.hap (s : A) (j : Nat) : Nat := s 20 j
def A.since (s : A) (j : Nat) : Nat := s 21 j
def A.good (s : A) (j : Nat) : Nat := s 22 j
def A.given (s : A) (j : Nat) : Nat := s 23 j
def A.S (s : A) : Nat := s 24 0
def A.sq (s : A) (j : Nat) : Nat := s 25 j
def A.sp (s : A) (j : Nat) : Nat := s 26 j
def A.tw (s : A) (j : Nat) : Nat := s 27 j
def A.tol (s : A) : Nat := s 28 0
def A.isr (s : A) : Nat := s 29 0
def A.b0 (s : A) : Nat := s 30 0
def A.b1 (s : A) : Nat := s 31 0
def A.b2 (s : A) : Nat := s 32 0
def A.n (s : A) : Nat := s 33 0
def A.ans (s : A) (j : Nat) : Nat := s 34 j
def A.rby (s : A) (j : Nat) : Nat := s 35 j
def A.pts (s : A) (j : Nat) : Nat := s 36 j
def A.lts (s : A) (j : Nat) : Nat := s 37 j
def A.voi (s : A) (j : Nat) : Nat := s 38 j
def A.apr (s : A) (j : Nat) : Nat := s 39 j
/-- a row of the state anew; a place of a row anew -/
def A.ud (s : A) (f : Nat) (g : Nat → Nat) : A := fun i => if i = f then g else s i
def p1 (g : Nat → Nat) (k v : Nat) : Nat → Nat := fun j => if j = k then v else g j
def A.u1 (s : A) (f k v : Nat) : A := s.ud f (p1 (s f) k v)
/-- which part of the state a cell belongs to -/
def grp (r k : Nat) : Nat := match r with
  | 1 => 1
  | 13 => 2 | 14 => 2 | 15 => 2 | 16 => 2 | 17 => 2 | 18 => 2
  | 31 => 3 | 32 => 3 | 33 => 3 | 34 => 3 | 35 => 3
  | 19 => 4 | 20 => 4 | 21 => 4 | 22 => 4 | 23 => 4 | 24 => 4 | 27 => 4 | 28 => 4 | 29 => 4 | 30 => 4
  | 39 => 5 | 40 => 5 | 41 => 5
  | 2 => 6 | 3 => 6 | 4 => 6 | 5 => 6 | 6 => 6 | 7 => 6 | 8 => 6 | 25 => 6 | 26 => 6
  | 9 => 7 | 10 => 7 | 11 => 7 | 12 => 7
  | 43 => 11
  | 44 => 12 | 45 => 12 | 46 => 12 | 47 => 12 | 48 => 12 | 49 => 12
  | 51 => 13 | 52 => 13 | 53 => 13
  | 55 => 14 | 56 => 14 | 57 => 14 | 58 => 14 | 59 => 14 | 60 => 14 | 61 => 14 | 62 => 14 | 63 => 14
  | 50 => 15 | 54 => 15 | 64 => 15 | 65 => 15
  | 66 => 16 | 67 => 16 | 68 => 16 | 69 => 16 | 70 => 16 | 71 => 16
  | 76 => (match k with
    | 5 => 1 | 7 => 2 | 8 => 4 | 9 => 5 | 17 => 5 | 18 => 5 | 19 => 5 | 20 => 5 | 21 => 5 | 6 => 6
    | 23 => 11 | 25 => 12 | 27 => 14 | 24 => 15 | 26 => 15 | 28 => 15 | 29 => 16
    | _ => 0)
  | _ => 0
def keep (i : Nat) (σ u : Mem) : Prop := ∀ r k, grp r k = i → u r k = σ r k
theorem keep.rf {i : Nat} {σ : Mem} : keep i σ σ := fun _ _ _ => rfl
theorem keep.tr {i : Nat} {σ τ u : Mem} (h : keep i σ τ) (h2 : keep i τ u) : keep i σ u := fun r k hg => (h2 r k hg).trans (h r k hg)
theorem keep.w {i : Nat} {σ u : Mem} {r k : Nat} {v : Int32} (hg : grp r k ≠ i) (h : keep i σ u) : keep i σ (wr u r k v) := by
  intro q j hq
  rw [wr_at, if_neg (fun e => hg (by rw [← e.1, ← e.2]; exact hq))]
  exact h q j hq
theorem scr_grp {r k : Nat} (h : grp r k ≠ 0) : scr r k = false := by
  unfold grp at h
  unfold scr
  repeat' split at h
  all_goals first
    | rfl
    | exact absurd rfl h
theorem eqv.keep {σ u : Mem} (h : eqv σ u) {i : Nat} (hi : i ≠ 0) : keep i σ u := by
  intro r k hg
  exact h.at (scr_grp (by rw [hg]; exact hi))
/-- a class's call leaves the reference's cells; the other way round -/
def frC (σ u : Mem) : Prop := ∀ i, 11 ≤ i → keep i σ u
def frM (σ u : Mem) : Prop := ∀ i, 1 ≤ i → i ≤ 7 → keep i σ u
theorem eqv.frC {σ u : Mem} (h : eqv σ u) : frC σ u := fun _ hi => h.keep (by omega)
theorem eqv.frM {σ u : Mem} (h : eqv σ u) : frM σ u := fun _ hi _ => h.keep (by omega)
/-- the letters of the version at a place -/
def A.let9 (s : A) (at9 : Nat) : Nat := lets (s.txt at9) (s.tm at9)
/-- the place of the latest version -/
def A.at9 (s : A) (q : Nat) : Nat := 6 * q + s.V q - 1
/-- reading k counts -/
def A.cts (s : A) (k : Nat) : Bool := decide (s.voi k = 0 ∧ nI (s.let9 (s.at9 (s.ans k % 4))) &&& (nI (s.lts k) ^^^ (-1)) = 0)
/-- the mark of reading k -/
def A.mkr (s : A) (k : Nat) : Nat := mk9 (s.pts k) (s.txt (s.at9 (s.ans k % 4))) (s.tm (s.at9 (s.ans k % 4))) (s.most (s.at9 (s.ans k % 4)))
def A.worth (s : A) (k : Nat) : Int32 := if s.cts k = true then nI (s.mkr k) else -1
/-- the readings of an answer -/
def A.L (s : A) (a : Nat) : List Nat := (List.range s.n).filter (fun k => decide (s.ans k = a))
/-- how many readings by r; how many of them are void -/
def A.nby (s : A) (r : Nat) : Nat := ((List.range s.n).filter (fun k => decide (s.rby k = r))).length
def A.nvoid (s : A) (r : Nat) : Nat := ((List.range s.n).filter (fun k => decide (s.rby k = r ∧ s.voi k ≠ 0))).length
/-- what the class keeps of a hand -/
def A.hand (s : A) (r : Nat) : Int32 := if s.hc r = 0 then -1 else if s.hc r ≤ 100 then nI (10 * ((s.hc r - 1) / 4) + (s.hc r - 1) % 4) else nI (1000 + s.sq (s.hc r - 101))
/-- whether an answer was appealed; whether there is none -/
def A.apb (s : A) (a : Nat) : Nat := s.app (a / 4) / 2 ^ (a % 4) % 2
def A.lkb (s : A) (a : Nat) : Nat := s.lack (a / 4) / 2 ^ (a % 4) % 2
def WF (s : A) : Prop := (s.m ≤ 40) ∧ (s.P ≤ 16) ∧ (∀ k, k < s.P → s.lack k ≤ 15) ∧ (∀ k, k < s.P → s.urg k ≤ 1) ∧ (∀ k, k < 16 → s.gift k ≤ 9) ∧ (∀ k, k < 16 → s.app k ≤ 15) ∧ (∀ k, s.P ≤ k → k < 16 → s.gift k = 0 ∧ s.app k = 0 ∧ s.rel k = -1) ∧ (∀ q, q < 4 → s.V q ≤ 6) ∧ (∀ q v, q < 4 → v < s.V q → Tl (s.txt (6 * q + v)) (s.tm (6 * q + v)) (s.len (6 * q + v)) (s.most (6 * q + v)) ∧ WFb (s.txt (6 * q + v)) (s.tm (6 * q + v)) ∧ s.len (6 * q + v) ≤ 80 ∧ ∀ j, j < s.len (6 * q + v) → s.txt (6 * q + v) j ≠ 0) ∧ (s.R ≤ 6) ∧ (∀ r, r < s.R → s.rq r ≤ 15) ∧ (∀ r, r < s.R → s.sen r ≤ 1) ∧ (∀ r, r < 6 → s.stp r ≤ 1) ∧ (∀ r, r < s.R → s.hap r ≤ 1) ∧ (∀ r, r < 6 → s.given r < 256) ∧ (∀ r, r < 6 → s.since r ≤ s.n) ∧ (∀ r, r < 6 → s.good r ≤ s.n) ∧ (∀ r, s.R ≤ r → r < 6 → s.stp r = 0 ∧ s.since r = 0 ∧ s.good r = 0 ∧ s.given r = 0) ∧ (∀ r, r < s.R → s.hc r = 0 ∨ (s.hc r ≤ 4 * s.P ∧ 0 < s.V ((s.hc r - 1) % 4)) ∨ (101 ≤ s.hc r ∧ s.hc r < 101 + s.S)) ∧ (∀ r, r < s.R → s.stp r = 1 → s.hc r = 0) ∧ (s.S ≤ 8) ∧ (∀ k, k < s.S → s.sq k ≤ 3 ∧ s.sp k ≤ 255 ∧ 0 < s.V (s.sq k)) ∧ (∀ q, q < 4 → s.tw q ≤ 1) ∧ (s.tol ≤ 9) ∧ (s.isr ≤ 1) ∧ (s.b0 ≤ 999) ∧ (s.b1 ≤ s.b0) ∧ (s.b2 ≤ s.b1) ∧ (s.n ≤ 300) ∧ (∀ k, k < s.n → s.ans k < 4 * s.P ∧ 0 < s.V (s.ans k % 4)) ∧ (∀ k, k < s.n → s.rby k < s.R) ∧ (∀ k, k < s.n → s.pts k ≤ 255 ∧ s.lts k ≤ 255) ∧ (∀ k, k < 300 → s.voi k ≤ 1) ∧ (∀ k, s.n ≤ k → k < 300 → s.voi k = 0) ∧ (∀ k, k < s.n → s.apr k ≤ 1) ∧ (∀ k, k < s.n → s.stp (s.rby k) = 0 → s.good (s.rby k) ≤ k → s.voi k = 0) ∧ (∀ a, a < 4 * s.P → s.apb a = 1 → s.lkb a = 0) ∧ (∀ r, r < s.R → 0 < s.hc r → s.hc r ≤ 100 → s.hap r = 1 → s.apb (s.hc r - 1) = 1) ∧ (∀ k, k < s.n → s.apr k = 1 → s.apb (s.ans k) = 1)
theorem WF.m {s : A} (h : WF s) : s.m ≤ 40 := h.1
theorem WF.P {s : A} (h : WF s) : s.P ≤ 16 := h.2.1
theorem WF.lack {s : A} (h : WF s) : ∀ k, k < s.P → s.lack k ≤ 15 := h.2.2.1
theorem WF.urg {s : A} (h : WF s) : ∀ k, k < s.P → s.urg k ≤ 1 := h.2.2.2.1
theorem WF.gift {s : A} (h : WF s) : ∀ k, k < 16 → s.gift k ≤ 9 := h.2.2.2.2.1
theorem WF.app {s : A} (h : WF s) : ∀ k, k < 16 → s.app k ≤ 15 := h.2.2.2.2.2.1
theorem WF.fresh {s : A} (h : WF s) : ∀ k, s.P ≤ k → k < 16 → s.gift k = 0 ∧ s.app k = 0 ∧ s.rel k = -1 := h.2.2.2.2.2.2.1
theorem WF.V {s : A} (h : WF s) : ∀ q, q < 4 → s.V q ≤ 6 := h.2.2.2.2.2.2.2.1
theorem WF.T {s : A} (h : WF s) : ∀ q v, q < 4 → v < s.V q → Tl (s.txt (6 * q + v)) (s.tm (6 * q + v)) (s.len (6 * q + v)) (s.most (6 * q + v)) ∧ WFb (s.txt (6 * q + v)) (s.tm (6 * q + v)) ∧ s.len (6 * q + v) ≤ 80 ∧ ∀ j, j < s.len (6 * q + v) → s.txt (6 * q + v) j ≠ 0 := h.2.2.2.2.2.2.2.2.1
theorem WF.R {s : A} (h : WF s) : s.R ≤ 6 := h.2.2.2.2.2.2.2.2.2.1
theorem WF.rq {s : A} (h : WF s) : ∀ r, r < s.R → s.rq r ≤ 15 := h.2.2.2.2.2.2.2.2.2.2.1
theorem WF.sen {s : A} (h : WF s) : ∀ r, r < s.R → s.sen r ≤ 1 := h.2.2.2.2.2.2.2.2.2.2.2.1
theorem WF.stp {s : A} (h : WF s) : ∀ r, r < 6 → s.stp r ≤ 1 := h.2.2.2.2.2.2.2.2.2.2.2.2.1
theorem WF.hap {s : A} (h : WF s) : ∀ r, r < s.R → s.hap r ≤ 1 := h.2.2.2.2.2.2.2.2.2.2.2.2.2.1
theorem WF.given {s : A} (h : WF s) : ∀ r, r < 6 → s.given r < 256 := h.2.2.2.2.2.2.2.2.2.2.2.2.2.2.1
theorem WF.since {s : A} (h : WF s) : ∀ r, r < 6 → s.since r ≤ s.n := h.2.2.2.2.2.2.2.2.2.2.2.2.2.2.2.1
theorem WF.good {s : A} (h : WF s) : ∀ r, r < 6 → s.good r ≤ s.n := h.2.2.2.2.2.2.2.2.2.2.2.2.2.2.2.2.1
theorem WF.freshR {s : A} (h : WF s) : ∀ r, s.R ≤ r → r < 6 → s.stp r = 0 ∧ s.since r = 0 ∧ s.good r = 0 ∧ s.given r = 0 := h.2.2.2.2.2.2.2.2.2.2.2.2.2.2.2.2.2.1
theorem WF.hc {s : A} (h : WF s) : ∀ r, r < s.R → s.hc r = 0 ∨ (s.hc r ≤ 4 * s.P ∧ 0 < s.V ((s.hc r - 1) % 4)) ∨ (101 ≤ s.hc r ∧ s.hc r < 101 + s.S) := h.2.2.2.2.2.2.2.2.2.2.2.2.2.2.2.2.2.2.1
theorem WF.stop {s : A} (h : WF s) : ∀ r, r < s.R → s.stp r = 1 → s.hc r = 0 := h.2.2.2.2.2.2.2.2.2.2.2.2.2.2.2.2.2.2.2.1
theorem WF.S {s : A} (h : WF s) : s.S ≤ 8 := h.2.2.2.2.2.2.2.2.2.2.2.2.2.2.2.2.2.2.2.2.1
theorem WF.sq {s : A} (h : WF s) : ∀ k, k < s.S → s.sq k ≤ 3 ∧ s.sp k ≤ 255 ∧ 0 < s.V (s.sq k) := h.2.2.2.2.2.2.2.2.2.2.2.2.2.2.2.2.2.2.2.2.2.1
theorem WF.tw {s : A} (h : WF s) : ∀ q, q < 4 → s.tw q ≤ 1 := h.2.2.2.2.2.2.2.2.2.2.2.2.2.2.2.2.2.2.2.2.2.2.1
theorem WF.tol {s : A} (h : WF s) : s.tol ≤ 9 := h.2.2.2.2.2.2.2.2.2.2.2.2.2.2.2.2.2.2.2.2.2.2.2.1
theorem WF.isr {s : A} (h : WF s) : s.isr ≤ 1 := h.2.2.2.2.2.2.2.2.2.2.2.2.2.2.2.2.2.2.2.2.2.2.2.2.1
theorem WF.b0 {s : A} (h : WF s) : s.b0 ≤ 999 := h.2.2.2.2.2.2.2.2.2.2.2.2.2.2.2.2.2.2.2.2.2.2.2.2.2.1
theorem WF.b1 {s : A} (h : WF s) : s.b1 ≤ s.b0 := h.2.2.2.2.2.2.2.2.2.2.2.2.2.2.2.2.2.2.2.2.2.2.2.2.2.2.1
theorem WF.b2 {s : A} (h : WF s) : s.b2 ≤ s.b1 := h.2.2.2.2.2.2.2.2.2.2.2.2.2.2.2.2.2.2.2.2.2.2.2.2.2.2.2.1
theorem WF.n {s : A} (h : WF s) : s.n ≤ 300 := h.2.2.2.2.2.2.2.2.2.2.2.2.2.2.2.2.2.2.2.2.2.2.2.2.2.2.2.2.1
theorem WF.ans {s : A} (h : WF s) : ∀ k, k < s.n → s.ans k < 4 * s.P ∧ 0 < s.V (s.ans k % 4) := h.2.2.2.2.2.2.2.2.2.2.2.2.2.2.2.2.2.2.2.2.2.2.2.2.2.2.2.2.2.1
theorem WF.rby {s : A} (h : WF s) : ∀ k, k < s.n → s.rby k < s.R := h.2.2.2.2.2.2.2.2.2.2.2.2.2.2.2.2.2.2.2.2.2.2.2.2.2.2.2.2.2.2.1
theorem WF.pts {s : A} (h : WF s) : ∀ k, k < s.n → s.pts k ≤ 255 ∧ s.lts k ≤ 255 := h.2.2.2.2.2.2.2.2.2.2.2.2.2.2.2.2.2.2.2.2.2.2.2.2.2.2.2.2.2.2.2.1
theorem WF.voi {s : A} (h : WF s) : ∀ k, k < 300 → s.voi k ≤ 1 := h.2.2.2.2.2.2.2.2.2.2.2.2.2.2.2.2.2.2.2.2.2.2.2.2.2.2.2.2.2.2.2.2.1
theorem WF.freshL {s : A} (h : WF s) : ∀ k, s.n ≤ k → k < 300 → s.voi k = 0 := h.2.2.2.2.2.2.2.2.2.2.2.2.2.2.2.2.2.2.2.2.2.2.2.2.2.2.2.2.2.2.2.2.2.1
theorem WF.apr {s : A} (h : WF s) : ∀ k, k < s.n → s.apr k ≤ 1 := h.2.2.2.2.2.2.2.2.2.2.2.2.2.2.2.2.2.2.2.2.2.2.2.2.2.2.2.2.2.2.2.2.2.2.1
theorem WF.clean {s : A} (h : WF s) : ∀ k, k < s.n → s.stp (s.rby k) = 0 → s.good (s.rby k) ≤ k → s.voi k = 0 := h.2.2.2.2.2.2.2.2.2.2.2.2.2.2.2.2.2.2.2.2.2.2.2.2.2.2.2.2.2.2.2.2.2.2.2.1
theorem WF.al {s : A} (h : WF s) : ∀ a, a < 4 * s.P → s.apb a = 1 → s.lkb a = 0 := h.2.2.2.2.2.2.2.2.2.2.2.2.2.2.2.2.2.2.2.2.2.2.2.2.2.2.2.2.2.2.2.2.2.2.2.2.1
theorem WF.ah {s : A} (h : WF s) : ∀ r, r < s.R → 0 < s.hc r → s.hc r ≤ 100 → s.hap r = 1 → s.apb (s.hc r - 1) = 1 := h.2.2.2.2.2.2.2.2.2.2.2.2.2.2.2.2.2.2.2.2.2.2.2.2.2.2.2.2.2.2.2.2.2.2.2.2.2.1
theorem WF.ar {s : A} (h : WF s) : ∀ k, k < s.n → s.apr k = 1 → s.apb (s.ans k) = 1 := h.2.2.2.2.2.2.2.2.2.2.2.2.2.2.2.2.2.2.2.2.2.2.2.2.2.2.2.2.2.2.2.2.2.2.2.2.2.2
def RC1 (σ : Mem) (s : A) : Prop := σ 76 5 = nI s.m ∧ ∀ j, j < s.m → σ 1 j = s.l j
def RC2 (σ : Mem) (s : A) : Prop := σ 76 7 = nI s.P ∧ (∀ k, k < s.P → σ 13 k = s.sch k ∧ σ 17 k = nI (s.lack k) ∧ σ 14 k = nI (s.urg k) ∧ σ 16 k = s.rel k) ∧ ∀ k, k < 16 → σ 15 k = nI (s.gift k) ∧ σ 18 k = nI (s.app k)
def RC3 (σ : Mem) (s : A) : Prop := (∀ q, q < 4 → σ 31 q = nI (s.V q)) ∧ ∀ q v, q < 4 → v < s.V q → (∀ j, j < s.len (6 * q + v) → σ 32 (80 * (6 * q + v) + j) = s.txt (6 * q + v) j) ∧ σ 33 (6 * q + v) = nI (s.len (6 * q + v)) ∧ σ 34 (6 * q + v) = nI (s.let9 (6 * q + v)) ∧ σ 35 (6 * q + v) = nI (s.most (6 * q + v))
def RC4 (σ : Mem) (s : A) : Prop := σ 76 8 = nI s.R ∧ (∀ r, r < s.R → σ 19 r = s.rs r ∧ σ 30 r = nI (s.rq r) ∧ σ 20 r = nI (s.sen r) ∧ σ 22 r = s.hand r ∧ (0 < s.hc r → s.hc r ≤ 100 → σ 24 r = nI (s.hap r)) ∧ (101 ≤ s.hc r → σ 23 r = nI (s.hc r - 101))) ∧ ∀ r, r < 6 → σ 21 r = nI (s.stp r) ∧ σ 27 r = nI (s.since r) ∧ σ 29 r = nI (s.given r) ∧ (s.stp r = 0 → σ 28 r = nI (s.good r))
def RC5 (σ : Mem) (s : A) : Prop := σ 76 9 = nI s.S ∧ (∀ k, k < s.S → σ 39 k = nI (s.sq k) ∧ σ 40 k = nI (s.sp k)) ∧ (∀ q, q < 4 → σ 41 q = nI (s.tw q)) ∧ σ 76 17 = nI s.tol ∧ σ 76 21 = nI s.isr ∧ σ 76 18 = nI s.b0 ∧ σ 76 19 = nI s.b1 ∧ σ 76 20 = nI s.b2
def RC6 (σ : Mem) (s : A) : Prop := σ 76 6 = nI s.n ∧ (∀ k, k < s.n → σ 2 k = nI (s.ans k) ∧ σ 3 k = nI (s.rby k) ∧ σ 4 k = nI (s.pts k) ∧ σ 5 k = nI (s.lts k) ∧ σ 7 k = nI (s.apr k) ∧ σ 8 k = s.worth k) ∧ (∀ k, k < 300 → σ 6 k = nI (s.voi k)) ∧ ∀ r, r < 6 → σ 25 r = nI (s.nby r) ∧ σ 26 r = nI (s.nvoid r)
/-- the list from k on is L, each sign naming the next -/
def lnk (f : Nat → Int32) : List Nat → Prop
  | [] => True
  | [_] => True
  | a :: b :: t => f a = nI b ∧ lnk f (b :: t)
def RC7 (σ : Mem) (s : A) : Prop := ∀ a, a < 64 → σ 11 a = nI (s.L a).length ∧ lnk (σ 9) (s.L a) ∧ (∀ k, (s.L a).head? = some k → σ 10 a = nI k) ∧ ∀ k, (s.L a).getLast? = some k → σ 12 a = nI k
def RM1 (σ : Mem) (s : A) : Prop := σ 76 23 = nI s.m ∧ ∀ j, j < s.m → σ 43 j = s.l j
def RM2 (σ : Mem) (s : A) : Prop := σ 76 25 = nI s.P ∧ (∀ k, k < s.P → σ 44 k = s.sch k ∧ σ 45 k = nI (s.lack k) ∧ σ 46 k = nI (s.urg k)) ∧ ∀ k, k < 16 → σ 47 k = nI (s.gift k) ∧ σ 49 k = s.rel k ∧ ∀ q, q < 4 → σ 48 (4 * k + q) = nI (s.app k / 2 ^ q % 2)
def RM3 (σ : Mem) (s : A) : Prop := (∀ q, q < 4 → σ 51 q = nI (s.V q)) ∧ ∀ q v, q < 4 → v < s.V q → TM σ (6 * q + v) (s.len (6 * q + v)) (s.tm (6 * q + v)) (s.most (6 * q + v)) (s.txt (6 * q + v)) ∧ σ 53 (6 * q + v) = nI (s.let9 (6 * q + v))
def RM4 (σ : Mem) (s : A) : Prop := σ 76 27 = nI s.R ∧ (∀ r, r < s.R → σ 55 r = s.rs r ∧ σ 56 r = nI (s.rq r) ∧ σ 57 r = nI (s.sen r) ∧ σ 59 r = nI (s.hc r) - 1 ∧ (0 < s.hc r → s.hc r ≤ 100 → σ 60 r = nI (s.hap r))) ∧ ∀ r, r < 6 → σ 58 r = nI (s.stp r) ∧ σ 61 r = nI (s.since r) ∧ σ 63 r = nI (s.given r) ∧ (s.stp r = 0 → σ 62 r = nI (s.good r))
def RM5 (σ : Mem) (s : A) : Prop := σ 76 28 = nI s.S ∧ (∀ k, k < s.S → σ 64 k = nI (s.sq k) ∧ σ 65 k = nI (s.sp k)) ∧ (∀ q, q < 4 → σ 54 q = nI (s.tw q)) ∧ σ 76 24 = nI s.tol ∧ σ 76 26 = nI s.isr ∧ σ 50 0 = nI s.b0 ∧ σ 50 1 = nI s.b1 ∧ σ 50 2 = nI s.b2
def RM6 (σ : Mem) (s : A) : Prop := σ 76 29 = nI s.n ∧ (∀ k, k < s.n → σ 66 k = nI (s.ans k) ∧ σ 67 k = nI (s.rby k) ∧ σ 68 k = nI (s.pts k) ∧ σ 69 k = nI (s.lts k) ∧ σ 71 k = nI (s.apr k)) ∧ ∀ k, k < 300 → σ 70 k = nI (s.voi k)
theorem RC1.k {σ u : Mem} {s : A} (h : RC1 σ s) (e : keep 1 σ u) : RC1 u s := ⟨(e _ _ rfl).trans h.1, fun j hj => (e _ _ rfl).trans (h.2 j hj)⟩
theorem RC2.k {σ u : Mem} {s : A} (h : RC2 σ s) (e : keep 2 σ u) : RC2 u s := ⟨(e _ _ rfl).trans h.1, fun k hk => ⟨(e _ _ rfl).trans (h.2.1 k hk).1, (e _ _ rfl).trans (h.2.1 k hk).2.1, (e _ _ rfl).trans (h.2.1 k hk).2.2.1, (e _ _ rfl).trans (h.2.1 k hk).2.2.2⟩, fun k hk => ⟨(e _ _ rfl).trans (h.2.2 k hk).1, (e _ _ rfl).trans (h.2.2 k hk).2⟩⟩
theorem RC3.k {σ u : Mem} {s : A} (h : RC3 σ s) (e : keep 3 σ u) : RC3 u s := ⟨fun q hq => (e _ _ rfl).trans (h.1 q hq), fun q v hq hv => ⟨fun j hj => (e _ _ rfl).trans ((h.2 q v hq hv).1 j hj), (e _ _ rfl).trans (h.2 q v hq hv).2.1, (e _ _ rfl).trans (h.2 q v hq hv).2.2.1, (e _ _ rfl).trans (h.2 q v hq hv).2.2.2⟩⟩
theorem RC4.k {σ u : Mem} {s : A} (h : RC4 σ s) (e : keep 4 σ u) : RC4 u s := by
  refine ⟨(e _ _ rfl).trans h.1, fun r hr => ?_, fun r hr => ?_⟩
  · obtain ⟨a1, a2, a3, a4, a5, a6⟩ := h.2.1 r hr
    exact ⟨(e _ _ rfl).trans a1, (e _ _ rfl).trans a2, (e _ _ rfl).trans a3, (e _ _ rfl).trans a4, fun x y => (e _ _ rfl).trans (a5 x y), fun x => (e _ _ rfl).trans (a6 x)⟩
  · obtain ⟨a1, a2, a3, a4⟩ := h.2.2 r hr
    exact ⟨(e _ _ rfl).trans a1, (e _ _ rfl).trans a2, (e _ _ rfl).trans a3, fun x => (e _ _ rfl).trans (a4 x)⟩
theorem RC5.k {σ u : Mem} {s : A} (h : RC5 σ s) (e : keep 5 σ u) : RC5 u s := by
  obtain ⟨a1, a2, a3, a4, a5, a6, a7, a8⟩ := h
  exact ⟨(e _ _ rfl).trans a1, fun k hk => ⟨(e _ _ rfl).trans (a2 k hk).1, (e _ _ rfl).trans (a2 k hk).2⟩, fun q hq => (e _ _ rfl).trans (a3 q hq), (e _ _ rfl).trans a4, (e _ _ rfl).trans a5, (e _ _ rfl).trans a6, (e _ _ rfl).trans a7, (e _ _ rfl).trans a8⟩
theorem RC6.k {σ u : Mem} {s : A} (h : RC6 σ s) (e : keep 6 σ u) : RC6 u s := by
  refine ⟨(e _ _ rfl).trans h.1, fun k hk => ?_, fun k hk => (e _ _ rfl).trans (h.2.2.1 k hk), fun r hr => ⟨(e _ _ rfl).trans (h.2.2.2 r hr).1, (e _ _ rfl).trans (h.2.2.2 r hr).2⟩⟩
  obtain ⟨a1, a2, a3, a4, a5, a6⟩ := h.2.1 k hk
  exact ⟨(e _ _ rfl).trans a1, (e _ _ rfl).trans a2, (e _ _ rfl).trans a3, (e _ _ rfl).trans a4, (e _ _ rfl).trans a5, (e _ _ rfl).trans a6⟩
theorem RC7.k {σ u : Mem} {s : A} (h : RC7 σ s) (e : keep 7 σ u) : RC7 u s := by
  intro a ha
  obtain ⟨a1, a2, a3, a4⟩ := h a ha
  have e9 : u 9 = σ 9 := by funext k; exact e _ _ rfl
  exact ⟨(e _ _ rfl).trans a1, by rw [e9]; exact a2, fun k hk => (e _ _ rfl).trans (a3 k hk), fun k hk => (e _ _ rfl).trans (a4 k hk)⟩
theorem RM1.k {σ u : Mem} {s : A} (h : RM1 σ s) (e : keep 11 σ u) : RM1 u s := ⟨(e _ _ rfl).trans h.1, fun j hj => (e _ _ rfl).trans (h.2 j hj)⟩
theorem RM2.k {σ u : Mem} {s : A} (h : RM2 σ s) (e : keep 12 σ u) : RM2 u s := ⟨(e _ _ rfl).trans h.1, fun k hk => ⟨(e _ _ rfl).trans (h.2.1 k hk).1, (e _ _ rfl).trans (h.2.1 k hk).2.1, (e _ _ rfl).trans (h.2.1 k hk).2.2⟩, fun k hk => ⟨(e _ _ rfl).trans (h.2.2 k hk).1, (e _ _ rfl).trans (h.2.2 k hk).2.1, fun q hq => (e _ _ rfl).trans ((h.2.2 k hk).2.2 q hq)⟩⟩
theorem RM3.k {σ u : Mem} {s : A} (h : RM3 σ s) (e : keep 13 σ u) : RM3 u s := by
  refine ⟨fun q hq => (e _ _ rfl).trans (h.1 q hq), fun q v hq hv => ⟨?_, (e _ _ rfl).trans (h.2 q v hq hv).2⟩⟩
  have t := (h.2 q v hq hv).1
  have e52 : u 52 = σ 52 := by funext k; exact e _ _ rfl
  unfold TM at t ⊢
  rw [e52]
  exact t
theorem RM4.k {σ u : Mem} {s : A} (h : RM4 σ s) (e : keep 14 σ u) : RM4 u s := by
  refine ⟨(e _ _ rfl).trans h.1, fun r hr => ?_, fun r hr => ?_⟩
  · obtain ⟨a1, a2, a3, a4, a5⟩ := h.2.1 r hr
    exact ⟨(e _ _ rfl).trans a1, (e _ _ rfl).trans a2, (e _ _ rfl).trans a3, (e _ _ rfl).trans a4, fun x y => (e _ _ rfl).trans (a5 x y)⟩
  · obtain ⟨a1, a2, a3, a4⟩ := h.2.2 r hr
    exact ⟨(e _ _ rfl).trans a1, (e _ _ rfl).trans a2, (e _ _ rfl).trans a3, fun x => (e _ _ rfl).trans (a4 x)⟩
theorem RM5.k {σ u : Mem} {s : A} (h : RM5 σ s) (e : keep 15 σ u) : RM5 u s := by
  obtain ⟨a1, a2, a3, a4, a5, a6, a7, a8⟩ := h
  exact ⟨(e _ _ rfl).trans a1, fun k hk => ⟨(e _ _ rfl).trans (a2 k hk).1, (e _ _ rfl).trans (a2 k hk).2⟩, fun q hq => (e _ _ rfl).trans (a3 q hq), (e _ _ rfl).trans a4, (e _ _ rfl).trans a5, (e _ _ rfl).trans a6, (e _ _ rfl).trans a7, (e _ _ rfl).trans a8⟩
theorem RM6.k {σ u : Mem} {s : A} (h : RM6 σ s) (e : keep 16 σ u) : RM6 u s := by
  refine ⟨(e _ _ rfl).trans h.1, fun k hk => ?_, fun k hk => (e _ _ rfl).trans (h.2.2 k hk)⟩
  obtain ⟨a1, a2, a3, a4, a5⟩ := h.2.1 k hk
  exact ⟨(e _ _ rfl).trans a1, (e _ _ rfl).trans a2, (e _ _ rfl).trans a3, (e _ _ rfl).trans a4, (e _ _ rfl).trans a5⟩
def RelC (σ : Mem) (s : A) : Prop := (RC1 σ s) ∧ (RC2 σ s) ∧ (RC3 σ s) ∧ (RC4 σ s) ∧ (RC5 σ s) ∧ (RC6 σ s) ∧ (RC7 σ s)
theorem RelC.c1 {σ : Mem} {s : A} (h : RelC σ s) : RC1 σ s := h.1
theorem RelC.c2 {σ : Mem} {s : A} (h : RelC σ s) : RC2 σ s := h.2.1
theorem RelC.c3 {σ : Mem} {s : A} (h : RelC σ s) : RC3 σ s := h.2.2.1
theorem RelC.c4 {σ : Mem} {s : A} (h : RelC σ s) : RC4 σ s := h.2.2.2.1
theorem RelC.c5 {σ : Mem} {s : A} (h : RelC σ s) : RC5 σ s := h.2.2.2.2.1
theorem RelC.c6 {σ : Mem} {s : A} (h : RelC σ s) : RC6 σ s := h.2.2.2.2.2.1
theorem RelC.c7 {σ : Mem} {s : A} (h : RelC σ s) : RC7 σ s := h.2.2.2.2.2.2
def RelM (σ : Mem) (s : A) : Prop := (RM1 σ s) ∧ (RM2 σ s) ∧ (RM3 σ s) ∧ (RM4 σ s) ∧ (RM5 σ s) ∧ (RM6 σ s)
theorem RelM.m1 {σ : Mem} {s : A} (h : RelM σ s) : RM1 σ s := h.1
theorem RelM.m2 {σ : Mem} {s : A} (h : RelM σ s) : RM2 σ s := h.2.1
theorem RelM.m3 {σ : Mem} {s : A} (h : RelM σ s) : RM3 σ s := h.2.2.1
theorem RelM.m4 {σ : Mem} {s : A} (h : RelM σ s) : RM4 σ s := h.2.2.2.1
theorem RelM.m5 {σ : Mem} {s : A} (h : RelM σ s) : RM5 σ s := h.2.2.2.2.1
theorem RelM.m6 {σ : Mem} {s : A} (h : RelM σ s) : RM6 σ s := h.2.2.2.2.2
theorem RelC.fr {σ u : Mem} {s : A} (h : RelC σ s) (e : frM σ u) : RelC u s := ⟨h.c1.k (e 1 (by omega) (by omega)), h.c2.k (e 2 (by omega) (by omega)), h.c3.k (e 3 (by omega) (by omega)), h.c4.k (e 4 (by omega) (by omega)), h.c5.k (e 5 (by omega) (by omega)), h.c6.k (e 6 (by omega) (by omega)), h.c7.k (e 7 (by omega) (by omega))⟩
theorem RelM.fr {σ u : Mem} {s : A} (h : RelM σ s) (e : frC σ u) : RelM u s := ⟨h.m1.k (e 11 (by omega)), h.m2.k (e 12 (by omega)), h.m3.k (e 13 (by omega)), h.m4.k (e 14 (by omega)), h.m5.k (e 15 (by omega)), h.m6.k (e 16 (by omega))⟩
theorem RelC.ev {σ u : Mem} {s : A} (h : RelC σ s) (e : eqv σ u) : RelC u s := h.fr e.frM
theorem RelM.ev {σ u : Mem} {s : A} (h : RelM σ s) (e : eqv σ u) : RelM u s := h.fr e.frC
def Inv9 (σ : Mem) : Prop := ∃ s : A, WF s ∧ RelC σ s ∧ RelM σ s
/-- the class answers so, and then holds s'; so does the reference -/
def CA (f : Mem → Option ((Nat × Int32) × Mem)) (σ : Mem) (oc : Nat × Int32) (s' : A) : Prop := ∃ u, f σ = some (oc, u) ∧ RelC u s' ∧ frC σ u
def MA (f : Mem → Option (Int32 × Mem)) (σ : Mem) (c : Int32) (r : Int32) (s' : A) : Prop := ∃ u, f σ = some (r, u) ∧ u 76 22 = c ∧ RelM u s' ∧ frM σ u
theorem stepG {fA : Mem → Option ((Nat × Int32) × Mem)} {fM : Mem → Option (Int32 × Mem)} {cs : List Nat} {σ : Mem} {s s' : A} {oc : Nat × Int32} {r : Int32} (hW : WF s') (hM : RelM σ s) (hA : CA fA σ oc s') (hB : ∀ u, RelM u s → MA fM u (wcode cs oc.1) r s') (h1 : oc.1 = 0 ∨ oc.1 ∈ cs) (h2 : oc.1 = 0 → oc.2 = r) : StpG Inv9 fA fM cs σ := by
  obtain ⟨u, a1, a2, a3⟩ := hA
  obtain ⟨u2, b1, b2, b3, b4⟩ := hB u (hM.fr a3)
  exact ⟨oc, u, r, u2, a1, h1, b1, b2, h2, s', hW, a2.fr b4, b3⟩
