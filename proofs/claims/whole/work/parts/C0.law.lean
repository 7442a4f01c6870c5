/-! the 27 calls together, and the law from its entry -/
theorem step_all {σ : Mem} (hI : Inv9 σ) (x1 x2 x3 : Int32) : ∀ k, k < 27 → Step Inv9 σ x1 x2 x3 k
  | 0, _ => step_pupil x1 x2 x3 hI
  | 1, _ => step_gift x1 x2 hI
  | 2, _ => step_type x1 hI
  | 3, _ => step_scheme x1 hI
  | 4, _ => step_twice x1 x2 hI
  | 5, _ => step_tol x1 hI
  | 6, _ => step_reader x1 x2 x3 hI
  | 7, _ => step_seed x1 x2 hI
  | 8, _ => step_next x1 hI
  | 9, _ => step_read x1 x2 hI
  | 10, _ => step_goOn x1 hI
  | 11, _ => step_lines x1 x2 x3 hI
  | 12, _ => step_release hI
  | 13, _ => step_appeal x1 x2 hI
  | 14, _ => step_versions x1 hI
  | 15, _ => step_markOf x1 x2 x3 hI
  | 16, _ => step_written x1 x2 x3 hI
  | 17, _ => step_mark x1 x2 hI
  | 18, _ => step_markAnew x1 x2 hI
  | 19, _ => step_answer x1 x2 x3 hI
  | 20, _ => step_total x1 hI
  | 21, _ => step_grade x1 x2 hI
  | 22, _ => step_changed hI
  | 23, _ => step_lineOf x1 hI
  | 24, _ => step_lineAnew x1 hI
  | 25, _ => step_ofReader x1 x2 hI
  | 26, _ => step_wanted hI
  | k + 27, h => absurd h (by omega)

theorem whole_start {p : Program} {e : Env} {s : State} {m : MethodId} {below : List Frame} {meth : Method} {c : Code} (l : Launch) (hflags : l.flags = flags0) {b L : Nat} {xs : Nat → Int32} (hL : L ≤ 2048) (C0 : lw_At p s m meth c b L xs) : W p l e room_1 s m #[Value.ref b] below meth c s.heap [] 0 0 (lw_Z below #[Value.ref b] s) (entryFrame m ([Value.ref b] : List Value).toArray 7) :=
  whole_of Inv9_0 (fun _ hI x1 x2 x3 k hk => step_all hI x1 x2 x3 k hk) l hflags hL C0
