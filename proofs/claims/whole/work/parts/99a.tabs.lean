/-! THE TABLES at the law's entry -/
theorem tw {w : Cond} (i : Nat) (h : tables_1[i]? = some w) : w ∈ lw_tbl := List.mem_append_right _ (List.mem_of_getElem? h)
set_option maxHeartbeats 4000000 in
theorem tabs_0 {args : Array Value} {s : State} {A : Nat → Prop} (h : (Jvm.Cond.and given_1 narrow_1).before args s = true) (hts : ∀ w ∈ lw_tbl, w.before args s = true) (hA : ∀ a : Nat, a < s.heap.size → ¬ A a) : ∃ t : Nat, va_Z RX11 "LEAST" "[I" (.ref t) A s s.heap ∧ va_T .int t 7 (fun j => .int ((sI 0).getD j 0)) A s s.heap := by
  have hs := flat_of_before _ h
  have key : ∃ t : Nat, (Term.static RX11 "LEAST" "[I").eval args s none [] s = some (.ref t) ∧ va_T .int t 7 (fun j => .int ((sI 0).getD j 0)) A s s.heap := by
    refine va_Tof (tm := Term.static RX11 "LEAST" "[I") (by decide) (hs _ (by decide +kernel)) (va_eqt (z := 7) (hs _ (by decide +kernel))) (fun j hj => ?_) hA
    rcases (show j = 0 ∨ j = 1 ∨ j = 2 ∨ j = 3 ∨ j = 4 ∨ j = 5 ∨ j = 6 by omega) with rfl | rfl | rfl | rfl | rfl | rfl | rfl
    · exact va_eqt (t := Term.elem (Term.static RX11 "LEAST" "[I") (.int 0)) (z := 0) (hs _ (by decide +kernel))
    · exact va_eqt (t := Term.elem (Term.static RX11 "LEAST" "[I") (.int 1)) (z := 0) (hs _ (by decide +kernel))
    · exact va_eqt (t := Term.elem (Term.static RX11 "LEAST" "[I") (.int 2)) (z := 0) (hs _ (by decide +kernel))
    · exact va_eqt (t := Term.elem (Term.static RX11 "LEAST" "[I") (.int 3)) (z := 0) (hs _ (by decide +kernel))
    · exact va_eqt (t := Term.elem (Term.static RX11 "LEAST" "[I") (.int 4)) (z := 1) (hs _ (by decide +kernel))
    · exact va_eqt (t := Term.elem (Term.static RX11 "LEAST" "[I") (.int 5)) (z := 1) (hs _ (by decide +kernel))
    · exact va_eqt (t := Term.elem (Term.static RX11 "LEAST" "[I") (.int 6)) (z := 0) (hs _ (by decide +kernel))
  obtain ⟨t, h1, h2⟩ := key
  exact ⟨t, va_Zref (hts _ (tw 431 (by decide +kernel))) (hts _ (tw 1 (by decide +kernel))) h1 hA, h2⟩
set_option maxHeartbeats 4000000 in
theorem tabs_1 {args : Array Value} {s : State} {A : Nat → Prop} (h : (Jvm.Cond.and given_1 narrow_1).before args s = true) (hts : ∀ w ∈ lw_tbl, w.before args s = true) (hA : ∀ a : Nat, a < s.heap.size → ¬ A a) : ∃ t : Nat, va_Z RX11 "MOST" "[I" (.ref t) A s s.heap ∧ va_T .int t 7 (fun j => .int ((sI 1).getD j 0)) A s s.heap := by
  have hs := flat_of_before _ h
  have key : ∃ t : Nat, (Term.static RX11 "MOST" "[I").eval args s none [] s = some (.ref t) ∧ va_T .int t 7 (fun j => .int ((sI 1).getD j 0)) A s s.heap := by
    refine va_Tof (tm := Term.static RX11 "MOST" "[I") (by decide) (hs _ (by decide +kernel)) (va_eqt (z := 7) (hs _ (by decide +kernel))) (fun j hj => ?_) hA
    rcases (show j = 0 ∨ j = 1 ∨ j = 2 ∨ j = 3 ∨ j = 4 ∨ j = 5 ∨ j = 6 by omega) with rfl | rfl | rfl | rfl | rfl | rfl | rfl
    · exact va_eqt (t := Term.elem (Term.static RX11 "MOST" "[I") (.int 0)) (z := 99) (hs _ (by decide +kernel))
    · exact va_eqt (t := Term.elem (Term.static RX11 "MOST" "[I") (.int 1)) (z := 9) (hs _ (by decide +kernel))
    · exact va_eqt (t := Term.elem (Term.static RX11 "MOST" "[I") (.int 2)) (z := 1) (hs _ (by decide +kernel))
    · exact va_eqt (t := Term.elem (Term.static RX11 "MOST" "[I") (.int 3)) (z := 1) (hs _ (by decide +kernel))
    · exact va_eqt (t := Term.elem (Term.static RX11 "MOST" "[I") (.int 4)) (z := 9) (hs _ (by decide +kernel))
    · exact va_eqt (t := Term.elem (Term.static RX11 "MOST" "[I") (.int 5)) (z := 4) (hs _ (by decide +kernel))
    · exact va_eqt (t := Term.elem (Term.static RX11 "MOST" "[I") (.int 6)) (z := 11) (hs _ (by decide +kernel))
  obtain ⟨t, h1, h2⟩ := key
  exact ⟨t, va_Zref (hts _ (tw 414 (by decide +kernel))) (hts _ (tw 1 (by decide +kernel))) h1 hA, h2⟩
set_option maxHeartbeats 4000000 in
theorem tabs_2 {args : Array Value} {s : State} {A : Nat → Prop} (h : (Jvm.Cond.and given_1 narrow_1).before args s = true) (hts : ∀ w ∈ lw_tbl, w.before args s = true) (hA : ∀ a : Nat, a < s.heap.size → ¬ A a) : ∃ t : Nat, va_Z RX0 "OVER_EDGE" "[I" (.ref t) A s s.heap ∧ va_T .int t 36 (fun j => .int ((sI 2).getD j 0)) A s s.heap := by
  have hs := flat_of_before _ h
  have key : ∃ t : Nat, (Term.static RX0 "OVER_EDGE" "[I").eval args s none [] s = some (.ref t) ∧ va_T .int t 36 (fun j => .int ((sI 2).getD j 0)) A s s.heap := by
    refine va_Tof (tm := Term.static RX0 "OVER_EDGE" "[I") (by decide) (hs _ (by decide +kernel)) (va_eqt (z := 36) (hs _ (by decide +kernel))) (fun j hj => ?_) hA
    rcases (show j = 0 ∨ j = 1 ∨ j = 2 ∨ j = 3 ∨ j = 4 ∨ j = 5 ∨ j = 6 ∨ j = 7 ∨ j = 8 ∨ j = 9 ∨ j = 10 ∨ j = 11 ∨ j = 12 ∨ j = 13 ∨ j = 14 ∨ j = 15 ∨ j = 16 ∨ j = 17 ∨ j = 18 ∨ j = 19 ∨ j = 20 ∨ j = 21 ∨ j = 22 ∨ j = 23 ∨ j = 24 ∨ j = 25 ∨ j = 26 ∨ j = 27 ∨ j = 28 ∨ j = 29 ∨ j = 30 ∨ j = 31 ∨ j = 32 ∨ j = 33 ∨ j = 34 ∨ j = 35 by omega) with rfl | rfl | rfl | rfl | rfl | rfl | rfl | rfl | rfl | rfl | rfl | rfl | rfl | rfl | rfl | rfl | rfl | rfl | rfl | rfl | rfl | rfl | rfl | rfl | rfl | rfl | rfl | rfl | rfl | rfl | rfl | rfl | rfl | rfl | rfl | rfl
    · exact va_eqt (t := Term.elem (Term.static RX0 "OVER_EDGE" "[I") (.int 0)) (z := 2) (hs _ (by decide +kernel))
    · exact va_eqt (t := Term.elem (Term.static RX0 "OVER_EDGE" "[I") (.int 1)) (z := 1) (hs _ (by decide +kernel))
    · exact va_eqt (t := Term.elem (Term.static RX0 "OVER_EDGE" "[I") (.int 2)) (z := 1) (hs _ (by decide +kernel))
    · exact va_eqt (t := Term.elem (Term.static RX0 "OVER_EDGE" "[I") (.int 3)) (z := 1) (hs _ (by decide +kernel))
    · exact va_eqt (t := Term.elem (Term.static RX0 "OVER_EDGE" "[I") (.int 4)) (z := 1) (hs _ (by decide +kernel))
    · exact va_eqt (t := Term.elem (Term.static RX0 "OVER_EDGE" "[I") (.int 5)) (z := 2) (hs _ (by decide +kernel))
    · exact va_eqt (t := Term.elem (Term.static RX0 "OVER_EDGE" "[I") (.int 6)) (z := 1) (hs _ (by decide +kernel))
    · exact va_eqt (t := Term.elem (Term.static RX0 "OVER_EDGE" "[I") (.int 7)) (z := 0) (hs _ (by decide +kernel))
    · exact va_eqt (t := Term.elem (Term.static RX0 "OVER_EDGE" "[I") (.int 8)) (z := 0) (hs _ (by decide +kernel))
    · exact va_eqt (t := Term.elem (Term.static RX0 "OVER_EDGE" "[I") (.int 9)) (z := 0) (hs _ (by decide +kernel))
    · exact va_eqt (t := Term.elem (Term.static RX0 "OVER_EDGE" "[I") (.int 10)) (z := 0) (hs _ (by decide +kernel))
    · exact va_eqt (t := Term.elem (Term.static RX0 "OVER_EDGE" "[I") (.int 11)) (z := 1) (hs _ (by decide +kernel))
    · exact va_eqt (t := Term.elem (Term.static RX0 "OVER_EDGE" "[I") (.int 12)) (z := 1) (hs _ (by decide +kernel))
    · exact va_eqt (t := Term.elem (Term.static RX0 "OVER_EDGE" "[I") (.int 13)) (z := 0) (hs _ (by decide +kernel))
    · exact va_eqt (t := Term.elem (Term.static RX0 "OVER_EDGE" "[I") (.int 14)) (z := 0) (hs _ (by decide +kernel))
    · exact va_eqt (t := Term.elem (Term.static RX0 "OVER_EDGE" "[I") (.int 15)) (z := 0) (hs _ (by decide +kernel))
    · exact va_eqt (t := Term.elem (Term.static RX0 "OVER_EDGE" "[I") (.int 16)) (z := 0) (hs _ (by decide +kernel))
    · exact va_eqt (t := Term.elem (Term.static RX0 "OVER_EDGE" "[I") (.int 17)) (z := 1) (hs _ (by decide +kernel))
    · exact va_eqt (t := Term.elem (Term.static RX0 "OVER_EDGE" "[I") (.int 18)) (z := 1) (hs _ (by decide +kernel))
    · exact va_eqt (t := Term.elem (Term.static RX0 "OVER_EDGE" "[I") (.int 19)) (z := 0) (hs _ (by decide +kernel))
    · exact va_eqt (t := Term.elem (Term.static RX0 "OVER_EDGE" "[I") (.int 20)) (z := 0) (hs _ (by decide +kernel))
    · exact va_eqt (t := Term.elem (Term.static RX0 "OVER_EDGE" "[I") (.int 21)) (z := 0) (hs _ (by decide +kernel))
    · exact va_eqt (t := Term.elem (Term.static RX0 "OVER_EDGE" "[I") (.int 22)) (z := 0) (hs _ (by decide +kernel))
    · exact va_eqt (t := Term.elem (Term.static RX0 "OVER_EDGE" "[I") (.int 23)) (z := 1) (hs _ (by decide +kernel))
    · exact va_eqt (t := Term.elem (Term.static RX0 "OVER_EDGE" "[I") (.int 24)) (z := 1) (hs _ (by decide +kernel))
    · exact va_eqt (t := Term.elem (Term.static RX0 "OVER_EDGE" "[I") (.int 25)) (z := 0) (hs _ (by decide +kernel))
    · exact va_eqt (t := Term.elem (Term.static RX0 "OVER_EDGE" "[I") (.int 26)) (z := 0) (hs _ (by decide +kernel))
    · exact va_eqt (t := Term.elem (Term.static RX0 "OVER_EDGE" "[I") (.int 27)) (z := 0) (hs _ (by decide +kernel))
    · exact va_eqt (t := Term.elem (Term.static RX0 "OVER_EDGE" "[I") (.int 28)) (z := 0) (hs _ (by decide +kernel))
    · exact va_eqt (t := Term.elem (Term.static RX0 "OVER_EDGE" "[I") (.int 29)) (z := 1) (hs _ (by decide +kernel))
    · exact va_eqt (t := Term.elem (Term.static RX0 "OVER_EDGE" "[I") (.int 30)) (z := 2) (hs _ (by decide +kernel))
    · exact va_eqt (t := Term.elem (Term.static RX0 "OVER_EDGE" "[I") (.int 31)) (z := 1) (hs _ (by decide +kernel))
    · exact va_eqt (t := Term.elem (Term.static RX0 "OVER_EDGE" "[I") (.int 32)) (z := 1) (hs _ (by decide +kernel))
    · exact va_eqt (t := Term.elem (Term.static RX0 "OVER_EDGE" "[I") (.int 33)) (z := 1) (hs _ (by decide +kernel))
    · exact va_eqt (t := Term.elem (Term.static RX0 "OVER_EDGE" "[I") (.int 34)) (z := 1) (hs _ (by decide +kernel))
    · exact va_eqt (t := Term.elem (Term.static RX0 "OVER_EDGE" "[I") (.int 35)) (z := 2) (hs _ (by decide +kernel))
  obtain ⟨t, h1, h2⟩ := key
  exact ⟨t, va_Zref (hts _ (tw 555 (by decide +kernel))) (hts _ (tw 2 (by decide +kernel))) h1 hA, h2⟩
set_option maxHeartbeats 4000000 in
theorem tabs_3 {args : Array Value} {s : State} {A : Nat → Prop} (h : (Jvm.Cond.and given_1 narrow_1).before args s = true) (hts : ∀ w ∈ lw_tbl, w.before args s = true) (hA : ∀ a : Nat, a < s.heap.size → ¬ A a) : ∃ t : Nat, va_Z RX5 "ABOVE" "[I" (.ref t) A s s.heap ∧ va_T .int t 8 (fun j => .int ((sI 3).getD j 0)) A s s.heap := by
  have hs := flat_of_before _ h
  have key : ∃ t : Nat, (Term.static RX5 "ABOVE" "[I").eval args s none [] s = some (.ref t) ∧ va_T .int t 8 (fun j => .int ((sI 3).getD j 0)) A s s.heap := by
    refine va_Tof (tm := Term.static RX5 "ABOVE" "[I") (by decide) (hs _ (by decide +kernel)) (va_eqt (z := 8) (hs _ (by decide +kernel))) (fun j hj => ?_) hA
    rcases (show j = 0 ∨ j = 1 ∨ j = 2 ∨ j = 3 ∨ j = 4 ∨ j = 5 ∨ j = 6 ∨ j = 7 by omega) with rfl | rfl | rfl | rfl | rfl | rfl | rfl | rfl
    · exact va_eqt (t := Term.elem (Term.static RX5 "ABOVE" "[I") (.int 0)) (z := (-1)) (hs _ (by decide +kernel))
    · exact va_eqt (t := Term.elem (Term.static RX5 "ABOVE" "[I") (.int 1)) (z := 0) (hs _ (by decide +kernel))
    · exact va_eqt (t := Term.elem (Term.static RX5 "ABOVE" "[I") (.int 2)) (z := 0) (hs _ (by decide +kernel))
    · exact va_eqt (t := Term.elem (Term.static RX5 "ABOVE" "[I") (.int 3)) (z := 2) (hs _ (by decide +kernel))
    · exact va_eqt (t := Term.elem (Term.static RX5 "ABOVE" "[I") (.int 4)) (z := 1) (hs _ (by decide +kernel))
    · exact va_eqt (t := Term.elem (Term.static RX5 "ABOVE" "[I") (.int 5)) (z := 3) (hs _ (by decide +kernel))
    · exact va_eqt (t := Term.elem (Term.static RX5 "ABOVE" "[I") (.int 6)) (z := 0) (hs _ (by decide +kernel))
    · exact va_eqt (t := Term.elem (Term.static RX5 "ABOVE" "[I") (.int 7)) (z := 4) (hs _ (by decide +kernel))
  obtain ⟨t, h1, h2⟩ := key
  exact ⟨t, va_Zref (hts _ (tw 898 (by decide +kernel))) (hts _ (tw 11 (by decide +kernel))) h1 hA, h2⟩
set_option maxHeartbeats 4000000 in
theorem tabs_4 {args : Array Value} {s : State} {A : Nat → Prop} (h : (Jvm.Cond.and given_1 narrow_1).before args s = true) (hts : ∀ w ∈ lw_tbl, w.before args s = true) (hA : ∀ a : Nat, a < s.heap.size → ¬ A a) : ∃ t : Nat, va_Z RX5 "OWN" "[I" (.ref t) A s s.heap ∧ va_T .int t 32 (fun j => .int ((sI 4).getD j 0)) A s s.heap := by
  have hs := flat_of_before _ h
  have key : ∃ t : Nat, (Term.static RX5 "OWN" "[I").eval args s none [] s = some (.ref t) ∧ va_T .int t 32 (fun j => .int ((sI 4).getD j 0)) A s s.heap := by
    refine va_Tof (tm := Term.static RX5 "OWN" "[I") (by decide) (hs _ (by decide +kernel)) (va_eqt (z := 32) (hs _ (by decide +kernel))) (fun j hj => ?_) hA
    rcases (show j = 0 ∨ j = 1 ∨ j = 2 ∨ j = 3 ∨ j = 4 ∨ j = 5 ∨ j = 6 ∨ j = 7 ∨ j = 8 ∨ j = 9 ∨ j = 10 ∨ j = 11 ∨ j = 12 ∨ j = 13 ∨ j = 14 ∨ j = 15 ∨ j = 16 ∨ j = 17 ∨ j = 18 ∨ j = 19 ∨ j = 20 ∨ j = 21 ∨ j = 22 ∨ j = 23 ∨ j = 24 ∨ j = 25 ∨ j = 26 ∨ j = 27 ∨ j = 28 ∨ j = 29 ∨ j = 30 ∨ j = 31 by omega) with rfl | rfl | rfl | rfl | rfl | rfl | rfl | rfl | rfl | rfl | rfl | rfl | rfl | rfl | rfl | rfl | rfl | rfl | rfl | rfl | rfl | rfl | rfl | rfl | rfl | rfl | rfl | rfl | rfl | rfl | rfl | rfl
    · exact va_eqt (t := Term.elem (Term.static RX5 "OWN" "[I") (.int 0)) (z := 1) (hs _ (by decide +kernel))
    · exact va_eqt (t := Term.elem (Term.static RX5 "OWN" "[I") (.int 1)) (z := 10) (hs _ (by decide +kernel))
    · exact va_eqt (t := Term.elem (Term.static RX5 "OWN" "[I") (.int 2)) (z := 11) (hs _ (by decide +kernel))
    · exact va_eqt (t := Term.elem (Term.static RX5 "OWN" "[I") (.int 3)) (z := 2) (hs _ (by decide +kernel))
    · exact va_eqt (t := Term.elem (Term.static RX5 "OWN" "[I") (.int 4)) (z := 20) (hs _ (by decide +kernel))
    · exact va_eqt (t := Term.elem (Term.static RX5 "OWN" "[I") (.int 5)) (z := 0) (hs _ (by decide +kernel))
    · exact va_eqt (t := Term.elem (Term.static RX5 "OWN" "[I") (.int 6)) (z := 0) (hs _ (by decide +kernel))
    · exact va_eqt (t := Term.elem (Term.static RX5 "OWN" "[I") (.int 7)) (z := 0) (hs _ (by decide +kernel))
    · exact va_eqt (t := Term.elem (Term.static RX5 "OWN" "[I") (.int 8)) (z := 0) (hs _ (by decide +kernel))
    · exact va_eqt (t := Term.elem (Term.static RX5 "OWN" "[I") (.int 9)) (z := 30) (hs _ (by decide +kernel))
    · exact va_eqt (t := Term.elem (Term.static RX5 "OWN" "[I") (.int 10)) (z := 0) (hs _ (by decide +kernel))
    · exact va_eqt (t := Term.elem (Term.static RX5 "OWN" "[I") (.int 11)) (z := 0) (hs _ (by decide +kernel))
    · exact va_eqt (t := Term.elem (Term.static RX5 "OWN" "[I") (.int 12)) (z := 0) (hs _ (by decide +kernel))
    · exact va_eqt (t := Term.elem (Term.static RX5 "OWN" "[I") (.int 13)) (z := 41) (hs _ (by decide +kernel))
    · exact va_eqt (t := Term.elem (Term.static RX5 "OWN" "[I") (.int 14)) (z := 40) (hs _ (by decide +kernel))
    · exact va_eqt (t := Term.elem (Term.static RX5 "OWN" "[I") (.int 15)) (z := 0) (hs _ (by decide +kernel))
    · exact va_eqt (t := Term.elem (Term.static RX5 "OWN" "[I") (.int 16)) (z := 0) (hs _ (by decide +kernel))
    · exact va_eqt (t := Term.elem (Term.static RX5 "OWN" "[I") (.int 17)) (z := 0) (hs _ (by decide +kernel))
    · exact va_eqt (t := Term.elem (Term.static RX5 "OWN" "[I") (.int 18)) (z := 50) (hs _ (by decide +kernel))
    · exact va_eqt (t := Term.elem (Term.static RX5 "OWN" "[I") (.int 19)) (z := 0) (hs _ (by decide +kernel))
    · exact va_eqt (t := Term.elem (Term.static RX5 "OWN" "[I") (.int 20)) (z := 0) (hs _ (by decide +kernel))
    · exact va_eqt (t := Term.elem (Term.static RX5 "OWN" "[I") (.int 21)) (z := 0) (hs _ (by decide +kernel))
    · exact va_eqt (t := Term.elem (Term.static RX5 "OWN" "[I") (.int 22)) (z := 0) (hs _ (by decide +kernel))
    · exact va_eqt (t := Term.elem (Term.static RX5 "OWN" "[I") (.int 23)) (z := 60) (hs _ (by decide +kernel))
    · exact va_eqt (t := Term.elem (Term.static RX5 "OWN" "[I") (.int 24)) (z := 70) (hs _ (by decide +kernel))
    · exact va_eqt (t := Term.elem (Term.static RX5 "OWN" "[I") (.int 25)) (z := 0) (hs _ (by decide +kernel))
    · exact va_eqt (t := Term.elem (Term.static RX5 "OWN" "[I") (.int 26)) (z := 0) (hs _ (by decide +kernel))
    · exact va_eqt (t := Term.elem (Term.static RX5 "OWN" "[I") (.int 27)) (z := 0) (hs _ (by decide +kernel))
    · exact va_eqt (t := Term.elem (Term.static RX5 "OWN" "[I") (.int 28)) (z := 0) (hs _ (by decide +kernel))
    · exact va_eqt (t := Term.elem (Term.static RX5 "OWN" "[I") (.int 29)) (z := 80) (hs _ (by decide +kernel))
    · exact va_eqt (t := Term.elem (Term.static RX5 "OWN" "[I") (.int 30)) (z := 0) (hs _ (by decide +kernel))
    · exact va_eqt (t := Term.elem (Term.static RX5 "OWN" "[I") (.int 31)) (z := 81) (hs _ (by decide +kernel))
  obtain ⟨t, h1, h2⟩ := key
  exact ⟨t, va_Zref (hts _ (tw 896 (by decide +kernel))) (hts _ (tw 11 (by decide +kernel))) h1 hA, h2⟩
set_option maxHeartbeats 4000000 in
theorem tabs_5 {args : Array Value} {s : State} {A : Nat → Prop} (h : (Jvm.Cond.and given_1 narrow_1).before args s = true) (hts : ∀ w ∈ lw_tbl, w.before args s = true) (hA : ∀ a : Nat, a < s.heap.size → ¬ A a) : ∃ t : Nat, va_Z RX0 "BESIDE" "[J" (.ref t) A s s.heap ∧ va_T .long t 36 (fun j => .long (sJ.getD j 0)) A s s.heap := by
  have hs := flat_of_before _ h
  have key : ∃ t : Nat, (Term.static RX0 "BESIDE" "[J").eval args s none [] s = some (.ref t) ∧ va_T .long t 36 (fun j => .long (sJ.getD j 0)) A s s.heap := by
    refine va_Tof (tm := Term.static RX0 "BESIDE" "[J") (by decide) (hs _ (by decide +kernel)) (va_eqt (z := 36) (hs _ (by decide +kernel))) (fun j hj => ?_) hA
    rcases (show j = 0 ∨ j = 1 ∨ j = 2 ∨ j = 3 ∨ j = 4 ∨ j = 5 ∨ j = 6 ∨ j = 7 ∨ j = 8 ∨ j = 9 ∨ j = 10 ∨ j = 11 ∨ j = 12 ∨ j = 13 ∨ j = 14 ∨ j = 15 ∨ j = 16 ∨ j = 17 ∨ j = 18 ∨ j = 19 ∨ j = 20 ∨ j = 21 ∨ j = 22 ∨ j = 23 ∨ j = 24 ∨ j = 25 ∨ j = 26 ∨ j = 27 ∨ j = 28 ∨ j = 29 ∨ j = 30 ∨ j = 31 ∨ j = 32 ∨ j = 33 ∨ j = 34 ∨ j = 35 by omega) with rfl | rfl | rfl | rfl | rfl | rfl | rfl | rfl | rfl | rfl | rfl | rfl | rfl | rfl | rfl | rfl | rfl | rfl | rfl | rfl | rfl | rfl | rfl | rfl | rfl | rfl | rfl | rfl | rfl | rfl | rfl | rfl | rfl | rfl | rfl | rfl
    · exact va_eqtl (t := Term.elem (Term.static RX0 "BESIDE" "[J") (.int 0)) (z := 66) (hs _ (by decide +kernel))
    · exact va_eqtl (t := Term.elem (Term.static RX0 "BESIDE" "[J") (.int 1)) (z := 133) (hs _ (by decide +kernel))
    · exact va_eqtl (t := Term.elem (Term.static RX0 "BESIDE" "[J") (.int 2)) (z := 266) (hs _ (by decide +kernel))
    · exact va_eqtl (t := Term.elem (Term.static RX0 "BESIDE" "[J") (.int 3)) (z := 532) (hs _ (by decide +kernel))
    · exact va_eqtl (t := Term.elem (Term.static RX0 "BESIDE" "[J") (.int 4)) (z := 1064) (hs _ (by decide +kernel))
    · exact va_eqtl (t := Term.elem (Term.static RX0 "BESIDE" "[J") (.int 5)) (z := 2064) (hs _ (by decide +kernel))
    · exact va_eqtl (t := Term.elem (Term.static RX0 "BESIDE" "[J") (.int 6)) (z := 4225) (hs _ (by decide +kernel))
    · exact va_eqtl (t := Term.elem (Term.static RX0 "BESIDE" "[J") (.int 7)) (z := 8514) (hs _ (by decide +kernel))
    · exact va_eqtl (t := Term.elem (Term.static RX0 "BESIDE" "[J") (.int 8)) (z := 17028) (hs _ (by decide +kernel))
    · exact va_eqtl (t := Term.elem (Term.static RX0 "BESIDE" "[J") (.int 9)) (z := 34056) (hs _ (by decide +kernel))
    · exact va_eqtl (t := Term.elem (Term.static RX0 "BESIDE" "[J") (.int 10)) (z := 68112) (hs _ (by decide +kernel))
    · exact va_eqtl (t := Term.elem (Term.static RX0 "BESIDE" "[J") (.int 11)) (z := 132128) (hs _ (by decide +kernel))
    · exact va_eqtl (t := Term.elem (Term.static RX0 "BESIDE" "[J") (.int 12)) (z := 270400) (hs _ (by decide +kernel))
    · exact va_eqtl (t := Term.elem (Term.static RX0 "BESIDE" "[J") (.int 13)) (z := 544896) (hs _ (by decide +kernel))
    · exact va_eqtl (t := Term.elem (Term.static RX0 "BESIDE" "[J") (.int 14)) (z := 1089792) (hs _ (by decide +kernel))
    · exact va_eqtl (t := Term.elem (Term.static RX0 "BESIDE" "[J") (.int 15)) (z := 2179584) (hs _ (by decide +kernel))
    · exact va_eqtl (t := Term.elem (Term.static RX0 "BESIDE" "[J") (.int 16)) (z := 4359168) (hs _ (by decide +kernel))
    · exact va_eqtl (t := Term.elem (Term.static RX0 "BESIDE" "[J") (.int 17)) (z := 8456192) (hs _ (by decide +kernel))
    · exact va_eqtl (t := Term.elem (Term.static RX0 "BESIDE" "[J") (.int 18)) (z := 17305600) (hs _ (by decide +kernel))
    · exact va_eqtl (t := Term.elem (Term.static RX0 "BESIDE" "[J") (.int 19)) (z := 34873344) (hs _ (by decide +kernel))
    · exact va_eqtl (t := Term.elem (Term.static RX0 "BESIDE" "[J") (.int 20)) (z := 69746688) (hs _ (by decide +kernel))
    · exact va_eqtl (t := Term.elem (Term.static RX0 "BESIDE" "[J") (.int 21)) (z := 139493376) (hs _ (by decide +kernel))
    · exact va_eqtl (t := Term.elem (Term.static RX0 "BESIDE" "[J") (.int 22)) (z := 278986752) (hs _ (by decide +kernel))
    · exact va_eqtl (t := Term.elem (Term.static RX0 "BESIDE" "[J") (.int 23)) (z := 541196288) (hs _ (by decide +kernel))
    · exact va_eqtl (t := Term.elem (Term.static RX0 "BESIDE" "[J") (.int 24)) (z := 1107558400) (hs _ (by decide +kernel))
    · exact va_eqtl (t := Term.elem (Term.static RX0 "BESIDE" "[J") (.int 25)) (z := 2231894016) (hs _ (by decide +kernel))
    · exact va_eqtl (t := Term.elem (Term.static RX0 "BESIDE" "[J") (.int 26)) (z := 4463788032) (hs _ (by decide +kernel))
    · exact va_eqtl (t := Term.elem (Term.static RX0 "BESIDE" "[J") (.int 27)) (z := 8927576064) (hs _ (by decide +kernel))
    · exact va_eqtl (t := Term.elem (Term.static RX0 "BESIDE" "[J") (.int 28)) (z := 17855152128) (hs _ (by decide +kernel))
    · exact va_eqtl (t := Term.elem (Term.static RX0 "BESIDE" "[J") (.int 29)) (z := 34636562432) (hs _ (by decide +kernel))
    · exact va_eqtl (t := Term.elem (Term.static RX0 "BESIDE" "[J") (.int 30)) (z := 2164260864) (hs _ (by decide +kernel))
    · exact va_eqtl (t := Term.elem (Term.static RX0 "BESIDE" "[J") (.int 31)) (z := 5402263552) (hs _ (by decide +kernel))
    · exact va_eqtl (t := Term.elem (Term.static RX0 "BESIDE" "[J") (.int 32)) (z := 10804527104) (hs _ (by decide +kernel))
    · exact va_eqtl (t := Term.elem (Term.static RX0 "BESIDE" "[J") (.int 33)) (z := 21609054208) (hs _ (by decide +kernel))
    · exact va_eqtl (t := Term.elem (Term.static RX0 "BESIDE" "[J") (.int 34)) (z := 43218108416) (hs _ (by decide +kernel))
    · exact va_eqtl (t := Term.elem (Term.static RX0 "BESIDE" "[J") (.int 35)) (z := 17716740096) (hs _ (by decide +kernel))
  obtain ⟨t, h1, h2⟩ := key
  exact ⟨t, va_Zref (hts _ (tw 547 (by decide +kernel))) (hts _ (tw 2 (by decide +kernel))) h1 hA, h2⟩
set_option maxHeartbeats 4000000 in
theorem nw_of {args : Array Value} {s : State} (hts : ∀ w ∈ lw_tbl, w.before args s = true) : nW s := by
  refine ⟨fun q hq => ?_, fun q hq => ?_, va_AO.of (hts _ (tw 186 (by decide +kernel))), va_AO.of (hts _ (tw 313 (by decide +kernel)))⟩
  · simp only [nM, List.mem_cons, List.not_mem_nil, or_false] at hq
    rcases hq with rfl | rfl | rfl | rfl | rfl | rfl | rfl | rfl | rfl | rfl | rfl
    · exact va_Nw.of rfl (hts _ (tw 27 (by decide +kernel)))
    · exact va_Nw.of rfl (hts _ (tw 78 (by decide +kernel)))
    · exact va_Nw.of rfl (hts _ (tw 84 (by decide +kernel)))
    · exact va_Nw.of rfl (hts _ (tw 125 (by decide +kernel)))
    · exact va_Nw.of rfl (hts _ (tw 130 (by decide +kernel)))
    · exact va_Nw.of rfl (hts _ (tw 156 (by decide +kernel)))
    · exact va_Nw.of rfl (hts _ (tw 187 (by decide +kernel)))
    · exact va_Nw.of rfl (hts _ (tw 215 (by decide +kernel)))
    · exact va_Nw.of rfl (hts _ (tw 287 (by decide +kernel)))
    · exact va_Nw.of rfl (hts _ (tw 315 (by decide +kernel)))
    · exact va_Nw.of rfl (hts _ (tw 890 (by decide +kernel)))
  · simp only [nF, List.mem_cons, List.not_mem_nil, or_false] at hq
    rcases hq with rfl | rfl | rfl
    · exact va_Nw.of rfl (hts _ (tw 607 (by decide +kernel)))
    · exact va_Nw.of rfl (hts _ (tw 783 (by decide +kernel)))
    · exact va_Nw.of rfl (hts _ (tw 784 (by decide +kernel)))
