/-! CONSTRUCTORS: rows over a heap as a beginning and what follows it -/
abbrev zI (G : Cx) (n : Nat) : va_E := .inl (gc G 0, n, .inl (fun _ => 0))
abbrev zL (G : Cx) (n : Nat) : va_E := .inl (gc G 1, n, .inr (.inl (fun _ => 0)))
abbrev zZ (G : Cx) (n : Nat) : va_E := .inl (gc G 2, n, .inl (fun _ => 0))
abbrev zQ (G : Cx) (t n : Nat) (f : Nat → Option Nat) : va_E := .inl (gc G t, n, .inr (.inr (.inr (.inr f))))
theorem pl_get {P L : List va_E} {q i : Nat} {e : va_E} (hP : P.length = q) (h : L[i]? = some e) : (P ++ L)[q + i]? = some e := by
  rw [List.getElem?_append_right (by omega), hP, show q + i - q = i by omega]; exact h
theorem pl_set {P L L' : List va_E} {q i : Nat} {e : va_E} (hP : P.length = q) (h : L.set i e = L') : (P ++ L).set (q + i) e = P ++ L' := by
  rw [List.set_append_right _ _ (by omega), hP, show q + i - q = i by omega, h]
theorem pl_low {P L : List va_E} {q k : Nat} (hP : P.length = q) (hk : k < q) : (P ++ L)[k]? = P[k]? := List.getElem?_append_left (by omega)
theorem wz_of {B i : Nat} {h : List va_E} {p : Nat × va_E} (H : (wz B h)[i]? = some p) : p.1 = B + i ∧ h[i]? = some p.2 := by
  simp only [wz, List.getElem?_mapIdx] at H
  cases e : h[i]? with
  | none => rw [e] at H; cases H
  | some x => rw [e] at H; cases H; exact ⟨rfl, rfl⟩
theorem AM_h {G : Cx} {y : MethodName} {cc : ByteArray} {mL : Nat} {rt : Option FieldType} {d mc ms : Nat} {vs : List Value} {h h' : List va_E} {Q : Option Value → List va_E → Prop} (e : h = h') (H : AM G y cc mL rt d mc ms vs h' Q) : AM G y cc mL rt d mc ms vs h Q := e ▸ H
theorem cellZ {c n : Nat} {f g : Nat → Option Nat} (h : ∀ j, j < n → f j = g j) : vp_cell c (n, .inr (.inr (.inr (.inr f)))) = vp_cell c (n, .inr (.inr (.inr (.inr g)))) := by
  unfold vp_cell
  simp only [arrV]
  congr 1
  congr 1
  funext j
  rw [h j.val j.isLt]
theorem cellI {c n : Nat} {f g : Nat → Int32} (h : ∀ j, j < n → f j = g j) : vp_cell c (n, .inl f) = vp_cell c (n, .inl g) := by
  unfold vp_cell
  simp only [arrV]
  congr 1
  congr 1
  funext j
  rw [h j.val j.isLt]
section Ctor
variable {G : Cx} {y : MethodName} {cc : ByteArray} {mL : Nat} {rt : Option FieldType} {R : Room} {Z : List Frame → Array Value → State → State → Prop} {cn sn pc idx : Nat} {ls : List (Option Value)} {st : List Value} {h P L L' : List va_E} {q m : Nat}
/-- what stands beyond an array's end may be told otherwise -/
theorem a_cell {k c : Nat} {a a' : vp_A} (hk : h[k]? = some (.inl (c, a))) (e : vp_cell c a = vp_cell c a') (kk : AW G y cc mL rt R Z cn sn pc ls st (h.set k (.inl (c, a')))) : AW G y cc mL rt R Z cn sn pc ls st h :=
  fun hc hs p e0 s m args below meth c0 F H locs lv hR hS hz hl => by
    have hk1 := (List.getElem?_eq_some_iff.mp hk).1
    refine kk hc hs p e0 s m args below meth c0 F H locs lv ⟨fun i x hx => ?_, fun i j x z hx hz2 hxz => ?_, fun i x hx => ?_⟩ hS (by rw [List.length_set]; exact hz) hl
    · obtain ⟨x1, x2⟩ := wz_of hx
      by_cases hi : k = i
      · subst hi
        rw [List.getElem?_set_self hk1] at x2
        have h0 := hR.1 k _ (wz_get hk)
        have h0 : H[gB G + k]? = some (vp_cell c a) := h0
        obtain ⟨xa, xb⟩ := x
        cases x2
        have x1 : xa = gB G + k := x1
        subst x1
        show H[gB G + k]? = some (vp_cell c a')
        rw [h0, e]
      · rw [List.getElem?_set_ne hi] at x2
        have h0 := hR.1 i _ (wz_get x2)
        rw [← x1] at h0
        exact h0
    · have := (wz_of hx).1
      have := (wz_of hz2).1
      omega
    · have := (wz_of hx).1
      show gB G ≤ x.1
      omega
theorem n_newI {i : Int32} {n : Nat} (hP : P.length = q) (hm : L.length = m) (hL : L ++ [zI G n] = L') (hz0 : gz G = true) (hd : decode cc pc = .ok (.newarray .int, 2)) (he : i = nI n) (hn : n < 65536) (hcs : cn + 1 ≤ R.cells ∧ sn + n ≤ R.slots) (kk : AW G y cc mL rt R Z (cn + 1) (sn + n) (pc + 2) ls (.ref (gB G + (q + m)) :: st) (P ++ L')) : AW G y cc mL rt R Z cn sn pc ls (.int i :: st) (P ++ L) := by
  subst hP hm hL
  refine a_newI n hz0 hd he hn hcs ?_
  rw [List.length_append, List.append_assoc]; exact kk
theorem n_newL {i : Int32} {n : Nat} (hP : P.length = q) (hm : L.length = m) (hL : L ++ [zL G n] = L') (hz0 : gz G = true) (hd : decode cc pc = .ok (.newarray .long, 2)) (he : i = nI n) (hn : n < 65536) (hcs : cn + 1 ≤ R.cells ∧ sn + n ≤ R.slots) (kk : AW G y cc mL rt R Z (cn + 1) (sn + n) (pc + 2) ls (.ref (gB G + (q + m)) :: st) (P ++ L')) : AW G y cc mL rt R Z cn sn pc ls (.int i :: st) (P ++ L) := by
  subst hP hm hL
  refine a_newL n hz0 hd he hn hcs ?_
  rw [List.length_append, List.append_assoc]; exact kk
theorem n_newZ {i : Int32} {n : Nat} (hP : P.length = q) (hm : L.length = m) (hL : L ++ [zZ G n] = L') (hz0 : gz G = true) (hd : decode cc pc = .ok (.newarray .boolean, 2)) (he : i = nI n) (hn : n < 65536) (hcs : cn + 1 ≤ R.cells ∧ sn + n ≤ R.slots) (kk : AW G y cc mL rt R Z (cn + 1) (sn + n) (pc + 2) ls (.ref (gB G + (q + m)) :: st) (P ++ L')) : AW G y cc mL rt R Z cn sn pc ls (.int i :: st) (P ++ L) := by
  subst hP hm hL
  refine a_newZ n hz0 hd he hn hcs ?_
  rw [List.length_append, List.append_assoc]; exact kk
theorem n_newQC {i : Int32} {n : Nat} (hP : P.length = q) (hm : L.length = m) (hL : L ++ [zQ G 3 n (fun _ => none)] = L') (hz0 : gz G = true) (hd : decode cc pc = .ok (.anewarray idx, 3)) (hw : Cond.classLink y.cls idx RX0 ∈ gT) (he : i = nI n) (hn : n < 65536) (hcs : cn + 1 ≤ R.cells ∧ sn + n ≤ R.slots) (kk : AW G y cc mL rt R Z (cn + 1) (sn + n) (pc + 3) ls (.ref (gB G + (q + m)) :: st) (P ++ L')) : AW G y cc mL rt R Z cn sn pc ls (.int i :: st) (P ++ L) := by
  subst hP hm hL
  refine a_newQC n hz0 hd hw he hn hcs ?_
  rw [List.length_append, List.append_assoc]; exact kk
theorem n_newQS {i : Int32} {n : Nat} (hP : P.length = q) (hm : L.length = m) (hL : L ++ [zQ G 4 n (fun _ => none)] = L') (hz0 : gz G = true) (hd : decode cc pc = .ok (.anewarray idx, 3)) (hw : Cond.classLink y.cls idx RX6 ∈ gT) (he : i = nI n) (hn : n < 65536) (hcs : cn + 1 ≤ R.cells ∧ sn + n ≤ R.slots) (kk : AW G y cc mL rt R Z (cn + 1) (sn + n) (pc + 3) ls (.ref (gB G + (q + m)) :: st) (P ++ L')) : AW G y cc mL rt R Z cn sn pc ls (.int i :: st) (P ++ L) := by
  subst hP hm hL
  refine a_newQS n hz0 hd hw he hn hcs ?_
  rw [List.length_append, List.append_assoc]; exact kk
abbrev raw0 : va_E := .inr (0, [.null, .null, .long 0, .long 0, .long 0, .int 0, .int 0, .int 0, .long 0, .long 0, .int 0])
theorem n_new0 (hP : P.length = q) (hm : L.length = m) (hL : L ++ [raw0] = L') (hz0 : gz G = true) (hd : decode cc pc = .ok (.new idx, 3)) (hw : Cond.classLink y.cls idx RX0 ∈ gT) (hcs : cn + 1 ≤ R.cells ∧ sn + 11 ≤ R.slots) (kk : AW G y cc mL rt R Z (cn + 1) (sn + 11) (pc + 3) ls (.ref (gB G + (q + m)) :: st) (P ++ L')) : AW G y cc mL rt R Z cn sn pc ls st (P ++ L) := by
  subst hP hm hL
  refine a_new (ci := 0) (N := 11) (C := RX0) (T := TX0) (ty := tyX0) (fs := [.null, .null, .long 0, .long 0, .long 0, .int 0, .int 0, .int 0, .long 0, .long 0, .int 0]) hz0 hd hw w_26 w_2 rfl hinX0 tyX0_ok (by decide) hcs ?_
  rw [List.length_append, List.append_assoc]; exact kk
abbrev raw1 : va_E := .inr (1, [.null, .null, .null, .null, .null, .int 0, .int 0])
theorem n_new1 (hP : P.length = q) (hm : L.length = m) (hL : L ++ [raw1] = L') (hz0 : gz G = true) (hd : decode cc pc = .ok (.new idx, 3)) (hw : Cond.classLink y.cls idx RX1 ∈ gT) (hcs : cn + 1 ≤ R.cells ∧ sn + 7 ≤ R.slots) (kk : AW G y cc mL rt R Z (cn + 1) (sn + 7) (pc + 3) ls (.ref (gB G + (q + m)) :: st) (P ++ L')) : AW G y cc mL rt R Z cn sn pc ls st (P ++ L) := by
  subst hP hm hL
  refine a_new (ci := 1) (N := 7) (C := RX1) (T := TX1) (ty := tyX1) (fs := [.null, .null, .null, .null, .null, .int 0, .int 0]) hz0 hd hw w_257 w_10 rfl hinX1 tyX1_ok (by decide) hcs ?_
  rw [List.length_append, List.append_assoc]; exact kk
abbrev raw2 : va_E := .inr (2, [.null, .null, .int 0])
theorem n_new2 (hP : P.length = q) (hm : L.length = m) (hL : L ++ [raw2] = L') (hz0 : gz G = true) (hd : decode cc pc = .ok (.new idx, 3)) (hw : Cond.classLink y.cls idx RX2 ∈ gT) (hcs : cn + 1 ≤ R.cells ∧ sn + 3 ≤ R.slots) (kk : AW G y cc mL rt R Z (cn + 1) (sn + 3) (pc + 3) ls (.ref (gB G + (q + m)) :: st) (P ++ L')) : AW G y cc mL rt R Z cn sn pc ls st (P ++ L) := by
  subst hP hm hL
  refine a_new (ci := 2) (N := 3) (C := RX2) (T := TX2) (ty := tyX2) (fs := [.null, .null, .int 0]) hz0 hd hw w_77 w_3 rfl hinX2 tyX2_ok (by decide) hcs ?_
  rw [List.length_append, List.append_assoc]; exact kk
abbrev raw3 : va_E := .inr (3, [.null, .int 0, .int 0, .int 0, .null])
theorem n_new3 (hP : P.length = q) (hm : L.length = m) (hL : L ++ [raw3] = L') (hz0 : gz G = true) (hd : decode cc pc = .ok (.new idx, 3)) (hw : Cond.classLink y.cls idx RX3 ∈ gT) (hcs : cn + 1 ≤ R.cells ∧ sn + 5 ≤ R.slots) (kk : AW G y cc mL rt R Z (cn + 1) (sn + 5) (pc + 3) ls (.ref (gB G + (q + m)) :: st) (P ++ L')) : AW G y cc mL rt R Z cn sn pc ls st (P ++ L) := by
  subst hP hm hL
  refine a_new (ci := 3) (N := 5) (C := RX3) (T := TX3) (ty := tyX3) (fs := [.null, .int 0, .int 0, .int 0, .null]) hz0 hd hw w_124 w_5 rfl hinX3 tyX3_ok (by decide) hcs ?_
  rw [List.length_append, List.append_assoc]; exact kk
abbrev raw4 : va_E := .inr (4, [.null, .null, .null, .null, .null, .null, .int 0, .int 0])
theorem n_new4 (hP : P.length = q) (hm : L.length = m) (hL : L ++ [raw4] = L') (hz0 : gz G = true) (hd : decode cc pc = .ok (.new idx, 3)) (hw : Cond.classLink y.cls idx RX4 ∈ gT) (hcs : cn + 1 ≤ R.cells ∧ sn + 8 ≤ R.slots) (kk : AW G y cc mL rt R Z (cn + 1) (sn + 8) (pc + 3) ls (.ref (gB G + (q + m)) :: st) (P ++ L')) : AW G y cc mL rt R Z cn sn pc ls st (P ++ L) := by
  subst hP hm hL
  refine a_new (ci := 4) (N := 8) (C := RX4) (T := TX4) (ty := tyX4) (fs := [.null, .null, .null, .null, .null, .null, .int 0, .int 0]) hz0 hd hw w_83 w_4 rfl hinX4 tyX4_ok (by decide) hcs ?_
  rw [List.length_append, List.append_assoc]; exact kk
abbrev raw5 : va_E := .inr (5, [.null, .null, .int 0, .int 0, .int 0, .int 0])
theorem n_new5 (hP : P.length = q) (hm : L.length = m) (hL : L ++ [raw5] = L') (hz0 : gz G = true) (hd : decode cc pc = .ok (.new idx, 3)) (hw : Cond.classLink y.cls idx RX5 ∈ gT) (hcs : cn + 1 ≤ R.cells ∧ sn + 6 ≤ R.slots) (kk : AW G y cc mL rt R Z (cn + 1) (sn + 6) (pc + 3) ls (.ref (gB G + (q + m)) :: st) (P ++ L')) : AW G y cc mL rt R Z cn sn pc ls st (P ++ L) := by
  subst hP hm hL
  refine a_new (ci := 5) (N := 6) (C := RX5) (T := TX5) (ty := tyX5) (fs := [.null, .null, .int 0, .int 0, .int 0, .int 0]) hz0 hd hw w_286 w_11 rfl hinX5 tyX5_ok (by decide) hcs ?_
  rw [List.length_append, List.append_assoc]; exact kk
abbrev raw6 : va_E := .inr (6, [.null, .int 0, .int 0, .int 0, .int 0])
theorem n_new6 (hP : P.length = q) (hm : L.length = m) (hL : L ++ [raw6] = L') (hz0 : gz G = true) (hd : decode cc pc = .ok (.new idx, 3)) (hw : Cond.classLink y.cls idx RX6 ∈ gT) (hcs : cn + 1 ≤ R.cells ∧ sn + 5 ≤ R.slots) (kk : AW G y cc mL rt R Z (cn + 1) (sn + 5) (pc + 3) ls (.ref (gB G + (q + m)) :: st) (P ++ L')) : AW G y cc mL rt R Z cn sn pc ls st (P ++ L) := by
  subst hP hm hL
  refine a_new (ci := 6) (N := 5) (C := RX6) (T := TX6) (ty := tyX6) (fs := [.null, .int 0, .int 0, .int 0, .int 0]) hz0 hd hw w_314 w_12 rfl hinX6 tyX6_ok (by decide) hcs ?_
  rw [List.length_append, List.append_assoc]; exact kk
abbrev raw7 : va_E := .inr (7, [.null, .null, .null, .int 0, .int 0, .int 0])
theorem n_new7 (hP : P.length = q) (hm : L.length = m) (hL : L ++ [raw7] = L') (hz0 : gz G = true) (hd : decode cc pc = .ok (.new idx, 3)) (hw : Cond.classLink y.cls idx RX7 ∈ gT) (hcs : cn + 1 ≤ R.cells ∧ sn + 6 ≤ R.slots) (kk : AW G y cc mL rt R Z (cn + 1) (sn + 6) (pc + 3) ls (.ref (gB G + (q + m)) :: st) (P ++ L')) : AW G y cc mL rt R Z cn sn pc ls st (P ++ L) := by
  subst hP hm hL
  refine a_new (ci := 7) (N := 6) (C := RX7) (T := TX7) (ty := tyX7) (fs := [.null, .null, .null, .int 0, .int 0, .int 0]) hz0 hd hw w_150 w_6 rfl hinX7 tyX7_ok (by decide) hcs ?_
  rw [List.length_append, List.append_assoc]; exact kk
abbrev raw8 : va_E := .inr (8, [.null, .null, .null, .null, .int 0, .int 0, .int 0, .int 0])
theorem n_new8 (hP : P.length = q) (hm : L.length = m) (hL : L ++ [raw8] = L') (hz0 : gz G = true) (hd : decode cc pc = .ok (.new idx, 3)) (hw : Cond.classLink y.cls idx RX8 ∈ gT) (hcs : cn + 1 ≤ R.cells ∧ sn + 8 ≤ R.slots) (kk : AW G y cc mL rt R Z (cn + 1) (sn + 8) (pc + 3) ls (.ref (gB G + (q + m)) :: st) (P ++ L')) : AW G y cc mL rt R Z cn sn pc ls st (P ++ L) := by
  subst hP hm hL
  refine a_new (ci := 8) (N := 8) (C := RX8) (T := TX8) (ty := tyX8) (fs := [.null, .null, .null, .null, .int 0, .int 0, .int 0, .int 0]) hz0 hd hw w_209 w_8 rfl hinX8 tyX8_ok (by decide) hcs ?_
  rw [List.length_append, List.append_assoc]; exact kk
abbrev raw9 : va_E := .inr (9, [.null, .null, .null, .null, .null, .int 0])
theorem n_new9 (hP : P.length = q) (hm : L.length = m) (hL : L ++ [raw9] = L') (hz0 : gz G = true) (hd : decode cc pc = .ok (.new idx, 3)) (hw : Cond.classLink y.cls idx RX9 ∈ gT) (hcs : cn + 1 ≤ R.cells ∧ sn + 6 ≤ R.slots) (kk : AW G y cc mL rt R Z (cn + 1) (sn + 6) (pc + 3) ls (.ref (gB G + (q + m)) :: st) (P ++ L')) : AW G y cc mL rt R Z cn sn pc ls st (P ++ L) := by
  subst hP hm hL
  refine a_new (ci := 9) (N := 6) (C := RX9) (T := TX9) (ty := tyX9) (fs := [.null, .null, .null, .null, .null, .int 0]) hz0 hd hw w_180 w_7 rfl hinX9 tyX9_ok (by decide) hcs ?_
  rw [List.length_append, List.append_assoc]; exact kk
abbrev raw10 : va_E := .inr (10, [.null, .null])
theorem n_new10 (hP : P.length = q) (hm : L.length = m) (hL : L ++ [raw10] = L') (hz0 : gz G = true) (hd : decode cc pc = .ok (.new idx, 3)) (hw : Cond.classLink y.cls idx RX10 ∈ gT) (hcs : cn + 1 ≤ R.cells ∧ sn + 2 ≤ R.slots) (kk : AW G y cc mL rt R Z (cn + 1) (sn + 2) (pc + 3) ls (.ref (gB G + (q + m)) :: st) (P ++ L')) : AW G y cc mL rt R Z cn sn pc ls st (P ++ L) := by
  subst hP hm hL
  refine a_new (ci := 10) (N := 2) (C := RX10) (T := TX10) (ty := tyX10) (fs := [.null, .null]) hz0 hd hw w_243 w_9 rfl hinX10 tyX10_ok (by decide) hcs ?_
  rw [List.length_append, List.append_assoc]; exact kk
abbrev raw11 : va_E := .inr (11, [.null, .null, .null, .null, .null, .null, .null, .null, .null, .null, .null, .null, .null, .int 0])
theorem n_new11 (hP : P.length = q) (hm : L.length = m) (hL : L ++ [raw11] = L') (hz0 : gz G = true) (hd : decode cc pc = .ok (.new idx, 3)) (hw : Cond.classLink y.cls idx RX11 ∈ gT) (hcs : cn + 1 ≤ R.cells ∧ sn + 14 ≤ R.slots) (kk : AW G y cc mL rt R Z (cn + 1) (sn + 14) (pc + 3) ls (.ref (gB G + (q + m)) :: st) (P ++ L')) : AW G y cc mL rt R Z cn sn pc ls st (P ++ L) := by
  subst hP hm hL
  refine a_new (ci := 11) (N := 14) (C := RX11) (T := TX11) (ty := tyX11) (fs := [.null, .null, .null, .null, .null, .null, .null, .null, .null, .null, .null, .null, .null, .int 0]) hz0 hd hw w_18 w_1 rfl hinX11 tyX11_ok (by decide) hcs ?_
  rw [List.length_append, List.append_assoc]; exact kk
abbrev raw12 : va_E := .inr (12, [.null, .null, .null, .null, .int 0, .int 0, .null, .int 0, .null, .int 0, .int 0, .int 0, .int 0, .int 0, .int 0, .null, .null, .null, .int 0, .int 0, .int 0, .int 0, .null, .null, .null, .null, .null, .int 0, .null, .null, .int 0, .null, .null, .int 0, .null, .null, .int 0, .int 0, .int 0, .null, .null, .null, .null])
theorem n_new12 (hP : P.length = q) (hm : L.length = m) (hL : L ++ [raw12] = L') (hz0 : gz G = true) (hd : decode cc pc = .ok (.new idx, 3)) (hw : Cond.classLink y.cls idx RX12 ∈ gT) (hcs : cn + 1 ≤ R.cells ∧ sn + 43 ≤ R.slots) (kk : AW G y cc mL rt R Z (cn + 1) (sn + 43) (pc + 3) ls (.ref (gB G + (q + m)) :: st) (P ++ L')) : AW G y cc mL rt R Z cn sn pc ls st (P ++ L) := by
  subst hP hm hL
  refine a_new (ci := 12) (N := 43) (C := RX12) (T := TX12) (ty := tyX12) (fs := [.null, .null, .null, .null, .int 0, .int 0, .null, .int 0, .null, .int 0, .int 0, .int 0, .int 0, .int 0, .int 0, .null, .null, .null, .int 0, .int 0, .int 0, .int 0, .null, .null, .null, .null, .null, .int 0, .null, .null, .int 0, .null, .null, .int 0, .null, .null, .int 0, .int 0, .int 0, .null, .null, .null, .null]) hz0 hd hw w_982 w_13 rfl hinX12 tyX12_ok (by decide) hcs ?_
  rw [List.length_append, List.append_assoc]; exact kk
end Ctor
