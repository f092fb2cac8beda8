/-! SHELF and HISTORY -/
def SW9 (G : Cx) (h0 h : List va_E) (q : Nat) (sc : Int32) (rw : Bool) (so sz : Nat) (el : Nat → Int64) : Prop := h.length = h0.length ∧ (∀ k, k ≠ q → k ≠ q + 1 → h[k]? = h0[k]?) ∧ shAt G h q sc rw so sz el
theorem SW9.refl {G : Cx} {h : List va_E} {q : Nat} {sc : Int32} {rw : Bool} {so sz : Nat} {el : Nat → Int64} (H : shAt G h q sc rw so sz el) : SW9 G h h q sc rw so sz el := ⟨rfl, fun _ _ _ => rfl, H⟩
theorem SW9.ob {G : Cx} {h0 h : List va_E} {q : Nat} {sc sc' : Int32} {rw rw' : Bool} {so so' sz sz' : Nat} {el : Nat → Int64} (H : SW9 G h0 h q sc rw so sz el) (hz : sz' ≤ 60) : SW9 G h0 (h.set q (shO G q sc' rw' so' sz')) q sc' rw' so' sz' el :=
  ⟨by rw [List.length_set]; exact H.1, fun k a1 a2 => hs_ne (fun e => a1 e.symm) (H.2.1 k a1 a2), hs_eq H.2.2.1, hs_ne (by omega) H.2.2.2.1, hz⟩
section SWr
variable {G : Cx} {y : MethodName} {cc : ByteArray} {mL : Nat} {rt : Option FieldType} {R : Room} {Z : List Frame → Array Value → State → State → Prop} {cn sn pc : Nat} {ls : List (Option Value)} {st : List Value} {h h0 : List va_E} {q : Nat} {sc : Int32} {rw : Bool} {so sz : Nat} {el : Nat → Int64}
theorem sp_13 {x : Int32} (hm : SW9 G h0 h q sc rw so sz el) (ho : y.cls = RX6) (hd : decode cc pc = .ok (.putfield 13, 3)) (kk : ∀ h1, SW9 G h0 h1 q x rw so sz el → AW G y cc mL rt R Z cn sn (pc + 3) ls st h1) : AW G y cc mL rt R Z cn sn pc ls (.int x :: .ref (gB G + q) :: st) h :=
  pf_X6_13 ho hd hm.2.2.1 (kk _ (hm.ob hm.2.2.2.2))
theorem sp_17 {x : Bool} (hm : SW9 G h0 h q sc rw so sz el) (ho : y.cls = RX6) (hd : decode cc pc = .ok (.putfield 17, 3)) (kk : ∀ h1, SW9 G h0 h1 q sc x so sz el → AW G y cc mL rt R Z cn sn (pc + 3) ls st h1) : AW G y cc mL rt R Z cn sn pc ls (.int (bI x) :: .ref (gB G + q) :: st) h :=
  pf_X6_17 ho hd (bI_nar x) (by cases x <;> rfl) hm.2.2.1 (kk _ (hm.ob hm.2.2.2.2))
theorem sp_21 {x : Nat} (hm : SW9 G h0 h q sc rw so sz el) (ho : y.cls = RX6) (hd : decode cc pc = .ok (.putfield 21, 3)) (kk : ∀ h1, SW9 G h0 h1 q sc rw x sz el → AW G y cc mL rt R Z cn sn (pc + 3) ls st h1) : AW G y cc mL rt R Z cn sn pc ls (.int (nI x) :: .ref (gB G + q) :: st) h :=
  pf_X6_21 ho hd hm.2.2.1 (kk _ (hm.ob hm.2.2.2.2))
theorem sp_24 {x : Nat} (hm : SW9 G h0 h q sc rw so sz el) (hx : x ≤ 60) (ho : y.cls = RX6) (hd : decode cc pc = .ok (.putfield 24, 3)) (kk : ∀ h1, SW9 G h0 h1 q sc rw so x el → AW G y cc mL rt R Z cn sn (pc + 3) ls st h1) : AW G y cc mL rt R Z cn sn pc ls (.int (nI x) :: .ref (gB G + q) :: st) h :=
  pf_X6_24 ho hd hm.2.2.1 (kk _ (hm.ob hx))
theorem ss_el {j : Nat} {x : Int64} (hm : SW9 G h0 h q sc rw so sz el) (hd : decode cc pc = .ok (.lastore, 1)) (hj : j < 60) (kk : ∀ h1, SW9 G h0 h1 q sc rw so sz (vp_updL el j x) → AW G y cc mL rt R Z cn sn (pc + 1) ls st h1) : AW G y cc mL rt R Z cn sn pc ls (.long x :: .int (nI j) :: .ref (gB G + (q + 1)) :: st) h :=
  b_last j hd hm.2.2.2.1 rfl hj (by decide) (kk _ ⟨by rw [List.length_set]; exact hm.1, fun k a1 a2 => hs_ne (fun e => a2 e.symm) (hm.2.1 k a1 a2), hs_ne (by omega) hm.2.2.1, hs_eq hm.2.2.2.1, hm.2.2.2.2⟩)
end SWr
set_option maxRecDepth 100000 in
set_option maxHeartbeats 4000000 in
theorem s_isEmpty {G : Cx} {d q : Nat} {h h0 : List va_E} {sc : Int32} {rw : Bool} {so sz : Nat} {el : Nat → Int64} {Q : Option Value → List va_E → Prop} (hd : 1 ≤ d) (hz : gz G = false) (hs : SW9 G h0 h q sc rw so sz el) (k : Q (some (.int (bI (!rw && decide (sc = -1))))) h) : AM G yX6_isEmpty cX6_isEmpty 1 (some .boolean) d 0 0 [.ref (gB G + q)] h Q := by
  obtain ⟨d, rfl, he⟩ := dpos hd
  refine AM.of [some (.ref (gB G + q))] pnX6 (Nat.le_of_ble_eq_true rfl) (by simp [lsub, lvI, Value.category]) ?_
  refine a_aloadn_0 (pc := 0) dX6_isEmpty_0 ?_
  refine gf_X6_17 (pc := 1) rfl dX6_isEmpty_1 hs.2.2.1 ?_
  refine b_if_ne (pc := 4) (tgt := 19) dX6_isEmpty_4 (by decide) (fun c_4 => ?_) (fun c_4 => ?_)
  · refine a_iconst (pc := 19) (v := nI 0) dX6_isEmpty_19 (by decide) ?_
    exact a_zret (pc := 20) dX6_isEmpty_20 rfl (by first | rfl | exact bI_nar _ | decide) (zf hz) (by rw [c_4] at k; exact k)
  · refine a_aloadn_0 (pc := 7) dX6_isEmpty_7 ?_
    refine gf_X6_13 (pc := 8) rfl dX6_isEmpty_8 hs.2.2.1 ?_
    refine a_iconst (pc := 11) (v := (-1)) dX6_isEmpty_11 (by decide) ?_
    refine a_icmp_ne (pc := 12) (tgt := 19) dX6_isEmpty_12 (by decide) (fun c_12 => ?_) (fun c_12 => ?_)
    · refine a_iconst (pc := 19) (v := nI 0) dX6_isEmpty_19 (by decide) ?_
      exact a_zret (pc := 20) dX6_isEmpty_20 rfl (by first | rfl | exact bI_nar _ | decide) (zf hz) (by rw [c_4, decide_eq_false c_12] at k; exact k)
    · refine a_iconst (pc := 15) (v := nI 1) dX6_isEmpty_15 (by decide) ?_
      refine a_goto (pc := 16) (tgt := 20) dX6_isEmpty_16 (by decide) ?_
      exact a_zret (pc := 20) dX6_isEmpty_20 rfl (by first | rfl | exact bI_nar _ | decide) (zf hz) (by rw [c_4, decide_eq_true c_12] at k; exact k)
set_option maxRecDepth 100000 in
set_option maxHeartbeats 4000000 in
theorem s_isRow {G : Cx} {d q : Nat} {h h0 : List va_E} {sc : Int32} {rw : Bool} {so sz : Nat} {el : Nat → Int64} {Q : Option Value → List va_E → Prop} (hd : 1 ≤ d) (hz : gz G = false) (hs : SW9 G h0 h q sc rw so sz el) (k : Q (some (.int (bI rw))) h) : AM G yX6_isRow cX6_isRow 1 (some .boolean) d 0 0 [.ref (gB G + q)] h Q := by
  obtain ⟨d, rfl, he⟩ := dpos hd
  refine AM.of [some (.ref (gB G + q))] pnX6 (Nat.le_of_ble_eq_true rfl) (by simp [lsub, lvI, Value.category]) ?_
  refine a_aloadn_0 (pc := 0) dX6_isRow_0 ?_
  refine gf_X6_17 (pc := 1) rfl dX6_isRow_1 hs.2.2.1 ?_
  exact a_zret (pc := 4) dX6_isRow_4 rfl (by first | rfl | exact bI_nar _ | decide) (zf hz) k
set_option maxRecDepth 100000 in
set_option maxHeartbeats 4000000 in
theorem s_isRowOf {G : Cx} {d q : Nat} {h h0 : List va_E} {sc : Int32} {rw : Bool} {so sz : Nat} {el : Nat → Int64} {Q : Option Value → List va_E → Prop} (hd : 1 ≤ d) (hz : gz G = false) (hs : SW9 G h0 h q sc rw so sz el) {w : Nat} (hw : w < 2147483648) (hso : so < 2147483648) (k : Q (some (.int (bI (rw && decide (so = w))))) h) : AM G yX6_isRowOf cX6_isRowOf 2 (some .boolean) d 0 0 [.ref (gB G + q), .int (nI (w))] h Q := by
  obtain ⟨d, rfl, he⟩ := dpos hd
  refine AM.of [some (.ref (gB G + q)), some (.int (nI (w)))] pnX6 (Nat.le_of_ble_eq_true rfl) (by simp [lsub, lvI, Value.category]) ?_
  refine a_aloadn_0 (pc := 0) dX6_isRowOf_0 ?_
  refine gf_X6_17 (pc := 1) rfl dX6_isRowOf_1 hs.2.2.1 ?_
  refine b_if_eq (pc := 4) (tgt := 19) dX6_isRowOf_4 (by decide) (fun c_4 => ?_) (fun c_4 => ?_)
  · refine a_iconst (pc := 19) (v := nI 0) dX6_isRowOf_19 (by decide) ?_
    exact a_zret (pc := 20) dX6_isRowOf_20 rfl (by first | rfl | exact bI_nar _ | decide) (zf hz) (by rw [c_4] at k; exact k)
  · refine a_aloadn_0 (pc := 7) dX6_isRowOf_7 ?_
    refine gf_X6_21 (pc := 8) rfl dX6_isRowOf_8 hs.2.2.1 ?_
    refine a_iloadn_1 (pc := 11) dX6_isRowOf_11 ?_
    refine n_icmp_ne (tgt := 19) dX6_isRowOf_12 (by decide) (by omega) (by omega) (fun c_12 => ?_) (fun c_12 => ?_)
    · refine a_iconst (pc := 19) (v := nI 0) dX6_isRowOf_19 (by decide) ?_
      exact a_zret (pc := 20) dX6_isRowOf_20 rfl (by first | rfl | exact bI_nar _ | decide) (zf hz) (by rw [c_4, decide_eq_false c_12] at k; exact k)
    · refine a_iconst (pc := 15) (v := nI 1) dX6_isRowOf_15 (by decide) ?_
      refine a_goto (pc := 16) (tgt := 20) dX6_isRowOf_16 (by decide) ?_
      exact a_zret (pc := 20) dX6_isRowOf_20 rfl (by first | rfl | exact bI_nar _ | decide) (zf hz) (by rw [c_4, decide_eq_true c_12] at k; exact k)
set_option maxRecDepth 100000 in
set_option maxHeartbeats 4000000 in
theorem s_holdSaucer {G : Cx} {d q : Nat} {h h0 : List va_E} {sc : Int32} {rw : Bool} {so sz : Nat} {el : Nat → Int64} {Q : Option Value → List va_E → Prop} (hd : 1 ≤ d) (hz : gz G = false) (hs : SW9 G h0 h q sc rw so sz el) {w : Int32} (k : ∀ h1, SW9 G h0 h1 q w false so 0 el → Q none h1) : AM G yX6_holdSaucer cX6_holdSaucer 2 none d 0 0 [.ref (gB G + q), .int (w)] h Q := by
  obtain ⟨d, rfl, he⟩ := dpos hd
  refine AM.of [some (.ref (gB G + q)), some (.int (w))] pnX6 (Nat.le_of_ble_eq_true rfl) (by simp [lsub, lvI, Value.category]) ?_
  refine a_aloadn_0 (pc := 0) dX6_holdSaucer_0 ?_
  refine a_iloadn_1 (pc := 1) dX6_holdSaucer_1 ?_
  refine sp_13 (x := (w)) hs rfl dX6_holdSaucer_2 (fun h1 hm1 => ?_)
  refine a_aloadn_0 (pc := 5) dX6_holdSaucer_5 ?_
  refine a_iconst (pc := 6) (v := nI 0) dX6_holdSaucer_6 (by decide) ?_
  refine sp_17 (x := false) hm1 rfl dX6_holdSaucer_7 (fun h2 hm2 => ?_)
  refine a_aloadn_0 (pc := 10) dX6_holdSaucer_10 ?_
  refine a_iconst (pc := 11) (v := nI 0) dX6_holdSaucer_11 (by decide) ?_
  refine sp_24 (x := 0) hm2 (by omega) rfl dX6_holdSaucer_12 (fun h3 hm3 => ?_)
  exact a_vret (pc := 15) dX6_holdSaucer_15 rfl (zf hz) (k _ hm3)
set_option maxRecDepth 100000 in
set_option maxHeartbeats 4000000 in
theorem s_holdRow {G : Cx} {d q : Nat} {h h0 : List va_E} {sc : Int32} {rw : Bool} {so sz : Nat} {el : Nat → Int64} {Q : Option Value → List va_E → Prop} (hd : 1 ≤ d) (hz : gz G = false) (hs : SW9 G h0 h q sc rw so sz el) {s1 m : Nat} (hm9 : m ≤ 60) (k : ∀ f : Nat → Int64, (∀ j, j < 60 → f j = 0) → ∀ h1, SW9 G h0 h1 q (-1) true s1 m f → Q none h1) : AM G yX6_holdRow cX6_holdRow 4 none d 0 0 [.ref (gB G + q), .int (nI (s1)), .int (nI (m))] h Q := by
  obtain ⟨d, rfl, he⟩ := dpos hd
  refine AM.of [some (.ref (gB G + q)), some (.int (nI (s1))), some (.int (nI (m))), none] pnX6 (Nat.le_of_ble_eq_true rfl) (by simp [lsub, lvI, Value.category]) ?_
  refine a_aloadn_0 (pc := 0) dX6_holdRow_0 ?_
  refine a_iconst (pc := 1) (v := (-1)) dX6_holdRow_1 (by decide) ?_
  refine sp_13 (x := ((-1))) hs rfl dX6_holdRow_2 (fun h1 hm1 => ?_)
  refine a_aloadn_0 (pc := 5) dX6_holdRow_5 ?_
  refine a_iconst (pc := 6) (v := nI 1) dX6_holdRow_6 (by decide) ?_
  refine sp_17 (x := true) hm1 rfl dX6_holdRow_7 (fun h2 hm2 => ?_)
  refine a_aloadn_0 (pc := 10) dX6_holdRow_10 ?_
  refine a_iloadn_1 (pc := 11) dX6_holdRow_11 ?_
  refine sp_21 (x := s1) hm2 rfl dX6_holdRow_12 (fun h3 hm3 => ?_)
  refine a_aloadn_0 (pc := 15) dX6_holdRow_15 ?_
  refine a_iloadn_2 (pc := 16) dX6_holdRow_16 ?_
  refine a_bipush (pc := 17) (v := nI 60) dX6_holdRow_17 (by decide) ?_
  refine a_mminR (pc := 19) dX6_holdRow_19 w_932 (Nat.le_of_ble_eq_true rfl) ?_
  refine a_topi (nI (min m 60)) (mmin_nI (by omega) (by decide)) ?_
  refine a_topi (nI m) (congrArg nI (by omega)) ?_
  refine sp_24 (x := m) hm3 (by omega) rfl dX6_holdRow_22 (fun h4 hm4 => ?_)
  refine a_iconst (pc := 25) (v := nI 0) dX6_holdRow_25 (by decide) ?_
  refine a_istoren_3 (pc := 26) dX6_holdRow_26 (by decide) (by first | rfl | trivial) ?_
  have lp : ∀ (n : Nat) (i : Nat) (h1 : List va_E) (f : Nat → Int64), 60 - i < n → (i ≤ 60) → (∀ j, j < i → f j = 0) → (SW9 G h0 h1 q (-1) true s1 m f) → AW G yX6_holdRow cX6_holdRow 4 none (rmx (d + 1) 0 0) (ZQ G 0 0 (h.length + 0) Q) 0 0 27 [some (.ref (gB G + q)), some (.int (nI (s1))), some (.int (nI (m))), some (.int (nI (i)))] [] h1 := by
    intro n
    induction n with
    | zero => intro i h1 f hn; exact absurd hn (Nat.not_lt_zero _)
    | succ n ih =>
      intro i h1 f hn hi hf hs1
      refine a_iloadn_3 (pc := 27) dX6_holdRow_27 ?_
      refine a_bipush (pc := 28) (v := nI 60) dX6_holdRow_28 (by decide) ?_
      refine n_icmp_ge (tgt := 46) dX6_holdRow_30 (by decide) (by omega) (by decide) (fun c_30 => ?_) (fun c_30 => ?_)
      · exact a_vret (pc := 46) dX6_holdRow_46 rfl (zf hz) (k f (fun j hj => hf j (by omega)) _ hs1)
      · refine a_aloadn_0 (pc := 33) dX6_holdRow_33 ?_
        refine gf_X6_9 (pc := 34) rfl dX6_holdRow_34 hs1.2.2.1 ?_
        refine a_iloadn_3 (pc := 37) dX6_holdRow_37 ?_
        refine a_lconst (pc := 38) (v := 0) dX6_holdRow_38 (by decide) ?_
        refine ss_el (j := i) (x := (0)) hs1 dX6_holdRow_39 (by omega) (fun h10 hm10 => ?_)
        refine a_iinc_3 (pc := 40) (v := nI (i + 1)) dX6_holdRow_40 (nI_add _ _) (by decide) (by first | rfl | trivial) ?_
        refine a_goto (pc := 43) (tgt := 27) dX6_holdRow_43 (by decide) ?_
        exact ih (i + 1) _ _ (by omega) (by omega) (fun j hj => by unfold vp_updL; split; (· rfl); (· exact hf j (by omega))) hm10
  exact lp 61 0 _ el (by omega) (by omega) (fun j hj => absurd hj (Nat.not_lt_zero _)) hm4
set_option maxRecDepth 100000 in
set_option maxHeartbeats 4000000 in
theorem s_lowestBits {G : Cx} {d q : Nat} {h h0 : List va_E} {sc : Int32} {rw : Bool} {so sz : Nat} {el : Nat → Int64} {Q : Option Value → List va_E → Prop} (hd : 1 ≤ d) (hz : gz G = false) (hs : SW9 G h0 h q sc rw so sz el) {v : Int64} (hso : so < 5) (k : Q (some (.long (asS so v))) h) : AM G yX6_lowestBits cX6_lowestBits 3 (some .long) d 0 0 [.ref (gB G + q), .long v] h Q := by
  obtain ⟨d, rfl, he⟩ := dpos hd
  rcases (show so = 0 ∨ so = 1 ∨ so = 2 ∨ so = 3 ∨ so = 4 by omega) with rfl | rfl | rfl | rfl | rfl
  · refine AM.of [some (.ref (gB G + q)), some (.long v), none] pnX6 (Nat.le_of_ble_eq_true rfl) (by simp [lsub, lvI, Value.category]) ?_
    refine a_aloadn_0 (pc := 0) dX6_lowestBits_0 ?_
    refine gf_X6_21 (pc := 1) rfl dX6_lowestBits_1 hs.2.2.1 ?_
    refine a_tableIn (pc := 4) (off := 32) (tgt := 36) dX6_lowestBits_4 (by decide) (by decide) (by decide) (by decide) ?_
    refine a_lloadn_1 (pc := 36) dX6_lowestBits_36 ?_
    refine a_l2i (pc := 37) dX6_lowestBits_37 ?_
    refine a_i2b (pc := 38) dX6_lowestBits_38 ?_
    refine a_i2l (pc := 39) dX6_lowestBits_39 ?_
    exact a_lret (pc := 40) dX6_lowestBits_40 rfl (zf hz) k
  · refine AM.of [some (.ref (gB G + q)), some (.long v), none] pnX6 (Nat.le_of_ble_eq_true rfl) (by simp [lsub, lvI, Value.category]) ?_
    refine a_aloadn_0 (pc := 0) dX6_lowestBits_0 ?_
    refine gf_X6_21 (pc := 1) rfl dX6_lowestBits_1 hs.2.2.1 ?_
    refine a_tableIn (pc := 4) (off := 37) (tgt := 41) dX6_lowestBits_4 (by decide) (by decide) (by decide) (by decide) ?_
    refine a_lloadn_1 (pc := 41) dX6_lowestBits_41 ?_
    refine a_l2i (pc := 42) dX6_lowestBits_42 ?_
    refine a_i2s (pc := 43) dX6_lowestBits_43 ?_
    refine a_i2l (pc := 44) dX6_lowestBits_44 ?_
    exact a_lret (pc := 45) dX6_lowestBits_45 rfl (zf hz) k
  · refine AM.of [some (.ref (gB G + q)), some (.long v), none] pnX6 (Nat.le_of_ble_eq_true rfl) (by simp [lsub, lvI, Value.category]) ?_
    refine a_aloadn_0 (pc := 0) dX6_lowestBits_0 ?_
    refine gf_X6_21 (pc := 1) rfl dX6_lowestBits_1 hs.2.2.1 ?_
    refine a_tableIn (pc := 4) (off := 42) (tgt := 46) dX6_lowestBits_4 (by decide) (by decide) (by decide) (by decide) ?_
    refine a_lloadn_1 (pc := 46) dX6_lowestBits_46 ?_
    refine a_l2i (pc := 47) dX6_lowestBits_47 ?_
    refine a_i2l (pc := 48) dX6_lowestBits_48 ?_
    exact a_lret (pc := 49) dX6_lowestBits_49 rfl (zf hz) k
  · refine AM.of [some (.ref (gB G + q)), some (.long v), none] pnX6 (Nat.le_of_ble_eq_true rfl) (by simp [lsub, lvI, Value.category]) ?_
    refine a_aloadn_0 (pc := 0) dX6_lowestBits_0 ?_
    refine gf_X6_21 (pc := 1) rfl dX6_lowestBits_1 hs.2.2.1 ?_
    refine a_tableIn (pc := 4) (off := 46) (tgt := 50) dX6_lowestBits_4 (by decide) (by decide) (by decide) (by decide) ?_
    refine a_lloadn_1 (pc := 50) dX6_lowestBits_50 ?_
    exact a_lret (pc := 51) dX6_lowestBits_51 rfl (zf hz) k
  · refine AM.of [some (.ref (gB G + q)), some (.long v), none] pnX6 (Nat.le_of_ble_eq_true rfl) (by simp [lsub, lvI, Value.category]) ?_
    refine a_aloadn_0 (pc := 0) dX6_lowestBits_0 ?_
    refine gf_X6_21 (pc := 1) rfl dX6_lowestBits_1 hs.2.2.1 ?_
    refine a_tableOut (pc := 4) (tgt := 52) dX6_lowestBits_4 (by decide) (by decide) ?_
    refine a_lloadn_1 (pc := 52) dX6_lowestBits_52 ?_
    refine a_lconst (pc := 53) (v := 0) dX6_lowestBits_53 (by decide) ?_
    refine a_lcmp (pc := 54) dX6_lowestBits_54 ?_
    refine a_if_eq (pc := 55) (tgt := 62) dX6_lowestBits_55 (by decide) (fun c_55 => ?_) (fun c_55 => ?_)
    · rw [lg_cmp0] at c_55
      refine a_lconst (pc := 62) (v := 0) dX6_lowestBits_62 (by decide) ?_
      exact a_lret (pc := 63) dX6_lowestBits_63 rfl (zf hz) (by rw [show asS 4 v = 0 from if_pos c_55] at k; exact k)
    · rw [lg_cmp0] at c_55
      refine a_lconst (pc := 58) (v := 1) dX6_lowestBits_58 (by decide) ?_
      refine a_goto (pc := 59) (tgt := 63) dX6_lowestBits_59 (by decide) ?_
      exact a_lret (pc := 63) dX6_lowestBits_63 rfl (zf hz) (by rw [show asS 4 v = 1 from if_neg c_55] at k; exact k)

set_option maxRecDepth 100000 in
set_option maxHeartbeats 4000000 in
theorem s_set {G : Cx} {d q : Nat} {h h0 : List va_E} {sc : Int32} {rw : Bool} {so sz : Nat} {el : Nat → Int64} {Q : Option Value → List va_E → Prop} (hd : 2 ≤ d) (hz : gz G = false) (hs : SW9 G h0 h q sc rw so sz el) {i : Nat} {v : Int64} (hi : i < sz) (hso : so < 5) (k : ∀ h1, SW9 G h0 h1 q sc rw so sz (vp_updL el i (asS so v)) → Q none h1) : AM G yX6_set cX6_set 4 none d 0 0 [.ref (gB G + q), .int (nI (i)), .long (v)] h Q := by
  obtain ⟨d, rfl, he⟩ := dpos hd
  have sz9 := hs.2.2.2.2
  refine AM.of [some (.ref (gB G + q)), some (.int (nI (i))), some (.long (v)), none] pnX6 (Nat.le_of_ble_eq_true rfl) (by simp [lsub, lvI, Value.category]) ?_
  refine a_iloadn_1 (pc := 0) dX6_set_0 ?_
  refine n_if_lt (tgt := 23) dX6_set_1 (by decide) (by omega) ?_
  
  refine a_iloadn_1 (pc := 4) dX6_set_4 ?_
  refine a_aloadn_0 (pc := 5) dX6_set_5 ?_
  refine gf_X6_24 (pc := 6) rfl dX6_set_6 hs.2.2.1 ?_
  refine n_icmp_ge (tgt := 23) dX6_set_9 (by decide) (by omega) (by omega) (fun c_9 => by omega) (fun c_9 => ?_)
  refine a_aloadn_0 (pc := 12) dX6_set_12 ?_
  refine gf_X6_9 (pc := 13) rfl dX6_set_13 hs.2.2.1 ?_
  refine a_iloadn_1 (pc := 16) dX6_set_16 ?_
  refine a_aloadn_0 (pc := 17) dX6_set_17 ?_
  refine a_lloadn_2 (pc := 18) dX6_set_18 ?_
  refine cv_X6_33 (pc := 19) rfl dX6_set_19 hs.2.2.1 (Nat.le_of_ble_eq_true rfl) ?_
  refine s_lowestBits (by omega) hz hs hso ?_
  refine ss_el (j := i) (x := (asS so ((v)))) hs dX6_set_22 (by omega) (fun h1 hm1 => ?_)
  exact a_vret (pc := 23) dX6_set_23 rfl (zf hz) (k _ hm1)
def hpS (sz : Nat) (i n : Int32) : Bool := decide (0 ≤ i) && (decide (0 ≤ n) && decide (iN i + iN n ≤ sz))
theorem lN_tI {n : Nat} (h : n < 9223372036854775808) : (lN n).toInt = (n : Int) := by
  show (BitVec.ofNat 64 n).toInt = _
  rw [BitVec.toInt_eq_toNat_of_lt] <;> rw [BitVec.toNat_ofNat, Nat.mod_eq_of_lt (by omega)]
  omega
theorem lN_gt {a b : Nat} (ha : a < 4294967296) (hb : b < 4294967296) (h : a ≤ b) (h2 : lN b < lN a) : False := by
  rw [Int64.lt_iff_toInt_lt, lN_tI (by omega), lN_tI (by omega)] at h2; omega
theorem lN_ng {a b : Nat} (ha : a < 4294967296) (hb : b < 4294967296) (h2 : ¬ lN b < lN a) : a ≤ b := by
  rw [Int64.lt_iff_toInt_lt, lN_tI (by omega), lN_tI (by omega)] at h2; omega
set_option maxRecDepth 100000 in
set_option maxHeartbeats 4000000 in
theorem s_hasPlaces {G : Cx} {d q : Nat} {h h0 : List va_E} {sc : Int32} {rw : Bool} {so sz : Nat} {el : Nat → Int64} {Q : Option Value → List va_E → Prop} (hd : 1 ≤ d) (hz : gz G = false) (hs : SW9 G h0 h q sc rw so sz el) {i n : Int32} (k : Q (some (.int (bI (hpS sz i n)))) h) : AM G yX6_hasPlaces cX6_hasPlaces 3 (some .boolean) d 0 0 [.ref (gB G + q), .int (i), .int (n)] h Q := by
  obtain ⟨d, rfl, he⟩ := dpos hd
  have sz9 := hs.2.2.2.2
  refine AM.of [some (.ref (gB G + q)), some (.int (i)), some (.int (n))] pnX6 (Nat.le_of_ble_eq_true rfl) (by simp [lsub, lvI, Value.category]) ?_
  refine a_iloadn_1 (pc := 0) dX6_hasPlaces_0 ?_
  refine a_if_lt (pc := 1) (tgt := 26) dX6_hasPlaces_1 (by decide) (fun c_1 => ?_) (fun c_1 => ?_)
  · have e : hpS sz i n = false := by unfold hpS; rw [decide_eq_false (Int32.not_le.mpr c_1)]; rfl
    refine a_iconst (pc := 26) (v := nI 0) dX6_hasPlaces_26 (by decide) ?_
    exact a_zret (pc := 27) dX6_hasPlaces_27 rfl (by first | rfl | exact bI_nar _ | decide) (zf hz) (by rw [e] at k; exact k)
  · obtain ⟨i1, hi1, rfl⟩ := nI_of c_1
    refine a_iloadn_2 (pc := 4) dX6_hasPlaces_4 ?_
    refine a_if_lt (pc := 5) (tgt := 26) dX6_hasPlaces_5 (by decide) (fun c_5 => ?_) (fun c_5 => ?_)
    · have e : hpS sz (nI i1) n = false := by unfold hpS; rw [decide_eq_false (Int32.not_le.mpr c_5), Bool.false_and, Bool.and_false]
      refine a_iconst (pc := 26) (v := nI 0) dX6_hasPlaces_26 (by decide) ?_
      exact a_zret (pc := 27) dX6_hasPlaces_27 rfl (by first | rfl | exact bI_nar _ | decide) (zf hz) (by rw [e] at k; exact k)
    · obtain ⟨n1, hn1, rfl⟩ := nI_of c_5
      have e : hpS sz (nI i1) (nI n1) = decide (i1 + n1 ≤ sz) := by unfold hpS; rw [decide_eq_true (nI_pos' hi1), decide_eq_true (nI_pos' hn1), iN_nI hi1, iN_nI hn1]; rfl
      refine a_iloadn_1 (pc := 8) dX6_hasPlaces_8 ?_
      refine n_i2l dX6_hasPlaces_9 (by omega) ?_
      refine a_iloadn_2 (pc := 10) dX6_hasPlaces_10 ?_
      refine n_i2l dX6_hasPlaces_11 (by omega) ?_
      refine a_ladd (pc := 12) dX6_hasPlaces_12 ?_
      refine a_topl (lN (i1 + n1)) (lN_add _ _) ?_
      refine a_aloadn_0 (pc := 13) dX6_hasPlaces_13 ?_
      refine gf_X6_24 (pc := 14) rfl dX6_hasPlaces_14 hs.2.2.1 ?_
      refine n_i2l dX6_hasPlaces_17 (by omega) ?_
      refine a_lcmp (pc := 18) dX6_hasPlaces_18 ?_
      refine a_if_gt (pc := 19) (tgt := 26) dX6_hasPlaces_19 (by decide) (fun c_19 => ?_) (fun c_19 => ?_)
      · rw [lg_gt] at c_19
        refine a_iconst (pc := 26) (v := nI 0) dX6_hasPlaces_26 (by decide) ?_
        exact a_zret (pc := 27) dX6_hasPlaces_27 rfl (by first | rfl | exact bI_nar _ | decide) (zf hz) (by rw [e, decide_eq_false (fun z => lN_gt (by omega) (by omega) z c_19)] at k; exact k)
      · rw [lg_gt] at c_19
        refine a_iconst (pc := 22) (v := nI 1) dX6_hasPlaces_22 (by decide) ?_
        refine a_goto (pc := 23) (tgt := 27) dX6_hasPlaces_23 (by decide) ?_
        exact a_zret (pc := 27) dX6_hasPlaces_27 rfl (by first | rfl | exact bI_nar _ | decide) (zf hz) (by rw [e, decide_eq_true (lN_ng (by omega) (by omega) c_19)] at k; exact k)
