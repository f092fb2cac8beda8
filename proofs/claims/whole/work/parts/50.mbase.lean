/-! THE REFERENCE: its numbers, changes, deeds -/
abbrev gMay (b : MB) : (Nat → Nat) := b.1.1
abbrev gChangeAt (b : MB) : (Nat → Nat) := b.1.2.1
abbrev gChangeWas (b : MB) : (Nat → Nat) := b.1.2.2.1
abbrev gChangeIs (b : MB) : (Nat → Nat) := b.1.2.2.2.1
abbrev gKeptMany (b : MB) : Nat := b.1.2.2.2.2.1
abbrev gDone (b : MB) : Nat := b.1.2.2.2.2.2
abbrev gTape (b : MB) : (Nat → Nat) := b.2.1.1
abbrev gTapeMany (b : MB) : Nat := b.2.1.2.1
abbrev gText (b : MB) : (Nat → Nat) := b.2.1.2.2.1
abbrev gTextMany (b : MB) : Int32 := b.2.1.2.2.2
abbrev gLedNow (b : MB) : (Nat → Nat) := b.2.2.1.1
abbrev gIsKept (b : MB) : Bool := b.2.2.1.2.1
abbrev gImageMay (b : MB) : (Nat → Nat) := b.2.2.1.2.2.1
abbrev gImageLed (b : MB) : (Nat → Nat) := b.2.2.1.2.2.2
abbrev gBodies (b : MB) : Nat := b.2.2.2.1.1
abbrev gBodyKind (b : MB) : (Nat → Nat) := b.2.2.2.1.2.1
abbrev gTrace (b : MB) : (Nat → Nat) := b.2.2.2.1.2.2.1
abbrev gRan (b : MB) : Nat := b.2.2.2.1.2.2.2
abbrev gShelf (b : MB) : (Nat → Int32) := b.2.2.2.2.1
abbrev gMany (b : MB) : (Nat → Nat) := b.2.2.2.2.2.1
abbrev gItems (b : MB) : (Nat → Int64) := b.2.2.2.2.2.2
abbrev uMay (b : MB) (x : (Nat → Nat)) : MB := ((x, b.1.2.1, b.1.2.2.1, b.1.2.2.2.1, b.1.2.2.2.2.1, b.1.2.2.2.2.2), b.2.1, b.2.2.1, b.2.2.2.1, b.2.2.2.2)
abbrev uChangeAt (b : MB) (x : (Nat → Nat)) : MB := ((b.1.1, x, b.1.2.2.1, b.1.2.2.2.1, b.1.2.2.2.2.1, b.1.2.2.2.2.2), b.2.1, b.2.2.1, b.2.2.2.1, b.2.2.2.2)
abbrev uChangeWas (b : MB) (x : (Nat → Nat)) : MB := ((b.1.1, b.1.2.1, x, b.1.2.2.2.1, b.1.2.2.2.2.1, b.1.2.2.2.2.2), b.2.1, b.2.2.1, b.2.2.2.1, b.2.2.2.2)
abbrev uChangeIs (b : MB) (x : (Nat → Nat)) : MB := ((b.1.1, b.1.2.1, b.1.2.2.1, x, b.1.2.2.2.2.1, b.1.2.2.2.2.2), b.2.1, b.2.2.1, b.2.2.2.1, b.2.2.2.2)
abbrev uKeptMany (b : MB) (x : Nat) : MB := ((b.1.1, b.1.2.1, b.1.2.2.1, b.1.2.2.2.1, x, b.1.2.2.2.2.2), b.2.1, b.2.2.1, b.2.2.2.1, b.2.2.2.2)
abbrev uDone (b : MB) (x : Nat) : MB := ((b.1.1, b.1.2.1, b.1.2.2.1, b.1.2.2.2.1, b.1.2.2.2.2.1, x), b.2.1, b.2.2.1, b.2.2.2.1, b.2.2.2.2)
abbrev uTape (b : MB) (x : (Nat → Nat)) : MB := (b.1, (x, b.2.1.2.1, b.2.1.2.2.1, b.2.1.2.2.2), b.2.2.1, b.2.2.2.1, b.2.2.2.2)
abbrev uTapeMany (b : MB) (x : Nat) : MB := (b.1, (b.2.1.1, x, b.2.1.2.2.1, b.2.1.2.2.2), b.2.2.1, b.2.2.2.1, b.2.2.2.2)
abbrev uText (b : MB) (x : (Nat → Nat)) : MB := (b.1, (b.2.1.1, b.2.1.2.1, x, b.2.1.2.2.2), b.2.2.1, b.2.2.2.1, b.2.2.2.2)
abbrev uTextMany (b : MB) (x : Int32) : MB := (b.1, (b.2.1.1, b.2.1.2.1, b.2.1.2.2.1, x), b.2.2.1, b.2.2.2.1, b.2.2.2.2)
abbrev uLedNow (b : MB) (x : (Nat → Nat)) : MB := (b.1, b.2.1, (x, b.2.2.1.2.1, b.2.2.1.2.2.1, b.2.2.1.2.2.2), b.2.2.2.1, b.2.2.2.2)
abbrev uIsKept (b : MB) (x : Bool) : MB := (b.1, b.2.1, (b.2.2.1.1, x, b.2.2.1.2.2.1, b.2.2.1.2.2.2), b.2.2.2.1, b.2.2.2.2)
abbrev uImageMay (b : MB) (x : (Nat → Nat)) : MB := (b.1, b.2.1, (b.2.2.1.1, b.2.2.1.2.1, x, b.2.2.1.2.2.2), b.2.2.2.1, b.2.2.2.2)
abbrev uImageLed (b : MB) (x : (Nat → Nat)) : MB := (b.1, b.2.1, (b.2.2.1.1, b.2.2.1.2.1, b.2.2.1.2.2.1, x), b.2.2.2.1, b.2.2.2.2)
abbrev uBodies (b : MB) (x : Nat) : MB := (b.1, b.2.1, b.2.2.1, (x, b.2.2.2.1.2.1, b.2.2.2.1.2.2.1, b.2.2.2.1.2.2.2), b.2.2.2.2)
abbrev uBodyKind (b : MB) (x : (Nat → Nat)) : MB := (b.1, b.2.1, b.2.2.1, (b.2.2.2.1.1, x, b.2.2.2.1.2.2.1, b.2.2.2.1.2.2.2), b.2.2.2.2)
abbrev uTrace (b : MB) (x : (Nat → Nat)) : MB := (b.1, b.2.1, b.2.2.1, (b.2.2.2.1.1, b.2.2.2.1.2.1, x, b.2.2.2.1.2.2.2), b.2.2.2.2)
abbrev uRan (b : MB) (x : Nat) : MB := (b.1, b.2.1, b.2.2.1, (b.2.2.2.1.1, b.2.2.2.1.2.1, b.2.2.2.1.2.2.1, x), b.2.2.2.2)
abbrev uShelf (b : MB) (x : (Nat → Int32)) : MB := (b.1, b.2.1, b.2.2.1, b.2.2.2.1, (x, b.2.2.2.2.2.1, b.2.2.2.2.2.2))
abbrev uMany (b : MB) (x : (Nat → Nat)) : MB := (b.1, b.2.1, b.2.2.1, b.2.2.2.1, (b.2.2.2.2.1, x, b.2.2.2.2.2.2))
abbrev uItems (b : MB) (x : (Nat → Int64)) : MB := (b.1, b.2.1, b.2.2.1, b.2.2.2.1, (b.2.2.2.2.1, b.2.2.2.2.2.1, x))
/-- changes: what holds of them -/
def HI (b : MB) : Prop := gDone b ≤ gKeptMany b ∧ gKeptMany b ≤ 40 ∧ ∀ i, i < gKeptMany b → gChangeAt b i < 147
theorem nI_ne_m5 : True := trivial
set_option maxRecDepth 100000 in
set_option maxHeartbeats 4000000 in
theorem m_undo {G : Cx} {d : Nat} {h h0 : List va_E} {b : MB} {p : MP} {t : MT} {o : MO} {Q : Option Value → List va_E → Prop} (hd : 1 ≤ d) (hz : gz G = false) (hm : MS G h0 h (b, p, t, o)) (hI : HI b) (k0 : gDone b = 0 → Q (some (.int (-5))) h) (k1 : 0 < gDone b → ∀ h1, MS G h0 h1 (uMay (uDone b (gDone b - 1)) (va_up (gMay b) (gChangeAt b (gDone b - 1)) (gChangeWas b (gDone b - 1))), p, t, o) → Q (some (.int (nI (gDone b - 1)))) h1) : AM G yX12_undo cX12_undo 1 (some .int) d 0 0 [.ref (gB G + 80)] h Q := by
  obtain ⟨d, rfl, he⟩ := dpos hd
  obtain ⟨hi1, hi2, hi3⟩ := hI
  
  refine AM.of [some (.ref (gB G + 80))] pnX12 (Nat.le_of_ble_eq_true rfl) (by simp [lsub, lvI, Value.category]) ?_
  refine a_aloadn_0 (pc := 0) dX12_undo_0 ?_
  refine mg_88 (x := gDone b) hm rfl dX12_undo_1 rfl ?_
  refine n_if_ne (tgt := 10) dX12_undo_4 (by decide) (by omega) (fun c_4 => ?_) (fun c_4 => ?_)
  · refine a_aloadn_0 (pc := 10) dX12_undo_10 ?_
    refine a_dup (pc := 11) dX12_undo_11 rfl ?_
    refine mg_88 (x := gDone b) hm rfl dX12_undo_12 rfl ?_
    refine a_iconst (pc := 15) (v := nI 1) dX12_undo_15 (by decide) ?_
    refine n_isub dX12_undo_16 (by omega) ?_
    refine mp_88 (x := (gDone b) - 1) hm rfl dX12_undo_17 (fun h1 hm1 => ?_)
    refine a_aloadn_0 (pc := 20) dX12_undo_20 ?_
    refine mg_9 hm1 rfl dX12_undo_21 ?_
    refine a_aloadn_0 (pc := 24) dX12_undo_24 ?_
    refine mg_13 hm1 rfl dX12_undo_25 ?_
    refine a_aloadn_0 (pc := 28) dX12_undo_28 ?_
    refine mg_88 (x := (gDone b) - 1) hm1 rfl dX12_undo_29 rfl ?_
    refine ml_changeAt (x := gChangeAt b ((gDone b) - 1)) hm1 dX12_undo_32 (by omega) rfl ?_
    have ca := hi3 (gDone b - 1) (by omega)
    refine a_aloadn_0 (pc := 33) dX12_undo_33 ?_
    refine mg_16 hm1 rfl dX12_undo_34 ?_
    refine a_aloadn_0 (pc := 37) dX12_undo_37 ?_
    refine mg_88 (x := (gDone b) - 1) hm1 rfl dX12_undo_38 rfl ?_
    refine ml_changeWas (x := gChangeWas b ((gDone b) - 1)) hm1 dX12_undo_41 (by omega) rfl ?_
    refine ms_may (j := (gChangeAt b ((gDone b) - 1))) (x := gChangeWas b ((gDone b) - 1)) hm1 dX12_undo_42 (by omega) (fun h2 hm2 => ?_)
    refine a_aloadn_0 (pc := 43) dX12_undo_43 ?_
    refine mg_88 (x := (gDone b) - 1) hm2 rfl dX12_undo_44 rfl ?_
    exact a_iret (pc := 47) dX12_undo_47 rfl (zf hz) (k1 c_4 _ hm2)
  · refine a_bipush (pc := 7) (v := (-5)) dX12_undo_7 (by decide) ?_
    exact a_iret (pc := 9) dX12_undo_9 rfl (zf hz) (k0 c_4)
set_option maxRecDepth 100000 in
set_option maxHeartbeats 4000000 in
theorem m_redo {G : Cx} {d : Nat} {h h0 : List va_E} {b : MB} {p : MP} {t : MT} {o : MO} {Q : Option Value → List va_E → Prop} (hd : 1 ≤ d) (hz : gz G = false) (hm : MS G h0 h (b, p, t, o)) (hI : HI b) (k0 : gDone b = gKeptMany b → Q (some (.int (-5))) h) (k1 : ¬ gDone b = gKeptMany b → ∀ h1, MS G h0 h1 (uDone (uMay b (va_up (gMay b) (gChangeAt b (gDone b)) (gChangeIs b (gDone b)))) (gDone b + 1), p, t, o) → Q (some (.int (nI (gKeptMany b - (gDone b + 1))))) h1) : AM G yX12_redo cX12_redo 1 (some .int) d 0 0 [.ref (gB G + 80)] h Q := by
  obtain ⟨d, rfl, he⟩ := dpos hd
  obtain ⟨hi1, hi2, hi3⟩ := hI
  
  refine AM.of [some (.ref (gB G + 80))] pnX12 (Nat.le_of_ble_eq_true rfl) (by simp [lsub, lvI, Value.category]) ?_
  refine a_aloadn_0 (pc := 0) dX12_redo_0 ?_
  refine mg_88 (x := gDone b) hm rfl dX12_redo_1 rfl ?_
  refine a_aloadn_0 (pc := 4) dX12_redo_4 ?_
  refine mg_91 (x := gKeptMany b) hm rfl dX12_redo_5 rfl ?_
  refine n_icmp_ne (tgt := 14) dX12_redo_8 (by decide) (by omega) (by omega) (fun c_8 => ?_) (fun c_8 => ?_)
  · refine a_aloadn_0 (pc := 14) dX12_redo_14 ?_
    have ca := hi3 (gDone b) (by omega)
    refine mg_9 hm rfl dX12_redo_15 ?_
    refine a_aloadn_0 (pc := 18) dX12_redo_18 ?_
    refine mg_13 hm rfl dX12_redo_19 ?_
    refine a_aloadn_0 (pc := 22) dX12_redo_22 ?_
    refine mg_88 (x := gDone b) hm rfl dX12_redo_23 rfl ?_
    refine ml_changeAt (x := gChangeAt b (gDone b)) hm dX12_redo_26 (by omega) rfl ?_
    refine a_aloadn_0 (pc := 27) dX12_redo_27 ?_
    refine mg_19 hm rfl dX12_redo_28 ?_
    refine a_aloadn_0 (pc := 31) dX12_redo_31 ?_
    refine mg_88 (x := gDone b) hm rfl dX12_redo_32 rfl ?_
    refine ml_changeIs (x := gChangeIs b (gDone b)) hm dX12_redo_35 (by omega) rfl ?_
    refine ms_may (j := (gChangeAt b (gDone b))) (x := gChangeIs b (gDone b)) hm dX12_redo_36 (by omega) (fun h1 hm1 => ?_)
    refine a_aloadn_0 (pc := 37) dX12_redo_37 ?_
    refine a_dup (pc := 38) dX12_redo_38 rfl ?_
    refine mg_88 (x := gDone b) hm1 rfl dX12_redo_39 rfl ?_
    refine a_iconst (pc := 42) (v := nI 1) dX12_redo_42 (by decide) ?_
    refine n_iadd dX12_redo_43 ?_
    refine mp_88 (x := gDone b + 1) hm1 rfl dX12_redo_44 (fun h2 hm2 => ?_)
    refine a_aloadn_0 (pc := 47) dX12_redo_47 ?_
    refine mg_91 (x := gKeptMany b) hm2 rfl dX12_redo_48 rfl ?_
    refine a_aloadn_0 (pc := 51) dX12_redo_51 ?_
    refine mg_88 (x := gDone b + 1) hm2 rfl dX12_redo_52 rfl ?_
    refine n_isub dX12_redo_55 (by omega) ?_
    exact a_iret (pc := 56) dX12_redo_56 rfl (zf hz) (k1 c_8 _ hm2)
  · refine a_bipush (pc := 11) (v := (-5)) dX12_redo_11 (by decide) ?_
    exact a_iret (pc := 13) dX12_redo_13 rfl (zf hz) (k0 c_8)
set_option maxRecDepth 100000 in
set_option maxHeartbeats 4000000 in
theorem m_becomes {G : Cx} {d : Nat} {h h0 : List va_E} {b : MB} {p : MP} {t : MT} {o : MO} {Q : Option Value → List va_E → Prop} (hd : 1 ≤ d) (hz : gz G = false) (hm : MS G h0 h (b, p, t, o)) {wh x : Nat} (hI : HI b) (hw : wh < 147) (hx : x < 2147483648) (hm9 : gMay b wh < 2147483648) (k0 : gMay b wh = x → Q (some (.int (nI (gMay b wh)))) h) (k1 : ¬ gMay b wh = x → ¬ gDone b = 40 → ∀ h1, MS G h0 h1 (uMay (uKeptMany (uDone (uChangeIs (uChangeWas (uChangeAt b (va_up (gChangeAt b) (gDone b) wh)) (va_up (gChangeWas b) (gDone b) (gMay b wh))) (va_up (gChangeIs b) (gDone b) x)) ((gDone b) + 1)) ((gDone b) + 1)) (va_up (gMay b) wh x), p, t, o) → Q (some (.int (nI (gMay b wh)))) h1) (k2 : ¬ gMay b wh = x → gDone b = 40 → ∀ (A W J : Nat → Nat), (∀ j, j < 39 → A j = gChangeAt b (j + 1)) → (∀ j, j < 39 → W j = gChangeWas b (j + 1)) → (∀ j, j < 39 → J j = gChangeIs b (j + 1)) → ∀ h1, MS G h0 h1 (uMay (uKeptMany (uDone (uChangeIs (uChangeWas (uChangeAt b (va_up A 39 wh)) (va_up W 39 (gMay b wh))) (va_up J 39 x)) (39 + 1)) (39 + 1)) (va_up (gMay b) wh x), p, t, o) → Q (some (.int (nI (gMay b wh)))) h1) : AM G yX12_becomes cX12_becomes 5 (some .int) d 0 0 [.ref (gB G + 80), .int (nI (wh)), .int (nI (x))] h Q := by
  obtain ⟨d, rfl, he⟩ := dpos hd
  obtain ⟨hi1, hi2, hi3⟩ := hI
  
  refine AM.of [some (.ref (gB G + 80)), some (.int (nI (wh))), some (.int (nI (x))), none, none] pnX12 (Nat.le_of_ble_eq_true rfl) (by simp [lsub, lvI, Value.category]) ?_
  refine a_aloadn_0 (pc := 0) dX12_becomes_0 ?_
  refine mg_9 hm rfl dX12_becomes_1 ?_
  refine a_iloadn_1 (pc := 4) dX12_becomes_4 ?_
  refine ml_may (x := gMay b wh) hm dX12_becomes_5 (by omega) rfl ?_
  refine a_istoren_3 (pc := 6) dX12_becomes_6 (by decide) (by first | rfl | trivial) ?_
  refine a_iloadn_3 (pc := 7) dX12_becomes_7 ?_
  refine a_iloadn_2 (pc := 8) dX12_becomes_8 ?_
  refine n_icmp_ne (tgt := 14) dX12_becomes_9 (by decide) (by omega) (by omega) (fun c_9 => ?_) (fun c_9 => ?_)
  · refine a_aloadn_0 (pc := 14) dX12_becomes_14 ?_
    refine mg_88 (x := gDone b) hm rfl dX12_becomes_15 rfl ?_
    refine a_bipush (pc := 18) (v := nI 40) dX12_becomes_18 (by decide) ?_
    refine n_icmp_ne (tgt := 97) dX12_becomes_20 (by decide) (by omega) (by decide) (fun c_20 => ?_) (fun c_20 => ?_)
    · refine a_aloadn_0 (pc := 97) dX12_becomes_97 ?_
      refine mg_13 hm rfl dX12_becomes_98 ?_
      refine a_aloadn_0 (pc := 101) dX12_becomes_101 ?_
      refine mg_88 (x := gDone b) hm rfl dX12_becomes_102 rfl ?_
      refine a_iloadn_1 (pc := 105) dX12_becomes_105 ?_
      refine ms_changeAt (j := (gDone b)) (x := wh) hm dX12_becomes_106 (by omega) (fun h1 hm1 => ?_)
      refine a_aloadn_0 (pc := 107) dX12_becomes_107 ?_
      refine mg_16 hm1 rfl dX12_becomes_108 ?_
      refine a_aloadn_0 (pc := 111) dX12_becomes_111 ?_
      refine mg_88 (x := gDone b) hm1 rfl dX12_becomes_112 rfl ?_
      refine a_iloadn_3 (pc := 115) dX12_becomes_115 ?_
      refine ms_changeWas (j := (gDone b)) (x := gMay b wh) hm1 dX12_becomes_116 (by omega) (fun h2 hm2 => ?_)
      refine a_aloadn_0 (pc := 117) dX12_becomes_117 ?_
      refine mg_19 hm2 rfl dX12_becomes_118 ?_
      refine a_aloadn_0 (pc := 121) dX12_becomes_121 ?_
      refine mg_88 (x := gDone b) hm2 rfl dX12_becomes_122 rfl ?_
      refine a_iloadn_2 (pc := 125) dX12_becomes_125 ?_
      refine ms_changeIs (j := (gDone b)) (x := x) hm2 dX12_becomes_126 (by omega) (fun h3 hm3 => ?_)
      refine a_aloadn_0 (pc := 127) dX12_becomes_127 ?_
      refine a_dup (pc := 128) dX12_becomes_128 rfl ?_
      refine mg_88 (x := gDone b) hm3 rfl dX12_becomes_129 rfl ?_
      refine a_iconst (pc := 132) (v := nI 1) dX12_becomes_132 (by decide) ?_
      refine n_iadd dX12_becomes_133 ?_
      refine mp_88 (x := gDone b + 1) hm3 rfl dX12_becomes_134 (fun h4 hm4 => ?_)
      refine a_aloadn_0 (pc := 137) dX12_becomes_137 ?_
      refine a_aloadn_0 (pc := 138) dX12_becomes_138 ?_
      refine mg_88 (x := gDone b + 1) hm4 rfl dX12_becomes_139 rfl ?_
      refine mp_91 (x := gDone b + 1) hm4 rfl dX12_becomes_142 (fun h5 hm5 => ?_)
      refine a_aloadn_0 (pc := 145) dX12_becomes_145 ?_
      refine mg_9 hm5 rfl dX12_becomes_146 ?_
      refine a_iloadn_1 (pc := 149) dX12_becomes_149 ?_
      refine a_iloadn_2 (pc := 150) dX12_becomes_150 ?_
      refine ms_may (j := wh) (x := x) hm5 dX12_becomes_151 (by omega) (fun h6 hm6 => ?_)
      refine a_iloadn_3 (pc := 152) dX12_becomes_152 ?_
      exact a_iret (pc := 153) dX12_becomes_153 rfl (zf hz) (k1 c_9 c_20 _ hm6)
    · refine a_iconst (pc := 23) (v := nI 1) dX12_becomes_23 (by decide) ?_
      refine a_istore_4 (pc := 24) dX12_becomes_24 (by decide) (by first | rfl | trivial) ?_
      have hne := c_9
      have lp : ∀ (n : Nat) (i : Nat) (h1 : List va_E) (A W J : Nat → Nat), 40 - i < n → (1 ≤ i ∧ i ≤ 40) → (∀ j, j < i - 1 → A j = gChangeAt b (j + 1)) → (∀ j, j < i - 1 → W j = gChangeWas b (j + 1)) → (∀ j, j < i - 1 → J j = gChangeIs b (j + 1)) → (∀ j, i ≤ j → A j = gChangeAt b j) → (∀ j, i ≤ j → W j = gChangeWas b j) → (∀ j, i ≤ j → J j = gChangeIs b j) → (MS G h0 h1 (uChangeIs (uChangeWas (uChangeAt b A) W) J, p, t, o)) → AW G yX12_becomes cX12_becomes 5 (some .int) (rmx (d + 1) 0 0) (ZQ G 0 0 (h.length + 0) Q) 0 0 26 [some (.ref (gB G + 80)), some (.int (nI (wh))), some (.int (nI (x))), some (.int (nI (gMay b wh))), some (.int (nI (i)))] [] h1 := by
        intro n
        induction n with
        | zero => intro i h1 A W J hn; exact absurd hn (Nat.not_lt_zero _)
        | succ n ih =>
          intro i h1 A W J hn hi hA hW hJ hAo hWo hJo hm1
          refine a_iload_4 (pc := 26) dX12_becomes_26 ?_
          refine a_bipush (pc := 28) (v := nI 40) dX12_becomes_28 (by decide) ?_
          refine n_icmp_ge (tgt := 87) dX12_becomes_30 (by decide) (by omega) (by decide) (fun c_30 => ?_) (fun c_30 => ?_)
          · refine a_aloadn_0 (pc := 87) dX12_becomes_87 ?_
            refine a_dup (pc := 88) dX12_becomes_88 rfl ?_
            refine mg_88 (x := gDone b) hm1 rfl dX12_becomes_89 rfl ?_
            refine a_iconst (pc := 92) (v := nI 1) dX12_becomes_92 (by decide) ?_
            refine n_isub dX12_becomes_93 (by omega) ?_
            refine a_topi (nI (39)) (congrArg nI (by omega)) ?_
            refine mp_88 (x := 39) hm1 rfl dX12_becomes_94 (fun h9 hm9 => ?_)
            refine a_aloadn_0 (pc := 97) dX12_becomes_97 ?_
            refine mg_13 hm9 rfl dX12_becomes_98 ?_
            refine a_aloadn_0 (pc := 101) dX12_becomes_101 ?_
            refine mg_88 (x := 39) hm9 rfl dX12_becomes_102 rfl ?_
            refine a_iloadn_1 (pc := 105) dX12_becomes_105 ?_
            refine ms_changeAt (j := 39) (x := wh) hm9 dX12_becomes_106 (by decide) (fun h10 hm10 => ?_)
            refine a_aloadn_0 (pc := 107) dX12_becomes_107 ?_
            refine mg_16 hm10 rfl dX12_becomes_108 ?_
            refine a_aloadn_0 (pc := 111) dX12_becomes_111 ?_
            refine mg_88 (x := 39) hm10 rfl dX12_becomes_112 rfl ?_
            refine a_iloadn_3 (pc := 115) dX12_becomes_115 ?_
            refine ms_changeWas (j := 39) (x := gMay b wh) hm10 dX12_becomes_116 (by decide) (fun h11 hm11 => ?_)
            refine a_aloadn_0 (pc := 117) dX12_becomes_117 ?_
            refine mg_19 hm11 rfl dX12_becomes_118 ?_
            refine a_aloadn_0 (pc := 121) dX12_becomes_121 ?_
            refine mg_88 (x := 39) hm11 rfl dX12_becomes_122 rfl ?_
            refine a_iloadn_2 (pc := 125) dX12_becomes_125 ?_
            refine ms_changeIs (j := 39) (x := x) hm11 dX12_becomes_126 (by decide) (fun h12 hm12 => ?_)
            refine a_aloadn_0 (pc := 127) dX12_becomes_127 ?_
            refine a_dup (pc := 128) dX12_becomes_128 rfl ?_
            refine mg_88 (x := 39) hm12 rfl dX12_becomes_129 rfl ?_
            refine a_iconst (pc := 132) (v := nI 1) dX12_becomes_132 (by decide) ?_
            refine n_iadd dX12_becomes_133 ?_
            refine mp_88 (x := 40) hm12 rfl dX12_becomes_134 (fun h13 hm13 => ?_)
            refine a_aloadn_0 (pc := 137) dX12_becomes_137 ?_
            refine a_aloadn_0 (pc := 138) dX12_becomes_138 ?_
            refine mg_88 (x := 40) hm13 rfl dX12_becomes_139 rfl ?_
            refine mp_91 (x := 40) hm13 rfl dX12_becomes_142 (fun h14 hm14 => ?_)
            refine a_aloadn_0 (pc := 145) dX12_becomes_145 ?_
            refine mg_9 hm14 rfl dX12_becomes_146 ?_
            refine a_iloadn_1 (pc := 149) dX12_becomes_149 ?_
            refine a_iloadn_2 (pc := 150) dX12_becomes_150 ?_
            refine ms_may (j := wh) (x := x) hm14 dX12_becomes_151 (by omega) (fun h15 hm15 => ?_)
            refine a_iloadn_3 (pc := 152) dX12_becomes_152 ?_
            exact a_iret (pc := 153) dX12_becomes_153 rfl (zf hz) (k2 hne (by omega) A W J (fun j hj => hA j (by omega)) (fun j hj => hW j (by omega)) (fun j hj => hJ j (by omega)) _ hm15)
          · refine a_aloadn_0 (pc := 33) dX12_becomes_33 ?_
            refine mg_13 hm1 rfl dX12_becomes_34 ?_
            refine a_iload_4 (pc := 37) dX12_becomes_37 ?_
            refine a_iconst (pc := 39) (v := nI 1) dX12_becomes_39 (by decide) ?_
            refine n_isub dX12_becomes_40 (by omega) ?_
            refine a_aloadn_0 (pc := 41) dX12_becomes_41 ?_
            refine mg_13 hm1 rfl dX12_becomes_42 ?_
            refine a_iload_4 (pc := 45) dX12_becomes_45 ?_
            refine ml_changeAt (x := gChangeAt b i) hm1 dX12_becomes_47 (by omega) (hAo i (Nat.le_refl i)) ?_
            refine ms_changeAt (j := (i - 1)) (x := gChangeAt b i) hm1 dX12_becomes_48 (by omega) (fun h9 hm9 => ?_)
            refine a_aloadn_0 (pc := 49) dX12_becomes_49 ?_
            refine mg_16 hm9 rfl dX12_becomes_50 ?_
            refine a_iload_4 (pc := 53) dX12_becomes_53 ?_
            refine a_iconst (pc := 55) (v := nI 1) dX12_becomes_55 (by decide) ?_
            refine n_isub dX12_becomes_56 (by omega) ?_
            refine a_aloadn_0 (pc := 57) dX12_becomes_57 ?_
            refine mg_16 hm9 rfl dX12_becomes_58 ?_
            refine a_iload_4 (pc := 61) dX12_becomes_61 ?_
            refine ml_changeWas (x := gChangeWas b i) hm9 dX12_becomes_63 (by omega) (hWo i (Nat.le_refl i)) ?_
            refine ms_changeWas (j := (i - 1)) (x := gChangeWas b i) hm9 dX12_becomes_64 (by omega) (fun h10 hm10 => ?_)
            refine a_aloadn_0 (pc := 65) dX12_becomes_65 ?_
            refine mg_19 hm10 rfl dX12_becomes_66 ?_
            refine a_iload_4 (pc := 69) dX12_becomes_69 ?_
            refine a_iconst (pc := 71) (v := nI 1) dX12_becomes_71 (by decide) ?_
            refine n_isub dX12_becomes_72 (by omega) ?_
            refine a_aloadn_0 (pc := 73) dX12_becomes_73 ?_
            refine mg_19 hm10 rfl dX12_becomes_74 ?_
            refine a_iload_4 (pc := 77) dX12_becomes_77 ?_
            refine ml_changeIs (x := gChangeIs b i) hm10 dX12_becomes_79 (by omega) (hJo i (Nat.le_refl i)) ?_
            refine ms_changeIs (j := (i - 1)) (x := gChangeIs b i) hm10 dX12_becomes_80 (by omega) (fun h11 hm11 => ?_)
            refine a_iinc_4 (pc := 81) (v := nI (i + 1)) dX12_becomes_81 (nI_add _ _) (by decide) (by first | rfl | trivial) ?_
            refine a_goto (pc := 84) (tgt := 26) dX12_becomes_84 (by decide) ?_
            exact ih (i + 1) _ _ _ _ (by omega) (by omega) (fun j hj => by unfold va_up; split; (· rename_i e; rw [e, show i - 1 + 1 = i by omega]); (· exact hA j (by omega))) (fun j hj => by unfold va_up; split; (· rename_i e; rw [e, show i - 1 + 1 = i by omega]); (· exact hW j (by omega))) (fun j hj => by unfold va_up; split; (· rename_i e; rw [e, show i - 1 + 1 = i by omega]); (· exact hJ j (by omega))) (fun j hj => (up_ne (by omega)).trans (hAo j (by omega))) (fun j hj => (up_ne (by omega)).trans (hWo j (by omega))) (fun j hj => (up_ne (by omega)).trans (hJo j (by omega))) hm11
      exact lp 40 1 _ (gChangeAt b) (gChangeWas b) (gChangeIs b) (by omega) (by omega) (fun j hj => absurd hj (by omega)) (fun j hj => absurd hj (by omega)) (fun j hj => absurd hj (by omega)) (fun _ _ => rfl) (fun _ _ => rfl) (fun _ _ => rfl) hm
  · refine a_iloadn_3 (pc := 12) dX12_becomes_12 ?_
    exact a_iret (pc := 13) dX12_becomes_13 rfl (zf hz) (k0 c_9)
set_option maxRecDepth 100000 in
set_option maxHeartbeats 4000000 in
theorem m_led {G : Cx} {d : Nat} {h h0 : List va_E} {b : MB} {p : MP} {t : MT} {o : MO} {Q : Option Value → List va_E → Prop} (hd : 2 ≤ d) (hz : gz G = false) (hm : MS G h0 h (b, p, t, o)) {w : Int32} (k : ∀ y, y = (if inR 0 (nI 4) w = true then nI (gLedNow b (iN w)) else -1) → Q (some (.int y)) h) : AM G yX12_led cX12_led 2 (some .int) d 0 0 [.ref (gB G + 80), .int (w)] h Q := by
  obtain ⟨d, rfl, he⟩ := dpos hd
  refine AM.of [some (.ref (gB G + 80)), some (.int (w))] pnX12 (Nat.le_of_ble_eq_true rfl) (by simp [lsub, lvI, Value.category]) ?_
  refine a_iloadn_1 (pc := 0) dX12_led_0 ?_
  refine a_i2l (pc := 1) dX12_led_1 ?_
  refine a_lconst (pc := 2) (v := 0) dX12_led_2 (by decide) ?_
  refine a_ldc2 (pc := 3) dX12_led_3 w_1152 ?_
  refine cs_X12_96 (pc := 6) rfl dX12_led_6 (Nat.le_of_ble_eq_true rfl) ?_
  refine m_within (by omega) hz ?_
  refine a_topi (bI (inR 0 (nI 4) w)) (congrArg bI (inL_R 0 4 (by decide) (by decide) w)) ?_
  refine b_if_eq (pc := 9) (tgt := 21) dX12_led_9 (by decide) (fun c_9 => ?_) (fun c_9 => ?_)
  · refine a_iconst (pc := 21) (v := (-1)) dX12_led_21 (by decide) ?_
    exact a_iret (pc := 22) dX12_led_22 rfl (zf hz) (k _ (by simp [c_9]))
  · obtain ⟨n_w, h_w, rfl⟩ := inR_of (by decide) c_9
    have i_w : iN (nI n_w) = n_w := iN_nI (by omega)
    refine a_aloadn_0 (pc := 12) dX12_led_12 ?_
    refine mg_56 hm rfl dX12_led_13 ?_
    refine a_iloadn_1 (pc := 16) dX12_led_16 ?_
    refine ml_ledNow (x := gLedNow b n_w) hm dX12_led_17 (by omega) rfl ?_
    refine a_goto (pc := 18) (tgt := 22) dX12_led_18 (by decide) ?_
    exact a_iret (pc := 22) dX12_led_22 rfl (zf hz) (k _ (by simp [c_9, i_w]))
set_option maxRecDepth 100000 in
set_option maxHeartbeats 4000000 in
theorem m_least {G : Cx} {d : Nat} {h : List va_E} {Q : Option Value → List va_E → Prop} {x z : Nat} (hd : 1 ≤ d) (hz : gz G = false) (hx : x < 2147483648) (hz2 : z < 2147483648) (k : Q (some (.int (nI (min x z)))) h) : AM G yX12_least cX12_least 2 (some .int) d 0 0 [.int (nI x), .int (nI z)] h Q := by
  obtain ⟨d, rfl, he⟩ := dpos hd
  refine AM.of [some (.int (nI (x))), some (.int (nI (z)))] pnX12 (Nat.le_of_ble_eq_true rfl) (by simp [lsub, lvI, Value.category]) ?_
  refine a_iloadn_0 (pc := 0) dX12_least_0 ?_
  refine a_iloadn_1 (pc := 1) dX12_least_1 ?_
  refine n_icmp_ge (tgt := 9) dX12_least_2 (by decide) (by omega) (by omega) (fun c_2 => ?_) (fun c_2 => ?_)
  · refine a_iloadn_1 (pc := 9) dX12_least_9 ?_
    exact a_iret (pc := 10) dX12_least_10 rfl (zf hz) (by rw [show min x z = z by omega] at k; exact k)
  · refine a_iloadn_0 (pc := 5) dX12_least_5 ?_
    refine a_goto (pc := 6) (tgt := 10) dX12_least_6 (by decide) ?_
    exact a_iret (pc := 10) dX12_least_10 rfl (zf hz) (by rw [show min x z = x by omega] at k; exact k)
set_option maxRecDepth 100000 in
set_option maxHeartbeats 4000000 in
theorem m_blow {G : Cx} {d : Nat} {h h0 : List va_E} {b : MB} {p : MP} {t : MT} {o : MO} {Q : Option Value → List va_E → Prop} (hd : 3 ≤ d) (hz : gz G = false) (hm : MS G h0 h (b, p, t, o)) {v : Cv} (hb : BV (b, p, t, o) v) (okv : okC v) {r : Int32} (k0 : inR 0 (nI 35) r = false → Q (some (.int (-1))) h) (k1 : ∀ n, n < 36 → r = nI n → ∀ h1, MS G h0 h1 (uMay b (va_up (gMay b) n 0), p, t, o) → Q (some (.int (nI (cW v n)))) h1) : AM G yX12_blow cX12_blow 3 (some .int) d 0 0 [.ref (gB G + 80), .int (r)] h Q := by
  obtain ⟨d, rfl, he⟩ := dpos hd
  refine AM.of [some (.ref (gB G + 80)), some (.int (r)), none] pnX12 (Nat.le_of_ble_eq_true rfl) (by simp [lsub, lvI, Value.category]) ?_
  refine a_iloadn_1 (pc := 0) dX12_blow_0 ?_
  refine a_i2l (pc := 1) dX12_blow_1 ?_
  refine cs_X12_106 (pc := 2) rfl dX12_blow_2 (Nat.le_of_ble_eq_true rfl) ?_
  refine m_isRoom (by omega) hz ?_
  refine a_topi (bI (inR 0 (nI 35) r)) (congrArg bI (inL_R 0 35 (by decide) (by decide) r)) ?_
  refine b_if_ne (pc := 5) (tgt := 10) dX12_blow_5 (by decide) (fun c_5 => ?_) (fun c_5 => ?_)
  · obtain ⟨n_r, h_r, rfl⟩ := inR_of (by decide) c_5
    have i_r : iN (nI n_r) = n_r := iN_nI (by omega)
    refine a_aloadn_0 (pc := 10) dX12_blow_10 ?_
    refine mg_9 hm rfl dX12_blow_11 ?_
    refine a_iloadn_1 (pc := 14) dX12_blow_14 ?_
    refine ml_may (x := cW v n_r) hm dX12_blow_15 (by omega) (hb.1 n_r (by omega)).1 ?_
    refine a_istoren_2 (pc := 16) dX12_blow_16 (by decide) (by first | rfl | trivial) ?_
    refine a_aloadn_0 (pc := 17) dX12_blow_17 ?_
    refine mg_9 hm rfl dX12_blow_18 ?_
    refine a_iloadn_1 (pc := 21) dX12_blow_21 ?_
    refine a_iconst (pc := 22) (v := nI 0) dX12_blow_22 (by decide) ?_
    refine ms_may (j := n_r) (x := 0) hm dX12_blow_23 (by omega) (fun h1 hm1 => ?_)
    refine a_iloadn_2 (pc := 24) dX12_blow_24 ?_
    exact a_iret (pc := 25) dX12_blow_25 rfl (zf hz) (k1 n_r (by omega) rfl _ hm1)
  · refine a_iconst (pc := 8) (v := (-1)) dX12_blow_8 (by decide) ?_
    exact a_iret (pc := 9) dX12_blow_9 rfl (zf hz) (k0 c_5)
set_option maxRecDepth 100000 in
set_option maxHeartbeats 4000000 in
theorem m_song {G : Cx} {d : Nat} {h h0 : List va_E} {b : MB} {p : MP} {t : MT} {o : MO} {Q : Option Value → List va_E → Prop} (hd : 3 ≤ d) (hz : gz G = false) (hm : MS G h0 h (b, p, t, o)) {v : Cv} (hb : BV (b, p, t, o) v) (okv : okC v) {r : Int32} (k0 : inR 0 (nI 35) r = false → Q (some (.int (-1))) h) (k2 : ∀ n, n < 36 → r = nI n → cK v n = false → Q (some (.int (-5))) h) (k1 : ∀ n, n < 36 → r = nI n → cK v n = true → ∀ h1, MS G h0 h1 (uLedNow (uMay b (va_up (va_up (gMay b) (108 + n) 0) n 0)) (va_up (gLedNow b) 2 (gLedNow b 2 + 1)), p, t, o) → Q (some (.int (nI 1))) h1) : AM G yX12_song cX12_song 2 (some .int) d 0 0 [.ref (gB G + 80), .int (r)] h Q := by
  obtain ⟨d, rfl, he⟩ := dpos hd
  refine AM.of [some (.ref (gB G + 80)), some (.int (r))] pnX12 (Nat.le_of_ble_eq_true rfl) (by simp [lsub, lvI, Value.category]) ?_
  refine a_iloadn_1 (pc := 0) dX12_song_0 ?_
  refine a_i2l (pc := 1) dX12_song_1 ?_
  refine cs_X12_106 (pc := 2) rfl dX12_song_2 (Nat.le_of_ble_eq_true rfl) ?_
  refine m_isRoom (by omega) hz ?_
  refine a_topi (bI (inR 0 (nI 35) r)) (congrArg bI (inL_R 0 35 (by decide) (by decide) r)) ?_
  refine b_if_ne (pc := 5) (tgt := 10) dX12_song_5 (by decide) (fun c_5 => ?_) (fun c_5 => ?_)
  · obtain ⟨n_r, h_r, rfl⟩ := inR_of (by decide) c_5
    have i_r : iN (nI n_r) = n_r := iN_nI (by omega)
    refine a_aloadn_0 (pc := 10) dX12_song_10 ?_
    refine mg_9 hm rfl dX12_song_11 ?_
    refine a_bipush (pc := 14) (v := nI 108) dX12_song_14 (by decide) ?_
    refine a_iloadn_1 (pc := 16) dX12_song_16 ?_
    refine n_iadd dX12_song_17 ?_
    refine ml_may (x := (cK v n_r).toNat) hm dX12_song_18 (by omega) (hb.1 n_r (by omega)).2.1 ?_
    refine a_topi (bI (cK v n_r)) (bI_nI _).symm ?_
    refine b_if_ne (pc := 19) (tgt := 25) dX12_song_19 (by decide) (fun c_19 => ?_) (fun c_19 => ?_)
    · refine a_aloadn_0 (pc := 25) dX12_song_25 ?_
      refine mg_9 hm rfl dX12_song_26 ?_
      refine a_bipush (pc := 29) (v := nI 108) dX12_song_29 (by decide) ?_
      refine a_iloadn_1 (pc := 31) dX12_song_31 ?_
      refine n_iadd dX12_song_32 ?_
      refine a_iconst (pc := 33) (v := nI 0) dX12_song_33 (by decide) ?_
      refine ms_may (j := (108 + n_r)) (x := 0) hm dX12_song_34 (by omega) (fun h1 hm1 => ?_)
      refine a_aloadn_0 (pc := 35) dX12_song_35 ?_
      refine mg_9 hm1 rfl dX12_song_36 ?_
      refine a_iloadn_1 (pc := 39) dX12_song_39 ?_
      refine a_iconst (pc := 40) (v := nI 0) dX12_song_40 (by decide) ?_
      refine ms_may (j := n_r) (x := 0) hm1 dX12_song_41 (by omega) (fun h2 hm2 => ?_)
      refine a_aloadn_0 (pc := 42) dX12_song_42 ?_
      refine mg_56 hm2 rfl dX12_song_43 ?_
      refine a_iconst (pc := 46) (v := nI 2) dX12_song_46 (by decide) ?_
      refine a_dup2 (pc := 47) dX12_song_47 rfl rfl ?_
      refine ml_ledNow (x := gLedNow b 2) hm2 dX12_song_48 (by decide) rfl ?_
      refine a_iconst (pc := 49) (v := nI 1) dX12_song_49 (by decide) ?_
      refine n_iadd dX12_song_50 ?_
      refine ms_ledNow (j := 2) (x := gLedNow b 2 + 1) hm2 dX12_song_51 (by decide) (fun h3 hm3 => ?_)
      refine a_iconst (pc := 52) (v := nI 1) dX12_song_52 (by decide) ?_
      exact a_iret (pc := 53) dX12_song_53 rfl (zf hz) (k1 n_r (by omega) rfl c_19 _ hm3)
    · refine a_bipush (pc := 22) (v := (-5)) dX12_song_22 (by decide) ?_
      exact a_iret (pc := 24) dX12_song_24 rfl (zf hz) (k2 n_r (by omega) rfl c_19)
  · refine a_iconst (pc := 8) (v := (-1)) dX12_song_8 (by decide) ?_
    exact a_iret (pc := 9) dX12_song_9 rfl (zf hz) (k0 c_5)
set_option maxRecDepth 100000 in
set_option maxHeartbeats 4000000 in
theorem m_stub {G : Cx} {d : Nat} {h h0 : List va_E} {b : MB} {p : MP} {t : MT} {o : MO} {Q : Option Value → List va_E → Prop} (hd : 3 ≤ d) (hz : gz G = false) (hm : MS G h0 h (b, p, t, o)) {v : Cv} (hb : BV (b, p, t, o) v) (okv : okC v) {r w : Int32} (k0 : (inR 0 (nI 35) r && inR (nI 1) (nI 99) w) = false → Q (some (.int (-1))) h) (k2 : ∀ n m, n < 36 → r = nI n → w = nI m → 1 ≤ m → m ≤ 99 → cK v n = true → Q (some (.int (-5))) h) (k1 : ∀ n m, n < 36 → r = nI n → w = nI m → 1 ≤ m → m ≤ 99 → cK v n = false → ∀ h1, MS G h0 h1 (uLedNow (uMay b (va_up (gMay b) n (min 99 (cW v n + m)))) (va_up (gLedNow b) 4 (gLedNow b 4 + 1)), p, t, o) → Q (some (.int (nI (min 99 (cW v n + m))))) h1) : AM G yX12_stub cX12_stub 3 (some .int) d 0 0 [.ref (gB G + 80), .int (r), .int (w)] h Q := by
  obtain ⟨d, rfl, he⟩ := dpos hd
  refine AM.of [some (.ref (gB G + 80)), some (.int (r)), some (.int (w))] pnX12 (Nat.le_of_ble_eq_true rfl) (by simp [lsub, lvI, Value.category]) ?_
  refine a_iloadn_1 (pc := 0) dX12_stub_0 ?_
  refine a_i2l (pc := 1) dX12_stub_1 ?_
  refine cs_X12_106 (pc := 2) rfl dX12_stub_2 (Nat.le_of_ble_eq_true rfl) ?_
  refine m_isRoom (by omega) hz ?_
  refine a_topi (bI (inR 0 (nI 35) r)) (congrArg bI (inL_R 0 35 (by decide) (by decide) r)) ?_
  refine b_if_eq (pc := 5) (tgt := 20) dX12_stub_5 (by decide) (fun c_5 => ?_) (fun c_5 => ?_)
  · refine a_iconst (pc := 20) (v := (-1)) dX12_stub_20 (by decide) ?_
    exact a_iret (pc := 21) dX12_stub_21 rfl (zf hz) (k0 (by simp [c_5]))
  · obtain ⟨n_r, h_r, rfl⟩ := inR_of (by decide) c_5
    have i_r : iN (nI n_r) = n_r := iN_nI (by omega)
    refine a_iloadn_2 (pc := 8) dX12_stub_8 ?_
    refine a_i2l (pc := 9) dX12_stub_9 ?_
    refine a_lconst (pc := 10) (v := 1) dX12_stub_10 (by decide) ?_
    refine a_ldc2 (pc := 11) dX12_stub_11 w_1142 ?_
    refine cs_X12_96 (pc := 14) rfl dX12_stub_14 (Nat.le_of_ble_eq_true rfl) ?_
    refine m_within (by omega) hz ?_
    refine a_topi (bI (inR (nI 1) (nI 99) w)) (congrArg bI (inL_R 1 99 (by decide) (by decide) w)) ?_
    refine b_if_ne (pc := 17) (tgt := 22) dX12_stub_17 (by decide) (fun c_17 => ?_) (fun c_17 => ?_)
    · obtain ⟨n_w, h0_w, h_w, rfl⟩ := inR_1 (by decide) (by decide) c_17
      have i_w : iN (nI n_w) = n_w := iN_nI (by omega)
      refine a_aloadn_0 (pc := 22) dX12_stub_22 ?_
      refine mg_9 hm rfl dX12_stub_23 ?_
      refine a_bipush (pc := 26) (v := nI 108) dX12_stub_26 (by decide) ?_
      refine a_iloadn_1 (pc := 28) dX12_stub_28 ?_
      refine n_iadd dX12_stub_29 ?_
      refine ml_may (x := (cK v n_r).toNat) hm dX12_stub_30 (by omega) (hb.1 n_r (by omega)).2.1 ?_
      refine a_topi (bI (cK v n_r)) (bI_nI _).symm ?_
      refine a_iconst (pc := 31) (v := nI 1) dX12_stub_31 (by decide) ?_
      refine b1_icmp_ne (tgt := 38) dX12_stub_32 (by decide) (fun c_32 => ?_) (fun c_32 => ?_)
      · have w9 := okv.1 n_r
        refine a_aloadn_0 (pc := 38) dX12_stub_38 ?_
        refine mg_9 hm rfl dX12_stub_39 ?_
        refine a_iloadn_1 (pc := 42) dX12_stub_42 ?_
        refine a_bipush (pc := 43) (v := nI 99) dX12_stub_43 (by decide) ?_
        refine a_aloadn_0 (pc := 45) dX12_stub_45 ?_
        refine mg_9 hm rfl dX12_stub_46 ?_
        refine a_iloadn_1 (pc := 49) dX12_stub_49 ?_
        refine ml_may (x := cW v n_r) hm dX12_stub_50 (by omega) (hb.1 n_r (by omega)).1 ?_
        refine a_iloadn_2 (pc := 51) dX12_stub_51 ?_
        refine n_iadd dX12_stub_52 ?_
        refine cs_X12_257 (pc := 53) rfl dX12_stub_53 (Nat.le_of_ble_eq_true rfl) ?_
        refine m_least (by omega) hz (by omega) (by omega) ?_
        refine ms_may (j := n_r) (x := min 99 (cW v n_r + n_w)) hm dX12_stub_56 (by omega) (fun h1 hm1 => ?_)
        refine a_aloadn_0 (pc := 57) dX12_stub_57 ?_
        refine mg_56 hm1 rfl dX12_stub_58 ?_
        refine a_iconst (pc := 61) (v := nI 4) dX12_stub_61 (by decide) ?_
        refine a_dup2 (pc := 62) dX12_stub_62 rfl rfl ?_
        refine ml_ledNow (x := gLedNow b 4) hm1 dX12_stub_63 (by decide) rfl ?_
        refine a_iconst (pc := 64) (v := nI 1) dX12_stub_64 (by decide) ?_
        refine n_iadd dX12_stub_65 ?_
        refine ms_ledNow (j := 4) (x := gLedNow b 4 + 1) hm1 dX12_stub_66 (by decide) (fun h2 hm2 => ?_)
        refine a_aloadn_0 (pc := 67) dX12_stub_67 ?_
        refine mg_9 hm2 rfl dX12_stub_68 ?_
        refine a_iloadn_1 (pc := 71) dX12_stub_71 ?_
        refine ml_may (x := min 99 (cW v n_r + n_w)) hm2 dX12_stub_72 (by omega) up_eq ?_
        exact a_iret (pc := 73) dX12_stub_73 rfl (zf hz) (k1 n_r n_w (by omega) rfl rfl (by omega) (by omega) c_32 _ hm2)
      · refine a_bipush (pc := 35) (v := (-5)) dX12_stub_35 (by decide) ?_
        exact a_iret (pc := 37) dX12_stub_37 rfl (zf hz) (k2 n_r n_w (by omega) rfl rfl (by omega) (by omega) c_32)
    · refine a_iconst (pc := 20) (v := (-1)) dX12_stub_20 (by decide) ?_
      exact a_iret (pc := 21) dX12_stub_21 rfl (zf hz) (k0 (by simp [c_5, i_r, c_17]))
