/-! THE REFERENCE: hour, counts, taken -/
abbrev ledH (b : MB) (F : Lf) (v : Cv) : Nat → Nat := va_up (va_up (va_up (va_up (gLedNow b) 0 (gLedNow b 0 + 1)) 1 (gLedNow b 1 + ctn (hfell F v) 36)) 2 (gLedNow b 2 + ctn (hgot v) 36)) 3 (gLedNow b 3 + bsum v (clit v) 36)
set_option maxRecDepth 100000 in
set_option maxHeartbeats 4000000 in
theorem m_hour {G : Cx} {d : Nat} {h h0 : List va_E} {b : MB} {p : MP} {t : MT} {o : MO} {Q : Option Value → List va_E → Prop} (hd : 70 ≤ d) (hz : gz G = false) (hm : MS G h0 h (b, p, t, o)) {v : Cv} {F : Lf} (hb : BV (b, p, t, o) v) (okv : okC v) (hL : LM b F) (k : ∀ f, (∀ j, j < 36 → f j = hW v j) → (∀ j, j < 36 → f (108 + j) = (hK F v j).toNat) → f 146 = cT (chour F v) → (∀ j, 36 ≤ j → ¬ (108 ≤ j ∧ j < 144) → j ≠ 146 → f j = gMay b j) → ∀ h1 p1 t1, MS G h0 h1 (uLedNow (uMay b f) (ledH b F v), p1, t1, o) → Q (some (.int (nI (ctn (hK F v) 36)))) h1) : AM G yX12_hour cX12_hour 2 (some .int) d 0 0 [.ref (gB G + 80)] h Q := by
  obtain ⟨d, rfl, he⟩ := dpos hd
  refine AM.of [some (.ref (gB G + 80)), none] pnX12 (Nat.le_of_ble_eq_true rfl) (by simp [lsub, lvI, Value.category]) ?_
  refine a_aloadn_0 (pc := 0) dX12_hour_0 ?_
  refine cv_X12_220 (pc := 1) rfl dX12_hour_1 hm.2.2.1 (Nat.le_of_ble_eq_true rfl) ?_
  refine m_begins (by omega) hz hm hb (fun h1 t1 hm1 hv1 => ?_)
  refine a_aloadn_0 (pc := 4) dX12_hour_4 ?_
  refine cv_X12_217 (pc := 5) rfl dX12_hour_5 hm1.2.2.1 (Nat.le_of_ble_eq_true rfl) ?_
  refine m_goesHour (by omega) hz hm1 hv1 okv hL (fun h2 p2 t2 hm2 hv2 hl2 => ?_)
  refine a_iconst (pc := 8) (v := nI 0) dX12_hour_8 (by decide) ?_
  refine a_istoren_1 (pc := 9) dX12_hour_9 (by decide) (by first | rfl | trivial) ?_
  have lp : ∀ (n : Nat) (i : Nat) (h1 : List va_E) (f : Nat → Nat), 36 - i < n → (i ≤ 36) → (∀ j, j < i → f j = hW v j) → (∀ j, j < i → f (108 + j) = (hK F v j).toNat) → (∀ j, (i ≤ j ∧ ¬ (108 ≤ j ∧ j < 108 + i)) → f j = gMay b j) → (MS G h0 h1 (uMay b f, p2, t2, o)) → AW G yX12_hour cX12_hour 2 (some .int) (rmx (d + 1) 0 0) (ZQ G 0 0 (h.length + 0) Q) 0 0 10 [some (.ref (gB G + 80)), some (.int (nI (i)))] [] h1 := by
    intro n
    induction n with
    | zero => intro i h1 f hn; exact absurd hn (Nat.not_lt_zero _)
    | succ n ih =>
      intro i h1 f hn hi hf hf1 hf2 hm1
      refine a_iloadn_1 (pc := 10) dX12_hour_10 ?_
      refine a_bipush (pc := 11) (v := nI 36) dX12_hour_11 (by decide) ?_
      refine n_icmp_ge (tgt := 49) dX12_hour_13 (by decide) (by omega) (by decide) (fun c_13 => ?_) (fun c_13 => ?_)
      · refine a_aloadn_0 (pc := 49) dX12_hour_49 ?_
        refine mg_9 hm1 rfl dX12_hour_50 ?_
        refine a_sipush (pc := 53) (v := nI 146) dX12_hour_53 (by decide) ?_
        refine a_aloadn_0 (pc := 56) dX12_hour_56 ?_
        refine mg_188 (x := cT (chour F v)) hm1 rfl dX12_hour_57 hv2.2.2.2 ?_
        refine ms_may (j := 146) (x := cT (chour F v)) hm1 dX12_hour_60 (by decide) (fun h6 hm6 => ?_)
        refine a_aloadn_0 (pc := 61) dX12_hour_61 ?_
        refine mg_56 hm6 rfl dX12_hour_62 ?_
        refine a_iconst (pc := 65) (v := nI 0) dX12_hour_65 (by decide) ?_
        refine a_dup2 (pc := 66) dX12_hour_66 rfl rfl ?_
        refine ml_ledNow (x := gLedNow b 0) hm6 dX12_hour_67 (by decide) rfl ?_
        refine a_iconst (pc := 68) (v := nI 1) dX12_hour_68 (by decide) ?_
        refine n_iadd dX12_hour_69 ?_
        refine ms_ledNow (j := 0) (x := gLedNow b 0 + 1) hm6 dX12_hour_70 (by decide) (fun h7 hm7 => ?_)
        refine a_aloadn_0 (pc := 71) dX12_hour_71 ?_
        refine mg_56 hm7 rfl dX12_hour_72 ?_
        refine a_iconst (pc := 75) (v := nI 1) dX12_hour_75 (by decide) ?_
        refine a_dup2 (pc := 76) dX12_hour_76 rfl rfl ?_
        refine ml_ledNow (x := gLedNow b 1) hm7 dX12_hour_77 (by decide) rfl ?_
        refine a_aloadn_0 (pc := 78) dX12_hour_78 ?_
        refine mg_205 (x := ctn (hfell F v) 36) hm7 rfl dX12_hour_79 hl2.1 ?_
        refine n_iadd dX12_hour_82 ?_
        refine ms_ledNow (j := 1) (x := gLedNow b 1 + (ctn (hfell F v) 36)) hm7 dX12_hour_83 (by decide) (fun h8 hm8 => ?_)
        refine a_aloadn_0 (pc := 84) dX12_hour_84 ?_
        refine mg_56 hm8 rfl dX12_hour_85 ?_
        refine a_iconst (pc := 88) (v := nI 2) dX12_hour_88 (by decide) ?_
        refine a_dup2 (pc := 89) dX12_hour_89 rfl rfl ?_
        refine ml_ledNow (x := gLedNow b 2) hm8 dX12_hour_90 (by decide) rfl ?_
        refine a_aloadn_0 (pc := 91) dX12_hour_91 ?_
        refine mg_208 (x := ctn (hgot v) 36) hm8 rfl dX12_hour_92 hl2.2.1 ?_
        refine n_iadd dX12_hour_95 ?_
        refine ms_ledNow (j := 2) (x := gLedNow b 2 + (ctn (hgot v) 36)) hm8 dX12_hour_96 (by decide) (fun h9 hm9 => ?_)
        refine a_aloadn_0 (pc := 97) dX12_hour_97 ?_
        refine mg_56 hm9 rfl dX12_hour_98 ?_
        refine a_iconst (pc := 101) (v := nI 3) dX12_hour_101 (by decide) ?_
        refine a_dup2 (pc := 102) dX12_hour_102 rfl rfl ?_
        refine ml_ledNow (x := gLedNow b 3) hm9 dX12_hour_103 (by decide) rfl ?_
        refine a_aloadn_0 (pc := 104) dX12_hour_104 ?_
        refine mg_211 (x := bsum v (clit v) 36) hm9 rfl dX12_hour_105 hl2.2.2 ?_
        refine n_iadd dX12_hour_108 ?_
        refine ms_ledNow (j := 3) (x := gLedNow b 3 + (bsum v (clit v) 36)) hm9 dX12_hour_109 (by decide) (fun h10 hm10 => ?_)
        refine a_aloadn_0 (pc := 110) dX12_hour_110 ?_
        refine cv_X12_232 (pc := 111) rfl dX12_hour_111 hm10.2.2.1 (Nat.le_of_ble_eq_true rfl) ?_
        have hv9 : HV (uMay b (va_up f 146 (cT (chour F v))), p2, t2, o) (chour F v) := ⟨fun j hj => ⟨(hv2.1 j hj).1, (hv2.1 j hj).2.1, ((up_ne (by omega)).trans (hf2 (36 + j) (by omega))).trans (hv2.1 j hj).2.2.1, ((up_ne (by omega)).trans (hf2 (72 + j) (by omega))).trans (hv2.1 j hj).2.2.2⟩, ((up_ne (f := f) (v := cT (chour F v)) (show 144 ≠ 146 by decide)).trans (hf2 144 (by omega))).trans hv2.2.1, ((up_ne (f := f) (v := cT (chour F v)) (show 145 ≠ 146 by decide)).trans (hf2 145 (by omega))).trans hv2.2.2.1, hv2.2.2.2⟩
        refine m_darkMany (by omega) hz hm10 hv9 ?_
        exact a_iret (pc := 114) dX12_hour_114 rfl (zf hz) (k _ (fun j hj => (up_ne (by omega)).trans (hf j (by omega))) (fun j hj => (up_ne (by omega)).trans (hf1 j (by omega))) up_eq (fun j a1 a2 a3 => (up_ne a3).trans (hf2 j (by omega))) _ _ _ hm10)
      · refine a_aloadn_0 (pc := 16) dX12_hour_16 ?_
        refine mg_9 hm1 rfl dX12_hour_17 ?_
        refine a_iloadn_1 (pc := 20) dX12_hour_20 ?_
        refine a_aloadn_0 (pc := 21) dX12_hour_21 ?_
        refine mg_31 hm1 rfl dX12_hour_22 ?_
        refine a_iloadn_1 (pc := 25) dX12_hour_25 ?_
        refine ml_wax (x := hW v i) hm1 dX12_hour_26 (by omega) (hv2.1 i (by omega)).1 ?_
        refine ms_may (j := i) (x := hW v i) hm1 dX12_hour_27 (by omega) (fun h6 hm6 => ?_)
        refine a_aloadn_0 (pc := 28) dX12_hour_28 ?_
        refine mg_9 hm6 rfl dX12_hour_29 ?_
        refine a_bipush (pc := 32) (v := nI 108) dX12_hour_32 (by decide) ?_
        refine a_iloadn_1 (pc := 34) dX12_hour_34 ?_
        refine n_iadd dX12_hour_35 ?_
        refine a_aloadn_0 (pc := 36) dX12_hour_36 ?_
        refine mg_34 hm6 rfl dX12_hour_37 ?_
        refine a_iloadn_1 (pc := 40) dX12_hour_40 ?_
        refine ml_isDark (x := (hK F v i).toNat) hm6 dX12_hour_41 (by omega) (hv2.1 i (by omega)).2.1 ?_
        refine ms_may (j := (108 + i)) (x := (hK F v i).toNat) hm6 dX12_hour_42 (by omega) (fun h7 hm7 => ?_)
        refine a_iinc_1 (pc := 43) (v := nI (i + 1)) dX12_hour_43 (nI_add _ _) (by decide) (by first | rfl | trivial) ?_
        refine a_goto (pc := 46) (tgt := 10) dX12_hour_46 (by decide) ?_
        exact ih (i + 1) _ _ (by omega) (by omega) (fun j hj => by by_cases e : j = i; (· subst e; exact (up_ne (by omega)).trans up_eq); (· exact (up_ne (by omega)).trans ((up_ne (by omega)).trans (hf j (by omega))))) (fun j hj => by by_cases e : j = i; (· subst e; exact up_eq); (· exact (up_ne (by omega)).trans ((up_ne (by omega)).trans (hf1 j (by omega))))) (fun j hj => (up_ne (by omega)).trans ((up_ne (by omega)).trans (hf2 j (by omega)))) hm7
  exact lp 37 0 _ (gMay b) (by omega) (by omega) (fun j hj => absurd hj (Nat.not_lt_zero _)) (fun j hj => absurd hj (Nat.not_lt_zero _)) (fun j _ => rfl) hm2
set_option maxRecDepth 100000 in
set_option maxHeartbeats 4000000 in
theorem m_manyL {G : Cx} {d : Nat} {h h0 : List va_E} {b : MB} {p : MP} {t : MT} {o : MO} {Q : Option Value → List va_E → Prop} (hd : 6 ≤ d) (hz : gz G = false) (hm : MS G h0 h (b, p, t, o)) {v : Cv} (hb : BV (b, p, t, o) v) (okv : okC v) (k : ∀ h1 t1, MS G h0 h1 (b, p, t1, o) → Q (some (.int (nI (ctn (clit v) 36)))) h1) : AM G yX12_manyOf cX12_manyOf 4 (some .int) d 0 0 [.ref (gB G + 80), .int (bI (true))] h Q := by
  obtain ⟨d, rfl, he⟩ := dpos hd
  refine AM.of [some (.ref (gB G + 80)), some (.int (bI (true))), none, none] pnX12 (Nat.le_of_ble_eq_true rfl) (by simp [lsub, lvI, Value.category]) ?_
  refine a_aloadn_0 (pc := 0) dX12_manyOf_0 ?_
  refine cv_X12_220 (pc := 1) rfl dX12_manyOf_1 hm.2.2.1 (Nat.le_of_ble_eq_true rfl) ?_
  refine m_begins (by omega) hz hm hb (fun h1 t1 hm1 hv1 => ?_)
  refine a_iconst (pc := 4) (v := nI 0) dX12_manyOf_4 (by decide) ?_
  refine a_istoren_2 (pc := 5) dX12_manyOf_5 (by decide) (by first | rfl | trivial) ?_
  refine a_iconst (pc := 6) (v := nI 0) dX12_manyOf_6 (by decide) ?_
  refine a_istoren_3 (pc := 7) dX12_manyOf_7 (by decide) (by first | rfl | trivial) ?_
  have lp : ∀ (n : Nat) (i : Nat), 36 - i < n → (i ≤ 36) → AW G yX12_manyOf cX12_manyOf 4 (some .int) (rmx (d + 1) 0 0) (ZQ G 0 0 (h.length + 0) Q) 0 0 8 [some (.ref (gB G + 80)), some (.int (bI (true))), some (.int (nI (ctn (clit v) i))), some (.int (nI (i)))] [] h1 := by
    intro n
    induction n with
    | zero => intro i hn; exact absurd hn (Nat.not_lt_zero _)
    | succ n ih =>
      intro i hn hi
      refine a_iloadn_3 (pc := 8) dX12_manyOf_8 ?_
      refine a_bipush (pc := 9) (v := nI 36) dX12_manyOf_9 (by decide) ?_
      refine n_icmp_ge (tgt := 49) dX12_manyOf_11 (by decide) (by omega) (by decide) (fun c_11 => ?_) (fun c_11 => ?_)
      · obtain rfl : i = 36 := by omega
        refine a_iloadn_2 (pc := 49) dX12_manyOf_49 ?_
        exact a_iret (pc := 50) dX12_manyOf_50 rfl (zf hz) (k _ _ hm1)
      · refine a_iloadn_2 (pc := 14) dX12_manyOf_14 ?_
        refine a_iloadn_1 (pc := 15) dX12_manyOf_15 ?_
        refine b_if_eq (pc := 16) (tgt := 35) dX12_manyOf_16 (by decide) (fun c_16 => by cases c_16) (fun c_16 => ?_)
        refine a_aloadn_0 (pc := 19) dX12_manyOf_19 ?_
        refine a_iloadn_3 (pc := 20) dX12_manyOf_20 ?_
        refine cv_X12_196 (pc := 21) rfl dX12_manyOf_21 hm1.2.2.1 (Nat.le_of_ble_eq_true rfl) ?_
        refine m_isLit (by omega) hz hm1 hv1 okv (by omega) ?_
        refine b_if_eq (pc := 24) (tgt := 31) dX12_manyOf_24 (by decide) (fun c_24 => ?_) (fun c_24 => ?_)
        · refine a_iconst (pc := 31) (v := nI 0) dX12_manyOf_31 (by decide) ?_
          refine a_goto (pc := 32) (tgt := 41) dX12_manyOf_32 (by decide) ?_
          have cb := ctn_le (clit v) i
          refine n_iadd dX12_manyOf_41 ?_
          refine a_topi (nI (ctn (clit v) (i + 1))) (by rw [ctn]; first | (rw [c_24]; rfl) | rfl) ?_
          refine a_istoren_2 (pc := 42) dX12_manyOf_42 (by decide) (by first | rfl | trivial) ?_
          refine a_iinc_3 (pc := 43) (v := nI (i + 1)) dX12_manyOf_43 (nI_add _ _) (by decide) (by first | rfl | trivial) ?_
          refine a_goto (pc := 46) (tgt := 8) dX12_manyOf_46 (by decide) ?_
          exact ih (i + 1) (by omega) (by omega)
        · refine a_iconst (pc := 27) (v := nI 1) dX12_manyOf_27 (by decide) ?_
          refine a_goto (pc := 28) (tgt := 41) dX12_manyOf_28 (by decide) ?_
          have cb := ctn_le (clit v) i
          refine n_iadd dX12_manyOf_41 ?_
          refine a_topi (nI (ctn (clit v) (i + 1))) (by rw [ctn]; first | (rw [c_24]; rfl) | rfl) ?_
          refine a_istoren_2 (pc := 42) dX12_manyOf_42 (by decide) (by first | rfl | trivial) ?_
          refine a_iinc_3 (pc := 43) (v := nI (i + 1)) dX12_manyOf_43 (nI_add _ _) (by decide) (by first | rfl | trivial) ?_
          refine a_goto (pc := 46) (tgt := 8) dX12_manyOf_46 (by decide) ?_
          exact ih (i + 1) (by omega) (by omega)
  exact lp 37 0 (by omega) (by omega)
set_option maxRecDepth 100000 in
set_option maxHeartbeats 4000000 in
theorem m_manyD {G : Cx} {d : Nat} {h h0 : List va_E} {b : MB} {p : MP} {t : MT} {o : MO} {Q : Option Value → List va_E → Prop} (hd : 6 ≤ d) (hz : gz G = false) (hm : MS G h0 h (b, p, t, o)) {v : Cv} (hb : BV (b, p, t, o) v) (okv : okC v) (k : ∀ h1 t1, MS G h0 h1 (b, p, t1, o) → Q (some (.int (nI (ctn (cK v) 36)))) h1) : AM G yX12_manyOf cX12_manyOf 4 (some .int) d 0 0 [.ref (gB G + 80), .int (bI (false))] h Q := by
  obtain ⟨d, rfl, he⟩ := dpos hd
  refine AM.of [some (.ref (gB G + 80)), some (.int (bI (false))), none, none] pnX12 (Nat.le_of_ble_eq_true rfl) (by simp [lsub, lvI, Value.category]) ?_
  refine a_aloadn_0 (pc := 0) dX12_manyOf_0 ?_
  refine cv_X12_220 (pc := 1) rfl dX12_manyOf_1 hm.2.2.1 (Nat.le_of_ble_eq_true rfl) ?_
  refine m_begins (by omega) hz hm hb (fun h1 t1 hm1 hv1 => ?_)
  refine a_iconst (pc := 4) (v := nI 0) dX12_manyOf_4 (by decide) ?_
  refine a_istoren_2 (pc := 5) dX12_manyOf_5 (by decide) (by first | rfl | trivial) ?_
  refine a_iconst (pc := 6) (v := nI 0) dX12_manyOf_6 (by decide) ?_
  refine a_istoren_3 (pc := 7) dX12_manyOf_7 (by decide) (by first | rfl | trivial) ?_
  have lp : ∀ (n : Nat) (i : Nat), 36 - i < n → (i ≤ 36) → AW G yX12_manyOf cX12_manyOf 4 (some .int) (rmx (d + 1) 0 0) (ZQ G 0 0 (h.length + 0) Q) 0 0 8 [some (.ref (gB G + 80)), some (.int (bI (false))), some (.int (nI (ctn (cK v) i))), some (.int (nI (i)))] [] h1 := by
    intro n
    induction n with
    | zero => intro i hn; exact absurd hn (Nat.not_lt_zero _)
    | succ n ih =>
      intro i hn hi
      refine a_iloadn_3 (pc := 8) dX12_manyOf_8 ?_
      refine a_bipush (pc := 9) (v := nI 36) dX12_manyOf_9 (by decide) ?_
      refine n_icmp_ge (tgt := 49) dX12_manyOf_11 (by decide) (by omega) (by decide) (fun c_11 => ?_) (fun c_11 => ?_)
      · obtain rfl : i = 36 := by omega
        refine a_iloadn_2 (pc := 49) dX12_manyOf_49 ?_
        exact a_iret (pc := 50) dX12_manyOf_50 rfl (zf hz) (k _ _ hm1)
      · refine a_iloadn_2 (pc := 14) dX12_manyOf_14 ?_
        refine a_iloadn_1 (pc := 15) dX12_manyOf_15 ?_
        refine b_if_eq (pc := 16) (tgt := 35) dX12_manyOf_16 (by decide) (fun c_16 => ?_) (fun c_16 => by cases c_16)
        refine a_aloadn_0 (pc := 35) dX12_manyOf_35 ?_
        refine mg_34 hm1 rfl dX12_manyOf_36 ?_
        refine a_iloadn_3 (pc := 39) dX12_manyOf_39 ?_
        refine ml_isDark (x := (cK v i).toNat) hm1 dX12_manyOf_40 (by omega) (hv1.1 i (by omega)).2.1 ?_
        have cb := ctn_le (cK v) i
        refine n_iadd dX12_manyOf_41 ?_
        refine a_topi (nI (ctn (cK v) (i + 1))) (by rw [ctn]) ?_
        refine a_istoren_2 (pc := 42) dX12_manyOf_42 (by decide) (by first | rfl | trivial) ?_
        refine a_iinc_3 (pc := 43) (v := nI (i + 1)) dX12_manyOf_43 (nI_add _ _) (by decide) (by first | rfl | trivial) ?_
        refine a_goto (pc := 46) (tgt := 8) dX12_manyOf_46 (by decide) ?_
        exact ih (i + 1) (by omega) (by omega)
  exact lp 37 0 (by omega) (by omega)
theorem inR_out5 {x : Int32} (h : inR 0 (nI 5) x = false) : x.toInt < 0 ∨ 5 < x.toInt := inR_out (hi := 5) (by decide) h
def spCount (b : MB) (v : Cv) (x : Int32) : Int32 := if inR 0 (nI 5) x = true then (match iN x with
  | 0 => nI (ctn (clit v) 36)
  | 1 => nI (ctn (cK v) 36)
  | 2 => nI (gTapeMany b)
  | 3 => nI (gDone b)
  | 4 => nI (gBodies b)
  | _ => nI (gRan b)) else -1
set_option maxRecDepth 100000 in
set_option maxHeartbeats 4000000 in
theorem m_count {G : Cx} {d : Nat} {h h0 : List va_E} {b : MB} {p : MP} {t : MT} {o : MO} {Q : Option Value → List va_E → Prop} (hd : 7 ≤ d) (hz : gz G = false) (hm : MS G h0 h (b, p, t, o)) {v : Cv} (hb : BV (b, p, t, o) v) (okv : okC v) {x : Int32} (k : ∀ y h1 t1, y = spCount b v x → MS G h0 h1 (b, p, t1, o) → Q (some (.int y)) h1) : AM G yX12_count cX12_count 2 (some .int) d 0 0 [.ref (gB G + 80), .int x] h Q := by
  obtain ⟨d, rfl, he⟩ := dpos hd
  cases hx : inR 0 (nI 5) x with
  | false =>
    refine AM.of [some (.ref (gB G + 80)), some (.int x)] pnX12 (Nat.le_of_ble_eq_true rfl) (by simp [lsub, lvI, Value.category]) ?_
    refine a_iloadn_1 (pc := 0) dX12_count_0 ?_
    refine a_tableOut (pc := 1) (tgt := 72) dX12_count_1 (inR_out5 hx) (by decide) ?_
    refine a_iconst (pc := 72) (v := (-1)) dX12_count_72 (by decide) ?_
    exact a_iret (pc := 73) dX12_count_73 rfl (zf hz) (k _ _ _ (by unfold spCount; rw [hx]; rfl) hm)
  | true =>
    obtain ⟨m, hm5, rfl⟩ := inR_of (by decide) hx
    have im : iN (nI m) = m := iN_nI (by omega)
    rcases (show m = 0 ∨ m = 1 ∨ m = 2 ∨ m = 3 ∨ m = 4 ∨ m = 5 by omega) with rfl | rfl | rfl | rfl | rfl | rfl
    · refine AM.of [some (.ref (gB G + 80)), some (.int (nI 0))] pnX12 (Nat.le_of_ble_eq_true rfl) (by simp [lsub, lvI, Value.category]) ?_
      refine a_iloadn_1 (pc := 0) dX12_count_0 ?_
      refine a_tableIn (pc := 1) (off := 39) (tgt := 40) dX12_count_1 (by decide) (by decide) (by decide) (by decide) ?_
      refine a_aloadn_0 (pc := 40) dX12_count_40 ?_
      refine a_iconst (pc := 41) (v := nI 1) dX12_count_41 (by decide) ?_
      refine a_topi (bI true) (by decide) ?_
      refine cv_X12_346 (pc := 42) rfl dX12_count_42 hm.2.2.1 (Nat.le_of_ble_eq_true rfl) ?_
      refine m_manyL (by omega) hz hm hb okv (fun h1 t1 hm1 => ?_)
      exact a_iret (pc := 45) dX12_count_45 rfl (zf hz) (k _ _ _ (by unfold spCount; rw [hx, im]; rfl) hm1)
    · refine AM.of [some (.ref (gB G + 80)), some (.int (nI 1))] pnX12 (Nat.le_of_ble_eq_true rfl) (by simp [lsub, lvI, Value.category]) ?_
      refine a_iloadn_1 (pc := 0) dX12_count_0 ?_
      refine a_tableIn (pc := 1) (off := 45) (tgt := 46) dX12_count_1 (by decide) (by decide) (by decide) (by decide) ?_
      refine a_aloadn_0 (pc := 46) dX12_count_46 ?_
      refine a_iconst (pc := 47) (v := nI 0) dX12_count_47 (by decide) ?_
      refine a_topi (bI false) (by decide) ?_
      refine cv_X12_346 (pc := 48) rfl dX12_count_48 hm.2.2.1 (Nat.le_of_ble_eq_true rfl) ?_
      refine m_manyD (by omega) hz hm hb okv (fun h1 t1 hm1 => ?_)
      exact a_iret (pc := 51) dX12_count_51 rfl (zf hz) (k _ _ _ (by unfold spCount; rw [hx, im]; rfl) hm1)
    · refine AM.of [some (.ref (gB G + 80)), some (.int (nI 2))] pnX12 (Nat.le_of_ble_eq_true rfl) (by simp [lsub, lvI, Value.category]) ?_
      refine a_iloadn_1 (pc := 0) dX12_count_0 ?_
      refine a_tableIn (pc := 1) (off := 51) (tgt := 52) dX12_count_1 (by decide) (by decide) (by decide) (by decide) ?_
      refine a_aloadn_0 (pc := 52) dX12_count_52 ?_
      refine mg_135 (x := gTapeMany b) hm rfl dX12_count_53 rfl ?_
      exact a_iret (pc := 56) dX12_count_56 rfl (zf hz) (k _ _ _ (by unfold spCount; rw [hx, im]; rfl) hm)
    · refine AM.of [some (.ref (gB G + 80)), some (.int (nI 3))] pnX12 (Nat.le_of_ble_eq_true rfl) (by simp [lsub, lvI, Value.category]) ?_
      refine a_iloadn_1 (pc := 0) dX12_count_0 ?_
      refine a_tableIn (pc := 1) (off := 56) (tgt := 57) dX12_count_1 (by decide) (by decide) (by decide) (by decide) ?_
      refine a_aloadn_0 (pc := 57) dX12_count_57 ?_
      refine mg_88 (x := gDone b) hm rfl dX12_count_58 rfl ?_
      exact a_iret (pc := 61) dX12_count_61 rfl (zf hz) (k _ _ _ (by unfold spCount; rw [hx, im]; rfl) hm)
    · refine AM.of [some (.ref (gB G + 80)), some (.int (nI 4))] pnX12 (Nat.le_of_ble_eq_true rfl) (by simp [lsub, lvI, Value.category]) ?_
      refine a_iloadn_1 (pc := 0) dX12_count_0 ?_
      refine a_tableIn (pc := 1) (off := 61) (tgt := 62) dX12_count_1 (by decide) (by decide) (by decide) (by decide) ?_
      refine a_aloadn_0 (pc := 62) dX12_count_62 ?_
      refine mg_301 (x := gBodies b) hm rfl dX12_count_63 rfl ?_
      exact a_iret (pc := 66) dX12_count_66 rfl (zf hz) (k _ _ _ (by unfold spCount; rw [hx, im]; rfl) hm)
    · refine AM.of [some (.ref (gB G + 80)), some (.int (nI 5))] pnX12 (Nat.le_of_ble_eq_true rfl) (by simp [lsub, lvI, Value.category]) ?_
      refine a_iloadn_1 (pc := 0) dX12_count_0 ?_
      refine a_tableIn (pc := 1) (off := 66) (tgt := 67) dX12_count_1 (by decide) (by decide) (by decide) (by decide) ?_
      refine a_aloadn_0 (pc := 67) dX12_count_67 ?_
      refine mg_306 (x := gRan b) hm rfl dX12_count_68 rfl ?_
      exact a_iret (pc := 71) dX12_count_71 rfl (zf hz) (k _ _ _ (by unfold spCount; rw [hx, im]; rfl) hm)

set_option maxRecDepth 100000 in
set_option maxHeartbeats 4000000 in
theorem m_above_1 {G : Cx} {d : Nat} {h : List va_E} {Q : Option Value → List va_E → Prop} (hd : 1 ≤ d) (hz : gz G = false) (k : Q (some (.int (nI 0))) h) : AM G yX12_above cX12_above 1 (some .int) d 0 0 [.int (nI 1)] h Q := by
  obtain ⟨d, rfl, he⟩ := dpos hd
  refine AM.of [some (.int (nI 1))] pnX12 (Nat.le_of_ble_eq_true rfl) (by simp [lsub, lvI, Value.category]) ?_
  refine a_iloadn_0 (pc := 0) dX12_above_0 ?_
  refine a_iconst (pc := 1) (v := nI 3) dX12_above_1 (by decide) ?_
  refine n_icmp_ne (tgt := 9) dX12_above_2 (by decide) (by decide) (by decide) (fun c_2 => ?_) (fun c_2 => by omega)
  refine a_iloadn_0 (pc := 9) dX12_above_9 ?_
  refine a_iconst (pc := 10) (v := nI 4) dX12_above_10 (by decide) ?_
  refine n_icmp_ne (tgt := 18) dX12_above_11 (by decide) (by decide) (by decide) (fun c_11 => ?_) (fun c_11 => by omega)
  refine a_iloadn_0 (pc := 18) dX12_above_18 ?_
  refine a_iconst (pc := 19) (v := nI 5) dX12_above_19 (by decide) ?_
  refine n_icmp_ne (tgt := 27) dX12_above_20 (by decide) (by decide) (by decide) (fun c_20 => ?_) (fun c_20 => by omega)
  refine a_iloadn_0 (pc := 27) dX12_above_27 ?_
  refine a_bipush (pc := 28) (v := nI 7) dX12_above_28 (by decide) ?_
  refine n_icmp_ne (tgt := 37) dX12_above_30 (by decide) (by decide) (by decide) (fun c_30 => ?_) (fun c_30 => by omega)
  refine a_iconst (pc := 37) (v := nI 0) dX12_above_37 (by decide) ?_
  exact a_iret (pc := 38) dX12_above_38 rfl (zf hz) k
set_option maxRecDepth 100000 in
set_option maxHeartbeats 4000000 in
theorem m_above_2 {G : Cx} {d : Nat} {h : List va_E} {Q : Option Value → List va_E → Prop} (hd : 1 ≤ d) (hz : gz G = false) (k : Q (some (.int (nI 0))) h) : AM G yX12_above cX12_above 1 (some .int) d 0 0 [.int (nI 2)] h Q := by
  obtain ⟨d, rfl, he⟩ := dpos hd
  refine AM.of [some (.int (nI 2))] pnX12 (Nat.le_of_ble_eq_true rfl) (by simp [lsub, lvI, Value.category]) ?_
  refine a_iloadn_0 (pc := 0) dX12_above_0 ?_
  refine a_iconst (pc := 1) (v := nI 3) dX12_above_1 (by decide) ?_
  refine n_icmp_ne (tgt := 9) dX12_above_2 (by decide) (by decide) (by decide) (fun c_2 => ?_) (fun c_2 => by omega)
  refine a_iloadn_0 (pc := 9) dX12_above_9 ?_
  refine a_iconst (pc := 10) (v := nI 4) dX12_above_10 (by decide) ?_
  refine n_icmp_ne (tgt := 18) dX12_above_11 (by decide) (by decide) (by decide) (fun c_11 => ?_) (fun c_11 => by omega)
  refine a_iloadn_0 (pc := 18) dX12_above_18 ?_
  refine a_iconst (pc := 19) (v := nI 5) dX12_above_19 (by decide) ?_
  refine n_icmp_ne (tgt := 27) dX12_above_20 (by decide) (by decide) (by decide) (fun c_20 => ?_) (fun c_20 => by omega)
  refine a_iloadn_0 (pc := 27) dX12_above_27 ?_
  refine a_bipush (pc := 28) (v := nI 7) dX12_above_28 (by decide) ?_
  refine n_icmp_ne (tgt := 37) dX12_above_30 (by decide) (by decide) (by decide) (fun c_30 => ?_) (fun c_30 => by omega)
  refine a_iconst (pc := 37) (v := nI 0) dX12_above_37 (by decide) ?_
  exact a_iret (pc := 38) dX12_above_38 rfl (zf hz) k
set_option maxRecDepth 100000 in
set_option maxHeartbeats 4000000 in
theorem m_above_3 {G : Cx} {d : Nat} {h : List va_E} {Q : Option Value → List va_E → Prop} (hd : 1 ≤ d) (hz : gz G = false) (k : Q (some (.int (nI 2))) h) : AM G yX12_above cX12_above 1 (some .int) d 0 0 [.int (nI 3)] h Q := by
  obtain ⟨d, rfl, he⟩ := dpos hd
  refine AM.of [some (.int (nI 3))] pnX12 (Nat.le_of_ble_eq_true rfl) (by simp [lsub, lvI, Value.category]) ?_
  refine a_iloadn_0 (pc := 0) dX12_above_0 ?_
  refine a_iconst (pc := 1) (v := nI 3) dX12_above_1 (by decide) ?_
  refine n_icmp_ne (tgt := 9) dX12_above_2 (by decide) (by decide) (by decide) (fun c_2 => by omega) (fun c_2 => ?_)
  refine a_iconst (pc := 5) (v := nI 2) dX12_above_5 (by decide) ?_
  refine a_goto (pc := 6) (tgt := 38) dX12_above_6 (by decide) ?_
  exact a_iret (pc := 38) dX12_above_38 rfl (zf hz) k
set_option maxRecDepth 100000 in
set_option maxHeartbeats 4000000 in
theorem m_above_4 {G : Cx} {d : Nat} {h : List va_E} {Q : Option Value → List va_E → Prop} (hd : 1 ≤ d) (hz : gz G = false) (k : Q (some (.int (nI 1))) h) : AM G yX12_above cX12_above 1 (some .int) d 0 0 [.int (nI 4)] h Q := by
  obtain ⟨d, rfl, he⟩ := dpos hd
  refine AM.of [some (.int (nI 4))] pnX12 (Nat.le_of_ble_eq_true rfl) (by simp [lsub, lvI, Value.category]) ?_
  refine a_iloadn_0 (pc := 0) dX12_above_0 ?_
  refine a_iconst (pc := 1) (v := nI 3) dX12_above_1 (by decide) ?_
  refine n_icmp_ne (tgt := 9) dX12_above_2 (by decide) (by decide) (by decide) (fun c_2 => ?_) (fun c_2 => by omega)
  refine a_iloadn_0 (pc := 9) dX12_above_9 ?_
  refine a_iconst (pc := 10) (v := nI 4) dX12_above_10 (by decide) ?_
  refine n_icmp_ne (tgt := 18) dX12_above_11 (by decide) (by decide) (by decide) (fun c_11 => by omega) (fun c_11 => ?_)
  refine a_iconst (pc := 14) (v := nI 1) dX12_above_14 (by decide) ?_
  refine a_goto (pc := 15) (tgt := 38) dX12_above_15 (by decide) ?_
  exact a_iret (pc := 38) dX12_above_38 rfl (zf hz) k
set_option maxRecDepth 100000 in
set_option maxHeartbeats 4000000 in
theorem m_above_5 {G : Cx} {d : Nat} {h : List va_E} {Q : Option Value → List va_E → Prop} (hd : 1 ≤ d) (hz : gz G = false) (k : Q (some (.int (nI 3))) h) : AM G yX12_above cX12_above 1 (some .int) d 0 0 [.int (nI 5)] h Q := by
  obtain ⟨d, rfl, he⟩ := dpos hd
  refine AM.of [some (.int (nI 5))] pnX12 (Nat.le_of_ble_eq_true rfl) (by simp [lsub, lvI, Value.category]) ?_
  refine a_iloadn_0 (pc := 0) dX12_above_0 ?_
  refine a_iconst (pc := 1) (v := nI 3) dX12_above_1 (by decide) ?_
  refine n_icmp_ne (tgt := 9) dX12_above_2 (by decide) (by decide) (by decide) (fun c_2 => ?_) (fun c_2 => by omega)
  refine a_iloadn_0 (pc := 9) dX12_above_9 ?_
  refine a_iconst (pc := 10) (v := nI 4) dX12_above_10 (by decide) ?_
  refine n_icmp_ne (tgt := 18) dX12_above_11 (by decide) (by decide) (by decide) (fun c_11 => ?_) (fun c_11 => by omega)
  refine a_iloadn_0 (pc := 18) dX12_above_18 ?_
  refine a_iconst (pc := 19) (v := nI 5) dX12_above_19 (by decide) ?_
  refine n_icmp_ne (tgt := 27) dX12_above_20 (by decide) (by decide) (by decide) (fun c_20 => by omega) (fun c_20 => ?_)
  refine a_iconst (pc := 23) (v := nI 3) dX12_above_23 (by decide) ?_
  refine a_goto (pc := 24) (tgt := 38) dX12_above_24 (by decide) ?_
  exact a_iret (pc := 38) dX12_above_38 rfl (zf hz) k
set_option maxRecDepth 100000 in
set_option maxHeartbeats 4000000 in
theorem m_above_6 {G : Cx} {d : Nat} {h : List va_E} {Q : Option Value → List va_E → Prop} (hd : 1 ≤ d) (hz : gz G = false) (k : Q (some (.int (nI 0))) h) : AM G yX12_above cX12_above 1 (some .int) d 0 0 [.int (nI 6)] h Q := by
  obtain ⟨d, rfl, he⟩ := dpos hd
  refine AM.of [some (.int (nI 6))] pnX12 (Nat.le_of_ble_eq_true rfl) (by simp [lsub, lvI, Value.category]) ?_
  refine a_iloadn_0 (pc := 0) dX12_above_0 ?_
  refine a_iconst (pc := 1) (v := nI 3) dX12_above_1 (by decide) ?_
  refine n_icmp_ne (tgt := 9) dX12_above_2 (by decide) (by decide) (by decide) (fun c_2 => ?_) (fun c_2 => by omega)
  refine a_iloadn_0 (pc := 9) dX12_above_9 ?_
  refine a_iconst (pc := 10) (v := nI 4) dX12_above_10 (by decide) ?_
  refine n_icmp_ne (tgt := 18) dX12_above_11 (by decide) (by decide) (by decide) (fun c_11 => ?_) (fun c_11 => by omega)
  refine a_iloadn_0 (pc := 18) dX12_above_18 ?_
  refine a_iconst (pc := 19) (v := nI 5) dX12_above_19 (by decide) ?_
  refine n_icmp_ne (tgt := 27) dX12_above_20 (by decide) (by decide) (by decide) (fun c_20 => ?_) (fun c_20 => by omega)
  refine a_iloadn_0 (pc := 27) dX12_above_27 ?_
  refine a_bipush (pc := 28) (v := nI 7) dX12_above_28 (by decide) ?_
  refine n_icmp_ne (tgt := 37) dX12_above_30 (by decide) (by decide) (by decide) (fun c_30 => ?_) (fun c_30 => by omega)
  refine a_iconst (pc := 37) (v := nI 0) dX12_above_37 (by decide) ?_
  exact a_iret (pc := 38) dX12_above_38 rfl (zf hz) k
set_option maxRecDepth 100000 in
set_option maxHeartbeats 4000000 in
theorem m_above_7 {G : Cx} {d : Nat} {h : List va_E} {Q : Option Value → List va_E → Prop} (hd : 1 ≤ d) (hz : gz G = false) (k : Q (some (.int (nI 4))) h) : AM G yX12_above cX12_above 1 (some .int) d 0 0 [.int (nI 7)] h Q := by
  obtain ⟨d, rfl, he⟩ := dpos hd
  refine AM.of [some (.int (nI 7))] pnX12 (Nat.le_of_ble_eq_true rfl) (by simp [lsub, lvI, Value.category]) ?_
  refine a_iloadn_0 (pc := 0) dX12_above_0 ?_
  refine a_iconst (pc := 1) (v := nI 3) dX12_above_1 (by decide) ?_
  refine n_icmp_ne (tgt := 9) dX12_above_2 (by decide) (by decide) (by decide) (fun c_2 => ?_) (fun c_2 => by omega)
  refine a_iloadn_0 (pc := 9) dX12_above_9 ?_
  refine a_iconst (pc := 10) (v := nI 4) dX12_above_10 (by decide) ?_
  refine n_icmp_ne (tgt := 18) dX12_above_11 (by decide) (by decide) (by decide) (fun c_11 => ?_) (fun c_11 => by omega)
  refine a_iloadn_0 (pc := 18) dX12_above_18 ?_
  refine a_iconst (pc := 19) (v := nI 5) dX12_above_19 (by decide) ?_
  refine n_icmp_ne (tgt := 27) dX12_above_20 (by decide) (by decide) (by decide) (fun c_20 => ?_) (fun c_20 => by omega)
  refine a_iloadn_0 (pc := 27) dX12_above_27 ?_
  refine a_bipush (pc := 28) (v := nI 7) dX12_above_28 (by decide) ?_
  refine n_icmp_ne (tgt := 37) dX12_above_30 (by decide) (by decide) (by decide) (fun c_30 => by omega) (fun c_30 => ?_)
  refine a_iconst (pc := 33) (v := nI 4) dX12_above_33 (by decide) ?_
  refine a_goto (pc := 34) (tgt := 38) dX12_above_34 (by decide) ?_
  exact a_iret (pc := 38) dX12_above_38 rfl (zf hz) k
set_option maxRecDepth 100000 in
set_option maxHeartbeats 4000000 in
theorem m_kindOf {G : Cx} {d : Nat} {h h0 : List va_E} {b : MB} {p : MP} {t : MT} {o : MO} {Q : Option Value → List va_E → Prop} (hd : 1 ≤ d) (hz : gz G = false) (hm : MS G h0 h (b, p, t, o)) {n : Nat} (hn : n < 50) (k : Q (some (.int (nI (gBodyKind b n)))) h) : AM G yX12_kindOf cX12_kindOf 2 (some .int) d 0 0 [.ref (gB G + 80), .int (nI (n))] h Q := by
  obtain ⟨d, rfl, he⟩ := dpos hd
  refine AM.of [some (.ref (gB G + 80)), some (.int (nI (n)))] pnX12 (Nat.le_of_ble_eq_true rfl) (by simp [lsub, lvI, Value.category]) ?_
  refine a_aloadn_0 (pc := 0) dX12_kindOf_0 ?_
  refine mg_65 hm rfl dX12_kindOf_1 ?_
  refine a_iloadn_1 (pc := 4) dX12_kindOf_4 ?_
  refine ml_bodyKind (x := gBodyKind b n) hm dX12_kindOf_5 (by omega) rfl ?_
  exact a_iret (pc := 6) dX12_kindOf_6 rfl (zf hz) k
theorem tk_body {b : MB} {q : Nat} (hS : ShI b) (hq : q < 6) (h1 : 0 ≤ gShelf b q) (h2 : gShelf b q < nI 50) : ∃ m, m < gBodies b ∧ gShelf b q = nI m := by
  rcases (hS.2 q hq).1 with ⟨g, -⟩ | ⟨m, hm, g, -⟩ | ⟨s, hs, g⟩
  · rw [g] at h1; exact absurd h1 (by decide)
  · exact ⟨m, hm, g⟩
  · rw [g, nI_ltI (by omega) (by decide)] at h2; omega
set_option maxRecDepth 100000 in
set_option maxHeartbeats 4000000 in
theorem m_taken {G : Cx} {d : Nat} {h h0 : List va_E} {b : MB} {p : MP} {t : MT} {o : MO} {Q : Option Value → List va_E → Prop} (hd : 4 ≤ d) (hz : gz G = false) (hm : MS G h0 h (b, p, t, o)) {dd k : Int32} (hS : ShI b) (hK : ∀ i, i < gBodies b → gBodyKind b i < 8) (kB : (inR 0 (nI 5) dd && inR 0 (nI 7) k) = false → Q (some (.int (-1))) h) (k11 : ∀ q n, q < 6 → dd = nI q → k = nI n → n < 8 → gShelf b q < 0 → Q (some (.int (-11))) h) (k12 : ∀ q n, q < 6 → dd = nI q → k = nI n → n < 8 → nI 50 ≤ gShelf b q → Q (some (.int (-12))) h) (k1 : ∀ q m n, q < 6 → dd = nI q → k = nI n → n < 8 → m < gBodies b → gShelf b q = nI m → ∀ y, y = (if n ∈ chn (gBodyKind b m) then nI (gBodyKind b m) else -12) → Q (some (.int y)) h) : AM G yX12_taken cX12_taken 4 (some .int) d 0 0 [.ref (gB G + 80), .int dd, .int k] h Q := by
  obtain ⟨d, rfl, he⟩ := dpos hd
  refine AM.of [some (.ref (gB G + 80)), some (.int (dd)), some (.int (k)), none] pnX12 (Nat.le_of_ble_eq_true rfl) (by simp [lsub, lvI, Value.category]) ?_
  refine a_iloadn_1 (pc := 0) dX12_taken_0 ?_
  refine cs_X12_100 (pc := 1) rfl dX12_taken_1 (Nat.le_of_ble_eq_true rfl) ?_
  refine m_isShelf (by omega) hz ?_
  refine b_if_eq (pc := 4) (tgt := 19) dX12_taken_4 (by decide) (fun c_4 => ?_) (fun c_4 => ?_)
  · refine a_iconst (pc := 19) (v := (-1)) dX12_taken_19 (by decide) ?_
    exact a_iret (pc := 20) dX12_taken_20 rfl (zf hz) (kB (by simp [c_4]))
  · obtain ⟨n_dd, h_dd, rfl⟩ := inR_of (by decide) c_4
    have i_dd : iN (nI n_dd) = n_dd := iN_nI (by omega)
    refine a_iloadn_2 (pc := 7) dX12_taken_7 ?_
    refine a_i2l (pc := 8) dX12_taken_8 ?_
    refine a_lconst (pc := 9) (v := 0) dX12_taken_9 (by decide) ?_
    refine a_ldc2 (pc := 10) dX12_taken_10 w_1408 ?_
    refine cs_X12_96 (pc := 13) rfl dX12_taken_13 (Nat.le_of_ble_eq_true rfl) ?_
    refine m_within (by omega) hz ?_
    refine a_topi (bI (inR 0 (nI 7) k)) (congrArg bI (inL_R 0 7 (by decide) (by decide) k)) ?_
    refine b_if_ne (pc := 16) (tgt := 21) dX12_taken_16 (by decide) (fun c_16 => ?_) (fun c_16 => ?_)
    · obtain ⟨n_k, h_k, rfl⟩ := inR_of (by decide) c_16
      have i_k : iN (nI n_k) = n_k := iN_nI (by omega)
      refine a_aloadn_0 (pc := 21) dX12_taken_21 ?_
      refine mg_71 hm rfl dX12_taken_22 ?_
      refine a_iloadn_1 (pc := 25) dX12_taken_25 ?_
      refine ml_shelf (x := gShelf b n_dd) hm dX12_taken_26 (by omega) rfl ?_
      refine a_if_ge (pc := 27) (tgt := 33) dX12_taken_27 (by decide) (fun c_27 => ?_) (fun c_27 => ?_)
      · refine a_aloadn_0 (pc := 33) dX12_taken_33 ?_
        refine mg_71 hm rfl dX12_taken_34 ?_
        refine a_iloadn_1 (pc := 37) dX12_taken_37 ?_
        refine ml_shelf (x := gShelf b n_dd) hm dX12_taken_38 (by omega) rfl ?_
        refine a_bipush (pc := 39) (v := nI 50) dX12_taken_39 (by decide) ?_
        refine a_icmp_lt (pc := 41) (tgt := 47) dX12_taken_41 (by decide) (fun c_41 => ?_) (fun c_41 => ?_)
        · obtain ⟨m, hmb, hsm⟩ := tk_body hS (q := n_dd) (by omega) c_27 c_41
          have hb5 := hS.1
          refine a_aloadn_0 (pc := 47) dX12_taken_47 ?_
          refine a_aloadn_0 (pc := 48) dX12_taken_48 ?_
          refine mg_71 hm rfl dX12_taken_49 ?_
          refine a_iloadn_1 (pc := 52) dX12_taken_52 ?_
          refine ml_shelf (x := nI (m)) hm dX12_taken_53 (by omega) hsm ?_
          refine cv_X12_340 (pc := 54) rfl dX12_taken_54 hm.2.2.1 (Nat.le_of_ble_eq_true rfl) ?_
          refine m_kindOf (by omega) hz hm (by omega) ?_
          obtain ⟨kd, hkd⟩ : ∃ kd, gBodyKind b m = kd := ⟨_, rfl⟩
          have hk8 : kd < 8 := by rw [← hkd]; exact hK m hmb
          rw [hkd]
          refine a_istoren_3 (pc := 57) dX12_taken_57 (by decide) (by first | rfl | trivial) ?_
          rcases k8 hk8 with rfl | rfl | rfl | rfl | rfl | rfl | rfl | rfl <;> rcases k8 (show n_k < 8 by omega) with rfl | rfl | rfl | rfl | rfl | rfl | rfl | rfl
          · refine a_ls (ls' := [some _, some _, some _, some _]) ⟨rfl, rfl, rfl, rfl, trivial⟩ ?_
            refine a_iloadn_3 (pc := 58) dX12_taken_58 ?_
            refine a_iloadn_2 (pc := 59) dX12_taken_59 ?_
            refine n_icmp_eq (tgt := 75) dX12_taken_60 (by decide) (by decide) (by decide) (fun c_60 => ?_) (fun c_60 => by omega)
            refine a_iloadn_3 (pc := 75) dX12_taken_75 ?_
            refine a_iloadn_2 (pc := 76) dX12_taken_76 ?_
            refine n_icmp_ne (tgt := 93) dX12_taken_77 (by decide) (by decide) (by decide) (fun c_77 => by omega) (fun c_77 => ?_)
            refine a_aloadn_0 (pc := 80) dX12_taken_80 ?_
            refine a_aloadn_0 (pc := 81) dX12_taken_81 ?_
            refine mg_71 hm rfl dX12_taken_82 ?_
            refine a_iloadn_1 (pc := 85) dX12_taken_85 ?_
            refine ml_shelf (x := nI (m)) hm dX12_taken_86 (by omega) hsm ?_
            refine cv_X12_340 (pc := 87) rfl dX12_taken_87 hm.2.2.1 (Nat.le_of_ble_eq_true rfl) ?_
            refine m_kindOf (by omega) hz hm (by omega) ?_
            rw [hkd]
            refine a_goto (pc := 90) (tgt := 95) dX12_taken_90 (by decide) ?_
            exact a_iret (pc := 95) dX12_taken_95 rfl (zf hz) (k1 n_dd m 0 (by omega) rfl rfl (by decide) hmb hsm _ (by rw [hkd]; rfl))
          · refine a_ls (ls' := [some _, some _, some _, some _]) ⟨rfl, rfl, rfl, rfl, trivial⟩ ?_
            refine a_iloadn_3 (pc := 58) dX12_taken_58 ?_
            refine a_iloadn_2 (pc := 59) dX12_taken_59 ?_
            refine n_icmp_eq (tgt := 75) dX12_taken_60 (by decide) (by decide) (by decide) (fun c_60 => by omega) (fun c_60 => ?_)
            refine a_iloadn_3 (pc := 63) dX12_taken_63 ?_
            refine n_if_le (tgt := 75) dX12_taken_64 (by decide) (by decide) (fun c_64 => ?_) (fun c_64 => by omega)
            refine a_iloadn_3 (pc := 75) dX12_taken_75 ?_
            refine a_iloadn_2 (pc := 76) dX12_taken_76 ?_
            refine n_icmp_ne (tgt := 93) dX12_taken_77 (by decide) (by decide) (by decide) (fun c_77 => ?_) (fun c_77 => by omega)
            refine a_bipush (pc := 93) (v := (-12)) dX12_taken_93 (by decide) ?_
            exact a_iret (pc := 95) dX12_taken_95 rfl (zf hz) (k1 n_dd m 1 (by omega) rfl rfl (by decide) hmb hsm _ (by rw [hkd]; rfl))
          · refine a_ls (ls' := [some _, some _, some _, some _]) ⟨rfl, rfl, rfl, rfl, trivial⟩ ?_
            refine a_iloadn_3 (pc := 58) dX12_taken_58 ?_
            refine a_iloadn_2 (pc := 59) dX12_taken_59 ?_
            refine n_icmp_eq (tgt := 75) dX12_taken_60 (by decide) (by decide) (by decide) (fun c_60 => by omega) (fun c_60 => ?_)
            refine a_iloadn_3 (pc := 63) dX12_taken_63 ?_
            refine n_if_le (tgt := 75) dX12_taken_64 (by decide) (by decide) (fun c_64 => ?_) (fun c_64 => by omega)
            refine a_iloadn_3 (pc := 75) dX12_taken_75 ?_
            refine a_iloadn_2 (pc := 76) dX12_taken_76 ?_
            refine n_icmp_ne (tgt := 93) dX12_taken_77 (by decide) (by decide) (by decide) (fun c_77 => ?_) (fun c_77 => by omega)
            refine a_bipush (pc := 93) (v := (-12)) dX12_taken_93 (by decide) ?_
            exact a_iret (pc := 95) dX12_taken_95 rfl (zf hz) (k1 n_dd m 2 (by omega) rfl rfl (by decide) hmb hsm _ (by rw [hkd]; rfl))
          · refine a_ls (ls' := [some _, some _, some _, some _]) ⟨rfl, rfl, rfl, rfl, trivial⟩ ?_
            refine a_iloadn_3 (pc := 58) dX12_taken_58 ?_
            refine a_iloadn_2 (pc := 59) dX12_taken_59 ?_
            refine n_icmp_eq (tgt := 75) dX12_taken_60 (by decide) (by decide) (by decide) (fun c_60 => by omega) (fun c_60 => ?_)
            refine a_iloadn_3 (pc := 63) dX12_taken_63 ?_
            refine n_if_le (tgt := 75) dX12_taken_64 (by decide) (by decide) (fun c_64 => ?_) (fun c_64 => by omega)
            refine a_iloadn_3 (pc := 75) dX12_taken_75 ?_
            refine a_iloadn_2 (pc := 76) dX12_taken_76 ?_
            refine n_icmp_ne (tgt := 93) dX12_taken_77 (by decide) (by decide) (by decide) (fun c_77 => ?_) (fun c_77 => by omega)
            refine a_bipush (pc := 93) (v := (-12)) dX12_taken_93 (by decide) ?_
            exact a_iret (pc := 95) dX12_taken_95 rfl (zf hz) (k1 n_dd m 3 (by omega) rfl rfl (by decide) hmb hsm _ (by rw [hkd]; rfl))
          · refine a_ls (ls' := [some _, some _, some _, some _]) ⟨rfl, rfl, rfl, rfl, trivial⟩ ?_
            refine a_iloadn_3 (pc := 58) dX12_taken_58 ?_
            refine a_iloadn_2 (pc := 59) dX12_taken_59 ?_
            refine n_icmp_eq (tgt := 75) dX12_taken_60 (by decide) (by decide) (by decide) (fun c_60 => by omega) (fun c_60 => ?_)
            refine a_iloadn_3 (pc := 63) dX12_taken_63 ?_
            refine n_if_le (tgt := 75) dX12_taken_64 (by decide) (by decide) (fun c_64 => ?_) (fun c_64 => by omega)
            refine a_iloadn_3 (pc := 75) dX12_taken_75 ?_
            refine a_iloadn_2 (pc := 76) dX12_taken_76 ?_
            refine n_icmp_ne (tgt := 93) dX12_taken_77 (by decide) (by decide) (by decide) (fun c_77 => ?_) (fun c_77 => by omega)
            refine a_bipush (pc := 93) (v := (-12)) dX12_taken_93 (by decide) ?_
            exact a_iret (pc := 95) dX12_taken_95 rfl (zf hz) (k1 n_dd m 4 (by omega) rfl rfl (by decide) hmb hsm _ (by rw [hkd]; rfl))
          · refine a_ls (ls' := [some _, some _, some _, some _]) ⟨rfl, rfl, rfl, rfl, trivial⟩ ?_
            refine a_iloadn_3 (pc := 58) dX12_taken_58 ?_
            refine a_iloadn_2 (pc := 59) dX12_taken_59 ?_
            refine n_icmp_eq (tgt := 75) dX12_taken_60 (by decide) (by decide) (by decide) (fun c_60 => by omega) (fun c_60 => ?_)
            refine a_iloadn_3 (pc := 63) dX12_taken_63 ?_
            refine n_if_le (tgt := 75) dX12_taken_64 (by decide) (by decide) (fun c_64 => ?_) (fun c_64 => by omega)
            refine a_iloadn_3 (pc := 75) dX12_taken_75 ?_
            refine a_iloadn_2 (pc := 76) dX12_taken_76 ?_
            refine n_icmp_ne (tgt := 93) dX12_taken_77 (by decide) (by decide) (by decide) (fun c_77 => ?_) (fun c_77 => by omega)
            refine a_bipush (pc := 93) (v := (-12)) dX12_taken_93 (by decide) ?_
            exact a_iret (pc := 95) dX12_taken_95 rfl (zf hz) (k1 n_dd m 5 (by omega) rfl rfl (by decide) hmb hsm _ (by rw [hkd]; rfl))
          · refine a_ls (ls' := [some _, some _, some _, some _]) ⟨rfl, rfl, rfl, rfl, trivial⟩ ?_
            refine a_iloadn_3 (pc := 58) dX12_taken_58 ?_
            refine a_iloadn_2 (pc := 59) dX12_taken_59 ?_
            refine n_icmp_eq (tgt := 75) dX12_taken_60 (by decide) (by decide) (by decide) (fun c_60 => by omega) (fun c_60 => ?_)
            refine a_iloadn_3 (pc := 63) dX12_taken_63 ?_
            refine n_if_le (tgt := 75) dX12_taken_64 (by decide) (by decide) (fun c_64 => ?_) (fun c_64 => by omega)
            refine a_iloadn_3 (pc := 75) dX12_taken_75 ?_
            refine a_iloadn_2 (pc := 76) dX12_taken_76 ?_
            refine n_icmp_ne (tgt := 93) dX12_taken_77 (by decide) (by decide) (by decide) (fun c_77 => ?_) (fun c_77 => by omega)
            refine a_bipush (pc := 93) (v := (-12)) dX12_taken_93 (by decide) ?_
            exact a_iret (pc := 95) dX12_taken_95 rfl (zf hz) (k1 n_dd m 6 (by omega) rfl rfl (by decide) hmb hsm _ (by rw [hkd]; rfl))
          · refine a_ls (ls' := [some _, some _, some _, some _]) ⟨rfl, rfl, rfl, rfl, trivial⟩ ?_
            refine a_iloadn_3 (pc := 58) dX12_taken_58 ?_
            refine a_iloadn_2 (pc := 59) dX12_taken_59 ?_
            refine n_icmp_eq (tgt := 75) dX12_taken_60 (by decide) (by decide) (by decide) (fun c_60 => by omega) (fun c_60 => ?_)
            refine a_iloadn_3 (pc := 63) dX12_taken_63 ?_
            refine n_if_le (tgt := 75) dX12_taken_64 (by decide) (by decide) (fun c_64 => ?_) (fun c_64 => by omega)
            refine a_iloadn_3 (pc := 75) dX12_taken_75 ?_
            refine a_iloadn_2 (pc := 76) dX12_taken_76 ?_
            refine n_icmp_ne (tgt := 93) dX12_taken_77 (by decide) (by decide) (by decide) (fun c_77 => ?_) (fun c_77 => by omega)
            refine a_bipush (pc := 93) (v := (-12)) dX12_taken_93 (by decide) ?_
            exact a_iret (pc := 95) dX12_taken_95 rfl (zf hz) (k1 n_dd m 7 (by omega) rfl rfl (by decide) hmb hsm _ (by rw [hkd]; rfl))
          · refine a_ls (ls' := [some _, some _, some _, some _]) ⟨rfl, rfl, rfl, rfl, trivial⟩ ?_
            refine a_iloadn_3 (pc := 58) dX12_taken_58 ?_
            refine a_iloadn_2 (pc := 59) dX12_taken_59 ?_
            refine n_icmp_eq (tgt := 75) dX12_taken_60 (by decide) (by decide) (by decide) (fun c_60 => by omega) (fun c_60 => ?_)
            refine a_iloadn_3 (pc := 63) dX12_taken_63 ?_
            refine n_if_le (tgt := 75) dX12_taken_64 (by decide) (by decide) (fun c_64 => by omega) (fun c_64 => ?_)
            refine a_iloadn_3 (pc := 67) dX12_taken_67 ?_
            refine cs_X12_343 (pc := 68) rfl dX12_taken_68 (Nat.le_of_ble_eq_true rfl) ?_
            refine m_above_1 (by omega) hz ?_
            refine a_istoren_3 (pc := 71) dX12_taken_71 (by decide) (by first | rfl | trivial) ?_
            refine a_goto (pc := 72) (tgt := 58) dX12_taken_72 (by decide) ?_
            refine a_iloadn_3 (pc := 58) dX12_taken_58 ?_
            refine a_iloadn_2 (pc := 59) dX12_taken_59 ?_
            refine n_icmp_eq (tgt := 75) dX12_taken_60 (by decide) (by decide) (by decide) (fun c_60 => ?_) (fun c_60 => by omega)
            refine a_iloadn_3 (pc := 75) dX12_taken_75 ?_
            refine a_iloadn_2 (pc := 76) dX12_taken_76 ?_
            refine n_icmp_ne (tgt := 93) dX12_taken_77 (by decide) (by decide) (by decide) (fun c_77 => by omega) (fun c_77 => ?_)
            refine a_aloadn_0 (pc := 80) dX12_taken_80 ?_
            refine a_aloadn_0 (pc := 81) dX12_taken_81 ?_
            refine mg_71 hm rfl dX12_taken_82 ?_
            refine a_iloadn_1 (pc := 85) dX12_taken_85 ?_
            refine ml_shelf (x := nI (m)) hm dX12_taken_86 (by omega) hsm ?_
            refine cv_X12_340 (pc := 87) rfl dX12_taken_87 hm.2.2.1 (Nat.le_of_ble_eq_true rfl) ?_
            refine m_kindOf (by omega) hz hm (by omega) ?_
            rw [hkd]
            refine a_goto (pc := 90) (tgt := 95) dX12_taken_90 (by decide) ?_
            exact a_iret (pc := 95) dX12_taken_95 rfl (zf hz) (k1 n_dd m 0 (by omega) rfl rfl (by decide) hmb hsm _ (by rw [hkd]; rfl))
          · refine a_ls (ls' := [some _, some _, some _, some _]) ⟨rfl, rfl, rfl, rfl, trivial⟩ ?_
            refine a_iloadn_3 (pc := 58) dX12_taken_58 ?_
            refine a_iloadn_2 (pc := 59) dX12_taken_59 ?_
            refine n_icmp_eq (tgt := 75) dX12_taken_60 (by decide) (by decide) (by decide) (fun c_60 => ?_) (fun c_60 => by omega)
            refine a_iloadn_3 (pc := 75) dX12_taken_75 ?_
            refine a_iloadn_2 (pc := 76) dX12_taken_76 ?_
            refine n_icmp_ne (tgt := 93) dX12_taken_77 (by decide) (by decide) (by decide) (fun c_77 => by omega) (fun c_77 => ?_)
            refine a_aloadn_0 (pc := 80) dX12_taken_80 ?_
            refine a_aloadn_0 (pc := 81) dX12_taken_81 ?_
            refine mg_71 hm rfl dX12_taken_82 ?_
            refine a_iloadn_1 (pc := 85) dX12_taken_85 ?_
            refine ml_shelf (x := nI (m)) hm dX12_taken_86 (by omega) hsm ?_
            refine cv_X12_340 (pc := 87) rfl dX12_taken_87 hm.2.2.1 (Nat.le_of_ble_eq_true rfl) ?_
            refine m_kindOf (by omega) hz hm (by omega) ?_
            rw [hkd]
            refine a_goto (pc := 90) (tgt := 95) dX12_taken_90 (by decide) ?_
            exact a_iret (pc := 95) dX12_taken_95 rfl (zf hz) (k1 n_dd m 1 (by omega) rfl rfl (by decide) hmb hsm _ (by rw [hkd]; rfl))
          · refine a_ls (ls' := [some _, some _, some _, some _]) ⟨rfl, rfl, rfl, rfl, trivial⟩ ?_
            refine a_iloadn_3 (pc := 58) dX12_taken_58 ?_
            refine a_iloadn_2 (pc := 59) dX12_taken_59 ?_
            refine n_icmp_eq (tgt := 75) dX12_taken_60 (by decide) (by decide) (by decide) (fun c_60 => by omega) (fun c_60 => ?_)
            refine a_iloadn_3 (pc := 63) dX12_taken_63 ?_
            refine n_if_le (tgt := 75) dX12_taken_64 (by decide) (by decide) (fun c_64 => by omega) (fun c_64 => ?_)
            refine a_iloadn_3 (pc := 67) dX12_taken_67 ?_
            refine cs_X12_343 (pc := 68) rfl dX12_taken_68 (Nat.le_of_ble_eq_true rfl) ?_
            refine m_above_1 (by omega) hz ?_
            refine a_istoren_3 (pc := 71) dX12_taken_71 (by decide) (by first | rfl | trivial) ?_
            refine a_goto (pc := 72) (tgt := 58) dX12_taken_72 (by decide) ?_
            refine a_iloadn_3 (pc := 58) dX12_taken_58 ?_
            refine a_iloadn_2 (pc := 59) dX12_taken_59 ?_
            refine n_icmp_eq (tgt := 75) dX12_taken_60 (by decide) (by decide) (by decide) (fun c_60 => by omega) (fun c_60 => ?_)
            refine a_iloadn_3 (pc := 63) dX12_taken_63 ?_
            refine n_if_le (tgt := 75) dX12_taken_64 (by decide) (by decide) (fun c_64 => ?_) (fun c_64 => by omega)
            refine a_iloadn_3 (pc := 75) dX12_taken_75 ?_
            refine a_iloadn_2 (pc := 76) dX12_taken_76 ?_
            refine n_icmp_ne (tgt := 93) dX12_taken_77 (by decide) (by decide) (by decide) (fun c_77 => ?_) (fun c_77 => by omega)
            refine a_bipush (pc := 93) (v := (-12)) dX12_taken_93 (by decide) ?_
            exact a_iret (pc := 95) dX12_taken_95 rfl (zf hz) (k1 n_dd m 2 (by omega) rfl rfl (by decide) hmb hsm _ (by rw [hkd]; rfl))
          · refine a_ls (ls' := [some _, some _, some _, some _]) ⟨rfl, rfl, rfl, rfl, trivial⟩ ?_
            refine a_iloadn_3 (pc := 58) dX12_taken_58 ?_
            refine a_iloadn_2 (pc := 59) dX12_taken_59 ?_
            refine n_icmp_eq (tgt := 75) dX12_taken_60 (by decide) (by decide) (by decide) (fun c_60 => by omega) (fun c_60 => ?_)
            refine a_iloadn_3 (pc := 63) dX12_taken_63 ?_
            refine n_if_le (tgt := 75) dX12_taken_64 (by decide) (by decide) (fun c_64 => by omega) (fun c_64 => ?_)
            refine a_iloadn_3 (pc := 67) dX12_taken_67 ?_
            refine cs_X12_343 (pc := 68) rfl dX12_taken_68 (Nat.le_of_ble_eq_true rfl) ?_
            refine m_above_1 (by omega) hz ?_
            refine a_istoren_3 (pc := 71) dX12_taken_71 (by decide) (by first | rfl | trivial) ?_
            refine a_goto (pc := 72) (tgt := 58) dX12_taken_72 (by decide) ?_
            refine a_iloadn_3 (pc := 58) dX12_taken_58 ?_
            refine a_iloadn_2 (pc := 59) dX12_taken_59 ?_
            refine n_icmp_eq (tgt := 75) dX12_taken_60 (by decide) (by decide) (by decide) (fun c_60 => by omega) (fun c_60 => ?_)
            refine a_iloadn_3 (pc := 63) dX12_taken_63 ?_
            refine n_if_le (tgt := 75) dX12_taken_64 (by decide) (by decide) (fun c_64 => ?_) (fun c_64 => by omega)
            refine a_iloadn_3 (pc := 75) dX12_taken_75 ?_
            refine a_iloadn_2 (pc := 76) dX12_taken_76 ?_
            refine n_icmp_ne (tgt := 93) dX12_taken_77 (by decide) (by decide) (by decide) (fun c_77 => ?_) (fun c_77 => by omega)
            refine a_bipush (pc := 93) (v := (-12)) dX12_taken_93 (by decide) ?_
            exact a_iret (pc := 95) dX12_taken_95 rfl (zf hz) (k1 n_dd m 3 (by omega) rfl rfl (by decide) hmb hsm _ (by rw [hkd]; rfl))
          · refine a_ls (ls' := [some _, some _, some _, some _]) ⟨rfl, rfl, rfl, rfl, trivial⟩ ?_
            refine a_iloadn_3 (pc := 58) dX12_taken_58 ?_
            refine a_iloadn_2 (pc := 59) dX12_taken_59 ?_
            refine n_icmp_eq (tgt := 75) dX12_taken_60 (by decide) (by decide) (by decide) (fun c_60 => by omega) (fun c_60 => ?_)
            refine a_iloadn_3 (pc := 63) dX12_taken_63 ?_
            refine n_if_le (tgt := 75) dX12_taken_64 (by decide) (by decide) (fun c_64 => by omega) (fun c_64 => ?_)
            refine a_iloadn_3 (pc := 67) dX12_taken_67 ?_
            refine cs_X12_343 (pc := 68) rfl dX12_taken_68 (Nat.le_of_ble_eq_true rfl) ?_
            refine m_above_1 (by omega) hz ?_
            refine a_istoren_3 (pc := 71) dX12_taken_71 (by decide) (by first | rfl | trivial) ?_
            refine a_goto (pc := 72) (tgt := 58) dX12_taken_72 (by decide) ?_
            refine a_iloadn_3 (pc := 58) dX12_taken_58 ?_
            refine a_iloadn_2 (pc := 59) dX12_taken_59 ?_
            refine n_icmp_eq (tgt := 75) dX12_taken_60 (by decide) (by decide) (by decide) (fun c_60 => by omega) (fun c_60 => ?_)
            refine a_iloadn_3 (pc := 63) dX12_taken_63 ?_
            refine n_if_le (tgt := 75) dX12_taken_64 (by decide) (by decide) (fun c_64 => ?_) (fun c_64 => by omega)
            refine a_iloadn_3 (pc := 75) dX12_taken_75 ?_
            refine a_iloadn_2 (pc := 76) dX12_taken_76 ?_
            refine n_icmp_ne (tgt := 93) dX12_taken_77 (by decide) (by decide) (by decide) (fun c_77 => ?_) (fun c_77 => by omega)
            refine a_bipush (pc := 93) (v := (-12)) dX12_taken_93 (by decide) ?_
            exact a_iret (pc := 95) dX12_taken_95 rfl (zf hz) (k1 n_dd m 4 (by omega) rfl rfl (by decide) hmb hsm _ (by rw [hkd]; rfl))
          · refine a_ls (ls' := [some _, some _, some _, some _]) ⟨rfl, rfl, rfl, rfl, trivial⟩ ?_
            refine a_iloadn_3 (pc := 58) dX12_taken_58 ?_
            refine a_iloadn_2 (pc := 59) dX12_taken_59 ?_
            refine n_icmp_eq (tgt := 75) dX12_taken_60 (by decide) (by decide) (by decide) (fun c_60 => by omega) (fun c_60 => ?_)
            refine a_iloadn_3 (pc := 63) dX12_taken_63 ?_
            refine n_if_le (tgt := 75) dX12_taken_64 (by decide) (by decide) (fun c_64 => by omega) (fun c_64 => ?_)
            refine a_iloadn_3 (pc := 67) dX12_taken_67 ?_
            refine cs_X12_343 (pc := 68) rfl dX12_taken_68 (Nat.le_of_ble_eq_true rfl) ?_
            refine m_above_1 (by omega) hz ?_
            refine a_istoren_3 (pc := 71) dX12_taken_71 (by decide) (by first | rfl | trivial) ?_
            refine a_goto (pc := 72) (tgt := 58) dX12_taken_72 (by decide) ?_
            refine a_iloadn_3 (pc := 58) dX12_taken_58 ?_
            refine a_iloadn_2 (pc := 59) dX12_taken_59 ?_
            refine n_icmp_eq (tgt := 75) dX12_taken_60 (by decide) (by decide) (by decide) (fun c_60 => by omega) (fun c_60 => ?_)
            refine a_iloadn_3 (pc := 63) dX12_taken_63 ?_
            refine n_if_le (tgt := 75) dX12_taken_64 (by decide) (by decide) (fun c_64 => ?_) (fun c_64 => by omega)
            refine a_iloadn_3 (pc := 75) dX12_taken_75 ?_
            refine a_iloadn_2 (pc := 76) dX12_taken_76 ?_
            refine n_icmp_ne (tgt := 93) dX12_taken_77 (by decide) (by decide) (by decide) (fun c_77 => ?_) (fun c_77 => by omega)
            refine a_bipush (pc := 93) (v := (-12)) dX12_taken_93 (by decide) ?_
            exact a_iret (pc := 95) dX12_taken_95 rfl (zf hz) (k1 n_dd m 5 (by omega) rfl rfl (by decide) hmb hsm _ (by rw [hkd]; rfl))
          · refine a_ls (ls' := [some _, some _, some _, some _]) ⟨rfl, rfl, rfl, rfl, trivial⟩ ?_
            refine a_iloadn_3 (pc := 58) dX12_taken_58 ?_
            refine a_iloadn_2 (pc := 59) dX12_taken_59 ?_
            refine n_icmp_eq (tgt := 75) dX12_taken_60 (by decide) (by decide) (by decide) (fun c_60 => by omega) (fun c_60 => ?_)
            refine a_iloadn_3 (pc := 63) dX12_taken_63 ?_
            refine n_if_le (tgt := 75) dX12_taken_64 (by decide) (by decide) (fun c_64 => by omega) (fun c_64 => ?_)
            refine a_iloadn_3 (pc := 67) dX12_taken_67 ?_
            refine cs_X12_343 (pc := 68) rfl dX12_taken_68 (Nat.le_of_ble_eq_true rfl) ?_
            refine m_above_1 (by omega) hz ?_
            refine a_istoren_3 (pc := 71) dX12_taken_71 (by decide) (by first | rfl | trivial) ?_
            refine a_goto (pc := 72) (tgt := 58) dX12_taken_72 (by decide) ?_
            refine a_iloadn_3 (pc := 58) dX12_taken_58 ?_
            refine a_iloadn_2 (pc := 59) dX12_taken_59 ?_
            refine n_icmp_eq (tgt := 75) dX12_taken_60 (by decide) (by decide) (by decide) (fun c_60 => by omega) (fun c_60 => ?_)
            refine a_iloadn_3 (pc := 63) dX12_taken_63 ?_
            refine n_if_le (tgt := 75) dX12_taken_64 (by decide) (by decide) (fun c_64 => ?_) (fun c_64 => by omega)
            refine a_iloadn_3 (pc := 75) dX12_taken_75 ?_
            refine a_iloadn_2 (pc := 76) dX12_taken_76 ?_
            refine n_icmp_ne (tgt := 93) dX12_taken_77 (by decide) (by decide) (by decide) (fun c_77 => ?_) (fun c_77 => by omega)
            refine a_bipush (pc := 93) (v := (-12)) dX12_taken_93 (by decide) ?_
            exact a_iret (pc := 95) dX12_taken_95 rfl (zf hz) (k1 n_dd m 6 (by omega) rfl rfl (by decide) hmb hsm _ (by rw [hkd]; rfl))
          · refine a_ls (ls' := [some _, some _, some _, some _]) ⟨rfl, rfl, rfl, rfl, trivial⟩ ?_
            refine a_iloadn_3 (pc := 58) dX12_taken_58 ?_
            refine a_iloadn_2 (pc := 59) dX12_taken_59 ?_
            refine n_icmp_eq (tgt := 75) dX12_taken_60 (by decide) (by decide) (by decide) (fun c_60 => by omega) (fun c_60 => ?_)
            refine a_iloadn_3 (pc := 63) dX12_taken_63 ?_
            refine n_if_le (tgt := 75) dX12_taken_64 (by decide) (by decide) (fun c_64 => by omega) (fun c_64 => ?_)
            refine a_iloadn_3 (pc := 67) dX12_taken_67 ?_
            refine cs_X12_343 (pc := 68) rfl dX12_taken_68 (Nat.le_of_ble_eq_true rfl) ?_
            refine m_above_1 (by omega) hz ?_
            refine a_istoren_3 (pc := 71) dX12_taken_71 (by decide) (by first | rfl | trivial) ?_
            refine a_goto (pc := 72) (tgt := 58) dX12_taken_72 (by decide) ?_
            refine a_iloadn_3 (pc := 58) dX12_taken_58 ?_
            refine a_iloadn_2 (pc := 59) dX12_taken_59 ?_
            refine n_icmp_eq (tgt := 75) dX12_taken_60 (by decide) (by decide) (by decide) (fun c_60 => by omega) (fun c_60 => ?_)
            refine a_iloadn_3 (pc := 63) dX12_taken_63 ?_
            refine n_if_le (tgt := 75) dX12_taken_64 (by decide) (by decide) (fun c_64 => ?_) (fun c_64 => by omega)
            refine a_iloadn_3 (pc := 75) dX12_taken_75 ?_
            refine a_iloadn_2 (pc := 76) dX12_taken_76 ?_
            refine n_icmp_ne (tgt := 93) dX12_taken_77 (by decide) (by decide) (by decide) (fun c_77 => ?_) (fun c_77 => by omega)
            refine a_bipush (pc := 93) (v := (-12)) dX12_taken_93 (by decide) ?_
            exact a_iret (pc := 95) dX12_taken_95 rfl (zf hz) (k1 n_dd m 7 (by omega) rfl rfl (by decide) hmb hsm _ (by rw [hkd]; rfl))
          · refine a_ls (ls' := [some _, some _, some _, some _]) ⟨rfl, rfl, rfl, rfl, trivial⟩ ?_
            refine a_iloadn_3 (pc := 58) dX12_taken_58 ?_
            refine a_iloadn_2 (pc := 59) dX12_taken_59 ?_
            refine n_icmp_eq (tgt := 75) dX12_taken_60 (by decide) (by decide) (by decide) (fun c_60 => by omega) (fun c_60 => ?_)
            refine a_iloadn_3 (pc := 63) dX12_taken_63 ?_
            refine n_if_le (tgt := 75) dX12_taken_64 (by decide) (by decide) (fun c_64 => by omega) (fun c_64 => ?_)
            refine a_iloadn_3 (pc := 67) dX12_taken_67 ?_
            refine cs_X12_343 (pc := 68) rfl dX12_taken_68 (Nat.le_of_ble_eq_true rfl) ?_
            refine m_above_2 (by omega) hz ?_
            refine a_istoren_3 (pc := 71) dX12_taken_71 (by decide) (by first | rfl | trivial) ?_
            refine a_goto (pc := 72) (tgt := 58) dX12_taken_72 (by decide) ?_
            refine a_iloadn_3 (pc := 58) dX12_taken_58 ?_
            refine a_iloadn_2 (pc := 59) dX12_taken_59 ?_
            refine n_icmp_eq (tgt := 75) dX12_taken_60 (by decide) (by decide) (by decide) (fun c_60 => ?_) (fun c_60 => by omega)
            refine a_iloadn_3 (pc := 75) dX12_taken_75 ?_
            refine a_iloadn_2 (pc := 76) dX12_taken_76 ?_
            refine n_icmp_ne (tgt := 93) dX12_taken_77 (by decide) (by decide) (by decide) (fun c_77 => by omega) (fun c_77 => ?_)
            refine a_aloadn_0 (pc := 80) dX12_taken_80 ?_
            refine a_aloadn_0 (pc := 81) dX12_taken_81 ?_
            refine mg_71 hm rfl dX12_taken_82 ?_
            refine a_iloadn_1 (pc := 85) dX12_taken_85 ?_
            refine ml_shelf (x := nI (m)) hm dX12_taken_86 (by omega) hsm ?_
            refine cv_X12_340 (pc := 87) rfl dX12_taken_87 hm.2.2.1 (Nat.le_of_ble_eq_true rfl) ?_
            refine m_kindOf (by omega) hz hm (by omega) ?_
            rw [hkd]
            refine a_goto (pc := 90) (tgt := 95) dX12_taken_90 (by decide) ?_
            exact a_iret (pc := 95) dX12_taken_95 rfl (zf hz) (k1 n_dd m 0 (by omega) rfl rfl (by decide) hmb hsm _ (by rw [hkd]; rfl))
          · refine a_ls (ls' := [some _, some _, some _, some _]) ⟨rfl, rfl, rfl, rfl, trivial⟩ ?_
            refine a_iloadn_3 (pc := 58) dX12_taken_58 ?_
            refine a_iloadn_2 (pc := 59) dX12_taken_59 ?_
            refine n_icmp_eq (tgt := 75) dX12_taken_60 (by decide) (by decide) (by decide) (fun c_60 => by omega) (fun c_60 => ?_)
            refine a_iloadn_3 (pc := 63) dX12_taken_63 ?_
            refine n_if_le (tgt := 75) dX12_taken_64 (by decide) (by decide) (fun c_64 => by omega) (fun c_64 => ?_)
            refine a_iloadn_3 (pc := 67) dX12_taken_67 ?_
            refine cs_X12_343 (pc := 68) rfl dX12_taken_68 (Nat.le_of_ble_eq_true rfl) ?_
            refine m_above_2 (by omega) hz ?_
            refine a_istoren_3 (pc := 71) dX12_taken_71 (by decide) (by first | rfl | trivial) ?_
            refine a_goto (pc := 72) (tgt := 58) dX12_taken_72 (by decide) ?_
            refine a_iloadn_3 (pc := 58) dX12_taken_58 ?_
            refine a_iloadn_2 (pc := 59) dX12_taken_59 ?_
            refine n_icmp_eq (tgt := 75) dX12_taken_60 (by decide) (by decide) (by decide) (fun c_60 => by omega) (fun c_60 => ?_)
            refine a_iloadn_3 (pc := 63) dX12_taken_63 ?_
            refine n_if_le (tgt := 75) dX12_taken_64 (by decide) (by decide) (fun c_64 => ?_) (fun c_64 => by omega)
            refine a_iloadn_3 (pc := 75) dX12_taken_75 ?_
            refine a_iloadn_2 (pc := 76) dX12_taken_76 ?_
            refine n_icmp_ne (tgt := 93) dX12_taken_77 (by decide) (by decide) (by decide) (fun c_77 => ?_) (fun c_77 => by omega)
            refine a_bipush (pc := 93) (v := (-12)) dX12_taken_93 (by decide) ?_
            exact a_iret (pc := 95) dX12_taken_95 rfl (zf hz) (k1 n_dd m 1 (by omega) rfl rfl (by decide) hmb hsm _ (by rw [hkd]; rfl))
          · refine a_ls (ls' := [some _, some _, some _, some _]) ⟨rfl, rfl, rfl, rfl, trivial⟩ ?_
            refine a_iloadn_3 (pc := 58) dX12_taken_58 ?_
            refine a_iloadn_2 (pc := 59) dX12_taken_59 ?_
            refine n_icmp_eq (tgt := 75) dX12_taken_60 (by decide) (by decide) (by decide) (fun c_60 => ?_) (fun c_60 => by omega)
            refine a_iloadn_3 (pc := 75) dX12_taken_75 ?_
            refine a_iloadn_2 (pc := 76) dX12_taken_76 ?_
            refine n_icmp_ne (tgt := 93) dX12_taken_77 (by decide) (by decide) (by decide) (fun c_77 => by omega) (fun c_77 => ?_)
            refine a_aloadn_0 (pc := 80) dX12_taken_80 ?_
            refine a_aloadn_0 (pc := 81) dX12_taken_81 ?_
            refine mg_71 hm rfl dX12_taken_82 ?_
            refine a_iloadn_1 (pc := 85) dX12_taken_85 ?_
            refine ml_shelf (x := nI (m)) hm dX12_taken_86 (by omega) hsm ?_
            refine cv_X12_340 (pc := 87) rfl dX12_taken_87 hm.2.2.1 (Nat.le_of_ble_eq_true rfl) ?_
            refine m_kindOf (by omega) hz hm (by omega) ?_
            rw [hkd]
            refine a_goto (pc := 90) (tgt := 95) dX12_taken_90 (by decide) ?_
            exact a_iret (pc := 95) dX12_taken_95 rfl (zf hz) (k1 n_dd m 2 (by omega) rfl rfl (by decide) hmb hsm _ (by rw [hkd]; rfl))
          · refine a_ls (ls' := [some _, some _, some _, some _]) ⟨rfl, rfl, rfl, rfl, trivial⟩ ?_
            refine a_iloadn_3 (pc := 58) dX12_taken_58 ?_
            refine a_iloadn_2 (pc := 59) dX12_taken_59 ?_
            refine n_icmp_eq (tgt := 75) dX12_taken_60 (by decide) (by decide) (by decide) (fun c_60 => by omega) (fun c_60 => ?_)
            refine a_iloadn_3 (pc := 63) dX12_taken_63 ?_
            refine n_if_le (tgt := 75) dX12_taken_64 (by decide) (by decide) (fun c_64 => by omega) (fun c_64 => ?_)
            refine a_iloadn_3 (pc := 67) dX12_taken_67 ?_
            refine cs_X12_343 (pc := 68) rfl dX12_taken_68 (Nat.le_of_ble_eq_true rfl) ?_
            refine m_above_2 (by omega) hz ?_
            refine a_istoren_3 (pc := 71) dX12_taken_71 (by decide) (by first | rfl | trivial) ?_
            refine a_goto (pc := 72) (tgt := 58) dX12_taken_72 (by decide) ?_
            refine a_iloadn_3 (pc := 58) dX12_taken_58 ?_
            refine a_iloadn_2 (pc := 59) dX12_taken_59 ?_
            refine n_icmp_eq (tgt := 75) dX12_taken_60 (by decide) (by decide) (by decide) (fun c_60 => by omega) (fun c_60 => ?_)
            refine a_iloadn_3 (pc := 63) dX12_taken_63 ?_
            refine n_if_le (tgt := 75) dX12_taken_64 (by decide) (by decide) (fun c_64 => ?_) (fun c_64 => by omega)
            refine a_iloadn_3 (pc := 75) dX12_taken_75 ?_
            refine a_iloadn_2 (pc := 76) dX12_taken_76 ?_
            refine n_icmp_ne (tgt := 93) dX12_taken_77 (by decide) (by decide) (by decide) (fun c_77 => ?_) (fun c_77 => by omega)
            refine a_bipush (pc := 93) (v := (-12)) dX12_taken_93 (by decide) ?_
            exact a_iret (pc := 95) dX12_taken_95 rfl (zf hz) (k1 n_dd m 3 (by omega) rfl rfl (by decide) hmb hsm _ (by rw [hkd]; rfl))
          · refine a_ls (ls' := [some _, some _, some _, some _]) ⟨rfl, rfl, rfl, rfl, trivial⟩ ?_
            refine a_iloadn_3 (pc := 58) dX12_taken_58 ?_
            refine a_iloadn_2 (pc := 59) dX12_taken_59 ?_
            refine n_icmp_eq (tgt := 75) dX12_taken_60 (by decide) (by decide) (by decide) (fun c_60 => by omega) (fun c_60 => ?_)
            refine a_iloadn_3 (pc := 63) dX12_taken_63 ?_
            refine n_if_le (tgt := 75) dX12_taken_64 (by decide) (by decide) (fun c_64 => by omega) (fun c_64 => ?_)
            refine a_iloadn_3 (pc := 67) dX12_taken_67 ?_
            refine cs_X12_343 (pc := 68) rfl dX12_taken_68 (Nat.le_of_ble_eq_true rfl) ?_
            refine m_above_2 (by omega) hz ?_
            refine a_istoren_3 (pc := 71) dX12_taken_71 (by decide) (by first | rfl | trivial) ?_
            refine a_goto (pc := 72) (tgt := 58) dX12_taken_72 (by decide) ?_
            refine a_iloadn_3 (pc := 58) dX12_taken_58 ?_
            refine a_iloadn_2 (pc := 59) dX12_taken_59 ?_
            refine n_icmp_eq (tgt := 75) dX12_taken_60 (by decide) (by decide) (by decide) (fun c_60 => by omega) (fun c_60 => ?_)
            refine a_iloadn_3 (pc := 63) dX12_taken_63 ?_
            refine n_if_le (tgt := 75) dX12_taken_64 (by decide) (by decide) (fun c_64 => ?_) (fun c_64 => by omega)
            refine a_iloadn_3 (pc := 75) dX12_taken_75 ?_
            refine a_iloadn_2 (pc := 76) dX12_taken_76 ?_
            refine n_icmp_ne (tgt := 93) dX12_taken_77 (by decide) (by decide) (by decide) (fun c_77 => ?_) (fun c_77 => by omega)
            refine a_bipush (pc := 93) (v := (-12)) dX12_taken_93 (by decide) ?_
            exact a_iret (pc := 95) dX12_taken_95 rfl (zf hz) (k1 n_dd m 4 (by omega) rfl rfl (by decide) hmb hsm _ (by rw [hkd]; rfl))
          · refine a_ls (ls' := [some _, some _, some _, some _]) ⟨rfl, rfl, rfl, rfl, trivial⟩ ?_
            refine a_iloadn_3 (pc := 58) dX12_taken_58 ?_
            refine a_iloadn_2 (pc := 59) dX12_taken_59 ?_
            refine n_icmp_eq (tgt := 75) dX12_taken_60 (by decide) (by decide) (by decide) (fun c_60 => by omega) (fun c_60 => ?_)
            refine a_iloadn_3 (pc := 63) dX12_taken_63 ?_
            refine n_if_le (tgt := 75) dX12_taken_64 (by decide) (by decide) (fun c_64 => by omega) (fun c_64 => ?_)
            refine a_iloadn_3 (pc := 67) dX12_taken_67 ?_
            refine cs_X12_343 (pc := 68) rfl dX12_taken_68 (Nat.le_of_ble_eq_true rfl) ?_
            refine m_above_2 (by omega) hz ?_
            refine a_istoren_3 (pc := 71) dX12_taken_71 (by decide) (by first | rfl | trivial) ?_
            refine a_goto (pc := 72) (tgt := 58) dX12_taken_72 (by decide) ?_
            refine a_iloadn_3 (pc := 58) dX12_taken_58 ?_
            refine a_iloadn_2 (pc := 59) dX12_taken_59 ?_
            refine n_icmp_eq (tgt := 75) dX12_taken_60 (by decide) (by decide) (by decide) (fun c_60 => by omega) (fun c_60 => ?_)
            refine a_iloadn_3 (pc := 63) dX12_taken_63 ?_
            refine n_if_le (tgt := 75) dX12_taken_64 (by decide) (by decide) (fun c_64 => ?_) (fun c_64 => by omega)
            refine a_iloadn_3 (pc := 75) dX12_taken_75 ?_
            refine a_iloadn_2 (pc := 76) dX12_taken_76 ?_
            refine n_icmp_ne (tgt := 93) dX12_taken_77 (by decide) (by decide) (by decide) (fun c_77 => ?_) (fun c_77 => by omega)
            refine a_bipush (pc := 93) (v := (-12)) dX12_taken_93 (by decide) ?_
            exact a_iret (pc := 95) dX12_taken_95 rfl (zf hz) (k1 n_dd m 5 (by omega) rfl rfl (by decide) hmb hsm _ (by rw [hkd]; rfl))
          · refine a_ls (ls' := [some _, some _, some _, some _]) ⟨rfl, rfl, rfl, rfl, trivial⟩ ?_
            refine a_iloadn_3 (pc := 58) dX12_taken_58 ?_
            refine a_iloadn_2 (pc := 59) dX12_taken_59 ?_
            refine n_icmp_eq (tgt := 75) dX12_taken_60 (by decide) (by decide) (by decide) (fun c_60 => by omega) (fun c_60 => ?_)
            refine a_iloadn_3 (pc := 63) dX12_taken_63 ?_
            refine n_if_le (tgt := 75) dX12_taken_64 (by decide) (by decide) (fun c_64 => by omega) (fun c_64 => ?_)
            refine a_iloadn_3 (pc := 67) dX12_taken_67 ?_
            refine cs_X12_343 (pc := 68) rfl dX12_taken_68 (Nat.le_of_ble_eq_true rfl) ?_
            refine m_above_2 (by omega) hz ?_
            refine a_istoren_3 (pc := 71) dX12_taken_71 (by decide) (by first | rfl | trivial) ?_
            refine a_goto (pc := 72) (tgt := 58) dX12_taken_72 (by decide) ?_
            refine a_iloadn_3 (pc := 58) dX12_taken_58 ?_
            refine a_iloadn_2 (pc := 59) dX12_taken_59 ?_
            refine n_icmp_eq (tgt := 75) dX12_taken_60 (by decide) (by decide) (by decide) (fun c_60 => by omega) (fun c_60 => ?_)
            refine a_iloadn_3 (pc := 63) dX12_taken_63 ?_
            refine n_if_le (tgt := 75) dX12_taken_64 (by decide) (by decide) (fun c_64 => ?_) (fun c_64 => by omega)
            refine a_iloadn_3 (pc := 75) dX12_taken_75 ?_
            refine a_iloadn_2 (pc := 76) dX12_taken_76 ?_
            refine n_icmp_ne (tgt := 93) dX12_taken_77 (by decide) (by decide) (by decide) (fun c_77 => ?_) (fun c_77 => by omega)
            refine a_bipush (pc := 93) (v := (-12)) dX12_taken_93 (by decide) ?_
            exact a_iret (pc := 95) dX12_taken_95 rfl (zf hz) (k1 n_dd m 6 (by omega) rfl rfl (by decide) hmb hsm _ (by rw [hkd]; rfl))
          · refine a_ls (ls' := [some _, some _, some _, some _]) ⟨rfl, rfl, rfl, rfl, trivial⟩ ?_
            refine a_iloadn_3 (pc := 58) dX12_taken_58 ?_
            refine a_iloadn_2 (pc := 59) dX12_taken_59 ?_
            refine n_icmp_eq (tgt := 75) dX12_taken_60 (by decide) (by decide) (by decide) (fun c_60 => by omega) (fun c_60 => ?_)
            refine a_iloadn_3 (pc := 63) dX12_taken_63 ?_
            refine n_if_le (tgt := 75) dX12_taken_64 (by decide) (by decide) (fun c_64 => by omega) (fun c_64 => ?_)
            refine a_iloadn_3 (pc := 67) dX12_taken_67 ?_
            refine cs_X12_343 (pc := 68) rfl dX12_taken_68 (Nat.le_of_ble_eq_true rfl) ?_
            refine m_above_2 (by omega) hz ?_
            refine a_istoren_3 (pc := 71) dX12_taken_71 (by decide) (by first | rfl | trivial) ?_
            refine a_goto (pc := 72) (tgt := 58) dX12_taken_72 (by decide) ?_
            refine a_iloadn_3 (pc := 58) dX12_taken_58 ?_
            refine a_iloadn_2 (pc := 59) dX12_taken_59 ?_
            refine n_icmp_eq (tgt := 75) dX12_taken_60 (by decide) (by decide) (by decide) (fun c_60 => by omega) (fun c_60 => ?_)
            refine a_iloadn_3 (pc := 63) dX12_taken_63 ?_
            refine n_if_le (tgt := 75) dX12_taken_64 (by decide) (by decide) (fun c_64 => ?_) (fun c_64 => by omega)
            refine a_iloadn_3 (pc := 75) dX12_taken_75 ?_
            refine a_iloadn_2 (pc := 76) dX12_taken_76 ?_
            refine n_icmp_ne (tgt := 93) dX12_taken_77 (by decide) (by decide) (by decide) (fun c_77 => ?_) (fun c_77 => by omega)
            refine a_bipush (pc := 93) (v := (-12)) dX12_taken_93 (by decide) ?_
            exact a_iret (pc := 95) dX12_taken_95 rfl (zf hz) (k1 n_dd m 7 (by omega) rfl rfl (by decide) hmb hsm _ (by rw [hkd]; rfl))
          · refine a_ls (ls' := [some _, some _, some _, some _]) ⟨rfl, rfl, rfl, rfl, trivial⟩ ?_
            refine a_iloadn_3 (pc := 58) dX12_taken_58 ?_
            refine a_iloadn_2 (pc := 59) dX12_taken_59 ?_
            refine n_icmp_eq (tgt := 75) dX12_taken_60 (by decide) (by decide) (by decide) (fun c_60 => by omega) (fun c_60 => ?_)
            refine a_iloadn_3 (pc := 63) dX12_taken_63 ?_
            refine n_if_le (tgt := 75) dX12_taken_64 (by decide) (by decide) (fun c_64 => by omega) (fun c_64 => ?_)
            refine a_iloadn_3 (pc := 67) dX12_taken_67 ?_
            refine cs_X12_343 (pc := 68) rfl dX12_taken_68 (Nat.le_of_ble_eq_true rfl) ?_
            refine m_above_3 (by omega) hz ?_
            refine a_istoren_3 (pc := 71) dX12_taken_71 (by decide) (by first | rfl | trivial) ?_
            refine a_goto (pc := 72) (tgt := 58) dX12_taken_72 (by decide) ?_
            refine a_iloadn_3 (pc := 58) dX12_taken_58 ?_
            refine a_iloadn_2 (pc := 59) dX12_taken_59 ?_
            refine n_icmp_eq (tgt := 75) dX12_taken_60 (by decide) (by decide) (by decide) (fun c_60 => by omega) (fun c_60 => ?_)
            refine a_iloadn_3 (pc := 63) dX12_taken_63 ?_
            refine n_if_le (tgt := 75) dX12_taken_64 (by decide) (by decide) (fun c_64 => by omega) (fun c_64 => ?_)
            refine a_iloadn_3 (pc := 67) dX12_taken_67 ?_
            refine cs_X12_343 (pc := 68) rfl dX12_taken_68 (Nat.le_of_ble_eq_true rfl) ?_
            refine m_above_2 (by omega) hz ?_
            refine a_istoren_3 (pc := 71) dX12_taken_71 (by decide) (by first | rfl | trivial) ?_
            refine a_goto (pc := 72) (tgt := 58) dX12_taken_72 (by decide) ?_
            refine a_iloadn_3 (pc := 58) dX12_taken_58 ?_
            refine a_iloadn_2 (pc := 59) dX12_taken_59 ?_
            refine n_icmp_eq (tgt := 75) dX12_taken_60 (by decide) (by decide) (by decide) (fun c_60 => ?_) (fun c_60 => by omega)
            refine a_iloadn_3 (pc := 75) dX12_taken_75 ?_
            refine a_iloadn_2 (pc := 76) dX12_taken_76 ?_
            refine n_icmp_ne (tgt := 93) dX12_taken_77 (by decide) (by decide) (by decide) (fun c_77 => by omega) (fun c_77 => ?_)
            refine a_aloadn_0 (pc := 80) dX12_taken_80 ?_
            refine a_aloadn_0 (pc := 81) dX12_taken_81 ?_
            refine mg_71 hm rfl dX12_taken_82 ?_
            refine a_iloadn_1 (pc := 85) dX12_taken_85 ?_
            refine ml_shelf (x := nI (m)) hm dX12_taken_86 (by omega) hsm ?_
            refine cv_X12_340 (pc := 87) rfl dX12_taken_87 hm.2.2.1 (Nat.le_of_ble_eq_true rfl) ?_
            refine m_kindOf (by omega) hz hm (by omega) ?_
            rw [hkd]
            refine a_goto (pc := 90) (tgt := 95) dX12_taken_90 (by decide) ?_
            exact a_iret (pc := 95) dX12_taken_95 rfl (zf hz) (k1 n_dd m 0 (by omega) rfl rfl (by decide) hmb hsm _ (by rw [hkd]; rfl))
          · refine a_ls (ls' := [some _, some _, some _, some _]) ⟨rfl, rfl, rfl, rfl, trivial⟩ ?_
            refine a_iloadn_3 (pc := 58) dX12_taken_58 ?_
            refine a_iloadn_2 (pc := 59) dX12_taken_59 ?_
            refine n_icmp_eq (tgt := 75) dX12_taken_60 (by decide) (by decide) (by decide) (fun c_60 => by omega) (fun c_60 => ?_)
            refine a_iloadn_3 (pc := 63) dX12_taken_63 ?_
            refine n_if_le (tgt := 75) dX12_taken_64 (by decide) (by decide) (fun c_64 => by omega) (fun c_64 => ?_)
            refine a_iloadn_3 (pc := 67) dX12_taken_67 ?_
            refine cs_X12_343 (pc := 68) rfl dX12_taken_68 (Nat.le_of_ble_eq_true rfl) ?_
            refine m_above_3 (by omega) hz ?_
            refine a_istoren_3 (pc := 71) dX12_taken_71 (by decide) (by first | rfl | trivial) ?_
            refine a_goto (pc := 72) (tgt := 58) dX12_taken_72 (by decide) ?_
            refine a_iloadn_3 (pc := 58) dX12_taken_58 ?_
            refine a_iloadn_2 (pc := 59) dX12_taken_59 ?_
            refine n_icmp_eq (tgt := 75) dX12_taken_60 (by decide) (by decide) (by decide) (fun c_60 => by omega) (fun c_60 => ?_)
            refine a_iloadn_3 (pc := 63) dX12_taken_63 ?_
            refine n_if_le (tgt := 75) dX12_taken_64 (by decide) (by decide) (fun c_64 => by omega) (fun c_64 => ?_)
            refine a_iloadn_3 (pc := 67) dX12_taken_67 ?_
            refine cs_X12_343 (pc := 68) rfl dX12_taken_68 (Nat.le_of_ble_eq_true rfl) ?_
            refine m_above_2 (by omega) hz ?_
            refine a_istoren_3 (pc := 71) dX12_taken_71 (by decide) (by first | rfl | trivial) ?_
            refine a_goto (pc := 72) (tgt := 58) dX12_taken_72 (by decide) ?_
            refine a_iloadn_3 (pc := 58) dX12_taken_58 ?_
            refine a_iloadn_2 (pc := 59) dX12_taken_59 ?_
            refine n_icmp_eq (tgt := 75) dX12_taken_60 (by decide) (by decide) (by decide) (fun c_60 => by omega) (fun c_60 => ?_)
            refine a_iloadn_3 (pc := 63) dX12_taken_63 ?_
            refine n_if_le (tgt := 75) dX12_taken_64 (by decide) (by decide) (fun c_64 => ?_) (fun c_64 => by omega)
            refine a_iloadn_3 (pc := 75) dX12_taken_75 ?_
            refine a_iloadn_2 (pc := 76) dX12_taken_76 ?_
            refine n_icmp_ne (tgt := 93) dX12_taken_77 (by decide) (by decide) (by decide) (fun c_77 => ?_) (fun c_77 => by omega)
            refine a_bipush (pc := 93) (v := (-12)) dX12_taken_93 (by decide) ?_
            exact a_iret (pc := 95) dX12_taken_95 rfl (zf hz) (k1 n_dd m 1 (by omega) rfl rfl (by decide) hmb hsm _ (by rw [hkd]; rfl))
          · refine a_ls (ls' := [some _, some _, some _, some _]) ⟨rfl, rfl, rfl, rfl, trivial⟩ ?_
            refine a_iloadn_3 (pc := 58) dX12_taken_58 ?_
            refine a_iloadn_2 (pc := 59) dX12_taken_59 ?_
            refine n_icmp_eq (tgt := 75) dX12_taken_60 (by decide) (by decide) (by decide) (fun c_60 => by omega) (fun c_60 => ?_)
            refine a_iloadn_3 (pc := 63) dX12_taken_63 ?_
            refine n_if_le (tgt := 75) dX12_taken_64 (by decide) (by decide) (fun c_64 => by omega) (fun c_64 => ?_)
            refine a_iloadn_3 (pc := 67) dX12_taken_67 ?_
            refine cs_X12_343 (pc := 68) rfl dX12_taken_68 (Nat.le_of_ble_eq_true rfl) ?_
            refine m_above_3 (by omega) hz ?_
            refine a_istoren_3 (pc := 71) dX12_taken_71 (by decide) (by first | rfl | trivial) ?_
            refine a_goto (pc := 72) (tgt := 58) dX12_taken_72 (by decide) ?_
            refine a_iloadn_3 (pc := 58) dX12_taken_58 ?_
            refine a_iloadn_2 (pc := 59) dX12_taken_59 ?_
            refine n_icmp_eq (tgt := 75) dX12_taken_60 (by decide) (by decide) (by decide) (fun c_60 => ?_) (fun c_60 => by omega)
            refine a_iloadn_3 (pc := 75) dX12_taken_75 ?_
            refine a_iloadn_2 (pc := 76) dX12_taken_76 ?_
            refine n_icmp_ne (tgt := 93) dX12_taken_77 (by decide) (by decide) (by decide) (fun c_77 => by omega) (fun c_77 => ?_)
            refine a_aloadn_0 (pc := 80) dX12_taken_80 ?_
            refine a_aloadn_0 (pc := 81) dX12_taken_81 ?_
            refine mg_71 hm rfl dX12_taken_82 ?_
            refine a_iloadn_1 (pc := 85) dX12_taken_85 ?_
            refine ml_shelf (x := nI (m)) hm dX12_taken_86 (by omega) hsm ?_
            refine cv_X12_340 (pc := 87) rfl dX12_taken_87 hm.2.2.1 (Nat.le_of_ble_eq_true rfl) ?_
            refine m_kindOf (by omega) hz hm (by omega) ?_
            rw [hkd]
            refine a_goto (pc := 90) (tgt := 95) dX12_taken_90 (by decide) ?_
            exact a_iret (pc := 95) dX12_taken_95 rfl (zf hz) (k1 n_dd m 2 (by omega) rfl rfl (by decide) hmb hsm _ (by rw [hkd]; rfl))
          · refine a_ls (ls' := [some _, some _, some _, some _]) ⟨rfl, rfl, rfl, rfl, trivial⟩ ?_
            refine a_iloadn_3 (pc := 58) dX12_taken_58 ?_
            refine a_iloadn_2 (pc := 59) dX12_taken_59 ?_
            refine n_icmp_eq (tgt := 75) dX12_taken_60 (by decide) (by decide) (by decide) (fun c_60 => ?_) (fun c_60 => by omega)
            refine a_iloadn_3 (pc := 75) dX12_taken_75 ?_
            refine a_iloadn_2 (pc := 76) dX12_taken_76 ?_
            refine n_icmp_ne (tgt := 93) dX12_taken_77 (by decide) (by decide) (by decide) (fun c_77 => by omega) (fun c_77 => ?_)
            refine a_aloadn_0 (pc := 80) dX12_taken_80 ?_
            refine a_aloadn_0 (pc := 81) dX12_taken_81 ?_
            refine mg_71 hm rfl dX12_taken_82 ?_
            refine a_iloadn_1 (pc := 85) dX12_taken_85 ?_
            refine ml_shelf (x := nI (m)) hm dX12_taken_86 (by omega) hsm ?_
            refine cv_X12_340 (pc := 87) rfl dX12_taken_87 hm.2.2.1 (Nat.le_of_ble_eq_true rfl) ?_
            refine m_kindOf (by omega) hz hm (by omega) ?_
            rw [hkd]
            refine a_goto (pc := 90) (tgt := 95) dX12_taken_90 (by decide) ?_
            exact a_iret (pc := 95) dX12_taken_95 rfl (zf hz) (k1 n_dd m 3 (by omega) rfl rfl (by decide) hmb hsm _ (by rw [hkd]; rfl))
          · refine a_ls (ls' := [some _, some _, some _, some _]) ⟨rfl, rfl, rfl, rfl, trivial⟩ ?_
            refine a_iloadn_3 (pc := 58) dX12_taken_58 ?_
            refine a_iloadn_2 (pc := 59) dX12_taken_59 ?_
            refine n_icmp_eq (tgt := 75) dX12_taken_60 (by decide) (by decide) (by decide) (fun c_60 => by omega) (fun c_60 => ?_)
            refine a_iloadn_3 (pc := 63) dX12_taken_63 ?_
            refine n_if_le (tgt := 75) dX12_taken_64 (by decide) (by decide) (fun c_64 => by omega) (fun c_64 => ?_)
            refine a_iloadn_3 (pc := 67) dX12_taken_67 ?_
            refine cs_X12_343 (pc := 68) rfl dX12_taken_68 (Nat.le_of_ble_eq_true rfl) ?_
            refine m_above_3 (by omega) hz ?_
            refine a_istoren_3 (pc := 71) dX12_taken_71 (by decide) (by first | rfl | trivial) ?_
            refine a_goto (pc := 72) (tgt := 58) dX12_taken_72 (by decide) ?_
            refine a_iloadn_3 (pc := 58) dX12_taken_58 ?_
            refine a_iloadn_2 (pc := 59) dX12_taken_59 ?_
            refine n_icmp_eq (tgt := 75) dX12_taken_60 (by decide) (by decide) (by decide) (fun c_60 => by omega) (fun c_60 => ?_)
            refine a_iloadn_3 (pc := 63) dX12_taken_63 ?_
            refine n_if_le (tgt := 75) dX12_taken_64 (by decide) (by decide) (fun c_64 => by omega) (fun c_64 => ?_)
            refine a_iloadn_3 (pc := 67) dX12_taken_67 ?_
            refine cs_X12_343 (pc := 68) rfl dX12_taken_68 (Nat.le_of_ble_eq_true rfl) ?_
            refine m_above_2 (by omega) hz ?_
            refine a_istoren_3 (pc := 71) dX12_taken_71 (by decide) (by first | rfl | trivial) ?_
            refine a_goto (pc := 72) (tgt := 58) dX12_taken_72 (by decide) ?_
            refine a_iloadn_3 (pc := 58) dX12_taken_58 ?_
            refine a_iloadn_2 (pc := 59) dX12_taken_59 ?_
            refine n_icmp_eq (tgt := 75) dX12_taken_60 (by decide) (by decide) (by decide) (fun c_60 => by omega) (fun c_60 => ?_)
            refine a_iloadn_3 (pc := 63) dX12_taken_63 ?_
            refine n_if_le (tgt := 75) dX12_taken_64 (by decide) (by decide) (fun c_64 => ?_) (fun c_64 => by omega)
            refine a_iloadn_3 (pc := 75) dX12_taken_75 ?_
            refine a_iloadn_2 (pc := 76) dX12_taken_76 ?_
            refine n_icmp_ne (tgt := 93) dX12_taken_77 (by decide) (by decide) (by decide) (fun c_77 => ?_) (fun c_77 => by omega)
            refine a_bipush (pc := 93) (v := (-12)) dX12_taken_93 (by decide) ?_
            exact a_iret (pc := 95) dX12_taken_95 rfl (zf hz) (k1 n_dd m 4 (by omega) rfl rfl (by decide) hmb hsm _ (by rw [hkd]; rfl))
          · refine a_ls (ls' := [some _, some _, some _, some _]) ⟨rfl, rfl, rfl, rfl, trivial⟩ ?_
            refine a_iloadn_3 (pc := 58) dX12_taken_58 ?_
            refine a_iloadn_2 (pc := 59) dX12_taken_59 ?_
            refine n_icmp_eq (tgt := 75) dX12_taken_60 (by decide) (by decide) (by decide) (fun c_60 => by omega) (fun c_60 => ?_)
            refine a_iloadn_3 (pc := 63) dX12_taken_63 ?_
            refine n_if_le (tgt := 75) dX12_taken_64 (by decide) (by decide) (fun c_64 => by omega) (fun c_64 => ?_)
            refine a_iloadn_3 (pc := 67) dX12_taken_67 ?_
            refine cs_X12_343 (pc := 68) rfl dX12_taken_68 (Nat.le_of_ble_eq_true rfl) ?_
            refine m_above_3 (by omega) hz ?_
            refine a_istoren_3 (pc := 71) dX12_taken_71 (by decide) (by first | rfl | trivial) ?_
            refine a_goto (pc := 72) (tgt := 58) dX12_taken_72 (by decide) ?_
            refine a_iloadn_3 (pc := 58) dX12_taken_58 ?_
            refine a_iloadn_2 (pc := 59) dX12_taken_59 ?_
            refine n_icmp_eq (tgt := 75) dX12_taken_60 (by decide) (by decide) (by decide) (fun c_60 => by omega) (fun c_60 => ?_)
            refine a_iloadn_3 (pc := 63) dX12_taken_63 ?_
            refine n_if_le (tgt := 75) dX12_taken_64 (by decide) (by decide) (fun c_64 => by omega) (fun c_64 => ?_)
            refine a_iloadn_3 (pc := 67) dX12_taken_67 ?_
            refine cs_X12_343 (pc := 68) rfl dX12_taken_68 (Nat.le_of_ble_eq_true rfl) ?_
            refine m_above_2 (by omega) hz ?_
            refine a_istoren_3 (pc := 71) dX12_taken_71 (by decide) (by first | rfl | trivial) ?_
            refine a_goto (pc := 72) (tgt := 58) dX12_taken_72 (by decide) ?_
            refine a_iloadn_3 (pc := 58) dX12_taken_58 ?_
            refine a_iloadn_2 (pc := 59) dX12_taken_59 ?_
            refine n_icmp_eq (tgt := 75) dX12_taken_60 (by decide) (by decide) (by decide) (fun c_60 => by omega) (fun c_60 => ?_)
            refine a_iloadn_3 (pc := 63) dX12_taken_63 ?_
            refine n_if_le (tgt := 75) dX12_taken_64 (by decide) (by decide) (fun c_64 => ?_) (fun c_64 => by omega)
            refine a_iloadn_3 (pc := 75) dX12_taken_75 ?_
            refine a_iloadn_2 (pc := 76) dX12_taken_76 ?_
            refine n_icmp_ne (tgt := 93) dX12_taken_77 (by decide) (by decide) (by decide) (fun c_77 => ?_) (fun c_77 => by omega)
            refine a_bipush (pc := 93) (v := (-12)) dX12_taken_93 (by decide) ?_
            exact a_iret (pc := 95) dX12_taken_95 rfl (zf hz) (k1 n_dd m 5 (by omega) rfl rfl (by decide) hmb hsm _ (by rw [hkd]; rfl))
          · refine a_ls (ls' := [some _, some _, some _, some _]) ⟨rfl, rfl, rfl, rfl, trivial⟩ ?_
            refine a_iloadn_3 (pc := 58) dX12_taken_58 ?_
            refine a_iloadn_2 (pc := 59) dX12_taken_59 ?_
            refine n_icmp_eq (tgt := 75) dX12_taken_60 (by decide) (by decide) (by decide) (fun c_60 => by omega) (fun c_60 => ?_)
            refine a_iloadn_3 (pc := 63) dX12_taken_63 ?_
            refine n_if_le (tgt := 75) dX12_taken_64 (by decide) (by decide) (fun c_64 => by omega) (fun c_64 => ?_)
            refine a_iloadn_3 (pc := 67) dX12_taken_67 ?_
            refine cs_X12_343 (pc := 68) rfl dX12_taken_68 (Nat.le_of_ble_eq_true rfl) ?_
            refine m_above_3 (by omega) hz ?_
            refine a_istoren_3 (pc := 71) dX12_taken_71 (by decide) (by first | rfl | trivial) ?_
            refine a_goto (pc := 72) (tgt := 58) dX12_taken_72 (by decide) ?_
            refine a_iloadn_3 (pc := 58) dX12_taken_58 ?_
            refine a_iloadn_2 (pc := 59) dX12_taken_59 ?_
            refine n_icmp_eq (tgt := 75) dX12_taken_60 (by decide) (by decide) (by decide) (fun c_60 => by omega) (fun c_60 => ?_)
            refine a_iloadn_3 (pc := 63) dX12_taken_63 ?_
            refine n_if_le (tgt := 75) dX12_taken_64 (by decide) (by decide) (fun c_64 => by omega) (fun c_64 => ?_)
            refine a_iloadn_3 (pc := 67) dX12_taken_67 ?_
            refine cs_X12_343 (pc := 68) rfl dX12_taken_68 (Nat.le_of_ble_eq_true rfl) ?_
            refine m_above_2 (by omega) hz ?_
            refine a_istoren_3 (pc := 71) dX12_taken_71 (by decide) (by first | rfl | trivial) ?_
            refine a_goto (pc := 72) (tgt := 58) dX12_taken_72 (by decide) ?_
            refine a_iloadn_3 (pc := 58) dX12_taken_58 ?_
            refine a_iloadn_2 (pc := 59) dX12_taken_59 ?_
            refine n_icmp_eq (tgt := 75) dX12_taken_60 (by decide) (by decide) (by decide) (fun c_60 => by omega) (fun c_60 => ?_)
            refine a_iloadn_3 (pc := 63) dX12_taken_63 ?_
            refine n_if_le (tgt := 75) dX12_taken_64 (by decide) (by decide) (fun c_64 => ?_) (fun c_64 => by omega)
            refine a_iloadn_3 (pc := 75) dX12_taken_75 ?_
            refine a_iloadn_2 (pc := 76) dX12_taken_76 ?_
            refine n_icmp_ne (tgt := 93) dX12_taken_77 (by decide) (by decide) (by decide) (fun c_77 => ?_) (fun c_77 => by omega)
            refine a_bipush (pc := 93) (v := (-12)) dX12_taken_93 (by decide) ?_
            exact a_iret (pc := 95) dX12_taken_95 rfl (zf hz) (k1 n_dd m 6 (by omega) rfl rfl (by decide) hmb hsm _ (by rw [hkd]; rfl))
          · refine a_ls (ls' := [some _, some _, some _, some _]) ⟨rfl, rfl, rfl, rfl, trivial⟩ ?_
            refine a_iloadn_3 (pc := 58) dX12_taken_58 ?_
            refine a_iloadn_2 (pc := 59) dX12_taken_59 ?_
            refine n_icmp_eq (tgt := 75) dX12_taken_60 (by decide) (by decide) (by decide) (fun c_60 => by omega) (fun c_60 => ?_)
            refine a_iloadn_3 (pc := 63) dX12_taken_63 ?_
            refine n_if_le (tgt := 75) dX12_taken_64 (by decide) (by decide) (fun c_64 => by omega) (fun c_64 => ?_)
            refine a_iloadn_3 (pc := 67) dX12_taken_67 ?_
            refine cs_X12_343 (pc := 68) rfl dX12_taken_68 (Nat.le_of_ble_eq_true rfl) ?_
            refine m_above_3 (by omega) hz ?_
            refine a_istoren_3 (pc := 71) dX12_taken_71 (by decide) (by first | rfl | trivial) ?_
            refine a_goto (pc := 72) (tgt := 58) dX12_taken_72 (by decide) ?_
            refine a_iloadn_3 (pc := 58) dX12_taken_58 ?_
            refine a_iloadn_2 (pc := 59) dX12_taken_59 ?_
            refine n_icmp_eq (tgt := 75) dX12_taken_60 (by decide) (by decide) (by decide) (fun c_60 => by omega) (fun c_60 => ?_)
            refine a_iloadn_3 (pc := 63) dX12_taken_63 ?_
            refine n_if_le (tgt := 75) dX12_taken_64 (by decide) (by decide) (fun c_64 => by omega) (fun c_64 => ?_)
            refine a_iloadn_3 (pc := 67) dX12_taken_67 ?_
            refine cs_X12_343 (pc := 68) rfl dX12_taken_68 (Nat.le_of_ble_eq_true rfl) ?_
            refine m_above_2 (by omega) hz ?_
            refine a_istoren_3 (pc := 71) dX12_taken_71 (by decide) (by first | rfl | trivial) ?_
            refine a_goto (pc := 72) (tgt := 58) dX12_taken_72 (by decide) ?_
            refine a_iloadn_3 (pc := 58) dX12_taken_58 ?_
            refine a_iloadn_2 (pc := 59) dX12_taken_59 ?_
            refine n_icmp_eq (tgt := 75) dX12_taken_60 (by decide) (by decide) (by decide) (fun c_60 => by omega) (fun c_60 => ?_)
            refine a_iloadn_3 (pc := 63) dX12_taken_63 ?_
            refine n_if_le (tgt := 75) dX12_taken_64 (by decide) (by decide) (fun c_64 => ?_) (fun c_64 => by omega)
            refine a_iloadn_3 (pc := 75) dX12_taken_75 ?_
            refine a_iloadn_2 (pc := 76) dX12_taken_76 ?_
            refine n_icmp_ne (tgt := 93) dX12_taken_77 (by decide) (by decide) (by decide) (fun c_77 => ?_) (fun c_77 => by omega)
            refine a_bipush (pc := 93) (v := (-12)) dX12_taken_93 (by decide) ?_
            exact a_iret (pc := 95) dX12_taken_95 rfl (zf hz) (k1 n_dd m 7 (by omega) rfl rfl (by decide) hmb hsm _ (by rw [hkd]; rfl))
          · refine a_ls (ls' := [some _, some _, some _, some _]) ⟨rfl, rfl, rfl, rfl, trivial⟩ ?_
            refine a_iloadn_3 (pc := 58) dX12_taken_58 ?_
            refine a_iloadn_2 (pc := 59) dX12_taken_59 ?_
            refine n_icmp_eq (tgt := 75) dX12_taken_60 (by decide) (by decide) (by decide) (fun c_60 => by omega) (fun c_60 => ?_)
            refine a_iloadn_3 (pc := 63) dX12_taken_63 ?_
            refine n_if_le (tgt := 75) dX12_taken_64 (by decide) (by decide) (fun c_64 => by omega) (fun c_64 => ?_)
            refine a_iloadn_3 (pc := 67) dX12_taken_67 ?_
            refine cs_X12_343 (pc := 68) rfl dX12_taken_68 (Nat.le_of_ble_eq_true rfl) ?_
            refine m_above_4 (by omega) hz ?_
            refine a_istoren_3 (pc := 71) dX12_taken_71 (by decide) (by first | rfl | trivial) ?_
            refine a_goto (pc := 72) (tgt := 58) dX12_taken_72 (by decide) ?_
            refine a_iloadn_3 (pc := 58) dX12_taken_58 ?_
            refine a_iloadn_2 (pc := 59) dX12_taken_59 ?_
            refine n_icmp_eq (tgt := 75) dX12_taken_60 (by decide) (by decide) (by decide) (fun c_60 => by omega) (fun c_60 => ?_)
            refine a_iloadn_3 (pc := 63) dX12_taken_63 ?_
            refine n_if_le (tgt := 75) dX12_taken_64 (by decide) (by decide) (fun c_64 => by omega) (fun c_64 => ?_)
            refine a_iloadn_3 (pc := 67) dX12_taken_67 ?_
            refine cs_X12_343 (pc := 68) rfl dX12_taken_68 (Nat.le_of_ble_eq_true rfl) ?_
            refine m_above_1 (by omega) hz ?_
            refine a_istoren_3 (pc := 71) dX12_taken_71 (by decide) (by first | rfl | trivial) ?_
            refine a_goto (pc := 72) (tgt := 58) dX12_taken_72 (by decide) ?_
            refine a_iloadn_3 (pc := 58) dX12_taken_58 ?_
            refine a_iloadn_2 (pc := 59) dX12_taken_59 ?_
            refine n_icmp_eq (tgt := 75) dX12_taken_60 (by decide) (by decide) (by decide) (fun c_60 => ?_) (fun c_60 => by omega)
            refine a_iloadn_3 (pc := 75) dX12_taken_75 ?_
            refine a_iloadn_2 (pc := 76) dX12_taken_76 ?_
            refine n_icmp_ne (tgt := 93) dX12_taken_77 (by decide) (by decide) (by decide) (fun c_77 => by omega) (fun c_77 => ?_)
            refine a_aloadn_0 (pc := 80) dX12_taken_80 ?_
            refine a_aloadn_0 (pc := 81) dX12_taken_81 ?_
            refine mg_71 hm rfl dX12_taken_82 ?_
            refine a_iloadn_1 (pc := 85) dX12_taken_85 ?_
            refine ml_shelf (x := nI (m)) hm dX12_taken_86 (by omega) hsm ?_
            refine cv_X12_340 (pc := 87) rfl dX12_taken_87 hm.2.2.1 (Nat.le_of_ble_eq_true rfl) ?_
            refine m_kindOf (by omega) hz hm (by omega) ?_
            rw [hkd]
            refine a_goto (pc := 90) (tgt := 95) dX12_taken_90 (by decide) ?_
            exact a_iret (pc := 95) dX12_taken_95 rfl (zf hz) (k1 n_dd m 0 (by omega) rfl rfl (by decide) hmb hsm _ (by rw [hkd]; rfl))
          · refine a_ls (ls' := [some _, some _, some _, some _]) ⟨rfl, rfl, rfl, rfl, trivial⟩ ?_
            refine a_iloadn_3 (pc := 58) dX12_taken_58 ?_
            refine a_iloadn_2 (pc := 59) dX12_taken_59 ?_
            refine n_icmp_eq (tgt := 75) dX12_taken_60 (by decide) (by decide) (by decide) (fun c_60 => by omega) (fun c_60 => ?_)
            refine a_iloadn_3 (pc := 63) dX12_taken_63 ?_
            refine n_if_le (tgt := 75) dX12_taken_64 (by decide) (by decide) (fun c_64 => by omega) (fun c_64 => ?_)
            refine a_iloadn_3 (pc := 67) dX12_taken_67 ?_
            refine cs_X12_343 (pc := 68) rfl dX12_taken_68 (Nat.le_of_ble_eq_true rfl) ?_
            refine m_above_4 (by omega) hz ?_
            refine a_istoren_3 (pc := 71) dX12_taken_71 (by decide) (by first | rfl | trivial) ?_
            refine a_goto (pc := 72) (tgt := 58) dX12_taken_72 (by decide) ?_
            refine a_iloadn_3 (pc := 58) dX12_taken_58 ?_
            refine a_iloadn_2 (pc := 59) dX12_taken_59 ?_
            refine n_icmp_eq (tgt := 75) dX12_taken_60 (by decide) (by decide) (by decide) (fun c_60 => ?_) (fun c_60 => by omega)
            refine a_iloadn_3 (pc := 75) dX12_taken_75 ?_
            refine a_iloadn_2 (pc := 76) dX12_taken_76 ?_
            refine n_icmp_ne (tgt := 93) dX12_taken_77 (by decide) (by decide) (by decide) (fun c_77 => by omega) (fun c_77 => ?_)
            refine a_aloadn_0 (pc := 80) dX12_taken_80 ?_
            refine a_aloadn_0 (pc := 81) dX12_taken_81 ?_
            refine mg_71 hm rfl dX12_taken_82 ?_
            refine a_iloadn_1 (pc := 85) dX12_taken_85 ?_
            refine ml_shelf (x := nI (m)) hm dX12_taken_86 (by omega) hsm ?_
            refine cv_X12_340 (pc := 87) rfl dX12_taken_87 hm.2.2.1 (Nat.le_of_ble_eq_true rfl) ?_
            refine m_kindOf (by omega) hz hm (by omega) ?_
            rw [hkd]
            refine a_goto (pc := 90) (tgt := 95) dX12_taken_90 (by decide) ?_
            exact a_iret (pc := 95) dX12_taken_95 rfl (zf hz) (k1 n_dd m 1 (by omega) rfl rfl (by decide) hmb hsm _ (by rw [hkd]; rfl))
          · refine a_ls (ls' := [some _, some _, some _, some _]) ⟨rfl, rfl, rfl, rfl, trivial⟩ ?_
            refine a_iloadn_3 (pc := 58) dX12_taken_58 ?_
            refine a_iloadn_2 (pc := 59) dX12_taken_59 ?_
            refine n_icmp_eq (tgt := 75) dX12_taken_60 (by decide) (by decide) (by decide) (fun c_60 => by omega) (fun c_60 => ?_)
            refine a_iloadn_3 (pc := 63) dX12_taken_63 ?_
            refine n_if_le (tgt := 75) dX12_taken_64 (by decide) (by decide) (fun c_64 => by omega) (fun c_64 => ?_)
            refine a_iloadn_3 (pc := 67) dX12_taken_67 ?_
            refine cs_X12_343 (pc := 68) rfl dX12_taken_68 (Nat.le_of_ble_eq_true rfl) ?_
            refine m_above_4 (by omega) hz ?_
            refine a_istoren_3 (pc := 71) dX12_taken_71 (by decide) (by first | rfl | trivial) ?_
            refine a_goto (pc := 72) (tgt := 58) dX12_taken_72 (by decide) ?_
            refine a_iloadn_3 (pc := 58) dX12_taken_58 ?_
            refine a_iloadn_2 (pc := 59) dX12_taken_59 ?_
            refine n_icmp_eq (tgt := 75) dX12_taken_60 (by decide) (by decide) (by decide) (fun c_60 => by omega) (fun c_60 => ?_)
            refine a_iloadn_3 (pc := 63) dX12_taken_63 ?_
            refine n_if_le (tgt := 75) dX12_taken_64 (by decide) (by decide) (fun c_64 => by omega) (fun c_64 => ?_)
            refine a_iloadn_3 (pc := 67) dX12_taken_67 ?_
            refine cs_X12_343 (pc := 68) rfl dX12_taken_68 (Nat.le_of_ble_eq_true rfl) ?_
            refine m_above_1 (by omega) hz ?_
            refine a_istoren_3 (pc := 71) dX12_taken_71 (by decide) (by first | rfl | trivial) ?_
            refine a_goto (pc := 72) (tgt := 58) dX12_taken_72 (by decide) ?_
            refine a_iloadn_3 (pc := 58) dX12_taken_58 ?_
            refine a_iloadn_2 (pc := 59) dX12_taken_59 ?_
            refine n_icmp_eq (tgt := 75) dX12_taken_60 (by decide) (by decide) (by decide) (fun c_60 => by omega) (fun c_60 => ?_)
            refine a_iloadn_3 (pc := 63) dX12_taken_63 ?_
            refine n_if_le (tgt := 75) dX12_taken_64 (by decide) (by decide) (fun c_64 => ?_) (fun c_64 => by omega)
            refine a_iloadn_3 (pc := 75) dX12_taken_75 ?_
            refine a_iloadn_2 (pc := 76) dX12_taken_76 ?_
            refine n_icmp_ne (tgt := 93) dX12_taken_77 (by decide) (by decide) (by decide) (fun c_77 => ?_) (fun c_77 => by omega)
            refine a_bipush (pc := 93) (v := (-12)) dX12_taken_93 (by decide) ?_
            exact a_iret (pc := 95) dX12_taken_95 rfl (zf hz) (k1 n_dd m 2 (by omega) rfl rfl (by decide) hmb hsm _ (by rw [hkd]; rfl))
          · refine a_ls (ls' := [some _, some _, some _, some _]) ⟨rfl, rfl, rfl, rfl, trivial⟩ ?_
            refine a_iloadn_3 (pc := 58) dX12_taken_58 ?_
            refine a_iloadn_2 (pc := 59) dX12_taken_59 ?_
            refine n_icmp_eq (tgt := 75) dX12_taken_60 (by decide) (by decide) (by decide) (fun c_60 => by omega) (fun c_60 => ?_)
            refine a_iloadn_3 (pc := 63) dX12_taken_63 ?_
            refine n_if_le (tgt := 75) dX12_taken_64 (by decide) (by decide) (fun c_64 => by omega) (fun c_64 => ?_)
            refine a_iloadn_3 (pc := 67) dX12_taken_67 ?_
            refine cs_X12_343 (pc := 68) rfl dX12_taken_68 (Nat.le_of_ble_eq_true rfl) ?_
            refine m_above_4 (by omega) hz ?_
            refine a_istoren_3 (pc := 71) dX12_taken_71 (by decide) (by first | rfl | trivial) ?_
            refine a_goto (pc := 72) (tgt := 58) dX12_taken_72 (by decide) ?_
            refine a_iloadn_3 (pc := 58) dX12_taken_58 ?_
            refine a_iloadn_2 (pc := 59) dX12_taken_59 ?_
            refine n_icmp_eq (tgt := 75) dX12_taken_60 (by decide) (by decide) (by decide) (fun c_60 => by omega) (fun c_60 => ?_)
            refine a_iloadn_3 (pc := 63) dX12_taken_63 ?_
            refine n_if_le (tgt := 75) dX12_taken_64 (by decide) (by decide) (fun c_64 => by omega) (fun c_64 => ?_)
            refine a_iloadn_3 (pc := 67) dX12_taken_67 ?_
            refine cs_X12_343 (pc := 68) rfl dX12_taken_68 (Nat.le_of_ble_eq_true rfl) ?_
            refine m_above_1 (by omega) hz ?_
            refine a_istoren_3 (pc := 71) dX12_taken_71 (by decide) (by first | rfl | trivial) ?_
            refine a_goto (pc := 72) (tgt := 58) dX12_taken_72 (by decide) ?_
            refine a_iloadn_3 (pc := 58) dX12_taken_58 ?_
            refine a_iloadn_2 (pc := 59) dX12_taken_59 ?_
            refine n_icmp_eq (tgt := 75) dX12_taken_60 (by decide) (by decide) (by decide) (fun c_60 => by omega) (fun c_60 => ?_)
            refine a_iloadn_3 (pc := 63) dX12_taken_63 ?_
            refine n_if_le (tgt := 75) dX12_taken_64 (by decide) (by decide) (fun c_64 => ?_) (fun c_64 => by omega)
            refine a_iloadn_3 (pc := 75) dX12_taken_75 ?_
            refine a_iloadn_2 (pc := 76) dX12_taken_76 ?_
            refine n_icmp_ne (tgt := 93) dX12_taken_77 (by decide) (by decide) (by decide) (fun c_77 => ?_) (fun c_77 => by omega)
            refine a_bipush (pc := 93) (v := (-12)) dX12_taken_93 (by decide) ?_
            exact a_iret (pc := 95) dX12_taken_95 rfl (zf hz) (k1 n_dd m 3 (by omega) rfl rfl (by decide) hmb hsm _ (by rw [hkd]; rfl))
          · refine a_ls (ls' := [some _, some _, some _, some _]) ⟨rfl, rfl, rfl, rfl, trivial⟩ ?_
            refine a_iloadn_3 (pc := 58) dX12_taken_58 ?_
            refine a_iloadn_2 (pc := 59) dX12_taken_59 ?_
            refine n_icmp_eq (tgt := 75) dX12_taken_60 (by decide) (by decide) (by decide) (fun c_60 => ?_) (fun c_60 => by omega)
            refine a_iloadn_3 (pc := 75) dX12_taken_75 ?_
            refine a_iloadn_2 (pc := 76) dX12_taken_76 ?_
            refine n_icmp_ne (tgt := 93) dX12_taken_77 (by decide) (by decide) (by decide) (fun c_77 => by omega) (fun c_77 => ?_)
            refine a_aloadn_0 (pc := 80) dX12_taken_80 ?_
            refine a_aloadn_0 (pc := 81) dX12_taken_81 ?_
            refine mg_71 hm rfl dX12_taken_82 ?_
            refine a_iloadn_1 (pc := 85) dX12_taken_85 ?_
            refine ml_shelf (x := nI (m)) hm dX12_taken_86 (by omega) hsm ?_
            refine cv_X12_340 (pc := 87) rfl dX12_taken_87 hm.2.2.1 (Nat.le_of_ble_eq_true rfl) ?_
            refine m_kindOf (by omega) hz hm (by omega) ?_
            rw [hkd]
            refine a_goto (pc := 90) (tgt := 95) dX12_taken_90 (by decide) ?_
            exact a_iret (pc := 95) dX12_taken_95 rfl (zf hz) (k1 n_dd m 4 (by omega) rfl rfl (by decide) hmb hsm _ (by rw [hkd]; rfl))
          · refine a_ls (ls' := [some _, some _, some _, some _]) ⟨rfl, rfl, rfl, rfl, trivial⟩ ?_
            refine a_iloadn_3 (pc := 58) dX12_taken_58 ?_
            refine a_iloadn_2 (pc := 59) dX12_taken_59 ?_
            refine n_icmp_eq (tgt := 75) dX12_taken_60 (by decide) (by decide) (by decide) (fun c_60 => by omega) (fun c_60 => ?_)
            refine a_iloadn_3 (pc := 63) dX12_taken_63 ?_
            refine n_if_le (tgt := 75) dX12_taken_64 (by decide) (by decide) (fun c_64 => by omega) (fun c_64 => ?_)
            refine a_iloadn_3 (pc := 67) dX12_taken_67 ?_
            refine cs_X12_343 (pc := 68) rfl dX12_taken_68 (Nat.le_of_ble_eq_true rfl) ?_
            refine m_above_4 (by omega) hz ?_
            refine a_istoren_3 (pc := 71) dX12_taken_71 (by decide) (by first | rfl | trivial) ?_
            refine a_goto (pc := 72) (tgt := 58) dX12_taken_72 (by decide) ?_
            refine a_iloadn_3 (pc := 58) dX12_taken_58 ?_
            refine a_iloadn_2 (pc := 59) dX12_taken_59 ?_
            refine n_icmp_eq (tgt := 75) dX12_taken_60 (by decide) (by decide) (by decide) (fun c_60 => by omega) (fun c_60 => ?_)
            refine a_iloadn_3 (pc := 63) dX12_taken_63 ?_
            refine n_if_le (tgt := 75) dX12_taken_64 (by decide) (by decide) (fun c_64 => by omega) (fun c_64 => ?_)
            refine a_iloadn_3 (pc := 67) dX12_taken_67 ?_
            refine cs_X12_343 (pc := 68) rfl dX12_taken_68 (Nat.le_of_ble_eq_true rfl) ?_
            refine m_above_1 (by omega) hz ?_
            refine a_istoren_3 (pc := 71) dX12_taken_71 (by decide) (by first | rfl | trivial) ?_
            refine a_goto (pc := 72) (tgt := 58) dX12_taken_72 (by decide) ?_
            refine a_iloadn_3 (pc := 58) dX12_taken_58 ?_
            refine a_iloadn_2 (pc := 59) dX12_taken_59 ?_
            refine n_icmp_eq (tgt := 75) dX12_taken_60 (by decide) (by decide) (by decide) (fun c_60 => by omega) (fun c_60 => ?_)
            refine a_iloadn_3 (pc := 63) dX12_taken_63 ?_
            refine n_if_le (tgt := 75) dX12_taken_64 (by decide) (by decide) (fun c_64 => ?_) (fun c_64 => by omega)
            refine a_iloadn_3 (pc := 75) dX12_taken_75 ?_
            refine a_iloadn_2 (pc := 76) dX12_taken_76 ?_
            refine n_icmp_ne (tgt := 93) dX12_taken_77 (by decide) (by decide) (by decide) (fun c_77 => ?_) (fun c_77 => by omega)
            refine a_bipush (pc := 93) (v := (-12)) dX12_taken_93 (by decide) ?_
            exact a_iret (pc := 95) dX12_taken_95 rfl (zf hz) (k1 n_dd m 5 (by omega) rfl rfl (by decide) hmb hsm _ (by rw [hkd]; rfl))
          · refine a_ls (ls' := [some _, some _, some _, some _]) ⟨rfl, rfl, rfl, rfl, trivial⟩ ?_
            refine a_iloadn_3 (pc := 58) dX12_taken_58 ?_
            refine a_iloadn_2 (pc := 59) dX12_taken_59 ?_
            refine n_icmp_eq (tgt := 75) dX12_taken_60 (by decide) (by decide) (by decide) (fun c_60 => by omega) (fun c_60 => ?_)
            refine a_iloadn_3 (pc := 63) dX12_taken_63 ?_
            refine n_if_le (tgt := 75) dX12_taken_64 (by decide) (by decide) (fun c_64 => by omega) (fun c_64 => ?_)
            refine a_iloadn_3 (pc := 67) dX12_taken_67 ?_
            refine cs_X12_343 (pc := 68) rfl dX12_taken_68 (Nat.le_of_ble_eq_true rfl) ?_
            refine m_above_4 (by omega) hz ?_
            refine a_istoren_3 (pc := 71) dX12_taken_71 (by decide) (by first | rfl | trivial) ?_
            refine a_goto (pc := 72) (tgt := 58) dX12_taken_72 (by decide) ?_
            refine a_iloadn_3 (pc := 58) dX12_taken_58 ?_
            refine a_iloadn_2 (pc := 59) dX12_taken_59 ?_
            refine n_icmp_eq (tgt := 75) dX12_taken_60 (by decide) (by decide) (by decide) (fun c_60 => by omega) (fun c_60 => ?_)
            refine a_iloadn_3 (pc := 63) dX12_taken_63 ?_
            refine n_if_le (tgt := 75) dX12_taken_64 (by decide) (by decide) (fun c_64 => by omega) (fun c_64 => ?_)
            refine a_iloadn_3 (pc := 67) dX12_taken_67 ?_
            refine cs_X12_343 (pc := 68) rfl dX12_taken_68 (Nat.le_of_ble_eq_true rfl) ?_
            refine m_above_1 (by omega) hz ?_
            refine a_istoren_3 (pc := 71) dX12_taken_71 (by decide) (by first | rfl | trivial) ?_
            refine a_goto (pc := 72) (tgt := 58) dX12_taken_72 (by decide) ?_
            refine a_iloadn_3 (pc := 58) dX12_taken_58 ?_
            refine a_iloadn_2 (pc := 59) dX12_taken_59 ?_
            refine n_icmp_eq (tgt := 75) dX12_taken_60 (by decide) (by decide) (by decide) (fun c_60 => by omega) (fun c_60 => ?_)
            refine a_iloadn_3 (pc := 63) dX12_taken_63 ?_
            refine n_if_le (tgt := 75) dX12_taken_64 (by decide) (by decide) (fun c_64 => ?_) (fun c_64 => by omega)
            refine a_iloadn_3 (pc := 75) dX12_taken_75 ?_
            refine a_iloadn_2 (pc := 76) dX12_taken_76 ?_
            refine n_icmp_ne (tgt := 93) dX12_taken_77 (by decide) (by decide) (by decide) (fun c_77 => ?_) (fun c_77 => by omega)
            refine a_bipush (pc := 93) (v := (-12)) dX12_taken_93 (by decide) ?_
            exact a_iret (pc := 95) dX12_taken_95 rfl (zf hz) (k1 n_dd m 6 (by omega) rfl rfl (by decide) hmb hsm _ (by rw [hkd]; rfl))
          · refine a_ls (ls' := [some _, some _, some _, some _]) ⟨rfl, rfl, rfl, rfl, trivial⟩ ?_
            refine a_iloadn_3 (pc := 58) dX12_taken_58 ?_
            refine a_iloadn_2 (pc := 59) dX12_taken_59 ?_
            refine n_icmp_eq (tgt := 75) dX12_taken_60 (by decide) (by decide) (by decide) (fun c_60 => by omega) (fun c_60 => ?_)
            refine a_iloadn_3 (pc := 63) dX12_taken_63 ?_
            refine n_if_le (tgt := 75) dX12_taken_64 (by decide) (by decide) (fun c_64 => by omega) (fun c_64 => ?_)
            refine a_iloadn_3 (pc := 67) dX12_taken_67 ?_
            refine cs_X12_343 (pc := 68) rfl dX12_taken_68 (Nat.le_of_ble_eq_true rfl) ?_
            refine m_above_4 (by omega) hz ?_
            refine a_istoren_3 (pc := 71) dX12_taken_71 (by decide) (by first | rfl | trivial) ?_
            refine a_goto (pc := 72) (tgt := 58) dX12_taken_72 (by decide) ?_
            refine a_iloadn_3 (pc := 58) dX12_taken_58 ?_
            refine a_iloadn_2 (pc := 59) dX12_taken_59 ?_
            refine n_icmp_eq (tgt := 75) dX12_taken_60 (by decide) (by decide) (by decide) (fun c_60 => by omega) (fun c_60 => ?_)
            refine a_iloadn_3 (pc := 63) dX12_taken_63 ?_
            refine n_if_le (tgt := 75) dX12_taken_64 (by decide) (by decide) (fun c_64 => by omega) (fun c_64 => ?_)
            refine a_iloadn_3 (pc := 67) dX12_taken_67 ?_
            refine cs_X12_343 (pc := 68) rfl dX12_taken_68 (Nat.le_of_ble_eq_true rfl) ?_
            refine m_above_1 (by omega) hz ?_
            refine a_istoren_3 (pc := 71) dX12_taken_71 (by decide) (by first | rfl | trivial) ?_
            refine a_goto (pc := 72) (tgt := 58) dX12_taken_72 (by decide) ?_
            refine a_iloadn_3 (pc := 58) dX12_taken_58 ?_
            refine a_iloadn_2 (pc := 59) dX12_taken_59 ?_
            refine n_icmp_eq (tgt := 75) dX12_taken_60 (by decide) (by decide) (by decide) (fun c_60 => by omega) (fun c_60 => ?_)
            refine a_iloadn_3 (pc := 63) dX12_taken_63 ?_
            refine n_if_le (tgt := 75) dX12_taken_64 (by decide) (by decide) (fun c_64 => ?_) (fun c_64 => by omega)
            refine a_iloadn_3 (pc := 75) dX12_taken_75 ?_
            refine a_iloadn_2 (pc := 76) dX12_taken_76 ?_
            refine n_icmp_ne (tgt := 93) dX12_taken_77 (by decide) (by decide) (by decide) (fun c_77 => ?_) (fun c_77 => by omega)
            refine a_bipush (pc := 93) (v := (-12)) dX12_taken_93 (by decide) ?_
            exact a_iret (pc := 95) dX12_taken_95 rfl (zf hz) (k1 n_dd m 7 (by omega) rfl rfl (by decide) hmb hsm _ (by rw [hkd]; rfl))
          · refine a_ls (ls' := [some _, some _, some _, some _]) ⟨rfl, rfl, rfl, rfl, trivial⟩ ?_
            refine a_iloadn_3 (pc := 58) dX12_taken_58 ?_
            refine a_iloadn_2 (pc := 59) dX12_taken_59 ?_
            refine n_icmp_eq (tgt := 75) dX12_taken_60 (by decide) (by decide) (by decide) (fun c_60 => by omega) (fun c_60 => ?_)
            refine a_iloadn_3 (pc := 63) dX12_taken_63 ?_
            refine n_if_le (tgt := 75) dX12_taken_64 (by decide) (by decide) (fun c_64 => by omega) (fun c_64 => ?_)
            refine a_iloadn_3 (pc := 67) dX12_taken_67 ?_
            refine cs_X12_343 (pc := 68) rfl dX12_taken_68 (Nat.le_of_ble_eq_true rfl) ?_
            refine m_above_5 (by omega) hz ?_
            refine a_istoren_3 (pc := 71) dX12_taken_71 (by decide) (by first | rfl | trivial) ?_
            refine a_goto (pc := 72) (tgt := 58) dX12_taken_72 (by decide) ?_
            refine a_iloadn_3 (pc := 58) dX12_taken_58 ?_
            refine a_iloadn_2 (pc := 59) dX12_taken_59 ?_
            refine n_icmp_eq (tgt := 75) dX12_taken_60 (by decide) (by decide) (by decide) (fun c_60 => by omega) (fun c_60 => ?_)
            refine a_iloadn_3 (pc := 63) dX12_taken_63 ?_
            refine n_if_le (tgt := 75) dX12_taken_64 (by decide) (by decide) (fun c_64 => by omega) (fun c_64 => ?_)
            refine a_iloadn_3 (pc := 67) dX12_taken_67 ?_
            refine cs_X12_343 (pc := 68) rfl dX12_taken_68 (Nat.le_of_ble_eq_true rfl) ?_
            refine m_above_3 (by omega) hz ?_
            refine a_istoren_3 (pc := 71) dX12_taken_71 (by decide) (by first | rfl | trivial) ?_
            refine a_goto (pc := 72) (tgt := 58) dX12_taken_72 (by decide) ?_
            refine a_iloadn_3 (pc := 58) dX12_taken_58 ?_
            refine a_iloadn_2 (pc := 59) dX12_taken_59 ?_
            refine n_icmp_eq (tgt := 75) dX12_taken_60 (by decide) (by decide) (by decide) (fun c_60 => by omega) (fun c_60 => ?_)
            refine a_iloadn_3 (pc := 63) dX12_taken_63 ?_
            refine n_if_le (tgt := 75) dX12_taken_64 (by decide) (by decide) (fun c_64 => by omega) (fun c_64 => ?_)
            refine a_iloadn_3 (pc := 67) dX12_taken_67 ?_
            refine cs_X12_343 (pc := 68) rfl dX12_taken_68 (Nat.le_of_ble_eq_true rfl) ?_
            refine m_above_2 (by omega) hz ?_
            refine a_istoren_3 (pc := 71) dX12_taken_71 (by decide) (by first | rfl | trivial) ?_
            refine a_goto (pc := 72) (tgt := 58) dX12_taken_72 (by decide) ?_
            refine a_iloadn_3 (pc := 58) dX12_taken_58 ?_
            refine a_iloadn_2 (pc := 59) dX12_taken_59 ?_
            refine n_icmp_eq (tgt := 75) dX12_taken_60 (by decide) (by decide) (by decide) (fun c_60 => ?_) (fun c_60 => by omega)
            refine a_iloadn_3 (pc := 75) dX12_taken_75 ?_
            refine a_iloadn_2 (pc := 76) dX12_taken_76 ?_
            refine n_icmp_ne (tgt := 93) dX12_taken_77 (by decide) (by decide) (by decide) (fun c_77 => by omega) (fun c_77 => ?_)
            refine a_aloadn_0 (pc := 80) dX12_taken_80 ?_
            refine a_aloadn_0 (pc := 81) dX12_taken_81 ?_
            refine mg_71 hm rfl dX12_taken_82 ?_
            refine a_iloadn_1 (pc := 85) dX12_taken_85 ?_
            refine ml_shelf (x := nI (m)) hm dX12_taken_86 (by omega) hsm ?_
            refine cv_X12_340 (pc := 87) rfl dX12_taken_87 hm.2.2.1 (Nat.le_of_ble_eq_true rfl) ?_
            refine m_kindOf (by omega) hz hm (by omega) ?_
            rw [hkd]
            refine a_goto (pc := 90) (tgt := 95) dX12_taken_90 (by decide) ?_
            exact a_iret (pc := 95) dX12_taken_95 rfl (zf hz) (k1 n_dd m 0 (by omega) rfl rfl (by decide) hmb hsm _ (by rw [hkd]; rfl))
          · refine a_ls (ls' := [some _, some _, some _, some _]) ⟨rfl, rfl, rfl, rfl, trivial⟩ ?_
            refine a_iloadn_3 (pc := 58) dX12_taken_58 ?_
            refine a_iloadn_2 (pc := 59) dX12_taken_59 ?_
            refine n_icmp_eq (tgt := 75) dX12_taken_60 (by decide) (by decide) (by decide) (fun c_60 => by omega) (fun c_60 => ?_)
            refine a_iloadn_3 (pc := 63) dX12_taken_63 ?_
            refine n_if_le (tgt := 75) dX12_taken_64 (by decide) (by decide) (fun c_64 => by omega) (fun c_64 => ?_)
            refine a_iloadn_3 (pc := 67) dX12_taken_67 ?_
            refine cs_X12_343 (pc := 68) rfl dX12_taken_68 (Nat.le_of_ble_eq_true rfl) ?_
            refine m_above_5 (by omega) hz ?_
            refine a_istoren_3 (pc := 71) dX12_taken_71 (by decide) (by first | rfl | trivial) ?_
            refine a_goto (pc := 72) (tgt := 58) dX12_taken_72 (by decide) ?_
            refine a_iloadn_3 (pc := 58) dX12_taken_58 ?_
            refine a_iloadn_2 (pc := 59) dX12_taken_59 ?_
            refine n_icmp_eq (tgt := 75) dX12_taken_60 (by decide) (by decide) (by decide) (fun c_60 => by omega) (fun c_60 => ?_)
            refine a_iloadn_3 (pc := 63) dX12_taken_63 ?_
            refine n_if_le (tgt := 75) dX12_taken_64 (by decide) (by decide) (fun c_64 => by omega) (fun c_64 => ?_)
            refine a_iloadn_3 (pc := 67) dX12_taken_67 ?_
            refine cs_X12_343 (pc := 68) rfl dX12_taken_68 (Nat.le_of_ble_eq_true rfl) ?_
            refine m_above_3 (by omega) hz ?_
            refine a_istoren_3 (pc := 71) dX12_taken_71 (by decide) (by first | rfl | trivial) ?_
            refine a_goto (pc := 72) (tgt := 58) dX12_taken_72 (by decide) ?_
            refine a_iloadn_3 (pc := 58) dX12_taken_58 ?_
            refine a_iloadn_2 (pc := 59) dX12_taken_59 ?_
            refine n_icmp_eq (tgt := 75) dX12_taken_60 (by decide) (by decide) (by decide) (fun c_60 => by omega) (fun c_60 => ?_)
            refine a_iloadn_3 (pc := 63) dX12_taken_63 ?_
            refine n_if_le (tgt := 75) dX12_taken_64 (by decide) (by decide) (fun c_64 => by omega) (fun c_64 => ?_)
            refine a_iloadn_3 (pc := 67) dX12_taken_67 ?_
            refine cs_X12_343 (pc := 68) rfl dX12_taken_68 (Nat.le_of_ble_eq_true rfl) ?_
            refine m_above_2 (by omega) hz ?_
            refine a_istoren_3 (pc := 71) dX12_taken_71 (by decide) (by first | rfl | trivial) ?_
            refine a_goto (pc := 72) (tgt := 58) dX12_taken_72 (by decide) ?_
            refine a_iloadn_3 (pc := 58) dX12_taken_58 ?_
            refine a_iloadn_2 (pc := 59) dX12_taken_59 ?_
            refine n_icmp_eq (tgt := 75) dX12_taken_60 (by decide) (by decide) (by decide) (fun c_60 => by omega) (fun c_60 => ?_)
            refine a_iloadn_3 (pc := 63) dX12_taken_63 ?_
            refine n_if_le (tgt := 75) dX12_taken_64 (by decide) (by decide) (fun c_64 => ?_) (fun c_64 => by omega)
            refine a_iloadn_3 (pc := 75) dX12_taken_75 ?_
            refine a_iloadn_2 (pc := 76) dX12_taken_76 ?_
            refine n_icmp_ne (tgt := 93) dX12_taken_77 (by decide) (by decide) (by decide) (fun c_77 => ?_) (fun c_77 => by omega)
            refine a_bipush (pc := 93) (v := (-12)) dX12_taken_93 (by decide) ?_
            exact a_iret (pc := 95) dX12_taken_95 rfl (zf hz) (k1 n_dd m 1 (by omega) rfl rfl (by decide) hmb hsm _ (by rw [hkd]; rfl))
          · refine a_ls (ls' := [some _, some _, some _, some _]) ⟨rfl, rfl, rfl, rfl, trivial⟩ ?_
            refine a_iloadn_3 (pc := 58) dX12_taken_58 ?_
            refine a_iloadn_2 (pc := 59) dX12_taken_59 ?_
            refine n_icmp_eq (tgt := 75) dX12_taken_60 (by decide) (by decide) (by decide) (fun c_60 => by omega) (fun c_60 => ?_)
            refine a_iloadn_3 (pc := 63) dX12_taken_63 ?_
            refine n_if_le (tgt := 75) dX12_taken_64 (by decide) (by decide) (fun c_64 => by omega) (fun c_64 => ?_)
            refine a_iloadn_3 (pc := 67) dX12_taken_67 ?_
            refine cs_X12_343 (pc := 68) rfl dX12_taken_68 (Nat.le_of_ble_eq_true rfl) ?_
            refine m_above_5 (by omega) hz ?_
            refine a_istoren_3 (pc := 71) dX12_taken_71 (by decide) (by first | rfl | trivial) ?_
            refine a_goto (pc := 72) (tgt := 58) dX12_taken_72 (by decide) ?_
            refine a_iloadn_3 (pc := 58) dX12_taken_58 ?_
            refine a_iloadn_2 (pc := 59) dX12_taken_59 ?_
            refine n_icmp_eq (tgt := 75) dX12_taken_60 (by decide) (by decide) (by decide) (fun c_60 => by omega) (fun c_60 => ?_)
            refine a_iloadn_3 (pc := 63) dX12_taken_63 ?_
            refine n_if_le (tgt := 75) dX12_taken_64 (by decide) (by decide) (fun c_64 => by omega) (fun c_64 => ?_)
            refine a_iloadn_3 (pc := 67) dX12_taken_67 ?_
            refine cs_X12_343 (pc := 68) rfl dX12_taken_68 (Nat.le_of_ble_eq_true rfl) ?_
            refine m_above_3 (by omega) hz ?_
            refine a_istoren_3 (pc := 71) dX12_taken_71 (by decide) (by first | rfl | trivial) ?_
            refine a_goto (pc := 72) (tgt := 58) dX12_taken_72 (by decide) ?_
            refine a_iloadn_3 (pc := 58) dX12_taken_58 ?_
            refine a_iloadn_2 (pc := 59) dX12_taken_59 ?_
            refine n_icmp_eq (tgt := 75) dX12_taken_60 (by decide) (by decide) (by decide) (fun c_60 => ?_) (fun c_60 => by omega)
            refine a_iloadn_3 (pc := 75) dX12_taken_75 ?_
            refine a_iloadn_2 (pc := 76) dX12_taken_76 ?_
            refine n_icmp_ne (tgt := 93) dX12_taken_77 (by decide) (by decide) (by decide) (fun c_77 => by omega) (fun c_77 => ?_)
            refine a_aloadn_0 (pc := 80) dX12_taken_80 ?_
            refine a_aloadn_0 (pc := 81) dX12_taken_81 ?_
            refine mg_71 hm rfl dX12_taken_82 ?_
            refine a_iloadn_1 (pc := 85) dX12_taken_85 ?_
            refine ml_shelf (x := nI (m)) hm dX12_taken_86 (by omega) hsm ?_
            refine cv_X12_340 (pc := 87) rfl dX12_taken_87 hm.2.2.1 (Nat.le_of_ble_eq_true rfl) ?_
            refine m_kindOf (by omega) hz hm (by omega) ?_
            rw [hkd]
            refine a_goto (pc := 90) (tgt := 95) dX12_taken_90 (by decide) ?_
            exact a_iret (pc := 95) dX12_taken_95 rfl (zf hz) (k1 n_dd m 2 (by omega) rfl rfl (by decide) hmb hsm _ (by rw [hkd]; rfl))
          · refine a_ls (ls' := [some _, some _, some _, some _]) ⟨rfl, rfl, rfl, rfl, trivial⟩ ?_
            refine a_iloadn_3 (pc := 58) dX12_taken_58 ?_
            refine a_iloadn_2 (pc := 59) dX12_taken_59 ?_
            refine n_icmp_eq (tgt := 75) dX12_taken_60 (by decide) (by decide) (by decide) (fun c_60 => by omega) (fun c_60 => ?_)
            refine a_iloadn_3 (pc := 63) dX12_taken_63 ?_
            refine n_if_le (tgt := 75) dX12_taken_64 (by decide) (by decide) (fun c_64 => by omega) (fun c_64 => ?_)
            refine a_iloadn_3 (pc := 67) dX12_taken_67 ?_
            refine cs_X12_343 (pc := 68) rfl dX12_taken_68 (Nat.le_of_ble_eq_true rfl) ?_
            refine m_above_5 (by omega) hz ?_
            refine a_istoren_3 (pc := 71) dX12_taken_71 (by decide) (by first | rfl | trivial) ?_
            refine a_goto (pc := 72) (tgt := 58) dX12_taken_72 (by decide) ?_
            refine a_iloadn_3 (pc := 58) dX12_taken_58 ?_
            refine a_iloadn_2 (pc := 59) dX12_taken_59 ?_
            refine n_icmp_eq (tgt := 75) dX12_taken_60 (by decide) (by decide) (by decide) (fun c_60 => ?_) (fun c_60 => by omega)
            refine a_iloadn_3 (pc := 75) dX12_taken_75 ?_
            refine a_iloadn_2 (pc := 76) dX12_taken_76 ?_
            refine n_icmp_ne (tgt := 93) dX12_taken_77 (by decide) (by decide) (by decide) (fun c_77 => by omega) (fun c_77 => ?_)
            refine a_aloadn_0 (pc := 80) dX12_taken_80 ?_
            refine a_aloadn_0 (pc := 81) dX12_taken_81 ?_
            refine mg_71 hm rfl dX12_taken_82 ?_
            refine a_iloadn_1 (pc := 85) dX12_taken_85 ?_
            refine ml_shelf (x := nI (m)) hm dX12_taken_86 (by omega) hsm ?_
            refine cv_X12_340 (pc := 87) rfl dX12_taken_87 hm.2.2.1 (Nat.le_of_ble_eq_true rfl) ?_
            refine m_kindOf (by omega) hz hm (by omega) ?_
            rw [hkd]
            refine a_goto (pc := 90) (tgt := 95) dX12_taken_90 (by decide) ?_
            exact a_iret (pc := 95) dX12_taken_95 rfl (zf hz) (k1 n_dd m 3 (by omega) rfl rfl (by decide) hmb hsm _ (by rw [hkd]; rfl))
          · refine a_ls (ls' := [some _, some _, some _, some _]) ⟨rfl, rfl, rfl, rfl, trivial⟩ ?_
            refine a_iloadn_3 (pc := 58) dX12_taken_58 ?_
            refine a_iloadn_2 (pc := 59) dX12_taken_59 ?_
            refine n_icmp_eq (tgt := 75) dX12_taken_60 (by decide) (by decide) (by decide) (fun c_60 => by omega) (fun c_60 => ?_)
            refine a_iloadn_3 (pc := 63) dX12_taken_63 ?_
            refine n_if_le (tgt := 75) dX12_taken_64 (by decide) (by decide) (fun c_64 => by omega) (fun c_64 => ?_)
            refine a_iloadn_3 (pc := 67) dX12_taken_67 ?_
            refine cs_X12_343 (pc := 68) rfl dX12_taken_68 (Nat.le_of_ble_eq_true rfl) ?_
            refine m_above_5 (by omega) hz ?_
            refine a_istoren_3 (pc := 71) dX12_taken_71 (by decide) (by first | rfl | trivial) ?_
            refine a_goto (pc := 72) (tgt := 58) dX12_taken_72 (by decide) ?_
            refine a_iloadn_3 (pc := 58) dX12_taken_58 ?_
            refine a_iloadn_2 (pc := 59) dX12_taken_59 ?_
            refine n_icmp_eq (tgt := 75) dX12_taken_60 (by decide) (by decide) (by decide) (fun c_60 => by omega) (fun c_60 => ?_)
            refine a_iloadn_3 (pc := 63) dX12_taken_63 ?_
            refine n_if_le (tgt := 75) dX12_taken_64 (by decide) (by decide) (fun c_64 => by omega) (fun c_64 => ?_)
            refine a_iloadn_3 (pc := 67) dX12_taken_67 ?_
            refine cs_X12_343 (pc := 68) rfl dX12_taken_68 (Nat.le_of_ble_eq_true rfl) ?_
            refine m_above_3 (by omega) hz ?_
            refine a_istoren_3 (pc := 71) dX12_taken_71 (by decide) (by first | rfl | trivial) ?_
            refine a_goto (pc := 72) (tgt := 58) dX12_taken_72 (by decide) ?_
            refine a_iloadn_3 (pc := 58) dX12_taken_58 ?_
            refine a_iloadn_2 (pc := 59) dX12_taken_59 ?_
            refine n_icmp_eq (tgt := 75) dX12_taken_60 (by decide) (by decide) (by decide) (fun c_60 => by omega) (fun c_60 => ?_)
            refine a_iloadn_3 (pc := 63) dX12_taken_63 ?_
            refine n_if_le (tgt := 75) dX12_taken_64 (by decide) (by decide) (fun c_64 => by omega) (fun c_64 => ?_)
            refine a_iloadn_3 (pc := 67) dX12_taken_67 ?_
            refine cs_X12_343 (pc := 68) rfl dX12_taken_68 (Nat.le_of_ble_eq_true rfl) ?_
            refine m_above_2 (by omega) hz ?_
            refine a_istoren_3 (pc := 71) dX12_taken_71 (by decide) (by first | rfl | trivial) ?_
            refine a_goto (pc := 72) (tgt := 58) dX12_taken_72 (by decide) ?_
            refine a_iloadn_3 (pc := 58) dX12_taken_58 ?_
            refine a_iloadn_2 (pc := 59) dX12_taken_59 ?_
            refine n_icmp_eq (tgt := 75) dX12_taken_60 (by decide) (by decide) (by decide) (fun c_60 => by omega) (fun c_60 => ?_)
            refine a_iloadn_3 (pc := 63) dX12_taken_63 ?_
            refine n_if_le (tgt := 75) dX12_taken_64 (by decide) (by decide) (fun c_64 => ?_) (fun c_64 => by omega)
            refine a_iloadn_3 (pc := 75) dX12_taken_75 ?_
            refine a_iloadn_2 (pc := 76) dX12_taken_76 ?_
            refine n_icmp_ne (tgt := 93) dX12_taken_77 (by decide) (by decide) (by decide) (fun c_77 => ?_) (fun c_77 => by omega)
            refine a_bipush (pc := 93) (v := (-12)) dX12_taken_93 (by decide) ?_
            exact a_iret (pc := 95) dX12_taken_95 rfl (zf hz) (k1 n_dd m 4 (by omega) rfl rfl (by decide) hmb hsm _ (by rw [hkd]; rfl))
          · refine a_ls (ls' := [some _, some _, some _, some _]) ⟨rfl, rfl, rfl, rfl, trivial⟩ ?_
            refine a_iloadn_3 (pc := 58) dX12_taken_58 ?_
            refine a_iloadn_2 (pc := 59) dX12_taken_59 ?_
            refine n_icmp_eq (tgt := 75) dX12_taken_60 (by decide) (by decide) (by decide) (fun c_60 => ?_) (fun c_60 => by omega)
            refine a_iloadn_3 (pc := 75) dX12_taken_75 ?_
            refine a_iloadn_2 (pc := 76) dX12_taken_76 ?_
            refine n_icmp_ne (tgt := 93) dX12_taken_77 (by decide) (by decide) (by decide) (fun c_77 => by omega) (fun c_77 => ?_)
            refine a_aloadn_0 (pc := 80) dX12_taken_80 ?_
            refine a_aloadn_0 (pc := 81) dX12_taken_81 ?_
            refine mg_71 hm rfl dX12_taken_82 ?_
            refine a_iloadn_1 (pc := 85) dX12_taken_85 ?_
            refine ml_shelf (x := nI (m)) hm dX12_taken_86 (by omega) hsm ?_
            refine cv_X12_340 (pc := 87) rfl dX12_taken_87 hm.2.2.1 (Nat.le_of_ble_eq_true rfl) ?_
            refine m_kindOf (by omega) hz hm (by omega) ?_
            rw [hkd]
            refine a_goto (pc := 90) (tgt := 95) dX12_taken_90 (by decide) ?_
            exact a_iret (pc := 95) dX12_taken_95 rfl (zf hz) (k1 n_dd m 5 (by omega) rfl rfl (by decide) hmb hsm _ (by rw [hkd]; rfl))
          · refine a_ls (ls' := [some _, some _, some _, some _]) ⟨rfl, rfl, rfl, rfl, trivial⟩ ?_
            refine a_iloadn_3 (pc := 58) dX12_taken_58 ?_
            refine a_iloadn_2 (pc := 59) dX12_taken_59 ?_
            refine n_icmp_eq (tgt := 75) dX12_taken_60 (by decide) (by decide) (by decide) (fun c_60 => by omega) (fun c_60 => ?_)
            refine a_iloadn_3 (pc := 63) dX12_taken_63 ?_
            refine n_if_le (tgt := 75) dX12_taken_64 (by decide) (by decide) (fun c_64 => by omega) (fun c_64 => ?_)
            refine a_iloadn_3 (pc := 67) dX12_taken_67 ?_
            refine cs_X12_343 (pc := 68) rfl dX12_taken_68 (Nat.le_of_ble_eq_true rfl) ?_
            refine m_above_5 (by omega) hz ?_
            refine a_istoren_3 (pc := 71) dX12_taken_71 (by decide) (by first | rfl | trivial) ?_
            refine a_goto (pc := 72) (tgt := 58) dX12_taken_72 (by decide) ?_
            refine a_iloadn_3 (pc := 58) dX12_taken_58 ?_
            refine a_iloadn_2 (pc := 59) dX12_taken_59 ?_
            refine n_icmp_eq (tgt := 75) dX12_taken_60 (by decide) (by decide) (by decide) (fun c_60 => by omega) (fun c_60 => ?_)
            refine a_iloadn_3 (pc := 63) dX12_taken_63 ?_
            refine n_if_le (tgt := 75) dX12_taken_64 (by decide) (by decide) (fun c_64 => by omega) (fun c_64 => ?_)
            refine a_iloadn_3 (pc := 67) dX12_taken_67 ?_
            refine cs_X12_343 (pc := 68) rfl dX12_taken_68 (Nat.le_of_ble_eq_true rfl) ?_
            refine m_above_3 (by omega) hz ?_
            refine a_istoren_3 (pc := 71) dX12_taken_71 (by decide) (by first | rfl | trivial) ?_
            refine a_goto (pc := 72) (tgt := 58) dX12_taken_72 (by decide) ?_
            refine a_iloadn_3 (pc := 58) dX12_taken_58 ?_
            refine a_iloadn_2 (pc := 59) dX12_taken_59 ?_
            refine n_icmp_eq (tgt := 75) dX12_taken_60 (by decide) (by decide) (by decide) (fun c_60 => by omega) (fun c_60 => ?_)
            refine a_iloadn_3 (pc := 63) dX12_taken_63 ?_
            refine n_if_le (tgt := 75) dX12_taken_64 (by decide) (by decide) (fun c_64 => by omega) (fun c_64 => ?_)
            refine a_iloadn_3 (pc := 67) dX12_taken_67 ?_
            refine cs_X12_343 (pc := 68) rfl dX12_taken_68 (Nat.le_of_ble_eq_true rfl) ?_
            refine m_above_2 (by omega) hz ?_
            refine a_istoren_3 (pc := 71) dX12_taken_71 (by decide) (by first | rfl | trivial) ?_
            refine a_goto (pc := 72) (tgt := 58) dX12_taken_72 (by decide) ?_
            refine a_iloadn_3 (pc := 58) dX12_taken_58 ?_
            refine a_iloadn_2 (pc := 59) dX12_taken_59 ?_
            refine n_icmp_eq (tgt := 75) dX12_taken_60 (by decide) (by decide) (by decide) (fun c_60 => by omega) (fun c_60 => ?_)
            refine a_iloadn_3 (pc := 63) dX12_taken_63 ?_
            refine n_if_le (tgt := 75) dX12_taken_64 (by decide) (by decide) (fun c_64 => ?_) (fun c_64 => by omega)
            refine a_iloadn_3 (pc := 75) dX12_taken_75 ?_
            refine a_iloadn_2 (pc := 76) dX12_taken_76 ?_
            refine n_icmp_ne (tgt := 93) dX12_taken_77 (by decide) (by decide) (by decide) (fun c_77 => ?_) (fun c_77 => by omega)
            refine a_bipush (pc := 93) (v := (-12)) dX12_taken_93 (by decide) ?_
            exact a_iret (pc := 95) dX12_taken_95 rfl (zf hz) (k1 n_dd m 6 (by omega) rfl rfl (by decide) hmb hsm _ (by rw [hkd]; rfl))
          · refine a_ls (ls' := [some _, some _, some _, some _]) ⟨rfl, rfl, rfl, rfl, trivial⟩ ?_
            refine a_iloadn_3 (pc := 58) dX12_taken_58 ?_
            refine a_iloadn_2 (pc := 59) dX12_taken_59 ?_
            refine n_icmp_eq (tgt := 75) dX12_taken_60 (by decide) (by decide) (by decide) (fun c_60 => by omega) (fun c_60 => ?_)
            refine a_iloadn_3 (pc := 63) dX12_taken_63 ?_
            refine n_if_le (tgt := 75) dX12_taken_64 (by decide) (by decide) (fun c_64 => by omega) (fun c_64 => ?_)
            refine a_iloadn_3 (pc := 67) dX12_taken_67 ?_
            refine cs_X12_343 (pc := 68) rfl dX12_taken_68 (Nat.le_of_ble_eq_true rfl) ?_
            refine m_above_5 (by omega) hz ?_
            refine a_istoren_3 (pc := 71) dX12_taken_71 (by decide) (by first | rfl | trivial) ?_
            refine a_goto (pc := 72) (tgt := 58) dX12_taken_72 (by decide) ?_
            refine a_iloadn_3 (pc := 58) dX12_taken_58 ?_
            refine a_iloadn_2 (pc := 59) dX12_taken_59 ?_
            refine n_icmp_eq (tgt := 75) dX12_taken_60 (by decide) (by decide) (by decide) (fun c_60 => by omega) (fun c_60 => ?_)
            refine a_iloadn_3 (pc := 63) dX12_taken_63 ?_
            refine n_if_le (tgt := 75) dX12_taken_64 (by decide) (by decide) (fun c_64 => by omega) (fun c_64 => ?_)
            refine a_iloadn_3 (pc := 67) dX12_taken_67 ?_
            refine cs_X12_343 (pc := 68) rfl dX12_taken_68 (Nat.le_of_ble_eq_true rfl) ?_
            refine m_above_3 (by omega) hz ?_
            refine a_istoren_3 (pc := 71) dX12_taken_71 (by decide) (by first | rfl | trivial) ?_
            refine a_goto (pc := 72) (tgt := 58) dX12_taken_72 (by decide) ?_
            refine a_iloadn_3 (pc := 58) dX12_taken_58 ?_
            refine a_iloadn_2 (pc := 59) dX12_taken_59 ?_
            refine n_icmp_eq (tgt := 75) dX12_taken_60 (by decide) (by decide) (by decide) (fun c_60 => by omega) (fun c_60 => ?_)
            refine a_iloadn_3 (pc := 63) dX12_taken_63 ?_
            refine n_if_le (tgt := 75) dX12_taken_64 (by decide) (by decide) (fun c_64 => by omega) (fun c_64 => ?_)
            refine a_iloadn_3 (pc := 67) dX12_taken_67 ?_
            refine cs_X12_343 (pc := 68) rfl dX12_taken_68 (Nat.le_of_ble_eq_true rfl) ?_
            refine m_above_2 (by omega) hz ?_
            refine a_istoren_3 (pc := 71) dX12_taken_71 (by decide) (by first | rfl | trivial) ?_
            refine a_goto (pc := 72) (tgt := 58) dX12_taken_72 (by decide) ?_
            refine a_iloadn_3 (pc := 58) dX12_taken_58 ?_
            refine a_iloadn_2 (pc := 59) dX12_taken_59 ?_
            refine n_icmp_eq (tgt := 75) dX12_taken_60 (by decide) (by decide) (by decide) (fun c_60 => by omega) (fun c_60 => ?_)
            refine a_iloadn_3 (pc := 63) dX12_taken_63 ?_
            refine n_if_le (tgt := 75) dX12_taken_64 (by decide) (by decide) (fun c_64 => ?_) (fun c_64 => by omega)
            refine a_iloadn_3 (pc := 75) dX12_taken_75 ?_
            refine a_iloadn_2 (pc := 76) dX12_taken_76 ?_
            refine n_icmp_ne (tgt := 93) dX12_taken_77 (by decide) (by decide) (by decide) (fun c_77 => ?_) (fun c_77 => by omega)
            refine a_bipush (pc := 93) (v := (-12)) dX12_taken_93 (by decide) ?_
            exact a_iret (pc := 95) dX12_taken_95 rfl (zf hz) (k1 n_dd m 7 (by omega) rfl rfl (by decide) hmb hsm _ (by rw [hkd]; rfl))
          · refine a_ls (ls' := [some _, some _, some _, some _]) ⟨rfl, rfl, rfl, rfl, trivial⟩ ?_
            refine a_iloadn_3 (pc := 58) dX12_taken_58 ?_
            refine a_iloadn_2 (pc := 59) dX12_taken_59 ?_
            refine n_icmp_eq (tgt := 75) dX12_taken_60 (by decide) (by decide) (by decide) (fun c_60 => by omega) (fun c_60 => ?_)
            refine a_iloadn_3 (pc := 63) dX12_taken_63 ?_
            refine n_if_le (tgt := 75) dX12_taken_64 (by decide) (by decide) (fun c_64 => by omega) (fun c_64 => ?_)
            refine a_iloadn_3 (pc := 67) dX12_taken_67 ?_
            refine cs_X12_343 (pc := 68) rfl dX12_taken_68 (Nat.le_of_ble_eq_true rfl) ?_
            refine m_above_6 (by omega) hz ?_
            refine a_istoren_3 (pc := 71) dX12_taken_71 (by decide) (by first | rfl | trivial) ?_
            refine a_goto (pc := 72) (tgt := 58) dX12_taken_72 (by decide) ?_
            refine a_iloadn_3 (pc := 58) dX12_taken_58 ?_
            refine a_iloadn_2 (pc := 59) dX12_taken_59 ?_
            refine n_icmp_eq (tgt := 75) dX12_taken_60 (by decide) (by decide) (by decide) (fun c_60 => ?_) (fun c_60 => by omega)
            refine a_iloadn_3 (pc := 75) dX12_taken_75 ?_
            refine a_iloadn_2 (pc := 76) dX12_taken_76 ?_
            refine n_icmp_ne (tgt := 93) dX12_taken_77 (by decide) (by decide) (by decide) (fun c_77 => by omega) (fun c_77 => ?_)
            refine a_aloadn_0 (pc := 80) dX12_taken_80 ?_
            refine a_aloadn_0 (pc := 81) dX12_taken_81 ?_
            refine mg_71 hm rfl dX12_taken_82 ?_
            refine a_iloadn_1 (pc := 85) dX12_taken_85 ?_
            refine ml_shelf (x := nI (m)) hm dX12_taken_86 (by omega) hsm ?_
            refine cv_X12_340 (pc := 87) rfl dX12_taken_87 hm.2.2.1 (Nat.le_of_ble_eq_true rfl) ?_
            refine m_kindOf (by omega) hz hm (by omega) ?_
            rw [hkd]
            refine a_goto (pc := 90) (tgt := 95) dX12_taken_90 (by decide) ?_
            exact a_iret (pc := 95) dX12_taken_95 rfl (zf hz) (k1 n_dd m 0 (by omega) rfl rfl (by decide) hmb hsm _ (by rw [hkd]; rfl))
          · refine a_ls (ls' := [some _, some _, some _, some _]) ⟨rfl, rfl, rfl, rfl, trivial⟩ ?_
            refine a_iloadn_3 (pc := 58) dX12_taken_58 ?_
            refine a_iloadn_2 (pc := 59) dX12_taken_59 ?_
            refine n_icmp_eq (tgt := 75) dX12_taken_60 (by decide) (by decide) (by decide) (fun c_60 => by omega) (fun c_60 => ?_)
            refine a_iloadn_3 (pc := 63) dX12_taken_63 ?_
            refine n_if_le (tgt := 75) dX12_taken_64 (by decide) (by decide) (fun c_64 => by omega) (fun c_64 => ?_)
            refine a_iloadn_3 (pc := 67) dX12_taken_67 ?_
            refine cs_X12_343 (pc := 68) rfl dX12_taken_68 (Nat.le_of_ble_eq_true rfl) ?_
            refine m_above_6 (by omega) hz ?_
            refine a_istoren_3 (pc := 71) dX12_taken_71 (by decide) (by first | rfl | trivial) ?_
            refine a_goto (pc := 72) (tgt := 58) dX12_taken_72 (by decide) ?_
            refine a_iloadn_3 (pc := 58) dX12_taken_58 ?_
            refine a_iloadn_2 (pc := 59) dX12_taken_59 ?_
            refine n_icmp_eq (tgt := 75) dX12_taken_60 (by decide) (by decide) (by decide) (fun c_60 => by omega) (fun c_60 => ?_)
            refine a_iloadn_3 (pc := 63) dX12_taken_63 ?_
            refine n_if_le (tgt := 75) dX12_taken_64 (by decide) (by decide) (fun c_64 => ?_) (fun c_64 => by omega)
            refine a_iloadn_3 (pc := 75) dX12_taken_75 ?_
            refine a_iloadn_2 (pc := 76) dX12_taken_76 ?_
            refine n_icmp_ne (tgt := 93) dX12_taken_77 (by decide) (by decide) (by decide) (fun c_77 => ?_) (fun c_77 => by omega)
            refine a_bipush (pc := 93) (v := (-12)) dX12_taken_93 (by decide) ?_
            exact a_iret (pc := 95) dX12_taken_95 rfl (zf hz) (k1 n_dd m 1 (by omega) rfl rfl (by decide) hmb hsm _ (by rw [hkd]; rfl))
          · refine a_ls (ls' := [some _, some _, some _, some _]) ⟨rfl, rfl, rfl, rfl, trivial⟩ ?_
            refine a_iloadn_3 (pc := 58) dX12_taken_58 ?_
            refine a_iloadn_2 (pc := 59) dX12_taken_59 ?_
            refine n_icmp_eq (tgt := 75) dX12_taken_60 (by decide) (by decide) (by decide) (fun c_60 => by omega) (fun c_60 => ?_)
            refine a_iloadn_3 (pc := 63) dX12_taken_63 ?_
            refine n_if_le (tgt := 75) dX12_taken_64 (by decide) (by decide) (fun c_64 => by omega) (fun c_64 => ?_)
            refine a_iloadn_3 (pc := 67) dX12_taken_67 ?_
            refine cs_X12_343 (pc := 68) rfl dX12_taken_68 (Nat.le_of_ble_eq_true rfl) ?_
            refine m_above_6 (by omega) hz ?_
            refine a_istoren_3 (pc := 71) dX12_taken_71 (by decide) (by first | rfl | trivial) ?_
            refine a_goto (pc := 72) (tgt := 58) dX12_taken_72 (by decide) ?_
            refine a_iloadn_3 (pc := 58) dX12_taken_58 ?_
            refine a_iloadn_2 (pc := 59) dX12_taken_59 ?_
            refine n_icmp_eq (tgt := 75) dX12_taken_60 (by decide) (by decide) (by decide) (fun c_60 => by omega) (fun c_60 => ?_)
            refine a_iloadn_3 (pc := 63) dX12_taken_63 ?_
            refine n_if_le (tgt := 75) dX12_taken_64 (by decide) (by decide) (fun c_64 => ?_) (fun c_64 => by omega)
            refine a_iloadn_3 (pc := 75) dX12_taken_75 ?_
            refine a_iloadn_2 (pc := 76) dX12_taken_76 ?_
            refine n_icmp_ne (tgt := 93) dX12_taken_77 (by decide) (by decide) (by decide) (fun c_77 => ?_) (fun c_77 => by omega)
            refine a_bipush (pc := 93) (v := (-12)) dX12_taken_93 (by decide) ?_
            exact a_iret (pc := 95) dX12_taken_95 rfl (zf hz) (k1 n_dd m 2 (by omega) rfl rfl (by decide) hmb hsm _ (by rw [hkd]; rfl))
          · refine a_ls (ls' := [some _, some _, some _, some _]) ⟨rfl, rfl, rfl, rfl, trivial⟩ ?_
            refine a_iloadn_3 (pc := 58) dX12_taken_58 ?_
            refine a_iloadn_2 (pc := 59) dX12_taken_59 ?_
            refine n_icmp_eq (tgt := 75) dX12_taken_60 (by decide) (by decide) (by decide) (fun c_60 => by omega) (fun c_60 => ?_)
            refine a_iloadn_3 (pc := 63) dX12_taken_63 ?_
            refine n_if_le (tgt := 75) dX12_taken_64 (by decide) (by decide) (fun c_64 => by omega) (fun c_64 => ?_)
            refine a_iloadn_3 (pc := 67) dX12_taken_67 ?_
            refine cs_X12_343 (pc := 68) rfl dX12_taken_68 (Nat.le_of_ble_eq_true rfl) ?_
            refine m_above_6 (by omega) hz ?_
            refine a_istoren_3 (pc := 71) dX12_taken_71 (by decide) (by first | rfl | trivial) ?_
            refine a_goto (pc := 72) (tgt := 58) dX12_taken_72 (by decide) ?_
            refine a_iloadn_3 (pc := 58) dX12_taken_58 ?_
            refine a_iloadn_2 (pc := 59) dX12_taken_59 ?_
            refine n_icmp_eq (tgt := 75) dX12_taken_60 (by decide) (by decide) (by decide) (fun c_60 => by omega) (fun c_60 => ?_)
            refine a_iloadn_3 (pc := 63) dX12_taken_63 ?_
            refine n_if_le (tgt := 75) dX12_taken_64 (by decide) (by decide) (fun c_64 => ?_) (fun c_64 => by omega)
            refine a_iloadn_3 (pc := 75) dX12_taken_75 ?_
            refine a_iloadn_2 (pc := 76) dX12_taken_76 ?_
            refine n_icmp_ne (tgt := 93) dX12_taken_77 (by decide) (by decide) (by decide) (fun c_77 => ?_) (fun c_77 => by omega)
            refine a_bipush (pc := 93) (v := (-12)) dX12_taken_93 (by decide) ?_
            exact a_iret (pc := 95) dX12_taken_95 rfl (zf hz) (k1 n_dd m 3 (by omega) rfl rfl (by decide) hmb hsm _ (by rw [hkd]; rfl))
          · refine a_ls (ls' := [some _, some _, some _, some _]) ⟨rfl, rfl, rfl, rfl, trivial⟩ ?_
            refine a_iloadn_3 (pc := 58) dX12_taken_58 ?_
            refine a_iloadn_2 (pc := 59) dX12_taken_59 ?_
            refine n_icmp_eq (tgt := 75) dX12_taken_60 (by decide) (by decide) (by decide) (fun c_60 => by omega) (fun c_60 => ?_)
            refine a_iloadn_3 (pc := 63) dX12_taken_63 ?_
            refine n_if_le (tgt := 75) dX12_taken_64 (by decide) (by decide) (fun c_64 => by omega) (fun c_64 => ?_)
            refine a_iloadn_3 (pc := 67) dX12_taken_67 ?_
            refine cs_X12_343 (pc := 68) rfl dX12_taken_68 (Nat.le_of_ble_eq_true rfl) ?_
            refine m_above_6 (by omega) hz ?_
            refine a_istoren_3 (pc := 71) dX12_taken_71 (by decide) (by first | rfl | trivial) ?_
            refine a_goto (pc := 72) (tgt := 58) dX12_taken_72 (by decide) ?_
            refine a_iloadn_3 (pc := 58) dX12_taken_58 ?_
            refine a_iloadn_2 (pc := 59) dX12_taken_59 ?_
            refine n_icmp_eq (tgt := 75) dX12_taken_60 (by decide) (by decide) (by decide) (fun c_60 => by omega) (fun c_60 => ?_)
            refine a_iloadn_3 (pc := 63) dX12_taken_63 ?_
            refine n_if_le (tgt := 75) dX12_taken_64 (by decide) (by decide) (fun c_64 => ?_) (fun c_64 => by omega)
            refine a_iloadn_3 (pc := 75) dX12_taken_75 ?_
            refine a_iloadn_2 (pc := 76) dX12_taken_76 ?_
            refine n_icmp_ne (tgt := 93) dX12_taken_77 (by decide) (by decide) (by decide) (fun c_77 => ?_) (fun c_77 => by omega)
            refine a_bipush (pc := 93) (v := (-12)) dX12_taken_93 (by decide) ?_
            exact a_iret (pc := 95) dX12_taken_95 rfl (zf hz) (k1 n_dd m 4 (by omega) rfl rfl (by decide) hmb hsm _ (by rw [hkd]; rfl))
          · refine a_ls (ls' := [some _, some _, some _, some _]) ⟨rfl, rfl, rfl, rfl, trivial⟩ ?_
            refine a_iloadn_3 (pc := 58) dX12_taken_58 ?_
            refine a_iloadn_2 (pc := 59) dX12_taken_59 ?_
            refine n_icmp_eq (tgt := 75) dX12_taken_60 (by decide) (by decide) (by decide) (fun c_60 => by omega) (fun c_60 => ?_)
            refine a_iloadn_3 (pc := 63) dX12_taken_63 ?_
            refine n_if_le (tgt := 75) dX12_taken_64 (by decide) (by decide) (fun c_64 => by omega) (fun c_64 => ?_)
            refine a_iloadn_3 (pc := 67) dX12_taken_67 ?_
            refine cs_X12_343 (pc := 68) rfl dX12_taken_68 (Nat.le_of_ble_eq_true rfl) ?_
            refine m_above_6 (by omega) hz ?_
            refine a_istoren_3 (pc := 71) dX12_taken_71 (by decide) (by first | rfl | trivial) ?_
            refine a_goto (pc := 72) (tgt := 58) dX12_taken_72 (by decide) ?_
            refine a_iloadn_3 (pc := 58) dX12_taken_58 ?_
            refine a_iloadn_2 (pc := 59) dX12_taken_59 ?_
            refine n_icmp_eq (tgt := 75) dX12_taken_60 (by decide) (by decide) (by decide) (fun c_60 => by omega) (fun c_60 => ?_)
            refine a_iloadn_3 (pc := 63) dX12_taken_63 ?_
            refine n_if_le (tgt := 75) dX12_taken_64 (by decide) (by decide) (fun c_64 => ?_) (fun c_64 => by omega)
            refine a_iloadn_3 (pc := 75) dX12_taken_75 ?_
            refine a_iloadn_2 (pc := 76) dX12_taken_76 ?_
            refine n_icmp_ne (tgt := 93) dX12_taken_77 (by decide) (by decide) (by decide) (fun c_77 => ?_) (fun c_77 => by omega)
            refine a_bipush (pc := 93) (v := (-12)) dX12_taken_93 (by decide) ?_
            exact a_iret (pc := 95) dX12_taken_95 rfl (zf hz) (k1 n_dd m 5 (by omega) rfl rfl (by decide) hmb hsm _ (by rw [hkd]; rfl))
          · refine a_ls (ls' := [some _, some _, some _, some _]) ⟨rfl, rfl, rfl, rfl, trivial⟩ ?_
            refine a_iloadn_3 (pc := 58) dX12_taken_58 ?_
            refine a_iloadn_2 (pc := 59) dX12_taken_59 ?_
            refine n_icmp_eq (tgt := 75) dX12_taken_60 (by decide) (by decide) (by decide) (fun c_60 => ?_) (fun c_60 => by omega)
            refine a_iloadn_3 (pc := 75) dX12_taken_75 ?_
            refine a_iloadn_2 (pc := 76) dX12_taken_76 ?_
            refine n_icmp_ne (tgt := 93) dX12_taken_77 (by decide) (by decide) (by decide) (fun c_77 => by omega) (fun c_77 => ?_)
            refine a_aloadn_0 (pc := 80) dX12_taken_80 ?_
            refine a_aloadn_0 (pc := 81) dX12_taken_81 ?_
            refine mg_71 hm rfl dX12_taken_82 ?_
            refine a_iloadn_1 (pc := 85) dX12_taken_85 ?_
            refine ml_shelf (x := nI (m)) hm dX12_taken_86 (by omega) hsm ?_
            refine cv_X12_340 (pc := 87) rfl dX12_taken_87 hm.2.2.1 (Nat.le_of_ble_eq_true rfl) ?_
            refine m_kindOf (by omega) hz hm (by omega) ?_
            rw [hkd]
            refine a_goto (pc := 90) (tgt := 95) dX12_taken_90 (by decide) ?_
            exact a_iret (pc := 95) dX12_taken_95 rfl (zf hz) (k1 n_dd m 6 (by omega) rfl rfl (by decide) hmb hsm _ (by rw [hkd]; rfl))
          · refine a_ls (ls' := [some _, some _, some _, some _]) ⟨rfl, rfl, rfl, rfl, trivial⟩ ?_
            refine a_iloadn_3 (pc := 58) dX12_taken_58 ?_
            refine a_iloadn_2 (pc := 59) dX12_taken_59 ?_
            refine n_icmp_eq (tgt := 75) dX12_taken_60 (by decide) (by decide) (by decide) (fun c_60 => by omega) (fun c_60 => ?_)
            refine a_iloadn_3 (pc := 63) dX12_taken_63 ?_
            refine n_if_le (tgt := 75) dX12_taken_64 (by decide) (by decide) (fun c_64 => by omega) (fun c_64 => ?_)
            refine a_iloadn_3 (pc := 67) dX12_taken_67 ?_
            refine cs_X12_343 (pc := 68) rfl dX12_taken_68 (Nat.le_of_ble_eq_true rfl) ?_
            refine m_above_6 (by omega) hz ?_
            refine a_istoren_3 (pc := 71) dX12_taken_71 (by decide) (by first | rfl | trivial) ?_
            refine a_goto (pc := 72) (tgt := 58) dX12_taken_72 (by decide) ?_
            refine a_iloadn_3 (pc := 58) dX12_taken_58 ?_
            refine a_iloadn_2 (pc := 59) dX12_taken_59 ?_
            refine n_icmp_eq (tgt := 75) dX12_taken_60 (by decide) (by decide) (by decide) (fun c_60 => by omega) (fun c_60 => ?_)
            refine a_iloadn_3 (pc := 63) dX12_taken_63 ?_
            refine n_if_le (tgt := 75) dX12_taken_64 (by decide) (by decide) (fun c_64 => ?_) (fun c_64 => by omega)
            refine a_iloadn_3 (pc := 75) dX12_taken_75 ?_
            refine a_iloadn_2 (pc := 76) dX12_taken_76 ?_
            refine n_icmp_ne (tgt := 93) dX12_taken_77 (by decide) (by decide) (by decide) (fun c_77 => ?_) (fun c_77 => by omega)
            refine a_bipush (pc := 93) (v := (-12)) dX12_taken_93 (by decide) ?_
            exact a_iret (pc := 95) dX12_taken_95 rfl (zf hz) (k1 n_dd m 7 (by omega) rfl rfl (by decide) hmb hsm _ (by rw [hkd]; rfl))
          · refine a_ls (ls' := [some _, some _, some _, some _]) ⟨rfl, rfl, rfl, rfl, trivial⟩ ?_
            refine a_iloadn_3 (pc := 58) dX12_taken_58 ?_
            refine a_iloadn_2 (pc := 59) dX12_taken_59 ?_
            refine n_icmp_eq (tgt := 75) dX12_taken_60 (by decide) (by decide) (by decide) (fun c_60 => by omega) (fun c_60 => ?_)
            refine a_iloadn_3 (pc := 63) dX12_taken_63 ?_
            refine n_if_le (tgt := 75) dX12_taken_64 (by decide) (by decide) (fun c_64 => by omega) (fun c_64 => ?_)
            refine a_iloadn_3 (pc := 67) dX12_taken_67 ?_
            refine cs_X12_343 (pc := 68) rfl dX12_taken_68 (Nat.le_of_ble_eq_true rfl) ?_
            refine m_above_7 (by omega) hz ?_
            refine a_istoren_3 (pc := 71) dX12_taken_71 (by decide) (by first | rfl | trivial) ?_
            refine a_goto (pc := 72) (tgt := 58) dX12_taken_72 (by decide) ?_
            refine a_iloadn_3 (pc := 58) dX12_taken_58 ?_
            refine a_iloadn_2 (pc := 59) dX12_taken_59 ?_
            refine n_icmp_eq (tgt := 75) dX12_taken_60 (by decide) (by decide) (by decide) (fun c_60 => by omega) (fun c_60 => ?_)
            refine a_iloadn_3 (pc := 63) dX12_taken_63 ?_
            refine n_if_le (tgt := 75) dX12_taken_64 (by decide) (by decide) (fun c_64 => by omega) (fun c_64 => ?_)
            refine a_iloadn_3 (pc := 67) dX12_taken_67 ?_
            refine cs_X12_343 (pc := 68) rfl dX12_taken_68 (Nat.le_of_ble_eq_true rfl) ?_
            refine m_above_4 (by omega) hz ?_
            refine a_istoren_3 (pc := 71) dX12_taken_71 (by decide) (by first | rfl | trivial) ?_
            refine a_goto (pc := 72) (tgt := 58) dX12_taken_72 (by decide) ?_
            refine a_iloadn_3 (pc := 58) dX12_taken_58 ?_
            refine a_iloadn_2 (pc := 59) dX12_taken_59 ?_
            refine n_icmp_eq (tgt := 75) dX12_taken_60 (by decide) (by decide) (by decide) (fun c_60 => by omega) (fun c_60 => ?_)
            refine a_iloadn_3 (pc := 63) dX12_taken_63 ?_
            refine n_if_le (tgt := 75) dX12_taken_64 (by decide) (by decide) (fun c_64 => by omega) (fun c_64 => ?_)
            refine a_iloadn_3 (pc := 67) dX12_taken_67 ?_
            refine cs_X12_343 (pc := 68) rfl dX12_taken_68 (Nat.le_of_ble_eq_true rfl) ?_
            refine m_above_1 (by omega) hz ?_
            refine a_istoren_3 (pc := 71) dX12_taken_71 (by decide) (by first | rfl | trivial) ?_
            refine a_goto (pc := 72) (tgt := 58) dX12_taken_72 (by decide) ?_
            refine a_iloadn_3 (pc := 58) dX12_taken_58 ?_
            refine a_iloadn_2 (pc := 59) dX12_taken_59 ?_
            refine n_icmp_eq (tgt := 75) dX12_taken_60 (by decide) (by decide) (by decide) (fun c_60 => ?_) (fun c_60 => by omega)
            refine a_iloadn_3 (pc := 75) dX12_taken_75 ?_
            refine a_iloadn_2 (pc := 76) dX12_taken_76 ?_
            refine n_icmp_ne (tgt := 93) dX12_taken_77 (by decide) (by decide) (by decide) (fun c_77 => by omega) (fun c_77 => ?_)
            refine a_aloadn_0 (pc := 80) dX12_taken_80 ?_
            refine a_aloadn_0 (pc := 81) dX12_taken_81 ?_
            refine mg_71 hm rfl dX12_taken_82 ?_
            refine a_iloadn_1 (pc := 85) dX12_taken_85 ?_
            refine ml_shelf (x := nI (m)) hm dX12_taken_86 (by omega) hsm ?_
            refine cv_X12_340 (pc := 87) rfl dX12_taken_87 hm.2.2.1 (Nat.le_of_ble_eq_true rfl) ?_
            refine m_kindOf (by omega) hz hm (by omega) ?_
            rw [hkd]
            refine a_goto (pc := 90) (tgt := 95) dX12_taken_90 (by decide) ?_
            exact a_iret (pc := 95) dX12_taken_95 rfl (zf hz) (k1 n_dd m 0 (by omega) rfl rfl (by decide) hmb hsm _ (by rw [hkd]; rfl))
          · refine a_ls (ls' := [some _, some _, some _, some _]) ⟨rfl, rfl, rfl, rfl, trivial⟩ ?_
            refine a_iloadn_3 (pc := 58) dX12_taken_58 ?_
            refine a_iloadn_2 (pc := 59) dX12_taken_59 ?_
            refine n_icmp_eq (tgt := 75) dX12_taken_60 (by decide) (by decide) (by decide) (fun c_60 => by omega) (fun c_60 => ?_)
            refine a_iloadn_3 (pc := 63) dX12_taken_63 ?_
            refine n_if_le (tgt := 75) dX12_taken_64 (by decide) (by decide) (fun c_64 => by omega) (fun c_64 => ?_)
            refine a_iloadn_3 (pc := 67) dX12_taken_67 ?_
            refine cs_X12_343 (pc := 68) rfl dX12_taken_68 (Nat.le_of_ble_eq_true rfl) ?_
            refine m_above_7 (by omega) hz ?_
            refine a_istoren_3 (pc := 71) dX12_taken_71 (by decide) (by first | rfl | trivial) ?_
            refine a_goto (pc := 72) (tgt := 58) dX12_taken_72 (by decide) ?_
            refine a_iloadn_3 (pc := 58) dX12_taken_58 ?_
            refine a_iloadn_2 (pc := 59) dX12_taken_59 ?_
            refine n_icmp_eq (tgt := 75) dX12_taken_60 (by decide) (by decide) (by decide) (fun c_60 => by omega) (fun c_60 => ?_)
            refine a_iloadn_3 (pc := 63) dX12_taken_63 ?_
            refine n_if_le (tgt := 75) dX12_taken_64 (by decide) (by decide) (fun c_64 => by omega) (fun c_64 => ?_)
            refine a_iloadn_3 (pc := 67) dX12_taken_67 ?_
            refine cs_X12_343 (pc := 68) rfl dX12_taken_68 (Nat.le_of_ble_eq_true rfl) ?_
            refine m_above_4 (by omega) hz ?_
            refine a_istoren_3 (pc := 71) dX12_taken_71 (by decide) (by first | rfl | trivial) ?_
            refine a_goto (pc := 72) (tgt := 58) dX12_taken_72 (by decide) ?_
            refine a_iloadn_3 (pc := 58) dX12_taken_58 ?_
            refine a_iloadn_2 (pc := 59) dX12_taken_59 ?_
            refine n_icmp_eq (tgt := 75) dX12_taken_60 (by decide) (by decide) (by decide) (fun c_60 => ?_) (fun c_60 => by omega)
            refine a_iloadn_3 (pc := 75) dX12_taken_75 ?_
            refine a_iloadn_2 (pc := 76) dX12_taken_76 ?_
            refine n_icmp_ne (tgt := 93) dX12_taken_77 (by decide) (by decide) (by decide) (fun c_77 => by omega) (fun c_77 => ?_)
            refine a_aloadn_0 (pc := 80) dX12_taken_80 ?_
            refine a_aloadn_0 (pc := 81) dX12_taken_81 ?_
            refine mg_71 hm rfl dX12_taken_82 ?_
            refine a_iloadn_1 (pc := 85) dX12_taken_85 ?_
            refine ml_shelf (x := nI (m)) hm dX12_taken_86 (by omega) hsm ?_
            refine cv_X12_340 (pc := 87) rfl dX12_taken_87 hm.2.2.1 (Nat.le_of_ble_eq_true rfl) ?_
            refine m_kindOf (by omega) hz hm (by omega) ?_
            rw [hkd]
            refine a_goto (pc := 90) (tgt := 95) dX12_taken_90 (by decide) ?_
            exact a_iret (pc := 95) dX12_taken_95 rfl (zf hz) (k1 n_dd m 1 (by omega) rfl rfl (by decide) hmb hsm _ (by rw [hkd]; rfl))
          · refine a_ls (ls' := [some _, some _, some _, some _]) ⟨rfl, rfl, rfl, rfl, trivial⟩ ?_
            refine a_iloadn_3 (pc := 58) dX12_taken_58 ?_
            refine a_iloadn_2 (pc := 59) dX12_taken_59 ?_
            refine n_icmp_eq (tgt := 75) dX12_taken_60 (by decide) (by decide) (by decide) (fun c_60 => by omega) (fun c_60 => ?_)
            refine a_iloadn_3 (pc := 63) dX12_taken_63 ?_
            refine n_if_le (tgt := 75) dX12_taken_64 (by decide) (by decide) (fun c_64 => by omega) (fun c_64 => ?_)
            refine a_iloadn_3 (pc := 67) dX12_taken_67 ?_
            refine cs_X12_343 (pc := 68) rfl dX12_taken_68 (Nat.le_of_ble_eq_true rfl) ?_
            refine m_above_7 (by omega) hz ?_
            refine a_istoren_3 (pc := 71) dX12_taken_71 (by decide) (by first | rfl | trivial) ?_
            refine a_goto (pc := 72) (tgt := 58) dX12_taken_72 (by decide) ?_
            refine a_iloadn_3 (pc := 58) dX12_taken_58 ?_
            refine a_iloadn_2 (pc := 59) dX12_taken_59 ?_
            refine n_icmp_eq (tgt := 75) dX12_taken_60 (by decide) (by decide) (by decide) (fun c_60 => by omega) (fun c_60 => ?_)
            refine a_iloadn_3 (pc := 63) dX12_taken_63 ?_
            refine n_if_le (tgt := 75) dX12_taken_64 (by decide) (by decide) (fun c_64 => by omega) (fun c_64 => ?_)
            refine a_iloadn_3 (pc := 67) dX12_taken_67 ?_
            refine cs_X12_343 (pc := 68) rfl dX12_taken_68 (Nat.le_of_ble_eq_true rfl) ?_
            refine m_above_4 (by omega) hz ?_
            refine a_istoren_3 (pc := 71) dX12_taken_71 (by decide) (by first | rfl | trivial) ?_
            refine a_goto (pc := 72) (tgt := 58) dX12_taken_72 (by decide) ?_
            refine a_iloadn_3 (pc := 58) dX12_taken_58 ?_
            refine a_iloadn_2 (pc := 59) dX12_taken_59 ?_
            refine n_icmp_eq (tgt := 75) dX12_taken_60 (by decide) (by decide) (by decide) (fun c_60 => by omega) (fun c_60 => ?_)
            refine a_iloadn_3 (pc := 63) dX12_taken_63 ?_
            refine n_if_le (tgt := 75) dX12_taken_64 (by decide) (by decide) (fun c_64 => by omega) (fun c_64 => ?_)
            refine a_iloadn_3 (pc := 67) dX12_taken_67 ?_
            refine cs_X12_343 (pc := 68) rfl dX12_taken_68 (Nat.le_of_ble_eq_true rfl) ?_
            refine m_above_1 (by omega) hz ?_
            refine a_istoren_3 (pc := 71) dX12_taken_71 (by decide) (by first | rfl | trivial) ?_
            refine a_goto (pc := 72) (tgt := 58) dX12_taken_72 (by decide) ?_
            refine a_iloadn_3 (pc := 58) dX12_taken_58 ?_
            refine a_iloadn_2 (pc := 59) dX12_taken_59 ?_
            refine n_icmp_eq (tgt := 75) dX12_taken_60 (by decide) (by decide) (by decide) (fun c_60 => by omega) (fun c_60 => ?_)
            refine a_iloadn_3 (pc := 63) dX12_taken_63 ?_
            refine n_if_le (tgt := 75) dX12_taken_64 (by decide) (by decide) (fun c_64 => ?_) (fun c_64 => by omega)
            refine a_iloadn_3 (pc := 75) dX12_taken_75 ?_
            refine a_iloadn_2 (pc := 76) dX12_taken_76 ?_
            refine n_icmp_ne (tgt := 93) dX12_taken_77 (by decide) (by decide) (by decide) (fun c_77 => ?_) (fun c_77 => by omega)
            refine a_bipush (pc := 93) (v := (-12)) dX12_taken_93 (by decide) ?_
            exact a_iret (pc := 95) dX12_taken_95 rfl (zf hz) (k1 n_dd m 2 (by omega) rfl rfl (by decide) hmb hsm _ (by rw [hkd]; rfl))
          · refine a_ls (ls' := [some _, some _, some _, some _]) ⟨rfl, rfl, rfl, rfl, trivial⟩ ?_
            refine a_iloadn_3 (pc := 58) dX12_taken_58 ?_
            refine a_iloadn_2 (pc := 59) dX12_taken_59 ?_
            refine n_icmp_eq (tgt := 75) dX12_taken_60 (by decide) (by decide) (by decide) (fun c_60 => by omega) (fun c_60 => ?_)
            refine a_iloadn_3 (pc := 63) dX12_taken_63 ?_
            refine n_if_le (tgt := 75) dX12_taken_64 (by decide) (by decide) (fun c_64 => by omega) (fun c_64 => ?_)
            refine a_iloadn_3 (pc := 67) dX12_taken_67 ?_
            refine cs_X12_343 (pc := 68) rfl dX12_taken_68 (Nat.le_of_ble_eq_true rfl) ?_
            refine m_above_7 (by omega) hz ?_
            refine a_istoren_3 (pc := 71) dX12_taken_71 (by decide) (by first | rfl | trivial) ?_
            refine a_goto (pc := 72) (tgt := 58) dX12_taken_72 (by decide) ?_
            refine a_iloadn_3 (pc := 58) dX12_taken_58 ?_
            refine a_iloadn_2 (pc := 59) dX12_taken_59 ?_
            refine n_icmp_eq (tgt := 75) dX12_taken_60 (by decide) (by decide) (by decide) (fun c_60 => by omega) (fun c_60 => ?_)
            refine a_iloadn_3 (pc := 63) dX12_taken_63 ?_
            refine n_if_le (tgt := 75) dX12_taken_64 (by decide) (by decide) (fun c_64 => by omega) (fun c_64 => ?_)
            refine a_iloadn_3 (pc := 67) dX12_taken_67 ?_
            refine cs_X12_343 (pc := 68) rfl dX12_taken_68 (Nat.le_of_ble_eq_true rfl) ?_
            refine m_above_4 (by omega) hz ?_
            refine a_istoren_3 (pc := 71) dX12_taken_71 (by decide) (by first | rfl | trivial) ?_
            refine a_goto (pc := 72) (tgt := 58) dX12_taken_72 (by decide) ?_
            refine a_iloadn_3 (pc := 58) dX12_taken_58 ?_
            refine a_iloadn_2 (pc := 59) dX12_taken_59 ?_
            refine n_icmp_eq (tgt := 75) dX12_taken_60 (by decide) (by decide) (by decide) (fun c_60 => by omega) (fun c_60 => ?_)
            refine a_iloadn_3 (pc := 63) dX12_taken_63 ?_
            refine n_if_le (tgt := 75) dX12_taken_64 (by decide) (by decide) (fun c_64 => by omega) (fun c_64 => ?_)
            refine a_iloadn_3 (pc := 67) dX12_taken_67 ?_
            refine cs_X12_343 (pc := 68) rfl dX12_taken_68 (Nat.le_of_ble_eq_true rfl) ?_
            refine m_above_1 (by omega) hz ?_
            refine a_istoren_3 (pc := 71) dX12_taken_71 (by decide) (by first | rfl | trivial) ?_
            refine a_goto (pc := 72) (tgt := 58) dX12_taken_72 (by decide) ?_
            refine a_iloadn_3 (pc := 58) dX12_taken_58 ?_
            refine a_iloadn_2 (pc := 59) dX12_taken_59 ?_
            refine n_icmp_eq (tgt := 75) dX12_taken_60 (by decide) (by decide) (by decide) (fun c_60 => by omega) (fun c_60 => ?_)
            refine a_iloadn_3 (pc := 63) dX12_taken_63 ?_
            refine n_if_le (tgt := 75) dX12_taken_64 (by decide) (by decide) (fun c_64 => ?_) (fun c_64 => by omega)
            refine a_iloadn_3 (pc := 75) dX12_taken_75 ?_
            refine a_iloadn_2 (pc := 76) dX12_taken_76 ?_
            refine n_icmp_ne (tgt := 93) dX12_taken_77 (by decide) (by decide) (by decide) (fun c_77 => ?_) (fun c_77 => by omega)
            refine a_bipush (pc := 93) (v := (-12)) dX12_taken_93 (by decide) ?_
            exact a_iret (pc := 95) dX12_taken_95 rfl (zf hz) (k1 n_dd m 3 (by omega) rfl rfl (by decide) hmb hsm _ (by rw [hkd]; rfl))
          · refine a_ls (ls' := [some _, some _, some _, some _]) ⟨rfl, rfl, rfl, rfl, trivial⟩ ?_
            refine a_iloadn_3 (pc := 58) dX12_taken_58 ?_
            refine a_iloadn_2 (pc := 59) dX12_taken_59 ?_
            refine n_icmp_eq (tgt := 75) dX12_taken_60 (by decide) (by decide) (by decide) (fun c_60 => by omega) (fun c_60 => ?_)
            refine a_iloadn_3 (pc := 63) dX12_taken_63 ?_
            refine n_if_le (tgt := 75) dX12_taken_64 (by decide) (by decide) (fun c_64 => by omega) (fun c_64 => ?_)
            refine a_iloadn_3 (pc := 67) dX12_taken_67 ?_
            refine cs_X12_343 (pc := 68) rfl dX12_taken_68 (Nat.le_of_ble_eq_true rfl) ?_
            refine m_above_7 (by omega) hz ?_
            refine a_istoren_3 (pc := 71) dX12_taken_71 (by decide) (by first | rfl | trivial) ?_
            refine a_goto (pc := 72) (tgt := 58) dX12_taken_72 (by decide) ?_
            refine a_iloadn_3 (pc := 58) dX12_taken_58 ?_
            refine a_iloadn_2 (pc := 59) dX12_taken_59 ?_
            refine n_icmp_eq (tgt := 75) dX12_taken_60 (by decide) (by decide) (by decide) (fun c_60 => ?_) (fun c_60 => by omega)
            refine a_iloadn_3 (pc := 75) dX12_taken_75 ?_
            refine a_iloadn_2 (pc := 76) dX12_taken_76 ?_
            refine n_icmp_ne (tgt := 93) dX12_taken_77 (by decide) (by decide) (by decide) (fun c_77 => by omega) (fun c_77 => ?_)
            refine a_aloadn_0 (pc := 80) dX12_taken_80 ?_
            refine a_aloadn_0 (pc := 81) dX12_taken_81 ?_
            refine mg_71 hm rfl dX12_taken_82 ?_
            refine a_iloadn_1 (pc := 85) dX12_taken_85 ?_
            refine ml_shelf (x := nI (m)) hm dX12_taken_86 (by omega) hsm ?_
            refine cv_X12_340 (pc := 87) rfl dX12_taken_87 hm.2.2.1 (Nat.le_of_ble_eq_true rfl) ?_
            refine m_kindOf (by omega) hz hm (by omega) ?_
            rw [hkd]
            refine a_goto (pc := 90) (tgt := 95) dX12_taken_90 (by decide) ?_
            exact a_iret (pc := 95) dX12_taken_95 rfl (zf hz) (k1 n_dd m 4 (by omega) rfl rfl (by decide) hmb hsm _ (by rw [hkd]; rfl))
          · refine a_ls (ls' := [some _, some _, some _, some _]) ⟨rfl, rfl, rfl, rfl, trivial⟩ ?_
            refine a_iloadn_3 (pc := 58) dX12_taken_58 ?_
            refine a_iloadn_2 (pc := 59) dX12_taken_59 ?_
            refine n_icmp_eq (tgt := 75) dX12_taken_60 (by decide) (by decide) (by decide) (fun c_60 => by omega) (fun c_60 => ?_)
            refine a_iloadn_3 (pc := 63) dX12_taken_63 ?_
            refine n_if_le (tgt := 75) dX12_taken_64 (by decide) (by decide) (fun c_64 => by omega) (fun c_64 => ?_)
            refine a_iloadn_3 (pc := 67) dX12_taken_67 ?_
            refine cs_X12_343 (pc := 68) rfl dX12_taken_68 (Nat.le_of_ble_eq_true rfl) ?_
            refine m_above_7 (by omega) hz ?_
            refine a_istoren_3 (pc := 71) dX12_taken_71 (by decide) (by first | rfl | trivial) ?_
            refine a_goto (pc := 72) (tgt := 58) dX12_taken_72 (by decide) ?_
            refine a_iloadn_3 (pc := 58) dX12_taken_58 ?_
            refine a_iloadn_2 (pc := 59) dX12_taken_59 ?_
            refine n_icmp_eq (tgt := 75) dX12_taken_60 (by decide) (by decide) (by decide) (fun c_60 => by omega) (fun c_60 => ?_)
            refine a_iloadn_3 (pc := 63) dX12_taken_63 ?_
            refine n_if_le (tgt := 75) dX12_taken_64 (by decide) (by decide) (fun c_64 => by omega) (fun c_64 => ?_)
            refine a_iloadn_3 (pc := 67) dX12_taken_67 ?_
            refine cs_X12_343 (pc := 68) rfl dX12_taken_68 (Nat.le_of_ble_eq_true rfl) ?_
            refine m_above_4 (by omega) hz ?_
            refine a_istoren_3 (pc := 71) dX12_taken_71 (by decide) (by first | rfl | trivial) ?_
            refine a_goto (pc := 72) (tgt := 58) dX12_taken_72 (by decide) ?_
            refine a_iloadn_3 (pc := 58) dX12_taken_58 ?_
            refine a_iloadn_2 (pc := 59) dX12_taken_59 ?_
            refine n_icmp_eq (tgt := 75) dX12_taken_60 (by decide) (by decide) (by decide) (fun c_60 => by omega) (fun c_60 => ?_)
            refine a_iloadn_3 (pc := 63) dX12_taken_63 ?_
            refine n_if_le (tgt := 75) dX12_taken_64 (by decide) (by decide) (fun c_64 => by omega) (fun c_64 => ?_)
            refine a_iloadn_3 (pc := 67) dX12_taken_67 ?_
            refine cs_X12_343 (pc := 68) rfl dX12_taken_68 (Nat.le_of_ble_eq_true rfl) ?_
            refine m_above_1 (by omega) hz ?_
            refine a_istoren_3 (pc := 71) dX12_taken_71 (by decide) (by first | rfl | trivial) ?_
            refine a_goto (pc := 72) (tgt := 58) dX12_taken_72 (by decide) ?_
            refine a_iloadn_3 (pc := 58) dX12_taken_58 ?_
            refine a_iloadn_2 (pc := 59) dX12_taken_59 ?_
            refine n_icmp_eq (tgt := 75) dX12_taken_60 (by decide) (by decide) (by decide) (fun c_60 => by omega) (fun c_60 => ?_)
            refine a_iloadn_3 (pc := 63) dX12_taken_63 ?_
            refine n_if_le (tgt := 75) dX12_taken_64 (by decide) (by decide) (fun c_64 => ?_) (fun c_64 => by omega)
            refine a_iloadn_3 (pc := 75) dX12_taken_75 ?_
            refine a_iloadn_2 (pc := 76) dX12_taken_76 ?_
            refine n_icmp_ne (tgt := 93) dX12_taken_77 (by decide) (by decide) (by decide) (fun c_77 => ?_) (fun c_77 => by omega)
            refine a_bipush (pc := 93) (v := (-12)) dX12_taken_93 (by decide) ?_
            exact a_iret (pc := 95) dX12_taken_95 rfl (zf hz) (k1 n_dd m 5 (by omega) rfl rfl (by decide) hmb hsm _ (by rw [hkd]; rfl))
          · refine a_ls (ls' := [some _, some _, some _, some _]) ⟨rfl, rfl, rfl, rfl, trivial⟩ ?_
            refine a_iloadn_3 (pc := 58) dX12_taken_58 ?_
            refine a_iloadn_2 (pc := 59) dX12_taken_59 ?_
            refine n_icmp_eq (tgt := 75) dX12_taken_60 (by decide) (by decide) (by decide) (fun c_60 => by omega) (fun c_60 => ?_)
            refine a_iloadn_3 (pc := 63) dX12_taken_63 ?_
            refine n_if_le (tgt := 75) dX12_taken_64 (by decide) (by decide) (fun c_64 => by omega) (fun c_64 => ?_)
            refine a_iloadn_3 (pc := 67) dX12_taken_67 ?_
            refine cs_X12_343 (pc := 68) rfl dX12_taken_68 (Nat.le_of_ble_eq_true rfl) ?_
            refine m_above_7 (by omega) hz ?_
            refine a_istoren_3 (pc := 71) dX12_taken_71 (by decide) (by first | rfl | trivial) ?_
            refine a_goto (pc := 72) (tgt := 58) dX12_taken_72 (by decide) ?_
            refine a_iloadn_3 (pc := 58) dX12_taken_58 ?_
            refine a_iloadn_2 (pc := 59) dX12_taken_59 ?_
            refine n_icmp_eq (tgt := 75) dX12_taken_60 (by decide) (by decide) (by decide) (fun c_60 => by omega) (fun c_60 => ?_)
            refine a_iloadn_3 (pc := 63) dX12_taken_63 ?_
            refine n_if_le (tgt := 75) dX12_taken_64 (by decide) (by decide) (fun c_64 => by omega) (fun c_64 => ?_)
            refine a_iloadn_3 (pc := 67) dX12_taken_67 ?_
            refine cs_X12_343 (pc := 68) rfl dX12_taken_68 (Nat.le_of_ble_eq_true rfl) ?_
            refine m_above_4 (by omega) hz ?_
            refine a_istoren_3 (pc := 71) dX12_taken_71 (by decide) (by first | rfl | trivial) ?_
            refine a_goto (pc := 72) (tgt := 58) dX12_taken_72 (by decide) ?_
            refine a_iloadn_3 (pc := 58) dX12_taken_58 ?_
            refine a_iloadn_2 (pc := 59) dX12_taken_59 ?_
            refine n_icmp_eq (tgt := 75) dX12_taken_60 (by decide) (by decide) (by decide) (fun c_60 => by omega) (fun c_60 => ?_)
            refine a_iloadn_3 (pc := 63) dX12_taken_63 ?_
            refine n_if_le (tgt := 75) dX12_taken_64 (by decide) (by decide) (fun c_64 => by omega) (fun c_64 => ?_)
            refine a_iloadn_3 (pc := 67) dX12_taken_67 ?_
            refine cs_X12_343 (pc := 68) rfl dX12_taken_68 (Nat.le_of_ble_eq_true rfl) ?_
            refine m_above_1 (by omega) hz ?_
            refine a_istoren_3 (pc := 71) dX12_taken_71 (by decide) (by first | rfl | trivial) ?_
            refine a_goto (pc := 72) (tgt := 58) dX12_taken_72 (by decide) ?_
            refine a_iloadn_3 (pc := 58) dX12_taken_58 ?_
            refine a_iloadn_2 (pc := 59) dX12_taken_59 ?_
            refine n_icmp_eq (tgt := 75) dX12_taken_60 (by decide) (by decide) (by decide) (fun c_60 => by omega) (fun c_60 => ?_)
            refine a_iloadn_3 (pc := 63) dX12_taken_63 ?_
            refine n_if_le (tgt := 75) dX12_taken_64 (by decide) (by decide) (fun c_64 => ?_) (fun c_64 => by omega)
            refine a_iloadn_3 (pc := 75) dX12_taken_75 ?_
            refine a_iloadn_2 (pc := 76) dX12_taken_76 ?_
            refine n_icmp_ne (tgt := 93) dX12_taken_77 (by decide) (by decide) (by decide) (fun c_77 => ?_) (fun c_77 => by omega)
            refine a_bipush (pc := 93) (v := (-12)) dX12_taken_93 (by decide) ?_
            exact a_iret (pc := 95) dX12_taken_95 rfl (zf hz) (k1 n_dd m 6 (by omega) rfl rfl (by decide) hmb hsm _ (by rw [hkd]; rfl))
          · refine a_ls (ls' := [some _, some _, some _, some _]) ⟨rfl, rfl, rfl, rfl, trivial⟩ ?_
            refine a_iloadn_3 (pc := 58) dX12_taken_58 ?_
            refine a_iloadn_2 (pc := 59) dX12_taken_59 ?_
            refine n_icmp_eq (tgt := 75) dX12_taken_60 (by decide) (by decide) (by decide) (fun c_60 => ?_) (fun c_60 => by omega)
            refine a_iloadn_3 (pc := 75) dX12_taken_75 ?_
            refine a_iloadn_2 (pc := 76) dX12_taken_76 ?_
            refine n_icmp_ne (tgt := 93) dX12_taken_77 (by decide) (by decide) (by decide) (fun c_77 => by omega) (fun c_77 => ?_)
            refine a_aloadn_0 (pc := 80) dX12_taken_80 ?_
            refine a_aloadn_0 (pc := 81) dX12_taken_81 ?_
            refine mg_71 hm rfl dX12_taken_82 ?_
            refine a_iloadn_1 (pc := 85) dX12_taken_85 ?_
            refine ml_shelf (x := nI (m)) hm dX12_taken_86 (by omega) hsm ?_
            refine cv_X12_340 (pc := 87) rfl dX12_taken_87 hm.2.2.1 (Nat.le_of_ble_eq_true rfl) ?_
            refine m_kindOf (by omega) hz hm (by omega) ?_
            rw [hkd]
            refine a_goto (pc := 90) (tgt := 95) dX12_taken_90 (by decide) ?_
            exact a_iret (pc := 95) dX12_taken_95 rfl (zf hz) (k1 n_dd m 7 (by omega) rfl rfl (by decide) hmb hsm _ (by rw [hkd]; rfl))
        · refine a_bipush (pc := 44) (v := (-12)) dX12_taken_44 (by decide) ?_
          exact a_iret (pc := 46) dX12_taken_46 rfl (zf hz) (k12 n_dd n_k (by omega) rfl rfl (by omega) (Int32.not_lt.mp c_41))
      · refine a_bipush (pc := 30) (v := (-11)) dX12_taken_30 (by decide) ?_
        exact a_iret (pc := 32) dX12_taken_32 rfl (zf hz) (k11 n_dd n_k (by omega) rfl rfl (by omega) (Int32.not_le.mp c_27))
    · refine a_iconst (pc := 19) (v := (-1)) dX12_taken_19 (by decide) ?_
      exact a_iret (pc := 20) dX12_taken_20 rfl (zf hz) (kB (by simp [c_4, i_dd, c_16]))
