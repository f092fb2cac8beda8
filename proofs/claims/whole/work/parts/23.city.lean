abbrev cNum (v : Cv) (r w : Nat) : Nat := match w with
  | 0 => cW v r
  | 1 => cG v r
  | 2 => (cC v r).toNat
  | 3 => (cK v r).toNat
  | 4 => cH v
  | 5 => cB v
  | _ => cT v
abbrev cTell (v : Cv) (r w x : Nat) : Cv := match w with
  | 0 => csW v r x
  | 1 => (cW v, va_up (cG v) r x, v.2.2)
  | 2 => (cW v, cG v, cK v, va_up (cC v) r (decide (0 < x)), v.2.2.2.2)
  | 3 => (cW v, cG v, va_up (cK v) r (decide (0 < x)), v.2.2.2)
  | 4 => (cW v, cG v, cK v, cC v, (x, cB v, cT v), v.2.2.2.2.2)
  | 5 => (cW v, cG v, cK v, cC v, (cH v, x, cT v), v.2.2.2.2.2)
  | _ => (cW v, cG v, cK v, cC v, (cH v, cB v, x), v.2.2.2.2.2)
/-- what a number may become -/
def mayN (w x : Nat) : Prop := (sI 0).getD w 0 ≤ nI x ∧ nI x ≤ (sI 1).getD w 0 ∧ x < 2147483648
theorem bit_i2 (b : Bool) : (if b then (1 : Int64) else 0).toInt32 = nI b.toNat := by cases b <;> decide
theorem putC_g {G : Cx} {h : List va_E} {a : Nat} {v : Cv} {g : Nat → Nat} (H : cityAt G h a v) : h.set (a + 2) (ints G 36 g) = putC G h a (cW v, g, v.2.2) := by
  obtain ⟨h1, h2, h3, h4⟩ := H
  unfold putC
  rw [hs_id (q := a) h1, hs_id (q := a + 1) h2]
theorem mayN_le {w x : Nat} (h : mayN w x) (hw : w ≤ 6) : x ≤ 99 ∧ (w = 1 → x ≤ 9) ∧ (w = 2 ∨ w = 3 → x ≤ 1) ∧ (w = 4 → 1 ≤ x ∧ x ≤ 9) ∧ (w = 5 → 1 ≤ x ∧ x ≤ 4) ∧ (w = 6 → x ≤ 11) := by
  obtain ⟨h1, h2, h3⟩ := h
  have key : ∀ n : Nat, n < 2147483648 → nI x ≤ nI n → x ≤ n := fun n hn q => (nI_leI h3 hn).mp q
  have key2 : nI 1 ≤ nI x → 1 ≤ x := fun q => (nI_leI (by decide) h3).mp q
  rcases (show w = 0 ∨ w = 1 ∨ w = 2 ∨ w = 3 ∨ w = 4 ∨ w = 5 ∨ w = 6 by omega) with rfl | rfl | rfl | rfl | rfl | rfl | rfl
  · have := key 99 (by decide) h2; omega
  · have := key 9 (by decide) h2; omega
  · have := key 1 (by decide) h2; omega
  · have := key 1 (by decide) h2; omega
  · have := key 9 (by decide) h2; have := key2 h1; omega
  · have := key 4 (by decide) h2; have := key2 h1; omega
  · have := key 11 (by decide) h2; omega
theorem okC_tell {v : Cv} {r w x : Nat} (h : okC v) (hw : w ≤ 6) (hr : w ≤ 3 → r < 36) (hx : mayN w x) : okC (cTell v r w x) := by
  obtain ⟨b0, b1, b2, b4, b5, b6⟩ := mayN_le hx hw
  rcases (show w = 0 ∨ w = 1 ∨ w = 2 ∨ w = 3 ∨ w = 4 ∨ w = 5 ∨ w = 6 by omega) with rfl | rfl | rfl | rfl | rfl | rfl | rfl
  · exact okC_W h (hr (by decide)) b0
  · obtain ⟨h1, h2, h3, h4⟩ := h
    have hr := hr (by decide)
    refine ⟨h1, fun k => ?_, fun k hk => ⟨(h3 k hk).1, ?_⟩, h4⟩
    · show va_up (cG v) r x k ≤ 9
      unfold va_up
      split
      · exact b1 rfl
      · exact h2 k
    · show va_up (cG v) r x k = 0
      unfold va_up
      rw [if_neg (by omega)]
      exact (h3 k hk).2
  · exact h
  · exact h
  · exact ⟨h.1, h.2.1, h.2.2.1, b4 rfl, h.2.2.2.2⟩
  · exact ⟨h.1, h.2.1, h.2.2.1, h.2.2.2.1, b5 rfl, h.2.2.2.2.2⟩
  · exact ⟨h.1, h.2.1, h.2.2.1, h.2.2.2.1, h.2.2.2.2.1, b6 rfl, h.2.2.2.2.2.2⟩
set_option maxRecDepth 100000 in
set_option maxHeartbeats 4000000 in
theorem x_numberOf {G : Cx} {d a : Nat} {h : List va_E} {v : Cv} {Q : Option Value → List va_E → Prop} {r w : Nat} (hd : 1 ≤ d) (hz : gz G = false) (hc : cityAt G h a v) (hw : w ≤ 6) (hr : w ≤ 3 → r < 36) (k : Q (some (.int (nI (cNum v r w)))) h) : AM G yX0_numberOf cX0_numberOf 3 (some .int) d 0 0 [.ref (gB G + a), .int (nI r), .int (nI w)] h Q := by
  obtain ⟨d, rfl, he⟩ := dpos hd
  obtain ⟨q0, q1, q2, ok⟩ := id hc
  refine AM.of [some (.ref (gB G + a)), some (.int (nI r)), some (.int (nI w))] pnX0 (Nat.le_of_ble_eq_true rfl) (by simp [lsub, lvI, Value.category]) ?_
  rcases (show w = 0 ∨ w = 1 ∨ w = 2 ∨ w = 3 ∨ w = 4 ∨ w = 5 ∨ w = 6 by omega) with rfl | rfl | rfl | rfl | rfl | rfl | rfl
  · refine a_iloadn_2 (pc := 0) dX0_numberOf_0 ?_
    refine a_tableIn (pc := 1) (off := 39) (tgt := 40) dX0_numberOf_1 (by decide) (by decide) (by decide) (by decide) ?_
    refine a_aloadn_0 (pc := 40) dX0_numberOf_40 ?_
    refine gf_X0_9 (pc := 41) rfl dX0_numberOf_41 (by first | assumption | (repeat first | assumption | apply hs_eq | refine hs_ne (by omega) ?_)) ?_
    refine a_iloadn_1 (pc := 44) dX0_numberOf_44 ?_
    refine a_iald (pc := 45) r dX0_numberOf_45 rfl (hr (by decide)) (by decide) q1 ?_
    exact a_iret (pc := 46) dX0_numberOf_46 rfl (zf hz) k
  · refine a_iloadn_2 (pc := 0) dX0_numberOf_0 ?_
    refine a_tableIn (pc := 1) (off := 46) (tgt := 47) dX0_numberOf_1 (by decide) (by decide) (by decide) (by decide) ?_
    refine a_aloadn_0 (pc := 47) dX0_numberOf_47 ?_
    refine gf_X0_15 (pc := 48) rfl dX0_numberOf_48 (by first | assumption | (repeat first | assumption | apply hs_eq | refine hs_ne (by omega) ?_)) ?_
    refine a_iloadn_1 (pc := 51) dX0_numberOf_51 ?_
    refine a_iald (pc := 52) r dX0_numberOf_52 rfl (hr (by decide)) (by decide) q2 ?_
    exact a_iret (pc := 53) dX0_numberOf_53 rfl (zf hz) k
  · refine a_iloadn_2 (pc := 0) dX0_numberOf_0 ?_
    refine a_tableIn (pc := 1) (off := 53) (tgt := 54) dX0_numberOf_1 (by decide) (by decide) (by decide) (by decide) ?_
    refine a_aloadn_0 (pc := 54) dX0_numberOf_54 ?_
    refine gf_X0_35 (pc := 55) rfl dX0_numberOf_55 (by first | assumption | (repeat first | assumption | apply hs_eq | refine hs_ne (by omega) ?_)) ?_
    refine a_iloadn_1 (pc := 58) dX0_numberOf_58 ?_
    refine a_lushr (pc := 59) dX0_numberOf_59 ?_
    refine a_lconst (pc := 60) (v := 1) dX0_numberOf_60 (by decide) ?_
    refine a_land (pc := 61) dX0_numberOf_61 ?_
    refine a_topl _ (bL_get (hr (by decide))) ?_
    refine a_l2i (pc := 62) dX0_numberOf_62 ?_
    refine a_topi _ (bit_i2 _) ?_
    exact a_iret (pc := 63) dX0_numberOf_63 rfl (zf hz) k
  · refine a_iloadn_2 (pc := 0) dX0_numberOf_0 ?_
    refine a_tableIn (pc := 1) (off := 63) (tgt := 64) dX0_numberOf_1 (by decide) (by decide) (by decide) (by decide) ?_
    refine a_aloadn_0 (pc := 64) dX0_numberOf_64 ?_
    refine gf_X0_42 (pc := 65) rfl dX0_numberOf_65 (by first | assumption | (repeat first | assumption | apply hs_eq | refine hs_ne (by omega) ?_)) ?_
    refine a_iloadn_1 (pc := 68) dX0_numberOf_68 ?_
    refine a_lushr (pc := 69) dX0_numberOf_69 ?_
    refine a_lconst (pc := 70) (v := 1) dX0_numberOf_70 (by decide) ?_
    refine a_land (pc := 71) dX0_numberOf_71 ?_
    refine a_topl _ (bL_get (hr (by decide))) ?_
    refine a_l2i (pc := 72) dX0_numberOf_72 ?_
    refine a_topi _ (bit_i2 _) ?_
    exact a_iret (pc := 73) dX0_numberOf_73 rfl (zf hz) k
  · refine a_iloadn_2 (pc := 0) dX0_numberOf_0 ?_
    refine a_tableIn (pc := 1) (off := 73) (tgt := 74) dX0_numberOf_1 (by decide) (by decide) (by decide) (by decide) ?_
    refine a_aloadn_0 (pc := 74) dX0_numberOf_74 ?_
    refine gf_X0_18 (pc := 75) rfl dX0_numberOf_75 (by first | assumption | (repeat first | assumption | apply hs_eq | refine hs_ne (by omega) ?_)) ?_
    exact a_iret (pc := 78) dX0_numberOf_78 rfl (zf hz) k
  · refine a_iloadn_2 (pc := 0) dX0_numberOf_0 ?_
    refine a_tableIn (pc := 1) (off := 78) (tgt := 79) dX0_numberOf_1 (by decide) (by decide) (by decide) (by decide) ?_
    refine a_aloadn_0 (pc := 79) dX0_numberOf_79 ?_
    refine gf_X0_22 (pc := 80) rfl dX0_numberOf_80 (by first | assumption | (repeat first | assumption | apply hs_eq | refine hs_ne (by omega) ?_)) ?_
    exact a_iret (pc := 83) dX0_numberOf_83 rfl (zf hz) k
  · refine a_iloadn_2 (pc := 0) dX0_numberOf_0 ?_
    refine a_tableOut (pc := 1) (tgt := 84) dX0_numberOf_1 (by decide) (by decide) ?_
    refine a_aloadn_0 (pc := 84) dX0_numberOf_84 ?_
    refine gf_X0_45 (pc := 85) rfl dX0_numberOf_85 (by first | assumption | (repeat first | assumption | apply hs_eq | refine hs_ne (by omega) ?_)) ?_
    exact a_iret (pc := 88) dX0_numberOf_88 rfl (zf hz) k

set_option maxRecDepth 100000 in
set_option maxHeartbeats 4000000 in
theorem x_tell {G : Cx} {d a : Nat} {h : List va_E} {v : Cv} {Q : Option Value → List va_E → Prop} {r w x : Nat} (hd : 3 ≤ d) (hz : gz G = false) (hc : cityAt G h a v) (hw : w ≤ 6) (hr : w ≤ 3 → r < 36) (hx : mayN w x) (k : Q none (putC G h a (cTell v r w x))) : AM G yX0_tell cX0_tell 4 none d 0 0 [.ref (gB G + a), .int (nI r), .int (nI w), .int (nI x)] h Q := by
  obtain ⟨d, rfl, he⟩ := dpos hd
  obtain ⟨q0, q1, q2, ok⟩ := id hc
  obtain ⟨b0, b1, b2, b4, b5, b6⟩ := mayN_le hx hw
  refine AM.of [some (.ref (gB G + a)), some (.int (nI r)), some (.int (nI w)), some (.int (nI x))] pnX0 (Nat.le_of_ble_eq_true rfl) (by simp [lsub, lvI, Value.category]) ?_
  rcases (show w = 0 ∨ w = 1 ∨ w = 2 ∨ w = 3 ∨ w = 4 ∨ w = 5 ∨ w = 6 by omega) with rfl | rfl | rfl | rfl | rfl | rfl | rfl
  · refine a_iloadn_2 (pc := 0) dX0_tell_0 ?_
    refine a_tableIn (pc := 1) (off := 39) (tgt := 40) dX0_tell_1 (by decide) (by decide) (by decide) (by decide) ?_
    refine a_aloadn_0 (pc := 40) dX0_tell_40 ?_
    refine a_iloadn_1 (pc := 41) dX0_tell_41 ?_
    refine a_iloadn_3 (pc := 42) dX0_tell_42 ?_
    refine cv_X0_70 (pc := 43) rfl dX0_tell_43 (by first | assumption | (repeat first | assumption | apply hs_eq | refine hs_ne (by omega) ?_)) (Nat.le_of_ble_eq_true rfl) ?_
    refine x_setWax he hz hc (hr (by decide)) b0 ?_
    refine a_goto (pc := 46) (tgt := 112) dX0_tell_46 (by decide) ?_
    exact a_vret (pc := 112) dX0_tell_112 rfl (zf hz) k
  · refine a_iloadn_2 (pc := 0) dX0_tell_0 ?_
    refine a_tableIn (pc := 1) (off := 48) (tgt := 49) dX0_tell_1 (by decide) (by decide) (by decide) (by decide) ?_
    refine a_aloadn_0 (pc := 49) dX0_tell_49 ?_
    refine gf_X0_15 (pc := 50) rfl dX0_tell_50 (by first | assumption | (repeat first | assumption | apply hs_eq | refine hs_ne (by omega) ?_)) ?_
    refine a_iloadn_1 (pc := 53) dX0_tell_53 ?_
    refine a_iloadn_3 (pc := 54) dX0_tell_54 ?_
    refine a_iast (pc := 55) r dX0_tell_55 rfl (hr (by decide)) (by decide) q2 ?_
    refine a_goto (pc := 56) (tgt := 112) dX0_tell_56 (by decide) ?_
    exact a_vret (pc := 112) dX0_tell_112 rfl (zf hz) (by rw [upd_nI, putC_g hc]; exact k)
  · refine a_iloadn_2 (pc := 0) dX0_tell_0 ?_
    refine a_tableIn (pc := 1) (off := 58) (tgt := 59) dX0_tell_1 (by decide) (by decide) (by decide) (by decide) ?_
    refine a_aloadn_0 (pc := 59) dX0_tell_59 ?_
    refine a_aloadn_0 (pc := 60) dX0_tell_60 ?_
    refine gf_X0_35 (pc := 61) rfl dX0_tell_61 (by first | assumption | (repeat first | assumption | apply hs_eq | refine hs_ne (by omega) ?_)) ?_
    refine a_iloadn_1 (pc := 64) dX0_tell_64 ?_
    refine a_iloadn_3 (pc := 65) dX0_tell_65 ?_
    refine cs_X0_60 (pc := 66) rfl dX0_tell_66 (Nat.le_of_ble_eq_true rfl) ?_
    refine x_withBit (by omega) hz (hr (by decide)) (by omega) ?_
    refine pf_X0_35 (pc := 69) rfl dX0_tell_69 (by first | assumption | (repeat first | assumption | apply hs_eq | refine hs_ne (by omega) ?_)) ?_
    refine a_goto (pc := 72) (tgt := 112) dX0_tell_72 (by decide) ?_
    exact a_vret (pc := 112) dX0_tell_112 rfl (zf hz) (by rw [← putC_o (v' := cTell v r 2 x) hc rfl rfl] at k; exact k)
  · refine a_iloadn_2 (pc := 0) dX0_tell_0 ?_
    refine a_tableIn (pc := 1) (off := 74) (tgt := 75) dX0_tell_1 (by decide) (by decide) (by decide) (by decide) ?_
    refine a_aloadn_0 (pc := 75) dX0_tell_75 ?_
    refine a_aloadn_0 (pc := 76) dX0_tell_76 ?_
    refine gf_X0_42 (pc := 77) rfl dX0_tell_77 (by first | assumption | (repeat first | assumption | apply hs_eq | refine hs_ne (by omega) ?_)) ?_
    refine a_iloadn_1 (pc := 80) dX0_tell_80 ?_
    refine a_iloadn_3 (pc := 81) dX0_tell_81 ?_
    refine cs_X0_60 (pc := 82) rfl dX0_tell_82 (Nat.le_of_ble_eq_true rfl) ?_
    refine x_withBit (by omega) hz (hr (by decide)) (by omega) ?_
    refine pf_X0_42 (pc := 85) rfl dX0_tell_85 (by first | assumption | (repeat first | assumption | apply hs_eq | refine hs_ne (by omega) ?_)) ?_
    refine a_goto (pc := 88) (tgt := 112) dX0_tell_88 (by decide) ?_
    exact a_vret (pc := 112) dX0_tell_112 rfl (zf hz) (by rw [← putC_o (v' := cTell v r 3 x) hc rfl rfl] at k; exact k)
  · refine a_iloadn_2 (pc := 0) dX0_tell_0 ?_
    refine a_tableIn (pc := 1) (off := 90) (tgt := 91) dX0_tell_1 (by decide) (by decide) (by decide) (by decide) ?_
    refine a_aloadn_0 (pc := 91) dX0_tell_91 ?_
    refine a_iloadn_3 (pc := 92) dX0_tell_92 ?_
    refine pf_X0_18 (pc := 93) rfl dX0_tell_93 (by first | assumption | (repeat first | assumption | apply hs_eq | refine hs_ne (by omega) ?_)) ?_
    refine a_goto (pc := 96) (tgt := 112) dX0_tell_96 (by decide) ?_
    exact a_vret (pc := 112) dX0_tell_112 rfl (zf hz) (by rw [← putC_o (v' := cTell v r 4 x) hc rfl rfl] at k; exact k)
  · refine a_iloadn_2 (pc := 0) dX0_tell_0 ?_
    refine a_tableIn (pc := 1) (off := 98) (tgt := 99) dX0_tell_1 (by decide) (by decide) (by decide) (by decide) ?_
    refine a_aloadn_0 (pc := 99) dX0_tell_99 ?_
    refine a_iloadn_3 (pc := 100) dX0_tell_100 ?_
    refine pf_X0_22 (pc := 101) rfl dX0_tell_101 (by first | assumption | (repeat first | assumption | apply hs_eq | refine hs_ne (by omega) ?_)) ?_
    refine a_goto (pc := 104) (tgt := 112) dX0_tell_104 (by decide) ?_
    exact a_vret (pc := 112) dX0_tell_112 rfl (zf hz) (by rw [← putC_o (v' := cTell v r 5 x) hc rfl rfl] at k; exact k)
  · refine a_iloadn_2 (pc := 0) dX0_tell_0 ?_
    refine a_tableOut (pc := 1) (tgt := 107) dX0_tell_1 (by decide) (by decide) ?_
    refine a_aloadn_0 (pc := 107) dX0_tell_107 ?_
    refine a_iloadn_3 (pc := 108) dX0_tell_108 ?_
    refine pf_X0_45 (pc := 109) rfl dX0_tell_109 (by first | assumption | (repeat first | assumption | apply hs_eq | refine hs_ne (by omega) ?_)) ?_
    exact a_vret (pc := 112) dX0_tell_112 rfl (zf hz) (by rw [← putC_o (v' := cTell v r 6 x) hc rfl rfl] at k; exact k)

