/-! acts called: both sides -/
def actS (n sk ac : Nat) (x : Int32) : Ac := match ac with
  | 0 => bS n sk x
  | 1 => hS n sk sk x
  | 2 => lS n sk sk x
  | _ => tlS n sk sk x
theorem body_of {sz : Nat} {x : Int32} (hs : sz ≤ 50) (h : inR 0 (nI sz - nI 1) x = true) : ∃ n, n < sz ∧ x = nI n := by
  by_cases e : sz = 0
  · subst e
    unfold inR at h
    rw [Bool.and_eq_true, decide_eq_true_iff, decide_eq_true_iff] at h
    have h2 := Int32.le_trans h.1 h.2
    exact absurd h2 (by decide)
  · rw [pk_sub (show 1 ≤ sz by omega)] at h
    obtain ⟨n, hn, rfl⟩ := inR_of (by omega) h
    exact ⟨n, by omega, rfl⟩
theorem inR_out {hi : Nat} {x : Int32} (hh : hi < 2147483648) (h : inR 0 (nI hi) x = false) : x.toInt < 0 ∨ (hi : Int) < x.toInt := by
  unfold inR at h
  rw [Bool.and_eq_false_iff, decide_eq_false_iff_not, decide_eq_false_iff_not, Int32.le_iff_toInt_le, Int32.le_iff_toInt_le, nI_toInt hh] at h
  have e0 : (0 : Int32).toInt = 0 := by decide
  rw [e0] at h
  omega
def chn (k : Nat) : List Nat := match k with
  | 0 => [0]
  | 1 => [1, 0]
  | 2 => [2, 0]
  | 3 => [3, 2, 0]
  | 4 => [4, 1, 0]
  | 5 => [5, 3, 2, 0]
  | 6 => [6, 0]
  | 7 => [7, 4, 1, 0]
  | _ => []
theorem inR_lit3 (n : Nat) (h : n < 4) : inR 0 (nI 3) (nI n) = true := by
  rw [inR_nI (by decide) (by omega)]; exact decide_eq_true (by omega)
set_option maxRecDepth 100000 in
set_option maxHeartbeats 4000000 in
theorem k_add {G : Cx} {d : Nat} {h h0 : List va_E} {a : Su} {s : Rn} {Q : Option Value → List va_E → Prop} (hd : 1 ≤ d) (hz : gz G = false) (hm : SU G h0 h a s) {kd : Nat} (hs : a.2.1 < 1000) (k0 : 50 ≤ a.2.1 → Q (some (.int (-3))) h) (k1 : a.2.1 < 50 → ∀ h1, SU G h0 h1 (va_up a.1 a.2.1 kd, a.2.1 + 1, a.2.2) s → Q (some (.int (nI a.2.1))) h1) : AM G yX5_add cX5_add 2 (some .int) d 0 0 [.ref (gB G + 62), .int (nI kd)] h Q := by
  obtain ⟨d, rfl, he⟩ := dpos hd
  refine AM.of [some (.ref (gB G + 62)), some (.int (nI (kd)))] pnX5 (Nat.le_of_ble_eq_true rfl) (by simp [lsub, lvI, Value.category]) ?_
  refine a_aloadn_0 (pc := 0) dX5_add_0 ?_
  refine kg_18 (x := a.2.1) hm rfl dX5_add_1 rfl ?_
  refine a_bipush (pc := 4) (v := nI 50) dX5_add_4 (by decide) ?_
  refine n_icmp_lt (tgt := 12) dX5_add_6 (by decide) (by omega) (by decide) (fun c_6 => ?_) (fun c_6 => ?_)
  · refine a_aloadn_0 (pc := 12) dX5_add_12 ?_
    refine kg_9 hm rfl dX5_add_13 ?_
    refine a_aloadn_0 (pc := 16) dX5_add_16 ?_
    refine kg_18 (x := a.2.1) hm rfl dX5_add_17 rfl ?_
    refine a_iloadn_1 (pc := 20) dX5_add_20 ?_
    refine ks_kinds (j := a.2.1) (x := kd) hm dX5_add_21 (by omega) (fun h1 hm1 => ?_)
    refine a_aloadn_0 (pc := 22) dX5_add_22 ?_
    refine a_dup (pc := 23) dX5_add_23 rfl ?_
    refine kg_18 (x := a.2.1) hm1 rfl dX5_add_24 rfl ?_
    refine a_iconst (pc := 27) (v := nI 1) dX5_add_27 (by decide) ?_
    refine n_iadd dX5_add_28 ?_
    refine kp_18 (x := a.2.1 + 1) hm1 rfl dX5_add_29 (fun h2 hm2 => ?_)
    refine a_aloadn_0 (pc := 32) dX5_add_32 ?_
    refine kg_18 (x := a.2.1 + 1) hm2 rfl dX5_add_33 rfl ?_
    refine a_iconst (pc := 36) (v := nI 1) dX5_add_36 (by decide) ?_
    refine n_isub dX5_add_37 (by omega) ?_
    refine a_topi (nI (a.2.1)) (congrArg nI (by omega)) ?_
    exact a_iret (pc := 38) dX5_add_38 rfl (zf hz) (k1 c_6 _ hm2)
  · 
    refine a_bipush (pc := 9) (v := (-3)) dX5_add_9 (by decide) ?_
    exact a_iret (pc := 11) dX5_add_11 rfl (zf hz) (k0 c_6)
set_option maxRecDepth 100000 in
set_option maxHeartbeats 4000000 in
theorem k_kindOf {G : Cx} {d : Nat} {h h0 : List va_E} {a : Su} {s : Rn} {Q : Option Value → List va_E → Prop} (hd : 2 ≤ d) (hz : gz G = false) (hm : SU G h0 h a s) {x : Int32} (hs : a.2.1 ≤ 50) (k0 : inR 0 (nI a.2.1 - nI 1) x = false → Q (some (.int (-1))) h) (k1 : ∀ n, n < a.2.1 → x = nI n → Q (some (.int (nI (a.1 n)))) h) : AM G yX5_kindOf cX5_kindOf 2 (some .int) d 0 0 [.ref (gB G + 62), .int x] h Q := by
  obtain ⟨d, rfl, he⟩ := dpos hd
  refine AM.of [some (.ref (gB G + 62)), some (.int (x))] pnX5 (Nat.le_of_ble_eq_true rfl) (by simp [lsub, lvI, Value.category]) ?_
  refine a_iloadn_1 (pc := 0) dX5_kindOf_0 ?_
  refine a_iconst (pc := 1) (v := nI 0) dX5_kindOf_1 (by decide) ?_
  refine a_aloadn_0 (pc := 2) dX5_kindOf_2 ?_
  refine kg_18 (x := a.2.1) hm rfl dX5_kindOf_3 rfl ?_
  refine a_iconst (pc := 6) (v := nI 1) dX5_kindOf_6 (by decide) ?_
  refine a_isub (pc := 7) dX5_kindOf_7 ?_
  refine cs_X5_22 (pc := 8) rfl dX5_kindOf_8 (Nat.le_of_ble_eq_true rfl) ?_
  refine x_within (by omega) hz ?_
  refine a_topi (bI (inR 0 ((nI (a.2.1) - nI (1))) ((x)))) rfl ?_
  refine b_if_eq (pc := 11) (tgt := 23) dX5_kindOf_11 (by decide) (fun c_11 => ?_) (fun c_11 => ?_)
  · refine a_iconst (pc := 23) (v := (-1)) dX5_kindOf_23 (by decide) ?_
    exact a_iret (pc := 24) dX5_kindOf_24 rfl (zf hz) (k0 c_11)
  · obtain ⟨n, hn, rfl⟩ := body_of hs c_11
    refine a_aloadn_0 (pc := 14) dX5_kindOf_14 ?_
    refine kg_9 hm rfl dX5_kindOf_15 ?_
    refine a_iloadn_1 (pc := 18) dX5_kindOf_18 ?_
    refine kl_kinds (x := a.1 n) hm dX5_kindOf_19 (by omega) rfl ?_
    refine a_goto (pc := 20) (tgt := 24) dX5_kindOf_20 (by decide) ?_
    exact a_iret (pc := 24) dX5_kindOf_24 rfl (zf hz) (k1 n hn rfl)
set_option maxRecDepth 100000 in
set_option maxHeartbeats 4000000 in
theorem k_traced {G : Cx} {d : Nat} {h h0 : List va_E} {a : Su} {s : Rn} {Q : Option Value → List va_E → Prop} (hd : 2 ≤ d) (hz : gz G = false) (hm : SU G h0 h a s) {x : Int32} (hs : s.2 < 1000) (k0 : inR 0 (nI (min s.2 24) - nI 1) x = false → Q (some (.int (-1))) h) (k1 : ∀ n, n < min s.2 24 → x = nI n → Q (some (.int (nI (s.1 n)))) h) : AM G yX5_traced cX5_traced 2 (some .int) d 0 0 [.ref (gB G + 62), .int x] h Q := by
  obtain ⟨d, rfl, he⟩ := dpos hd
  refine AM.of [some (.ref (gB G + 62)), some (.int (x))] pnX5 (Nat.le_of_ble_eq_true rfl) (by simp [lsub, lvI, Value.category]) ?_
  refine a_iloadn_1 (pc := 0) dX5_traced_0 ?_
  refine a_iconst (pc := 1) (v := nI 0) dX5_traced_1 (by decide) ?_
  refine a_aloadn_0 (pc := 2) dX5_traced_2 ?_
  refine kg_29 (x := s.2) hm rfl dX5_traced_3 rfl ?_
  refine a_bipush (pc := 6) (v := nI 24) dX5_traced_6 (by decide) ?_
  refine a_mminR (pc := 8) dX5_traced_8 w_915 (Nat.le_of_ble_eq_true rfl) ?_
  refine a_topi (nI (min s.2 24)) (mmin_nI (by omega) (by decide)) ?_
  refine a_iconst (pc := 11) (v := nI 1) dX5_traced_11 (by decide) ?_
  refine a_isub (pc := 12) dX5_traced_12 ?_
  refine cs_X5_22 (pc := 13) rfl dX5_traced_13 (Nat.le_of_ble_eq_true rfl) ?_
  refine x_within (by omega) hz ?_
  refine a_topi (bI (inR 0 ((nI (min s.2 24) - nI (1))) ((x)))) rfl ?_
  refine b_if_eq (pc := 16) (tgt := 28) dX5_traced_16 (by decide) (fun c_16 => ?_) (fun c_16 => ?_)
  · refine a_iconst (pc := 28) (v := (-1)) dX5_traced_28 (by decide) ?_
    exact a_iret (pc := 29) dX5_traced_29 rfl (zf hz) (k0 c_16)
  · obtain ⟨n, hn, rfl⟩ := body_of (by omega) c_16
    refine a_aloadn_0 (pc := 19) dX5_traced_19 ?_
    refine kg_15 hm rfl dX5_traced_20 ?_
    refine a_iloadn_1 (pc := 23) dX5_traced_23 ?_
    refine kl_trace (x := s.1 n) hm dX5_traced_24 (by omega) rfl ?_
    refine a_goto (pc := 25) (tgt := 29) dX5_traced_25 (by decide) ?_
    exact a_iret (pc := 29) dX5_traced_29 rfl (zf hz) (k1 n (by omega) rfl)
set_option maxRecDepth 100000 in
set_option maxHeartbeats 4000000 in
theorem k_isUnder_m {G : Cx} {d t : Nat} {h : List va_E} {Q : Option Value → List va_E → Prop} (hd : 1 ≤ d) (hz : gz G = false) (ht : t < 8) (k : Q (some (.int (bI (decide (t ∈ chn 9))))) h) : AM G yX5_isUnder cX5_isUnder 4 (some .boolean) d 0 0 [.int ((-1)), .int (nI t)] h Q := by
  obtain ⟨d, rfl, he⟩ := dpos hd
  rcases k8 ht with rfl | rfl | rfl | rfl | rfl | rfl | rfl | rfl
  · refine AM.of [some (.int ((-1))), some (.int (nI 0)), none, none] pnX5 (Nat.le_of_ble_eq_true rfl) (by simp [lsub, lvI, Value.category]) ?_
    refine a_iloadn_0 (pc := 0) dX5_isUnder_0 ?_
    refine a_istoren_2 (pc := 1) dX5_isUnder_1 (by decide) (by first | rfl | trivial) ?_
    refine a_iconst (pc := 2) (v := nI 0) dX5_isUnder_2 (by decide) ?_
    refine a_istoren_3 (pc := 3) dX5_isUnder_3 (by decide) (by first | rfl | trivial) ?_
    refine a_iloadn_3 (pc := 4) dX5_isUnder_4 ?_
    refine a_bipush (pc := 5) (v := nI 8) dX5_isUnder_5 (by decide) ?_
    refine n_icmp_ge (tgt := 31) dX5_isUnder_7 (by decide) (by decide) (by decide) (fun c_7 => by omega) (fun c_7 => ?_)
    refine a_iloadn_2 (pc := 10) dX5_isUnder_10 ?_
    refine a_if_lt (pc := 11) (tgt := 31) dX5_isUnder_11 (by decide) (fun c_11 => ?_) (fun c_11 => absurd c_11 (by decide))
    refine a_iloadn_2 (pc := 31) dX5_isUnder_31 ?_
    refine a_iloadn_1 (pc := 32) dX5_isUnder_32 ?_
    refine a_icmp_ne (pc := 33) (tgt := 40) dX5_isUnder_33 (by decide) (fun c_33 => ?_) (fun c_33 => absurd c_33 (by decide))
    refine a_iconst (pc := 40) (v := nI 0) dX5_isUnder_40 (by decide) ?_
    exact a_zret (pc := 41) dX5_isUnder_41 rfl (by first | rfl | exact bI_nar _ | decide) (zf hz) (by rw [show decide (0 ∈ chn 9) = false by decide] at k; exact k)
  · refine AM.of [some (.int ((-1))), some (.int (nI 1)), none, none] pnX5 (Nat.le_of_ble_eq_true rfl) (by simp [lsub, lvI, Value.category]) ?_
    refine a_iloadn_0 (pc := 0) dX5_isUnder_0 ?_
    refine a_istoren_2 (pc := 1) dX5_isUnder_1 (by decide) (by first | rfl | trivial) ?_
    refine a_iconst (pc := 2) (v := nI 0) dX5_isUnder_2 (by decide) ?_
    refine a_istoren_3 (pc := 3) dX5_isUnder_3 (by decide) (by first | rfl | trivial) ?_
    refine a_iloadn_3 (pc := 4) dX5_isUnder_4 ?_
    refine a_bipush (pc := 5) (v := nI 8) dX5_isUnder_5 (by decide) ?_
    refine n_icmp_ge (tgt := 31) dX5_isUnder_7 (by decide) (by decide) (by decide) (fun c_7 => by omega) (fun c_7 => ?_)
    refine a_iloadn_2 (pc := 10) dX5_isUnder_10 ?_
    refine a_if_lt (pc := 11) (tgt := 31) dX5_isUnder_11 (by decide) (fun c_11 => ?_) (fun c_11 => absurd c_11 (by decide))
    refine a_iloadn_2 (pc := 31) dX5_isUnder_31 ?_
    refine a_iloadn_1 (pc := 32) dX5_isUnder_32 ?_
    refine a_icmp_ne (pc := 33) (tgt := 40) dX5_isUnder_33 (by decide) (fun c_33 => ?_) (fun c_33 => absurd c_33 (by decide))
    refine a_iconst (pc := 40) (v := nI 0) dX5_isUnder_40 (by decide) ?_
    exact a_zret (pc := 41) dX5_isUnder_41 rfl (by first | rfl | exact bI_nar _ | decide) (zf hz) (by rw [show decide (1 ∈ chn 9) = false by decide] at k; exact k)
  · refine AM.of [some (.int ((-1))), some (.int (nI 2)), none, none] pnX5 (Nat.le_of_ble_eq_true rfl) (by simp [lsub, lvI, Value.category]) ?_
    refine a_iloadn_0 (pc := 0) dX5_isUnder_0 ?_
    refine a_istoren_2 (pc := 1) dX5_isUnder_1 (by decide) (by first | rfl | trivial) ?_
    refine a_iconst (pc := 2) (v := nI 0) dX5_isUnder_2 (by decide) ?_
    refine a_istoren_3 (pc := 3) dX5_isUnder_3 (by decide) (by first | rfl | trivial) ?_
    refine a_iloadn_3 (pc := 4) dX5_isUnder_4 ?_
    refine a_bipush (pc := 5) (v := nI 8) dX5_isUnder_5 (by decide) ?_
    refine n_icmp_ge (tgt := 31) dX5_isUnder_7 (by decide) (by decide) (by decide) (fun c_7 => by omega) (fun c_7 => ?_)
    refine a_iloadn_2 (pc := 10) dX5_isUnder_10 ?_
    refine a_if_lt (pc := 11) (tgt := 31) dX5_isUnder_11 (by decide) (fun c_11 => ?_) (fun c_11 => absurd c_11 (by decide))
    refine a_iloadn_2 (pc := 31) dX5_isUnder_31 ?_
    refine a_iloadn_1 (pc := 32) dX5_isUnder_32 ?_
    refine a_icmp_ne (pc := 33) (tgt := 40) dX5_isUnder_33 (by decide) (fun c_33 => ?_) (fun c_33 => absurd c_33 (by decide))
    refine a_iconst (pc := 40) (v := nI 0) dX5_isUnder_40 (by decide) ?_
    exact a_zret (pc := 41) dX5_isUnder_41 rfl (by first | rfl | exact bI_nar _ | decide) (zf hz) (by rw [show decide (2 ∈ chn 9) = false by decide] at k; exact k)
  · refine AM.of [some (.int ((-1))), some (.int (nI 3)), none, none] pnX5 (Nat.le_of_ble_eq_true rfl) (by simp [lsub, lvI, Value.category]) ?_
    refine a_iloadn_0 (pc := 0) dX5_isUnder_0 ?_
    refine a_istoren_2 (pc := 1) dX5_isUnder_1 (by decide) (by first | rfl | trivial) ?_
    refine a_iconst (pc := 2) (v := nI 0) dX5_isUnder_2 (by decide) ?_
    refine a_istoren_3 (pc := 3) dX5_isUnder_3 (by decide) (by first | rfl | trivial) ?_
    refine a_iloadn_3 (pc := 4) dX5_isUnder_4 ?_
    refine a_bipush (pc := 5) (v := nI 8) dX5_isUnder_5 (by decide) ?_
    refine n_icmp_ge (tgt := 31) dX5_isUnder_7 (by decide) (by decide) (by decide) (fun c_7 => by omega) (fun c_7 => ?_)
    refine a_iloadn_2 (pc := 10) dX5_isUnder_10 ?_
    refine a_if_lt (pc := 11) (tgt := 31) dX5_isUnder_11 (by decide) (fun c_11 => ?_) (fun c_11 => absurd c_11 (by decide))
    refine a_iloadn_2 (pc := 31) dX5_isUnder_31 ?_
    refine a_iloadn_1 (pc := 32) dX5_isUnder_32 ?_
    refine a_icmp_ne (pc := 33) (tgt := 40) dX5_isUnder_33 (by decide) (fun c_33 => ?_) (fun c_33 => absurd c_33 (by decide))
    refine a_iconst (pc := 40) (v := nI 0) dX5_isUnder_40 (by decide) ?_
    exact a_zret (pc := 41) dX5_isUnder_41 rfl (by first | rfl | exact bI_nar _ | decide) (zf hz) (by rw [show decide (3 ∈ chn 9) = false by decide] at k; exact k)
  · refine AM.of [some (.int ((-1))), some (.int (nI 4)), none, none] pnX5 (Nat.le_of_ble_eq_true rfl) (by simp [lsub, lvI, Value.category]) ?_
    refine a_iloadn_0 (pc := 0) dX5_isUnder_0 ?_
    refine a_istoren_2 (pc := 1) dX5_isUnder_1 (by decide) (by first | rfl | trivial) ?_
    refine a_iconst (pc := 2) (v := nI 0) dX5_isUnder_2 (by decide) ?_
    refine a_istoren_3 (pc := 3) dX5_isUnder_3 (by decide) (by first | rfl | trivial) ?_
    refine a_iloadn_3 (pc := 4) dX5_isUnder_4 ?_
    refine a_bipush (pc := 5) (v := nI 8) dX5_isUnder_5 (by decide) ?_
    refine n_icmp_ge (tgt := 31) dX5_isUnder_7 (by decide) (by decide) (by decide) (fun c_7 => by omega) (fun c_7 => ?_)
    refine a_iloadn_2 (pc := 10) dX5_isUnder_10 ?_
    refine a_if_lt (pc := 11) (tgt := 31) dX5_isUnder_11 (by decide) (fun c_11 => ?_) (fun c_11 => absurd c_11 (by decide))
    refine a_iloadn_2 (pc := 31) dX5_isUnder_31 ?_
    refine a_iloadn_1 (pc := 32) dX5_isUnder_32 ?_
    refine a_icmp_ne (pc := 33) (tgt := 40) dX5_isUnder_33 (by decide) (fun c_33 => ?_) (fun c_33 => absurd c_33 (by decide))
    refine a_iconst (pc := 40) (v := nI 0) dX5_isUnder_40 (by decide) ?_
    exact a_zret (pc := 41) dX5_isUnder_41 rfl (by first | rfl | exact bI_nar _ | decide) (zf hz) (by rw [show decide (4 ∈ chn 9) = false by decide] at k; exact k)
  · refine AM.of [some (.int ((-1))), some (.int (nI 5)), none, none] pnX5 (Nat.le_of_ble_eq_true rfl) (by simp [lsub, lvI, Value.category]) ?_
    refine a_iloadn_0 (pc := 0) dX5_isUnder_0 ?_
    refine a_istoren_2 (pc := 1) dX5_isUnder_1 (by decide) (by first | rfl | trivial) ?_
    refine a_iconst (pc := 2) (v := nI 0) dX5_isUnder_2 (by decide) ?_
    refine a_istoren_3 (pc := 3) dX5_isUnder_3 (by decide) (by first | rfl | trivial) ?_
    refine a_iloadn_3 (pc := 4) dX5_isUnder_4 ?_
    refine a_bipush (pc := 5) (v := nI 8) dX5_isUnder_5 (by decide) ?_
    refine n_icmp_ge (tgt := 31) dX5_isUnder_7 (by decide) (by decide) (by decide) (fun c_7 => by omega) (fun c_7 => ?_)
    refine a_iloadn_2 (pc := 10) dX5_isUnder_10 ?_
    refine a_if_lt (pc := 11) (tgt := 31) dX5_isUnder_11 (by decide) (fun c_11 => ?_) (fun c_11 => absurd c_11 (by decide))
    refine a_iloadn_2 (pc := 31) dX5_isUnder_31 ?_
    refine a_iloadn_1 (pc := 32) dX5_isUnder_32 ?_
    refine a_icmp_ne (pc := 33) (tgt := 40) dX5_isUnder_33 (by decide) (fun c_33 => ?_) (fun c_33 => absurd c_33 (by decide))
    refine a_iconst (pc := 40) (v := nI 0) dX5_isUnder_40 (by decide) ?_
    exact a_zret (pc := 41) dX5_isUnder_41 rfl (by first | rfl | exact bI_nar _ | decide) (zf hz) (by rw [show decide (5 ∈ chn 9) = false by decide] at k; exact k)
  · refine AM.of [some (.int ((-1))), some (.int (nI 6)), none, none] pnX5 (Nat.le_of_ble_eq_true rfl) (by simp [lsub, lvI, Value.category]) ?_
    refine a_iloadn_0 (pc := 0) dX5_isUnder_0 ?_
    refine a_istoren_2 (pc := 1) dX5_isUnder_1 (by decide) (by first | rfl | trivial) ?_
    refine a_iconst (pc := 2) (v := nI 0) dX5_isUnder_2 (by decide) ?_
    refine a_istoren_3 (pc := 3) dX5_isUnder_3 (by decide) (by first | rfl | trivial) ?_
    refine a_iloadn_3 (pc := 4) dX5_isUnder_4 ?_
    refine a_bipush (pc := 5) (v := nI 8) dX5_isUnder_5 (by decide) ?_
    refine n_icmp_ge (tgt := 31) dX5_isUnder_7 (by decide) (by decide) (by decide) (fun c_7 => by omega) (fun c_7 => ?_)
    refine a_iloadn_2 (pc := 10) dX5_isUnder_10 ?_
    refine a_if_lt (pc := 11) (tgt := 31) dX5_isUnder_11 (by decide) (fun c_11 => ?_) (fun c_11 => absurd c_11 (by decide))
    refine a_iloadn_2 (pc := 31) dX5_isUnder_31 ?_
    refine a_iloadn_1 (pc := 32) dX5_isUnder_32 ?_
    refine a_icmp_ne (pc := 33) (tgt := 40) dX5_isUnder_33 (by decide) (fun c_33 => ?_) (fun c_33 => absurd c_33 (by decide))
    refine a_iconst (pc := 40) (v := nI 0) dX5_isUnder_40 (by decide) ?_
    exact a_zret (pc := 41) dX5_isUnder_41 rfl (by first | rfl | exact bI_nar _ | decide) (zf hz) (by rw [show decide (6 ∈ chn 9) = false by decide] at k; exact k)
  · refine AM.of [some (.int ((-1))), some (.int (nI 7)), none, none] pnX5 (Nat.le_of_ble_eq_true rfl) (by simp [lsub, lvI, Value.category]) ?_
    refine a_iloadn_0 (pc := 0) dX5_isUnder_0 ?_
    refine a_istoren_2 (pc := 1) dX5_isUnder_1 (by decide) (by first | rfl | trivial) ?_
    refine a_iconst (pc := 2) (v := nI 0) dX5_isUnder_2 (by decide) ?_
    refine a_istoren_3 (pc := 3) dX5_isUnder_3 (by decide) (by first | rfl | trivial) ?_
    refine a_iloadn_3 (pc := 4) dX5_isUnder_4 ?_
    refine a_bipush (pc := 5) (v := nI 8) dX5_isUnder_5 (by decide) ?_
    refine n_icmp_ge (tgt := 31) dX5_isUnder_7 (by decide) (by decide) (by decide) (fun c_7 => by omega) (fun c_7 => ?_)
    refine a_iloadn_2 (pc := 10) dX5_isUnder_10 ?_
    refine a_if_lt (pc := 11) (tgt := 31) dX5_isUnder_11 (by decide) (fun c_11 => ?_) (fun c_11 => absurd c_11 (by decide))
    refine a_iloadn_2 (pc := 31) dX5_isUnder_31 ?_
    refine a_iloadn_1 (pc := 32) dX5_isUnder_32 ?_
    refine a_icmp_ne (pc := 33) (tgt := 40) dX5_isUnder_33 (by decide) (fun c_33 => ?_) (fun c_33 => absurd c_33 (by decide))
    refine a_iconst (pc := 40) (v := nI 0) dX5_isUnder_40 (by decide) ?_
    exact a_zret (pc := 41) dX5_isUnder_41 rfl (by first | rfl | exact bI_nar _ | decide) (zf hz) (by rw [show decide (7 ∈ chn 9) = false by decide] at k; exact k)

set_option maxRecDepth 100000 in
set_option maxHeartbeats 4000000 in
theorem k_isUnder_0 {G : Cx} {d t : Nat} {h : List va_E} {Q : Option Value → List va_E → Prop} (hd : 1 ≤ d) (hz : gz G = false) (ht : t < 8) (k : Q (some (.int (bI (decide (t ∈ chn 0))))) h) : AM G yX5_isUnder cX5_isUnder 4 (some .boolean) d 0 0 [.int (nI (0)), .int (nI t)] h Q := by
  obtain ⟨d, rfl, he⟩ := dpos hd
  rcases k8 ht with rfl | rfl | rfl | rfl | rfl | rfl | rfl | rfl
  · refine AM.of [some (.int (nI (0))), some (.int (nI 0)), none, none] pnX5 (Nat.le_of_ble_eq_true rfl) (by simp [lsub, lvI, Value.category]) ?_
    refine a_iloadn_0 (pc := 0) dX5_isUnder_0 ?_
    refine a_istoren_2 (pc := 1) dX5_isUnder_1 (by decide) (by first | rfl | trivial) ?_
    refine a_iconst (pc := 2) (v := nI 0) dX5_isUnder_2 (by decide) ?_
    refine a_istoren_3 (pc := 3) dX5_isUnder_3 (by decide) (by first | rfl | trivial) ?_
    refine a_iloadn_3 (pc := 4) dX5_isUnder_4 ?_
    refine a_bipush (pc := 5) (v := nI 8) dX5_isUnder_5 (by decide) ?_
    refine n_icmp_ge (tgt := 31) dX5_isUnder_7 (by decide) (by decide) (by decide) (fun c_7 => by omega) (fun c_7 => ?_)
    refine a_iloadn_2 (pc := 10) dX5_isUnder_10 ?_
    refine n_if_lt (tgt := 31) dX5_isUnder_11 (by decide) (by decide) ?_
    refine a_iloadn_2 (pc := 14) dX5_isUnder_14 ?_
    refine a_iloadn_1 (pc := 15) dX5_isUnder_15 ?_
    refine n_icmp_eq (tgt := 31) dX5_isUnder_16 (by decide) (by decide) (by decide) (fun c_16 => ?_) (fun c_16 => by omega)
    refine a_iloadn_2 (pc := 31) dX5_isUnder_31 ?_
    refine a_iloadn_1 (pc := 32) dX5_isUnder_32 ?_
    refine n_icmp_ne (tgt := 40) dX5_isUnder_33 (by decide) (by decide) (by decide) (fun c_33 => by omega) (fun c_33 => ?_)
    refine a_iconst (pc := 36) (v := nI 1) dX5_isUnder_36 (by decide) ?_
    refine a_goto (pc := 37) (tgt := 41) dX5_isUnder_37 (by decide) ?_
    exact a_zret (pc := 41) dX5_isUnder_41 rfl (by first | rfl | exact bI_nar _ | decide) (zf hz) (by rw [show decide (0 ∈ chn 0) = true by decide] at k; exact k)
  · refine AM.of [some (.int (nI (0))), some (.int (nI 1)), none, none] pnX5 (Nat.le_of_ble_eq_true rfl) (by simp [lsub, lvI, Value.category]) ?_
    refine a_iloadn_0 (pc := 0) dX5_isUnder_0 ?_
    refine a_istoren_2 (pc := 1) dX5_isUnder_1 (by decide) (by first | rfl | trivial) ?_
    refine a_iconst (pc := 2) (v := nI 0) dX5_isUnder_2 (by decide) ?_
    refine a_istoren_3 (pc := 3) dX5_isUnder_3 (by decide) (by first | rfl | trivial) ?_
    refine a_iloadn_3 (pc := 4) dX5_isUnder_4 ?_
    refine a_bipush (pc := 5) (v := nI 8) dX5_isUnder_5 (by decide) ?_
    refine n_icmp_ge (tgt := 31) dX5_isUnder_7 (by decide) (by decide) (by decide) (fun c_7 => by omega) (fun c_7 => ?_)
    refine a_iloadn_2 (pc := 10) dX5_isUnder_10 ?_
    refine n_if_lt (tgt := 31) dX5_isUnder_11 (by decide) (by decide) ?_
    refine a_iloadn_2 (pc := 14) dX5_isUnder_14 ?_
    refine a_iloadn_1 (pc := 15) dX5_isUnder_15 ?_
    refine n_icmp_eq (tgt := 31) dX5_isUnder_16 (by decide) (by decide) (by decide) (fun c_16 => by omega) (fun c_16 => ?_)
    refine a_gets (pc := 19) (i := 3) (by decide) dX5_isUnder_19 rfl w_897 ?_
    refine a_iloadn_2 (pc := 22) dX5_isUnder_22 ?_
    refine a_sil (pc := 23) 0 (t := 3) (by decide) dX5_isUnder_23 rfl (by decide) ?_
    refine a_topi ((-1)) (by decide) ?_
    refine a_istoren_2 (pc := 24) dX5_isUnder_24 (by decide) (by first | rfl | trivial) ?_
    refine a_iinc_3 (pc := 25) (v := nI (1)) dX5_isUnder_25 (nI_add _ _) (by decide) (by first | rfl | trivial) ?_
    refine a_goto (pc := 28) (tgt := 4) dX5_isUnder_28 (by decide) ?_
    refine a_iloadn_3 (pc := 4) dX5_isUnder_4 ?_
    refine a_bipush (pc := 5) (v := nI 8) dX5_isUnder_5 (by decide) ?_
    refine n_icmp_ge (tgt := 31) dX5_isUnder_7 (by decide) (by decide) (by decide) (fun c_7 => by omega) (fun c_7 => ?_)
    refine a_iloadn_2 (pc := 10) dX5_isUnder_10 ?_
    refine a_if_lt (pc := 11) (tgt := 31) dX5_isUnder_11 (by decide) (fun c_11 => ?_) (fun c_11 => absurd c_11 (by decide))
    refine a_iloadn_2 (pc := 31) dX5_isUnder_31 ?_
    refine a_iloadn_1 (pc := 32) dX5_isUnder_32 ?_
    refine a_icmp_ne (pc := 33) (tgt := 40) dX5_isUnder_33 (by decide) (fun c_33 => ?_) (fun c_33 => absurd c_33 (by decide))
    refine a_iconst (pc := 40) (v := nI 0) dX5_isUnder_40 (by decide) ?_
    exact a_zret (pc := 41) dX5_isUnder_41 rfl (by first | rfl | exact bI_nar _ | decide) (zf hz) (by rw [show decide (1 ∈ chn 0) = false by decide] at k; exact k)
  · refine AM.of [some (.int (nI (0))), some (.int (nI 2)), none, none] pnX5 (Nat.le_of_ble_eq_true rfl) (by simp [lsub, lvI, Value.category]) ?_
    refine a_iloadn_0 (pc := 0) dX5_isUnder_0 ?_
    refine a_istoren_2 (pc := 1) dX5_isUnder_1 (by decide) (by first | rfl | trivial) ?_
    refine a_iconst (pc := 2) (v := nI 0) dX5_isUnder_2 (by decide) ?_
    refine a_istoren_3 (pc := 3) dX5_isUnder_3 (by decide) (by first | rfl | trivial) ?_
    refine a_iloadn_3 (pc := 4) dX5_isUnder_4 ?_
    refine a_bipush (pc := 5) (v := nI 8) dX5_isUnder_5 (by decide) ?_
    refine n_icmp_ge (tgt := 31) dX5_isUnder_7 (by decide) (by decide) (by decide) (fun c_7 => by omega) (fun c_7 => ?_)
    refine a_iloadn_2 (pc := 10) dX5_isUnder_10 ?_
    refine n_if_lt (tgt := 31) dX5_isUnder_11 (by decide) (by decide) ?_
    refine a_iloadn_2 (pc := 14) dX5_isUnder_14 ?_
    refine a_iloadn_1 (pc := 15) dX5_isUnder_15 ?_
    refine n_icmp_eq (tgt := 31) dX5_isUnder_16 (by decide) (by decide) (by decide) (fun c_16 => by omega) (fun c_16 => ?_)
    refine a_gets (pc := 19) (i := 3) (by decide) dX5_isUnder_19 rfl w_897 ?_
    refine a_iloadn_2 (pc := 22) dX5_isUnder_22 ?_
    refine a_sil (pc := 23) 0 (t := 3) (by decide) dX5_isUnder_23 rfl (by decide) ?_
    refine a_topi ((-1)) (by decide) ?_
    refine a_istoren_2 (pc := 24) dX5_isUnder_24 (by decide) (by first | rfl | trivial) ?_
    refine a_iinc_3 (pc := 25) (v := nI (1)) dX5_isUnder_25 (nI_add _ _) (by decide) (by first | rfl | trivial) ?_
    refine a_goto (pc := 28) (tgt := 4) dX5_isUnder_28 (by decide) ?_
    refine a_iloadn_3 (pc := 4) dX5_isUnder_4 ?_
    refine a_bipush (pc := 5) (v := nI 8) dX5_isUnder_5 (by decide) ?_
    refine n_icmp_ge (tgt := 31) dX5_isUnder_7 (by decide) (by decide) (by decide) (fun c_7 => by omega) (fun c_7 => ?_)
    refine a_iloadn_2 (pc := 10) dX5_isUnder_10 ?_
    refine a_if_lt (pc := 11) (tgt := 31) dX5_isUnder_11 (by decide) (fun c_11 => ?_) (fun c_11 => absurd c_11 (by decide))
    refine a_iloadn_2 (pc := 31) dX5_isUnder_31 ?_
    refine a_iloadn_1 (pc := 32) dX5_isUnder_32 ?_
    refine a_icmp_ne (pc := 33) (tgt := 40) dX5_isUnder_33 (by decide) (fun c_33 => ?_) (fun c_33 => absurd c_33 (by decide))
    refine a_iconst (pc := 40) (v := nI 0) dX5_isUnder_40 (by decide) ?_
    exact a_zret (pc := 41) dX5_isUnder_41 rfl (by first | rfl | exact bI_nar _ | decide) (zf hz) (by rw [show decide (2 ∈ chn 0) = false by decide] at k; exact k)
  · refine AM.of [some (.int (nI (0))), some (.int (nI 3)), none, none] pnX5 (Nat.le_of_ble_eq_true rfl) (by simp [lsub, lvI, Value.category]) ?_
    refine a_iloadn_0 (pc := 0) dX5_isUnder_0 ?_
    refine a_istoren_2 (pc := 1) dX5_isUnder_1 (by decide) (by first | rfl | trivial) ?_
    refine a_iconst (pc := 2) (v := nI 0) dX5_isUnder_2 (by decide) ?_
    refine a_istoren_3 (pc := 3) dX5_isUnder_3 (by decide) (by first | rfl | trivial) ?_
    refine a_iloadn_3 (pc := 4) dX5_isUnder_4 ?_
    refine a_bipush (pc := 5) (v := nI 8) dX5_isUnder_5 (by decide) ?_
    refine n_icmp_ge (tgt := 31) dX5_isUnder_7 (by decide) (by decide) (by decide) (fun c_7 => by omega) (fun c_7 => ?_)
    refine a_iloadn_2 (pc := 10) dX5_isUnder_10 ?_
    refine n_if_lt (tgt := 31) dX5_isUnder_11 (by decide) (by decide) ?_
    refine a_iloadn_2 (pc := 14) dX5_isUnder_14 ?_
    refine a_iloadn_1 (pc := 15) dX5_isUnder_15 ?_
    refine n_icmp_eq (tgt := 31) dX5_isUnder_16 (by decide) (by decide) (by decide) (fun c_16 => by omega) (fun c_16 => ?_)
    refine a_gets (pc := 19) (i := 3) (by decide) dX5_isUnder_19 rfl w_897 ?_
    refine a_iloadn_2 (pc := 22) dX5_isUnder_22 ?_
    refine a_sil (pc := 23) 0 (t := 3) (by decide) dX5_isUnder_23 rfl (by decide) ?_
    refine a_topi ((-1)) (by decide) ?_
    refine a_istoren_2 (pc := 24) dX5_isUnder_24 (by decide) (by first | rfl | trivial) ?_
    refine a_iinc_3 (pc := 25) (v := nI (1)) dX5_isUnder_25 (nI_add _ _) (by decide) (by first | rfl | trivial) ?_
    refine a_goto (pc := 28) (tgt := 4) dX5_isUnder_28 (by decide) ?_
    refine a_iloadn_3 (pc := 4) dX5_isUnder_4 ?_
    refine a_bipush (pc := 5) (v := nI 8) dX5_isUnder_5 (by decide) ?_
    refine n_icmp_ge (tgt := 31) dX5_isUnder_7 (by decide) (by decide) (by decide) (fun c_7 => by omega) (fun c_7 => ?_)
    refine a_iloadn_2 (pc := 10) dX5_isUnder_10 ?_
    refine a_if_lt (pc := 11) (tgt := 31) dX5_isUnder_11 (by decide) (fun c_11 => ?_) (fun c_11 => absurd c_11 (by decide))
    refine a_iloadn_2 (pc := 31) dX5_isUnder_31 ?_
    refine a_iloadn_1 (pc := 32) dX5_isUnder_32 ?_
    refine a_icmp_ne (pc := 33) (tgt := 40) dX5_isUnder_33 (by decide) (fun c_33 => ?_) (fun c_33 => absurd c_33 (by decide))
    refine a_iconst (pc := 40) (v := nI 0) dX5_isUnder_40 (by decide) ?_
    exact a_zret (pc := 41) dX5_isUnder_41 rfl (by first | rfl | exact bI_nar _ | decide) (zf hz) (by rw [show decide (3 ∈ chn 0) = false by decide] at k; exact k)
  · refine AM.of [some (.int (nI (0))), some (.int (nI 4)), none, none] pnX5 (Nat.le_of_ble_eq_true rfl) (by simp [lsub, lvI, Value.category]) ?_
    refine a_iloadn_0 (pc := 0) dX5_isUnder_0 ?_
    refine a_istoren_2 (pc := 1) dX5_isUnder_1 (by decide) (by first | rfl | trivial) ?_
    refine a_iconst (pc := 2) (v := nI 0) dX5_isUnder_2 (by decide) ?_
    refine a_istoren_3 (pc := 3) dX5_isUnder_3 (by decide) (by first | rfl | trivial) ?_
    refine a_iloadn_3 (pc := 4) dX5_isUnder_4 ?_
    refine a_bipush (pc := 5) (v := nI 8) dX5_isUnder_5 (by decide) ?_
    refine n_icmp_ge (tgt := 31) dX5_isUnder_7 (by decide) (by decide) (by decide) (fun c_7 => by omega) (fun c_7 => ?_)
    refine a_iloadn_2 (pc := 10) dX5_isUnder_10 ?_
    refine n_if_lt (tgt := 31) dX5_isUnder_11 (by decide) (by decide) ?_
    refine a_iloadn_2 (pc := 14) dX5_isUnder_14 ?_
    refine a_iloadn_1 (pc := 15) dX5_isUnder_15 ?_
    refine n_icmp_eq (tgt := 31) dX5_isUnder_16 (by decide) (by decide) (by decide) (fun c_16 => by omega) (fun c_16 => ?_)
    refine a_gets (pc := 19) (i := 3) (by decide) dX5_isUnder_19 rfl w_897 ?_
    refine a_iloadn_2 (pc := 22) dX5_isUnder_22 ?_
    refine a_sil (pc := 23) 0 (t := 3) (by decide) dX5_isUnder_23 rfl (by decide) ?_
    refine a_topi ((-1)) (by decide) ?_
    refine a_istoren_2 (pc := 24) dX5_isUnder_24 (by decide) (by first | rfl | trivial) ?_
    refine a_iinc_3 (pc := 25) (v := nI (1)) dX5_isUnder_25 (nI_add _ _) (by decide) (by first | rfl | trivial) ?_
    refine a_goto (pc := 28) (tgt := 4) dX5_isUnder_28 (by decide) ?_
    refine a_iloadn_3 (pc := 4) dX5_isUnder_4 ?_
    refine a_bipush (pc := 5) (v := nI 8) dX5_isUnder_5 (by decide) ?_
    refine n_icmp_ge (tgt := 31) dX5_isUnder_7 (by decide) (by decide) (by decide) (fun c_7 => by omega) (fun c_7 => ?_)
    refine a_iloadn_2 (pc := 10) dX5_isUnder_10 ?_
    refine a_if_lt (pc := 11) (tgt := 31) dX5_isUnder_11 (by decide) (fun c_11 => ?_) (fun c_11 => absurd c_11 (by decide))
    refine a_iloadn_2 (pc := 31) dX5_isUnder_31 ?_
    refine a_iloadn_1 (pc := 32) dX5_isUnder_32 ?_
    refine a_icmp_ne (pc := 33) (tgt := 40) dX5_isUnder_33 (by decide) (fun c_33 => ?_) (fun c_33 => absurd c_33 (by decide))
    refine a_iconst (pc := 40) (v := nI 0) dX5_isUnder_40 (by decide) ?_
    exact a_zret (pc := 41) dX5_isUnder_41 rfl (by first | rfl | exact bI_nar _ | decide) (zf hz) (by rw [show decide (4 ∈ chn 0) = false by decide] at k; exact k)
  · refine AM.of [some (.int (nI (0))), some (.int (nI 5)), none, none] pnX5 (Nat.le_of_ble_eq_true rfl) (by simp [lsub, lvI, Value.category]) ?_
    refine a_iloadn_0 (pc := 0) dX5_isUnder_0 ?_
    refine a_istoren_2 (pc := 1) dX5_isUnder_1 (by decide) (by first | rfl | trivial) ?_
    refine a_iconst (pc := 2) (v := nI 0) dX5_isUnder_2 (by decide) ?_
    refine a_istoren_3 (pc := 3) dX5_isUnder_3 (by decide) (by first | rfl | trivial) ?_
    refine a_iloadn_3 (pc := 4) dX5_isUnder_4 ?_
    refine a_bipush (pc := 5) (v := nI 8) dX5_isUnder_5 (by decide) ?_
    refine n_icmp_ge (tgt := 31) dX5_isUnder_7 (by decide) (by decide) (by decide) (fun c_7 => by omega) (fun c_7 => ?_)
    refine a_iloadn_2 (pc := 10) dX5_isUnder_10 ?_
    refine n_if_lt (tgt := 31) dX5_isUnder_11 (by decide) (by decide) ?_
    refine a_iloadn_2 (pc := 14) dX5_isUnder_14 ?_
    refine a_iloadn_1 (pc := 15) dX5_isUnder_15 ?_
    refine n_icmp_eq (tgt := 31) dX5_isUnder_16 (by decide) (by decide) (by decide) (fun c_16 => by omega) (fun c_16 => ?_)
    refine a_gets (pc := 19) (i := 3) (by decide) dX5_isUnder_19 rfl w_897 ?_
    refine a_iloadn_2 (pc := 22) dX5_isUnder_22 ?_
    refine a_sil (pc := 23) 0 (t := 3) (by decide) dX5_isUnder_23 rfl (by decide) ?_
    refine a_topi ((-1)) (by decide) ?_
    refine a_istoren_2 (pc := 24) dX5_isUnder_24 (by decide) (by first | rfl | trivial) ?_
    refine a_iinc_3 (pc := 25) (v := nI (1)) dX5_isUnder_25 (nI_add _ _) (by decide) (by first | rfl | trivial) ?_
    refine a_goto (pc := 28) (tgt := 4) dX5_isUnder_28 (by decide) ?_
    refine a_iloadn_3 (pc := 4) dX5_isUnder_4 ?_
    refine a_bipush (pc := 5) (v := nI 8) dX5_isUnder_5 (by decide) ?_
    refine n_icmp_ge (tgt := 31) dX5_isUnder_7 (by decide) (by decide) (by decide) (fun c_7 => by omega) (fun c_7 => ?_)
    refine a_iloadn_2 (pc := 10) dX5_isUnder_10 ?_
    refine a_if_lt (pc := 11) (tgt := 31) dX5_isUnder_11 (by decide) (fun c_11 => ?_) (fun c_11 => absurd c_11 (by decide))
    refine a_iloadn_2 (pc := 31) dX5_isUnder_31 ?_
    refine a_iloadn_1 (pc := 32) dX5_isUnder_32 ?_
    refine a_icmp_ne (pc := 33) (tgt := 40) dX5_isUnder_33 (by decide) (fun c_33 => ?_) (fun c_33 => absurd c_33 (by decide))
    refine a_iconst (pc := 40) (v := nI 0) dX5_isUnder_40 (by decide) ?_
    exact a_zret (pc := 41) dX5_isUnder_41 rfl (by first | rfl | exact bI_nar _ | decide) (zf hz) (by rw [show decide (5 ∈ chn 0) = false by decide] at k; exact k)
  · refine AM.of [some (.int (nI (0))), some (.int (nI 6)), none, none] pnX5 (Nat.le_of_ble_eq_true rfl) (by simp [lsub, lvI, Value.category]) ?_
    refine a_iloadn_0 (pc := 0) dX5_isUnder_0 ?_
    refine a_istoren_2 (pc := 1) dX5_isUnder_1 (by decide) (by first | rfl | trivial) ?_
    refine a_iconst (pc := 2) (v := nI 0) dX5_isUnder_2 (by decide) ?_
    refine a_istoren_3 (pc := 3) dX5_isUnder_3 (by decide) (by first | rfl | trivial) ?_
    refine a_iloadn_3 (pc := 4) dX5_isUnder_4 ?_
    refine a_bipush (pc := 5) (v := nI 8) dX5_isUnder_5 (by decide) ?_
    refine n_icmp_ge (tgt := 31) dX5_isUnder_7 (by decide) (by decide) (by decide) (fun c_7 => by omega) (fun c_7 => ?_)
    refine a_iloadn_2 (pc := 10) dX5_isUnder_10 ?_
    refine n_if_lt (tgt := 31) dX5_isUnder_11 (by decide) (by decide) ?_
    refine a_iloadn_2 (pc := 14) dX5_isUnder_14 ?_
    refine a_iloadn_1 (pc := 15) dX5_isUnder_15 ?_
    refine n_icmp_eq (tgt := 31) dX5_isUnder_16 (by decide) (by decide) (by decide) (fun c_16 => by omega) (fun c_16 => ?_)
    refine a_gets (pc := 19) (i := 3) (by decide) dX5_isUnder_19 rfl w_897 ?_
    refine a_iloadn_2 (pc := 22) dX5_isUnder_22 ?_
    refine a_sil (pc := 23) 0 (t := 3) (by decide) dX5_isUnder_23 rfl (by decide) ?_
    refine a_topi ((-1)) (by decide) ?_
    refine a_istoren_2 (pc := 24) dX5_isUnder_24 (by decide) (by first | rfl | trivial) ?_
    refine a_iinc_3 (pc := 25) (v := nI (1)) dX5_isUnder_25 (nI_add _ _) (by decide) (by first | rfl | trivial) ?_
    refine a_goto (pc := 28) (tgt := 4) dX5_isUnder_28 (by decide) ?_
    refine a_iloadn_3 (pc := 4) dX5_isUnder_4 ?_
    refine a_bipush (pc := 5) (v := nI 8) dX5_isUnder_5 (by decide) ?_
    refine n_icmp_ge (tgt := 31) dX5_isUnder_7 (by decide) (by decide) (by decide) (fun c_7 => by omega) (fun c_7 => ?_)
    refine a_iloadn_2 (pc := 10) dX5_isUnder_10 ?_
    refine a_if_lt (pc := 11) (tgt := 31) dX5_isUnder_11 (by decide) (fun c_11 => ?_) (fun c_11 => absurd c_11 (by decide))
    refine a_iloadn_2 (pc := 31) dX5_isUnder_31 ?_
    refine a_iloadn_1 (pc := 32) dX5_isUnder_32 ?_
    refine a_icmp_ne (pc := 33) (tgt := 40) dX5_isUnder_33 (by decide) (fun c_33 => ?_) (fun c_33 => absurd c_33 (by decide))
    refine a_iconst (pc := 40) (v := nI 0) dX5_isUnder_40 (by decide) ?_
    exact a_zret (pc := 41) dX5_isUnder_41 rfl (by first | rfl | exact bI_nar _ | decide) (zf hz) (by rw [show decide (6 ∈ chn 0) = false by decide] at k; exact k)
  · refine AM.of [some (.int (nI (0))), some (.int (nI 7)), none, none] pnX5 (Nat.le_of_ble_eq_true rfl) (by simp [lsub, lvI, Value.category]) ?_
    refine a_iloadn_0 (pc := 0) dX5_isUnder_0 ?_
    refine a_istoren_2 (pc := 1) dX5_isUnder_1 (by decide) (by first | rfl | trivial) ?_
    refine a_iconst (pc := 2) (v := nI 0) dX5_isUnder_2 (by decide) ?_
    refine a_istoren_3 (pc := 3) dX5_isUnder_3 (by decide) (by first | rfl | trivial) ?_
    refine a_iloadn_3 (pc := 4) dX5_isUnder_4 ?_
    refine a_bipush (pc := 5) (v := nI 8) dX5_isUnder_5 (by decide) ?_
    refine n_icmp_ge (tgt := 31) dX5_isUnder_7 (by decide) (by decide) (by decide) (fun c_7 => by omega) (fun c_7 => ?_)
    refine a_iloadn_2 (pc := 10) dX5_isUnder_10 ?_
    refine n_if_lt (tgt := 31) dX5_isUnder_11 (by decide) (by decide) ?_
    refine a_iloadn_2 (pc := 14) dX5_isUnder_14 ?_
    refine a_iloadn_1 (pc := 15) dX5_isUnder_15 ?_
    refine n_icmp_eq (tgt := 31) dX5_isUnder_16 (by decide) (by decide) (by decide) (fun c_16 => by omega) (fun c_16 => ?_)
    refine a_gets (pc := 19) (i := 3) (by decide) dX5_isUnder_19 rfl w_897 ?_
    refine a_iloadn_2 (pc := 22) dX5_isUnder_22 ?_
    refine a_sil (pc := 23) 0 (t := 3) (by decide) dX5_isUnder_23 rfl (by decide) ?_
    refine a_topi ((-1)) (by decide) ?_
    refine a_istoren_2 (pc := 24) dX5_isUnder_24 (by decide) (by first | rfl | trivial) ?_
    refine a_iinc_3 (pc := 25) (v := nI (1)) dX5_isUnder_25 (nI_add _ _) (by decide) (by first | rfl | trivial) ?_
    refine a_goto (pc := 28) (tgt := 4) dX5_isUnder_28 (by decide) ?_
    refine a_iloadn_3 (pc := 4) dX5_isUnder_4 ?_
    refine a_bipush (pc := 5) (v := nI 8) dX5_isUnder_5 (by decide) ?_
    refine n_icmp_ge (tgt := 31) dX5_isUnder_7 (by decide) (by decide) (by decide) (fun c_7 => by omega) (fun c_7 => ?_)
    refine a_iloadn_2 (pc := 10) dX5_isUnder_10 ?_
    refine a_if_lt (pc := 11) (tgt := 31) dX5_isUnder_11 (by decide) (fun c_11 => ?_) (fun c_11 => absurd c_11 (by decide))
    refine a_iloadn_2 (pc := 31) dX5_isUnder_31 ?_
    refine a_iloadn_1 (pc := 32) dX5_isUnder_32 ?_
    refine a_icmp_ne (pc := 33) (tgt := 40) dX5_isUnder_33 (by decide) (fun c_33 => ?_) (fun c_33 => absurd c_33 (by decide))
    refine a_iconst (pc := 40) (v := nI 0) dX5_isUnder_40 (by decide) ?_
    exact a_zret (pc := 41) dX5_isUnder_41 rfl (by first | rfl | exact bI_nar _ | decide) (zf hz) (by rw [show decide (7 ∈ chn 0) = false by decide] at k; exact k)

set_option maxRecDepth 100000 in
set_option maxHeartbeats 4000000 in
theorem k_isUnder_1 {G : Cx} {d t : Nat} {h : List va_E} {Q : Option Value → List va_E → Prop} (hd : 1 ≤ d) (hz : gz G = false) (ht : t < 8) (k : Q (some (.int (bI (decide (t ∈ chn 1))))) h) : AM G yX5_isUnder cX5_isUnder 4 (some .boolean) d 0 0 [.int (nI (1)), .int (nI t)] h Q := by
  obtain ⟨d, rfl, he⟩ := dpos hd
  rcases k8 ht with rfl | rfl | rfl | rfl | rfl | rfl | rfl | rfl
  · refine AM.of [some (.int (nI (1))), some (.int (nI 0)), none, none] pnX5 (Nat.le_of_ble_eq_true rfl) (by simp [lsub, lvI, Value.category]) ?_
    refine a_iloadn_0 (pc := 0) dX5_isUnder_0 ?_
    refine a_istoren_2 (pc := 1) dX5_isUnder_1 (by decide) (by first | rfl | trivial) ?_
    refine a_iconst (pc := 2) (v := nI 0) dX5_isUnder_2 (by decide) ?_
    refine a_istoren_3 (pc := 3) dX5_isUnder_3 (by decide) (by first | rfl | trivial) ?_
    refine a_iloadn_3 (pc := 4) dX5_isUnder_4 ?_
    refine a_bipush (pc := 5) (v := nI 8) dX5_isUnder_5 (by decide) ?_
    refine n_icmp_ge (tgt := 31) dX5_isUnder_7 (by decide) (by decide) (by decide) (fun c_7 => by omega) (fun c_7 => ?_)
    refine a_iloadn_2 (pc := 10) dX5_isUnder_10 ?_
    refine n_if_lt (tgt := 31) dX5_isUnder_11 (by decide) (by decide) ?_
    refine a_iloadn_2 (pc := 14) dX5_isUnder_14 ?_
    refine a_iloadn_1 (pc := 15) dX5_isUnder_15 ?_
    refine n_icmp_eq (tgt := 31) dX5_isUnder_16 (by decide) (by decide) (by decide) (fun c_16 => by omega) (fun c_16 => ?_)
    refine a_gets (pc := 19) (i := 3) (by decide) dX5_isUnder_19 rfl w_897 ?_
    refine a_iloadn_2 (pc := 22) dX5_isUnder_22 ?_
    refine a_sil (pc := 23) 1 (t := 3) (by decide) dX5_isUnder_23 rfl (by decide) ?_
    refine a_topi (nI 0) (by decide) ?_
    refine a_istoren_2 (pc := 24) dX5_isUnder_24 (by decide) (by first | rfl | trivial) ?_
    refine a_iinc_3 (pc := 25) (v := nI (1)) dX5_isUnder_25 (nI_add _ _) (by decide) (by first | rfl | trivial) ?_
    refine a_goto (pc := 28) (tgt := 4) dX5_isUnder_28 (by decide) ?_
    refine a_iloadn_3 (pc := 4) dX5_isUnder_4 ?_
    refine a_bipush (pc := 5) (v := nI 8) dX5_isUnder_5 (by decide) ?_
    refine n_icmp_ge (tgt := 31) dX5_isUnder_7 (by decide) (by decide) (by decide) (fun c_7 => by omega) (fun c_7 => ?_)
    refine a_iloadn_2 (pc := 10) dX5_isUnder_10 ?_
    refine n_if_lt (tgt := 31) dX5_isUnder_11 (by decide) (by decide) ?_
    refine a_iloadn_2 (pc := 14) dX5_isUnder_14 ?_
    refine a_iloadn_1 (pc := 15) dX5_isUnder_15 ?_
    refine n_icmp_eq (tgt := 31) dX5_isUnder_16 (by decide) (by decide) (by decide) (fun c_16 => ?_) (fun c_16 => by omega)
    refine a_iloadn_2 (pc := 31) dX5_isUnder_31 ?_
    refine a_iloadn_1 (pc := 32) dX5_isUnder_32 ?_
    refine n_icmp_ne (tgt := 40) dX5_isUnder_33 (by decide) (by decide) (by decide) (fun c_33 => by omega) (fun c_33 => ?_)
    refine a_iconst (pc := 36) (v := nI 1) dX5_isUnder_36 (by decide) ?_
    refine a_goto (pc := 37) (tgt := 41) dX5_isUnder_37 (by decide) ?_
    exact a_zret (pc := 41) dX5_isUnder_41 rfl (by first | rfl | exact bI_nar _ | decide) (zf hz) (by rw [show decide (0 ∈ chn 1) = true by decide] at k; exact k)
  · refine AM.of [some (.int (nI (1))), some (.int (nI 1)), none, none] pnX5 (Nat.le_of_ble_eq_true rfl) (by simp [lsub, lvI, Value.category]) ?_
    refine a_iloadn_0 (pc := 0) dX5_isUnder_0 ?_
    refine a_istoren_2 (pc := 1) dX5_isUnder_1 (by decide) (by first | rfl | trivial) ?_
    refine a_iconst (pc := 2) (v := nI 0) dX5_isUnder_2 (by decide) ?_
    refine a_istoren_3 (pc := 3) dX5_isUnder_3 (by decide) (by first | rfl | trivial) ?_
    refine a_iloadn_3 (pc := 4) dX5_isUnder_4 ?_
    refine a_bipush (pc := 5) (v := nI 8) dX5_isUnder_5 (by decide) ?_
    refine n_icmp_ge (tgt := 31) dX5_isUnder_7 (by decide) (by decide) (by decide) (fun c_7 => by omega) (fun c_7 => ?_)
    refine a_iloadn_2 (pc := 10) dX5_isUnder_10 ?_
    refine n_if_lt (tgt := 31) dX5_isUnder_11 (by decide) (by decide) ?_
    refine a_iloadn_2 (pc := 14) dX5_isUnder_14 ?_
    refine a_iloadn_1 (pc := 15) dX5_isUnder_15 ?_
    refine n_icmp_eq (tgt := 31) dX5_isUnder_16 (by decide) (by decide) (by decide) (fun c_16 => ?_) (fun c_16 => by omega)
    refine a_iloadn_2 (pc := 31) dX5_isUnder_31 ?_
    refine a_iloadn_1 (pc := 32) dX5_isUnder_32 ?_
    refine n_icmp_ne (tgt := 40) dX5_isUnder_33 (by decide) (by decide) (by decide) (fun c_33 => by omega) (fun c_33 => ?_)
    refine a_iconst (pc := 36) (v := nI 1) dX5_isUnder_36 (by decide) ?_
    refine a_goto (pc := 37) (tgt := 41) dX5_isUnder_37 (by decide) ?_
    exact a_zret (pc := 41) dX5_isUnder_41 rfl (by first | rfl | exact bI_nar _ | decide) (zf hz) (by rw [show decide (1 ∈ chn 1) = true by decide] at k; exact k)
  · refine AM.of [some (.int (nI (1))), some (.int (nI 2)), none, none] pnX5 (Nat.le_of_ble_eq_true rfl) (by simp [lsub, lvI, Value.category]) ?_
    refine a_iloadn_0 (pc := 0) dX5_isUnder_0 ?_
    refine a_istoren_2 (pc := 1) dX5_isUnder_1 (by decide) (by first | rfl | trivial) ?_
    refine a_iconst (pc := 2) (v := nI 0) dX5_isUnder_2 (by decide) ?_
    refine a_istoren_3 (pc := 3) dX5_isUnder_3 (by decide) (by first | rfl | trivial) ?_
    refine a_iloadn_3 (pc := 4) dX5_isUnder_4 ?_
    refine a_bipush (pc := 5) (v := nI 8) dX5_isUnder_5 (by decide) ?_
    refine n_icmp_ge (tgt := 31) dX5_isUnder_7 (by decide) (by decide) (by decide) (fun c_7 => by omega) (fun c_7 => ?_)
    refine a_iloadn_2 (pc := 10) dX5_isUnder_10 ?_
    refine n_if_lt (tgt := 31) dX5_isUnder_11 (by decide) (by decide) ?_
    refine a_iloadn_2 (pc := 14) dX5_isUnder_14 ?_
    refine a_iloadn_1 (pc := 15) dX5_isUnder_15 ?_
    refine n_icmp_eq (tgt := 31) dX5_isUnder_16 (by decide) (by decide) (by decide) (fun c_16 => by omega) (fun c_16 => ?_)
    refine a_gets (pc := 19) (i := 3) (by decide) dX5_isUnder_19 rfl w_897 ?_
    refine a_iloadn_2 (pc := 22) dX5_isUnder_22 ?_
    refine a_sil (pc := 23) 1 (t := 3) (by decide) dX5_isUnder_23 rfl (by decide) ?_
    refine a_topi (nI 0) (by decide) ?_
    refine a_istoren_2 (pc := 24) dX5_isUnder_24 (by decide) (by first | rfl | trivial) ?_
    refine a_iinc_3 (pc := 25) (v := nI (1)) dX5_isUnder_25 (nI_add _ _) (by decide) (by first | rfl | trivial) ?_
    refine a_goto (pc := 28) (tgt := 4) dX5_isUnder_28 (by decide) ?_
    refine a_iloadn_3 (pc := 4) dX5_isUnder_4 ?_
    refine a_bipush (pc := 5) (v := nI 8) dX5_isUnder_5 (by decide) ?_
    refine n_icmp_ge (tgt := 31) dX5_isUnder_7 (by decide) (by decide) (by decide) (fun c_7 => by omega) (fun c_7 => ?_)
    refine a_iloadn_2 (pc := 10) dX5_isUnder_10 ?_
    refine n_if_lt (tgt := 31) dX5_isUnder_11 (by decide) (by decide) ?_
    refine a_iloadn_2 (pc := 14) dX5_isUnder_14 ?_
    refine a_iloadn_1 (pc := 15) dX5_isUnder_15 ?_
    refine n_icmp_eq (tgt := 31) dX5_isUnder_16 (by decide) (by decide) (by decide) (fun c_16 => by omega) (fun c_16 => ?_)
    refine a_gets (pc := 19) (i := 3) (by decide) dX5_isUnder_19 rfl w_897 ?_
    refine a_iloadn_2 (pc := 22) dX5_isUnder_22 ?_
    refine a_sil (pc := 23) 0 (t := 3) (by decide) dX5_isUnder_23 rfl (by decide) ?_
    refine a_topi ((-1)) (by decide) ?_
    refine a_istoren_2 (pc := 24) dX5_isUnder_24 (by decide) (by first | rfl | trivial) ?_
    refine a_iinc_3 (pc := 25) (v := nI (2)) dX5_isUnder_25 (nI_add _ _) (by decide) (by first | rfl | trivial) ?_
    refine a_goto (pc := 28) (tgt := 4) dX5_isUnder_28 (by decide) ?_
    refine a_iloadn_3 (pc := 4) dX5_isUnder_4 ?_
    refine a_bipush (pc := 5) (v := nI 8) dX5_isUnder_5 (by decide) ?_
    refine n_icmp_ge (tgt := 31) dX5_isUnder_7 (by decide) (by decide) (by decide) (fun c_7 => by omega) (fun c_7 => ?_)
    refine a_iloadn_2 (pc := 10) dX5_isUnder_10 ?_
    refine a_if_lt (pc := 11) (tgt := 31) dX5_isUnder_11 (by decide) (fun c_11 => ?_) (fun c_11 => absurd c_11 (by decide))
    refine a_iloadn_2 (pc := 31) dX5_isUnder_31 ?_
    refine a_iloadn_1 (pc := 32) dX5_isUnder_32 ?_
    refine a_icmp_ne (pc := 33) (tgt := 40) dX5_isUnder_33 (by decide) (fun c_33 => ?_) (fun c_33 => absurd c_33 (by decide))
    refine a_iconst (pc := 40) (v := nI 0) dX5_isUnder_40 (by decide) ?_
    exact a_zret (pc := 41) dX5_isUnder_41 rfl (by first | rfl | exact bI_nar _ | decide) (zf hz) (by rw [show decide (2 ∈ chn 1) = false by decide] at k; exact k)
  · refine AM.of [some (.int (nI (1))), some (.int (nI 3)), none, none] pnX5 (Nat.le_of_ble_eq_true rfl) (by simp [lsub, lvI, Value.category]) ?_
    refine a_iloadn_0 (pc := 0) dX5_isUnder_0 ?_
    refine a_istoren_2 (pc := 1) dX5_isUnder_1 (by decide) (by first | rfl | trivial) ?_
    refine a_iconst (pc := 2) (v := nI 0) dX5_isUnder_2 (by decide) ?_
    refine a_istoren_3 (pc := 3) dX5_isUnder_3 (by decide) (by first | rfl | trivial) ?_
    refine a_iloadn_3 (pc := 4) dX5_isUnder_4 ?_
    refine a_bipush (pc := 5) (v := nI 8) dX5_isUnder_5 (by decide) ?_
    refine n_icmp_ge (tgt := 31) dX5_isUnder_7 (by decide) (by decide) (by decide) (fun c_7 => by omega) (fun c_7 => ?_)
    refine a_iloadn_2 (pc := 10) dX5_isUnder_10 ?_
    refine n_if_lt (tgt := 31) dX5_isUnder_11 (by decide) (by decide) ?_
    refine a_iloadn_2 (pc := 14) dX5_isUnder_14 ?_
    refine a_iloadn_1 (pc := 15) dX5_isUnder_15 ?_
    refine n_icmp_eq (tgt := 31) dX5_isUnder_16 (by decide) (by decide) (by decide) (fun c_16 => by omega) (fun c_16 => ?_)
    refine a_gets (pc := 19) (i := 3) (by decide) dX5_isUnder_19 rfl w_897 ?_
    refine a_iloadn_2 (pc := 22) dX5_isUnder_22 ?_
    refine a_sil (pc := 23) 1 (t := 3) (by decide) dX5_isUnder_23 rfl (by decide) ?_
    refine a_topi (nI 0) (by decide) ?_
    refine a_istoren_2 (pc := 24) dX5_isUnder_24 (by decide) (by first | rfl | trivial) ?_
    refine a_iinc_3 (pc := 25) (v := nI (1)) dX5_isUnder_25 (nI_add _ _) (by decide) (by first | rfl | trivial) ?_
    refine a_goto (pc := 28) (tgt := 4) dX5_isUnder_28 (by decide) ?_
    refine a_iloadn_3 (pc := 4) dX5_isUnder_4 ?_
    refine a_bipush (pc := 5) (v := nI 8) dX5_isUnder_5 (by decide) ?_
    refine n_icmp_ge (tgt := 31) dX5_isUnder_7 (by decide) (by decide) (by decide) (fun c_7 => by omega) (fun c_7 => ?_)
    refine a_iloadn_2 (pc := 10) dX5_isUnder_10 ?_
    refine n_if_lt (tgt := 31) dX5_isUnder_11 (by decide) (by decide) ?_
    refine a_iloadn_2 (pc := 14) dX5_isUnder_14 ?_
    refine a_iloadn_1 (pc := 15) dX5_isUnder_15 ?_
    refine n_icmp_eq (tgt := 31) dX5_isUnder_16 (by decide) (by decide) (by decide) (fun c_16 => by omega) (fun c_16 => ?_)
    refine a_gets (pc := 19) (i := 3) (by decide) dX5_isUnder_19 rfl w_897 ?_
    refine a_iloadn_2 (pc := 22) dX5_isUnder_22 ?_
    refine a_sil (pc := 23) 0 (t := 3) (by decide) dX5_isUnder_23 rfl (by decide) ?_
    refine a_topi ((-1)) (by decide) ?_
    refine a_istoren_2 (pc := 24) dX5_isUnder_24 (by decide) (by first | rfl | trivial) ?_
    refine a_iinc_3 (pc := 25) (v := nI (2)) dX5_isUnder_25 (nI_add _ _) (by decide) (by first | rfl | trivial) ?_
    refine a_goto (pc := 28) (tgt := 4) dX5_isUnder_28 (by decide) ?_
    refine a_iloadn_3 (pc := 4) dX5_isUnder_4 ?_
    refine a_bipush (pc := 5) (v := nI 8) dX5_isUnder_5 (by decide) ?_
    refine n_icmp_ge (tgt := 31) dX5_isUnder_7 (by decide) (by decide) (by decide) (fun c_7 => by omega) (fun c_7 => ?_)
    refine a_iloadn_2 (pc := 10) dX5_isUnder_10 ?_
    refine a_if_lt (pc := 11) (tgt := 31) dX5_isUnder_11 (by decide) (fun c_11 => ?_) (fun c_11 => absurd c_11 (by decide))
    refine a_iloadn_2 (pc := 31) dX5_isUnder_31 ?_
    refine a_iloadn_1 (pc := 32) dX5_isUnder_32 ?_
    refine a_icmp_ne (pc := 33) (tgt := 40) dX5_isUnder_33 (by decide) (fun c_33 => ?_) (fun c_33 => absurd c_33 (by decide))
    refine a_iconst (pc := 40) (v := nI 0) dX5_isUnder_40 (by decide) ?_
    exact a_zret (pc := 41) dX5_isUnder_41 rfl (by first | rfl | exact bI_nar _ | decide) (zf hz) (by rw [show decide (3 ∈ chn 1) = false by decide] at k; exact k)
  · refine AM.of [some (.int (nI (1))), some (.int (nI 4)), none, none] pnX5 (Nat.le_of_ble_eq_true rfl) (by simp [lsub, lvI, Value.category]) ?_
    refine a_iloadn_0 (pc := 0) dX5_isUnder_0 ?_
    refine a_istoren_2 (pc := 1) dX5_isUnder_1 (by decide) (by first | rfl | trivial) ?_
    refine a_iconst (pc := 2) (v := nI 0) dX5_isUnder_2 (by decide) ?_
    refine a_istoren_3 (pc := 3) dX5_isUnder_3 (by decide) (by first | rfl | trivial) ?_
    refine a_iloadn_3 (pc := 4) dX5_isUnder_4 ?_
    refine a_bipush (pc := 5) (v := nI 8) dX5_isUnder_5 (by decide) ?_
    refine n_icmp_ge (tgt := 31) dX5_isUnder_7 (by decide) (by decide) (by decide) (fun c_7 => by omega) (fun c_7 => ?_)
    refine a_iloadn_2 (pc := 10) dX5_isUnder_10 ?_
    refine n_if_lt (tgt := 31) dX5_isUnder_11 (by decide) (by decide) ?_
    refine a_iloadn_2 (pc := 14) dX5_isUnder_14 ?_
    refine a_iloadn_1 (pc := 15) dX5_isUnder_15 ?_
    refine n_icmp_eq (tgt := 31) dX5_isUnder_16 (by decide) (by decide) (by decide) (fun c_16 => by omega) (fun c_16 => ?_)
    refine a_gets (pc := 19) (i := 3) (by decide) dX5_isUnder_19 rfl w_897 ?_
    refine a_iloadn_2 (pc := 22) dX5_isUnder_22 ?_
    refine a_sil (pc := 23) 1 (t := 3) (by decide) dX5_isUnder_23 rfl (by decide) ?_
    refine a_topi (nI 0) (by decide) ?_
    refine a_istoren_2 (pc := 24) dX5_isUnder_24 (by decide) (by first | rfl | trivial) ?_
    refine a_iinc_3 (pc := 25) (v := nI (1)) dX5_isUnder_25 (nI_add _ _) (by decide) (by first | rfl | trivial) ?_
    refine a_goto (pc := 28) (tgt := 4) dX5_isUnder_28 (by decide) ?_
    refine a_iloadn_3 (pc := 4) dX5_isUnder_4 ?_
    refine a_bipush (pc := 5) (v := nI 8) dX5_isUnder_5 (by decide) ?_
    refine n_icmp_ge (tgt := 31) dX5_isUnder_7 (by decide) (by decide) (by decide) (fun c_7 => by omega) (fun c_7 => ?_)
    refine a_iloadn_2 (pc := 10) dX5_isUnder_10 ?_
    refine n_if_lt (tgt := 31) dX5_isUnder_11 (by decide) (by decide) ?_
    refine a_iloadn_2 (pc := 14) dX5_isUnder_14 ?_
    refine a_iloadn_1 (pc := 15) dX5_isUnder_15 ?_
    refine n_icmp_eq (tgt := 31) dX5_isUnder_16 (by decide) (by decide) (by decide) (fun c_16 => by omega) (fun c_16 => ?_)
    refine a_gets (pc := 19) (i := 3) (by decide) dX5_isUnder_19 rfl w_897 ?_
    refine a_iloadn_2 (pc := 22) dX5_isUnder_22 ?_
    refine a_sil (pc := 23) 0 (t := 3) (by decide) dX5_isUnder_23 rfl (by decide) ?_
    refine a_topi ((-1)) (by decide) ?_
    refine a_istoren_2 (pc := 24) dX5_isUnder_24 (by decide) (by first | rfl | trivial) ?_
    refine a_iinc_3 (pc := 25) (v := nI (2)) dX5_isUnder_25 (nI_add _ _) (by decide) (by first | rfl | trivial) ?_
    refine a_goto (pc := 28) (tgt := 4) dX5_isUnder_28 (by decide) ?_
    refine a_iloadn_3 (pc := 4) dX5_isUnder_4 ?_
    refine a_bipush (pc := 5) (v := nI 8) dX5_isUnder_5 (by decide) ?_
    refine n_icmp_ge (tgt := 31) dX5_isUnder_7 (by decide) (by decide) (by decide) (fun c_7 => by omega) (fun c_7 => ?_)
    refine a_iloadn_2 (pc := 10) dX5_isUnder_10 ?_
    refine a_if_lt (pc := 11) (tgt := 31) dX5_isUnder_11 (by decide) (fun c_11 => ?_) (fun c_11 => absurd c_11 (by decide))
    refine a_iloadn_2 (pc := 31) dX5_isUnder_31 ?_
    refine a_iloadn_1 (pc := 32) dX5_isUnder_32 ?_
    refine a_icmp_ne (pc := 33) (tgt := 40) dX5_isUnder_33 (by decide) (fun c_33 => ?_) (fun c_33 => absurd c_33 (by decide))
    refine a_iconst (pc := 40) (v := nI 0) dX5_isUnder_40 (by decide) ?_
    exact a_zret (pc := 41) dX5_isUnder_41 rfl (by first | rfl | exact bI_nar _ | decide) (zf hz) (by rw [show decide (4 ∈ chn 1) = false by decide] at k; exact k)
  · refine AM.of [some (.int (nI (1))), some (.int (nI 5)), none, none] pnX5 (Nat.le_of_ble_eq_true rfl) (by simp [lsub, lvI, Value.category]) ?_
    refine a_iloadn_0 (pc := 0) dX5_isUnder_0 ?_
    refine a_istoren_2 (pc := 1) dX5_isUnder_1 (by decide) (by first | rfl | trivial) ?_
    refine a_iconst (pc := 2) (v := nI 0) dX5_isUnder_2 (by decide) ?_
    refine a_istoren_3 (pc := 3) dX5_isUnder_3 (by decide) (by first | rfl | trivial) ?_
    refine a_iloadn_3 (pc := 4) dX5_isUnder_4 ?_
    refine a_bipush (pc := 5) (v := nI 8) dX5_isUnder_5 (by decide) ?_
    refine n_icmp_ge (tgt := 31) dX5_isUnder_7 (by decide) (by decide) (by decide) (fun c_7 => by omega) (fun c_7 => ?_)
    refine a_iloadn_2 (pc := 10) dX5_isUnder_10 ?_
    refine n_if_lt (tgt := 31) dX5_isUnder_11 (by decide) (by decide) ?_
    refine a_iloadn_2 (pc := 14) dX5_isUnder_14 ?_
    refine a_iloadn_1 (pc := 15) dX5_isUnder_15 ?_
    refine n_icmp_eq (tgt := 31) dX5_isUnder_16 (by decide) (by decide) (by decide) (fun c_16 => by omega) (fun c_16 => ?_)
    refine a_gets (pc := 19) (i := 3) (by decide) dX5_isUnder_19 rfl w_897 ?_
    refine a_iloadn_2 (pc := 22) dX5_isUnder_22 ?_
    refine a_sil (pc := 23) 1 (t := 3) (by decide) dX5_isUnder_23 rfl (by decide) ?_
    refine a_topi (nI 0) (by decide) ?_
    refine a_istoren_2 (pc := 24) dX5_isUnder_24 (by decide) (by first | rfl | trivial) ?_
    refine a_iinc_3 (pc := 25) (v := nI (1)) dX5_isUnder_25 (nI_add _ _) (by decide) (by first | rfl | trivial) ?_
    refine a_goto (pc := 28) (tgt := 4) dX5_isUnder_28 (by decide) ?_
    refine a_iloadn_3 (pc := 4) dX5_isUnder_4 ?_
    refine a_bipush (pc := 5) (v := nI 8) dX5_isUnder_5 (by decide) ?_
    refine n_icmp_ge (tgt := 31) dX5_isUnder_7 (by decide) (by decide) (by decide) (fun c_7 => by omega) (fun c_7 => ?_)
    refine a_iloadn_2 (pc := 10) dX5_isUnder_10 ?_
    refine n_if_lt (tgt := 31) dX5_isUnder_11 (by decide) (by decide) ?_
    refine a_iloadn_2 (pc := 14) dX5_isUnder_14 ?_
    refine a_iloadn_1 (pc := 15) dX5_isUnder_15 ?_
    refine n_icmp_eq (tgt := 31) dX5_isUnder_16 (by decide) (by decide) (by decide) (fun c_16 => by omega) (fun c_16 => ?_)
    refine a_gets (pc := 19) (i := 3) (by decide) dX5_isUnder_19 rfl w_897 ?_
    refine a_iloadn_2 (pc := 22) dX5_isUnder_22 ?_
    refine a_sil (pc := 23) 0 (t := 3) (by decide) dX5_isUnder_23 rfl (by decide) ?_
    refine a_topi ((-1)) (by decide) ?_
    refine a_istoren_2 (pc := 24) dX5_isUnder_24 (by decide) (by first | rfl | trivial) ?_
    refine a_iinc_3 (pc := 25) (v := nI (2)) dX5_isUnder_25 (nI_add _ _) (by decide) (by first | rfl | trivial) ?_
    refine a_goto (pc := 28) (tgt := 4) dX5_isUnder_28 (by decide) ?_
    refine a_iloadn_3 (pc := 4) dX5_isUnder_4 ?_
    refine a_bipush (pc := 5) (v := nI 8) dX5_isUnder_5 (by decide) ?_
    refine n_icmp_ge (tgt := 31) dX5_isUnder_7 (by decide) (by decide) (by decide) (fun c_7 => by omega) (fun c_7 => ?_)
    refine a_iloadn_2 (pc := 10) dX5_isUnder_10 ?_
    refine a_if_lt (pc := 11) (tgt := 31) dX5_isUnder_11 (by decide) (fun c_11 => ?_) (fun c_11 => absurd c_11 (by decide))
    refine a_iloadn_2 (pc := 31) dX5_isUnder_31 ?_
    refine a_iloadn_1 (pc := 32) dX5_isUnder_32 ?_
    refine a_icmp_ne (pc := 33) (tgt := 40) dX5_isUnder_33 (by decide) (fun c_33 => ?_) (fun c_33 => absurd c_33 (by decide))
    refine a_iconst (pc := 40) (v := nI 0) dX5_isUnder_40 (by decide) ?_
    exact a_zret (pc := 41) dX5_isUnder_41 rfl (by first | rfl | exact bI_nar _ | decide) (zf hz) (by rw [show decide (5 ∈ chn 1) = false by decide] at k; exact k)
  · refine AM.of [some (.int (nI (1))), some (.int (nI 6)), none, none] pnX5 (Nat.le_of_ble_eq_true rfl) (by simp [lsub, lvI, Value.category]) ?_
    refine a_iloadn_0 (pc := 0) dX5_isUnder_0 ?_
    refine a_istoren_2 (pc := 1) dX5_isUnder_1 (by decide) (by first | rfl | trivial) ?_
    refine a_iconst (pc := 2) (v := nI 0) dX5_isUnder_2 (by decide) ?_
    refine a_istoren_3 (pc := 3) dX5_isUnder_3 (by decide) (by first | rfl | trivial) ?_
    refine a_iloadn_3 (pc := 4) dX5_isUnder_4 ?_
    refine a_bipush (pc := 5) (v := nI 8) dX5_isUnder_5 (by decide) ?_
    refine n_icmp_ge (tgt := 31) dX5_isUnder_7 (by decide) (by decide) (by decide) (fun c_7 => by omega) (fun c_7 => ?_)
    refine a_iloadn_2 (pc := 10) dX5_isUnder_10 ?_
    refine n_if_lt (tgt := 31) dX5_isUnder_11 (by decide) (by decide) ?_
    refine a_iloadn_2 (pc := 14) dX5_isUnder_14 ?_
    refine a_iloadn_1 (pc := 15) dX5_isUnder_15 ?_
    refine n_icmp_eq (tgt := 31) dX5_isUnder_16 (by decide) (by decide) (by decide) (fun c_16 => by omega) (fun c_16 => ?_)
    refine a_gets (pc := 19) (i := 3) (by decide) dX5_isUnder_19 rfl w_897 ?_
    refine a_iloadn_2 (pc := 22) dX5_isUnder_22 ?_
    refine a_sil (pc := 23) 1 (t := 3) (by decide) dX5_isUnder_23 rfl (by decide) ?_
    refine a_topi (nI 0) (by decide) ?_
    refine a_istoren_2 (pc := 24) dX5_isUnder_24 (by decide) (by first | rfl | trivial) ?_
    refine a_iinc_3 (pc := 25) (v := nI (1)) dX5_isUnder_25 (nI_add _ _) (by decide) (by first | rfl | trivial) ?_
    refine a_goto (pc := 28) (tgt := 4) dX5_isUnder_28 (by decide) ?_
    refine a_iloadn_3 (pc := 4) dX5_isUnder_4 ?_
    refine a_bipush (pc := 5) (v := nI 8) dX5_isUnder_5 (by decide) ?_
    refine n_icmp_ge (tgt := 31) dX5_isUnder_7 (by decide) (by decide) (by decide) (fun c_7 => by omega) (fun c_7 => ?_)
    refine a_iloadn_2 (pc := 10) dX5_isUnder_10 ?_
    refine n_if_lt (tgt := 31) dX5_isUnder_11 (by decide) (by decide) ?_
    refine a_iloadn_2 (pc := 14) dX5_isUnder_14 ?_
    refine a_iloadn_1 (pc := 15) dX5_isUnder_15 ?_
    refine n_icmp_eq (tgt := 31) dX5_isUnder_16 (by decide) (by decide) (by decide) (fun c_16 => by omega) (fun c_16 => ?_)
    refine a_gets (pc := 19) (i := 3) (by decide) dX5_isUnder_19 rfl w_897 ?_
    refine a_iloadn_2 (pc := 22) dX5_isUnder_22 ?_
    refine a_sil (pc := 23) 0 (t := 3) (by decide) dX5_isUnder_23 rfl (by decide) ?_
    refine a_topi ((-1)) (by decide) ?_
    refine a_istoren_2 (pc := 24) dX5_isUnder_24 (by decide) (by first | rfl | trivial) ?_
    refine a_iinc_3 (pc := 25) (v := nI (2)) dX5_isUnder_25 (nI_add _ _) (by decide) (by first | rfl | trivial) ?_
    refine a_goto (pc := 28) (tgt := 4) dX5_isUnder_28 (by decide) ?_
    refine a_iloadn_3 (pc := 4) dX5_isUnder_4 ?_
    refine a_bipush (pc := 5) (v := nI 8) dX5_isUnder_5 (by decide) ?_
    refine n_icmp_ge (tgt := 31) dX5_isUnder_7 (by decide) (by decide) (by decide) (fun c_7 => by omega) (fun c_7 => ?_)
    refine a_iloadn_2 (pc := 10) dX5_isUnder_10 ?_
    refine a_if_lt (pc := 11) (tgt := 31) dX5_isUnder_11 (by decide) (fun c_11 => ?_) (fun c_11 => absurd c_11 (by decide))
    refine a_iloadn_2 (pc := 31) dX5_isUnder_31 ?_
    refine a_iloadn_1 (pc := 32) dX5_isUnder_32 ?_
    refine a_icmp_ne (pc := 33) (tgt := 40) dX5_isUnder_33 (by decide) (fun c_33 => ?_) (fun c_33 => absurd c_33 (by decide))
    refine a_iconst (pc := 40) (v := nI 0) dX5_isUnder_40 (by decide) ?_
    exact a_zret (pc := 41) dX5_isUnder_41 rfl (by first | rfl | exact bI_nar _ | decide) (zf hz) (by rw [show decide (6 ∈ chn 1) = false by decide] at k; exact k)
  · refine AM.of [some (.int (nI (1))), some (.int (nI 7)), none, none] pnX5 (Nat.le_of_ble_eq_true rfl) (by simp [lsub, lvI, Value.category]) ?_
    refine a_iloadn_0 (pc := 0) dX5_isUnder_0 ?_
    refine a_istoren_2 (pc := 1) dX5_isUnder_1 (by decide) (by first | rfl | trivial) ?_
    refine a_iconst (pc := 2) (v := nI 0) dX5_isUnder_2 (by decide) ?_
    refine a_istoren_3 (pc := 3) dX5_isUnder_3 (by decide) (by first | rfl | trivial) ?_
    refine a_iloadn_3 (pc := 4) dX5_isUnder_4 ?_
    refine a_bipush (pc := 5) (v := nI 8) dX5_isUnder_5 (by decide) ?_
    refine n_icmp_ge (tgt := 31) dX5_isUnder_7 (by decide) (by decide) (by decide) (fun c_7 => by omega) (fun c_7 => ?_)
    refine a_iloadn_2 (pc := 10) dX5_isUnder_10 ?_
    refine n_if_lt (tgt := 31) dX5_isUnder_11 (by decide) (by decide) ?_
    refine a_iloadn_2 (pc := 14) dX5_isUnder_14 ?_
    refine a_iloadn_1 (pc := 15) dX5_isUnder_15 ?_
    refine n_icmp_eq (tgt := 31) dX5_isUnder_16 (by decide) (by decide) (by decide) (fun c_16 => by omega) (fun c_16 => ?_)
    refine a_gets (pc := 19) (i := 3) (by decide) dX5_isUnder_19 rfl w_897 ?_
    refine a_iloadn_2 (pc := 22) dX5_isUnder_22 ?_
    refine a_sil (pc := 23) 1 (t := 3) (by decide) dX5_isUnder_23 rfl (by decide) ?_
    refine a_topi (nI 0) (by decide) ?_
    refine a_istoren_2 (pc := 24) dX5_isUnder_24 (by decide) (by first | rfl | trivial) ?_
    refine a_iinc_3 (pc := 25) (v := nI (1)) dX5_isUnder_25 (nI_add _ _) (by decide) (by first | rfl | trivial) ?_
    refine a_goto (pc := 28) (tgt := 4) dX5_isUnder_28 (by decide) ?_
    refine a_iloadn_3 (pc := 4) dX5_isUnder_4 ?_
    refine a_bipush (pc := 5) (v := nI 8) dX5_isUnder_5 (by decide) ?_
    refine n_icmp_ge (tgt := 31) dX5_isUnder_7 (by decide) (by decide) (by decide) (fun c_7 => by omega) (fun c_7 => ?_)
    refine a_iloadn_2 (pc := 10) dX5_isUnder_10 ?_
    refine n_if_lt (tgt := 31) dX5_isUnder_11 (by decide) (by decide) ?_
    refine a_iloadn_2 (pc := 14) dX5_isUnder_14 ?_
    refine a_iloadn_1 (pc := 15) dX5_isUnder_15 ?_
    refine n_icmp_eq (tgt := 31) dX5_isUnder_16 (by decide) (by decide) (by decide) (fun c_16 => by omega) (fun c_16 => ?_)
    refine a_gets (pc := 19) (i := 3) (by decide) dX5_isUnder_19 rfl w_897 ?_
    refine a_iloadn_2 (pc := 22) dX5_isUnder_22 ?_
    refine a_sil (pc := 23) 0 (t := 3) (by decide) dX5_isUnder_23 rfl (by decide) ?_
    refine a_topi ((-1)) (by decide) ?_
    refine a_istoren_2 (pc := 24) dX5_isUnder_24 (by decide) (by first | rfl | trivial) ?_
    refine a_iinc_3 (pc := 25) (v := nI (2)) dX5_isUnder_25 (nI_add _ _) (by decide) (by first | rfl | trivial) ?_
    refine a_goto (pc := 28) (tgt := 4) dX5_isUnder_28 (by decide) ?_
    refine a_iloadn_3 (pc := 4) dX5_isUnder_4 ?_
    refine a_bipush (pc := 5) (v := nI 8) dX5_isUnder_5 (by decide) ?_
    refine n_icmp_ge (tgt := 31) dX5_isUnder_7 (by decide) (by decide) (by decide) (fun c_7 => by omega) (fun c_7 => ?_)
    refine a_iloadn_2 (pc := 10) dX5_isUnder_10 ?_
    refine a_if_lt (pc := 11) (tgt := 31) dX5_isUnder_11 (by decide) (fun c_11 => ?_) (fun c_11 => absurd c_11 (by decide))
    refine a_iloadn_2 (pc := 31) dX5_isUnder_31 ?_
    refine a_iloadn_1 (pc := 32) dX5_isUnder_32 ?_
    refine a_icmp_ne (pc := 33) (tgt := 40) dX5_isUnder_33 (by decide) (fun c_33 => ?_) (fun c_33 => absurd c_33 (by decide))
    refine a_iconst (pc := 40) (v := nI 0) dX5_isUnder_40 (by decide) ?_
    exact a_zret (pc := 41) dX5_isUnder_41 rfl (by first | rfl | exact bI_nar _ | decide) (zf hz) (by rw [show decide (7 ∈ chn 1) = false by decide] at k; exact k)

set_option maxRecDepth 100000 in
set_option maxHeartbeats 4000000 in
theorem k_isUnder_2 {G : Cx} {d t : Nat} {h : List va_E} {Q : Option Value → List va_E → Prop} (hd : 1 ≤ d) (hz : gz G = false) (ht : t < 8) (k : Q (some (.int (bI (decide (t ∈ chn 2))))) h) : AM G yX5_isUnder cX5_isUnder 4 (some .boolean) d 0 0 [.int (nI (2)), .int (nI t)] h Q := by
  obtain ⟨d, rfl, he⟩ := dpos hd
  rcases k8 ht with rfl | rfl | rfl | rfl | rfl | rfl | rfl | rfl
  · refine AM.of [some (.int (nI (2))), some (.int (nI 0)), none, none] pnX5 (Nat.le_of_ble_eq_true rfl) (by simp [lsub, lvI, Value.category]) ?_
    refine a_iloadn_0 (pc := 0) dX5_isUnder_0 ?_
    refine a_istoren_2 (pc := 1) dX5_isUnder_1 (by decide) (by first | rfl | trivial) ?_
    refine a_iconst (pc := 2) (v := nI 0) dX5_isUnder_2 (by decide) ?_
    refine a_istoren_3 (pc := 3) dX5_isUnder_3 (by decide) (by first | rfl | trivial) ?_
    refine a_iloadn_3 (pc := 4) dX5_isUnder_4 ?_
    refine a_bipush (pc := 5) (v := nI 8) dX5_isUnder_5 (by decide) ?_
    refine n_icmp_ge (tgt := 31) dX5_isUnder_7 (by decide) (by decide) (by decide) (fun c_7 => by omega) (fun c_7 => ?_)
    refine a_iloadn_2 (pc := 10) dX5_isUnder_10 ?_
    refine n_if_lt (tgt := 31) dX5_isUnder_11 (by decide) (by decide) ?_
    refine a_iloadn_2 (pc := 14) dX5_isUnder_14 ?_
    refine a_iloadn_1 (pc := 15) dX5_isUnder_15 ?_
    refine n_icmp_eq (tgt := 31) dX5_isUnder_16 (by decide) (by decide) (by decide) (fun c_16 => by omega) (fun c_16 => ?_)
    refine a_gets (pc := 19) (i := 3) (by decide) dX5_isUnder_19 rfl w_897 ?_
    refine a_iloadn_2 (pc := 22) dX5_isUnder_22 ?_
    refine a_sil (pc := 23) 2 (t := 3) (by decide) dX5_isUnder_23 rfl (by decide) ?_
    refine a_topi (nI 0) (by decide) ?_
    refine a_istoren_2 (pc := 24) dX5_isUnder_24 (by decide) (by first | rfl | trivial) ?_
    refine a_iinc_3 (pc := 25) (v := nI (1)) dX5_isUnder_25 (nI_add _ _) (by decide) (by first | rfl | trivial) ?_
    refine a_goto (pc := 28) (tgt := 4) dX5_isUnder_28 (by decide) ?_
    refine a_iloadn_3 (pc := 4) dX5_isUnder_4 ?_
    refine a_bipush (pc := 5) (v := nI 8) dX5_isUnder_5 (by decide) ?_
    refine n_icmp_ge (tgt := 31) dX5_isUnder_7 (by decide) (by decide) (by decide) (fun c_7 => by omega) (fun c_7 => ?_)
    refine a_iloadn_2 (pc := 10) dX5_isUnder_10 ?_
    refine n_if_lt (tgt := 31) dX5_isUnder_11 (by decide) (by decide) ?_
    refine a_iloadn_2 (pc := 14) dX5_isUnder_14 ?_
    refine a_iloadn_1 (pc := 15) dX5_isUnder_15 ?_
    refine n_icmp_eq (tgt := 31) dX5_isUnder_16 (by decide) (by decide) (by decide) (fun c_16 => ?_) (fun c_16 => by omega)
    refine a_iloadn_2 (pc := 31) dX5_isUnder_31 ?_
    refine a_iloadn_1 (pc := 32) dX5_isUnder_32 ?_
    refine n_icmp_ne (tgt := 40) dX5_isUnder_33 (by decide) (by decide) (by decide) (fun c_33 => by omega) (fun c_33 => ?_)
    refine a_iconst (pc := 36) (v := nI 1) dX5_isUnder_36 (by decide) ?_
    refine a_goto (pc := 37) (tgt := 41) dX5_isUnder_37 (by decide) ?_
    exact a_zret (pc := 41) dX5_isUnder_41 rfl (by first | rfl | exact bI_nar _ | decide) (zf hz) (by rw [show decide (0 ∈ chn 2) = true by decide] at k; exact k)
  · refine AM.of [some (.int (nI (2))), some (.int (nI 1)), none, none] pnX5 (Nat.le_of_ble_eq_true rfl) (by simp [lsub, lvI, Value.category]) ?_
    refine a_iloadn_0 (pc := 0) dX5_isUnder_0 ?_
    refine a_istoren_2 (pc := 1) dX5_isUnder_1 (by decide) (by first | rfl | trivial) ?_
    refine a_iconst (pc := 2) (v := nI 0) dX5_isUnder_2 (by decide) ?_
    refine a_istoren_3 (pc := 3) dX5_isUnder_3 (by decide) (by first | rfl | trivial) ?_
    refine a_iloadn_3 (pc := 4) dX5_isUnder_4 ?_
    refine a_bipush (pc := 5) (v := nI 8) dX5_isUnder_5 (by decide) ?_
    refine n_icmp_ge (tgt := 31) dX5_isUnder_7 (by decide) (by decide) (by decide) (fun c_7 => by omega) (fun c_7 => ?_)
    refine a_iloadn_2 (pc := 10) dX5_isUnder_10 ?_
    refine n_if_lt (tgt := 31) dX5_isUnder_11 (by decide) (by decide) ?_
    refine a_iloadn_2 (pc := 14) dX5_isUnder_14 ?_
    refine a_iloadn_1 (pc := 15) dX5_isUnder_15 ?_
    refine n_icmp_eq (tgt := 31) dX5_isUnder_16 (by decide) (by decide) (by decide) (fun c_16 => by omega) (fun c_16 => ?_)
    refine a_gets (pc := 19) (i := 3) (by decide) dX5_isUnder_19 rfl w_897 ?_
    refine a_iloadn_2 (pc := 22) dX5_isUnder_22 ?_
    refine a_sil (pc := 23) 2 (t := 3) (by decide) dX5_isUnder_23 rfl (by decide) ?_
    refine a_topi (nI 0) (by decide) ?_
    refine a_istoren_2 (pc := 24) dX5_isUnder_24 (by decide) (by first | rfl | trivial) ?_
    refine a_iinc_3 (pc := 25) (v := nI (1)) dX5_isUnder_25 (nI_add _ _) (by decide) (by first | rfl | trivial) ?_
    refine a_goto (pc := 28) (tgt := 4) dX5_isUnder_28 (by decide) ?_
    refine a_iloadn_3 (pc := 4) dX5_isUnder_4 ?_
    refine a_bipush (pc := 5) (v := nI 8) dX5_isUnder_5 (by decide) ?_
    refine n_icmp_ge (tgt := 31) dX5_isUnder_7 (by decide) (by decide) (by decide) (fun c_7 => by omega) (fun c_7 => ?_)
    refine a_iloadn_2 (pc := 10) dX5_isUnder_10 ?_
    refine n_if_lt (tgt := 31) dX5_isUnder_11 (by decide) (by decide) ?_
    refine a_iloadn_2 (pc := 14) dX5_isUnder_14 ?_
    refine a_iloadn_1 (pc := 15) dX5_isUnder_15 ?_
    refine n_icmp_eq (tgt := 31) dX5_isUnder_16 (by decide) (by decide) (by decide) (fun c_16 => by omega) (fun c_16 => ?_)
    refine a_gets (pc := 19) (i := 3) (by decide) dX5_isUnder_19 rfl w_897 ?_
    refine a_iloadn_2 (pc := 22) dX5_isUnder_22 ?_
    refine a_sil (pc := 23) 0 (t := 3) (by decide) dX5_isUnder_23 rfl (by decide) ?_
    refine a_topi ((-1)) (by decide) ?_
    refine a_istoren_2 (pc := 24) dX5_isUnder_24 (by decide) (by first | rfl | trivial) ?_
    refine a_iinc_3 (pc := 25) (v := nI (2)) dX5_isUnder_25 (nI_add _ _) (by decide) (by first | rfl | trivial) ?_
    refine a_goto (pc := 28) (tgt := 4) dX5_isUnder_28 (by decide) ?_
    refine a_iloadn_3 (pc := 4) dX5_isUnder_4 ?_
    refine a_bipush (pc := 5) (v := nI 8) dX5_isUnder_5 (by decide) ?_
    refine n_icmp_ge (tgt := 31) dX5_isUnder_7 (by decide) (by decide) (by decide) (fun c_7 => by omega) (fun c_7 => ?_)
    refine a_iloadn_2 (pc := 10) dX5_isUnder_10 ?_
    refine a_if_lt (pc := 11) (tgt := 31) dX5_isUnder_11 (by decide) (fun c_11 => ?_) (fun c_11 => absurd c_11 (by decide))
    refine a_iloadn_2 (pc := 31) dX5_isUnder_31 ?_
    refine a_iloadn_1 (pc := 32) dX5_isUnder_32 ?_
    refine a_icmp_ne (pc := 33) (tgt := 40) dX5_isUnder_33 (by decide) (fun c_33 => ?_) (fun c_33 => absurd c_33 (by decide))
    refine a_iconst (pc := 40) (v := nI 0) dX5_isUnder_40 (by decide) ?_
    exact a_zret (pc := 41) dX5_isUnder_41 rfl (by first | rfl | exact bI_nar _ | decide) (zf hz) (by rw [show decide (1 ∈ chn 2) = false by decide] at k; exact k)
  · refine AM.of [some (.int (nI (2))), some (.int (nI 2)), none, none] pnX5 (Nat.le_of_ble_eq_true rfl) (by simp [lsub, lvI, Value.category]) ?_
    refine a_iloadn_0 (pc := 0) dX5_isUnder_0 ?_
    refine a_istoren_2 (pc := 1) dX5_isUnder_1 (by decide) (by first | rfl | trivial) ?_
    refine a_iconst (pc := 2) (v := nI 0) dX5_isUnder_2 (by decide) ?_
    refine a_istoren_3 (pc := 3) dX5_isUnder_3 (by decide) (by first | rfl | trivial) ?_
    refine a_iloadn_3 (pc := 4) dX5_isUnder_4 ?_
    refine a_bipush (pc := 5) (v := nI 8) dX5_isUnder_5 (by decide) ?_
    refine n_icmp_ge (tgt := 31) dX5_isUnder_7 (by decide) (by decide) (by decide) (fun c_7 => by omega) (fun c_7 => ?_)
    refine a_iloadn_2 (pc := 10) dX5_isUnder_10 ?_
    refine n_if_lt (tgt := 31) dX5_isUnder_11 (by decide) (by decide) ?_
    refine a_iloadn_2 (pc := 14) dX5_isUnder_14 ?_
    refine a_iloadn_1 (pc := 15) dX5_isUnder_15 ?_
    refine n_icmp_eq (tgt := 31) dX5_isUnder_16 (by decide) (by decide) (by decide) (fun c_16 => ?_) (fun c_16 => by omega)
    refine a_iloadn_2 (pc := 31) dX5_isUnder_31 ?_
    refine a_iloadn_1 (pc := 32) dX5_isUnder_32 ?_
    refine n_icmp_ne (tgt := 40) dX5_isUnder_33 (by decide) (by decide) (by decide) (fun c_33 => by omega) (fun c_33 => ?_)
    refine a_iconst (pc := 36) (v := nI 1) dX5_isUnder_36 (by decide) ?_
    refine a_goto (pc := 37) (tgt := 41) dX5_isUnder_37 (by decide) ?_
    exact a_zret (pc := 41) dX5_isUnder_41 rfl (by first | rfl | exact bI_nar _ | decide) (zf hz) (by rw [show decide (2 ∈ chn 2) = true by decide] at k; exact k)
  · refine AM.of [some (.int (nI (2))), some (.int (nI 3)), none, none] pnX5 (Nat.le_of_ble_eq_true rfl) (by simp [lsub, lvI, Value.category]) ?_
    refine a_iloadn_0 (pc := 0) dX5_isUnder_0 ?_
    refine a_istoren_2 (pc := 1) dX5_isUnder_1 (by decide) (by first | rfl | trivial) ?_
    refine a_iconst (pc := 2) (v := nI 0) dX5_isUnder_2 (by decide) ?_
    refine a_istoren_3 (pc := 3) dX5_isUnder_3 (by decide) (by first | rfl | trivial) ?_
    refine a_iloadn_3 (pc := 4) dX5_isUnder_4 ?_
    refine a_bipush (pc := 5) (v := nI 8) dX5_isUnder_5 (by decide) ?_
    refine n_icmp_ge (tgt := 31) dX5_isUnder_7 (by decide) (by decide) (by decide) (fun c_7 => by omega) (fun c_7 => ?_)
    refine a_iloadn_2 (pc := 10) dX5_isUnder_10 ?_
    refine n_if_lt (tgt := 31) dX5_isUnder_11 (by decide) (by decide) ?_
    refine a_iloadn_2 (pc := 14) dX5_isUnder_14 ?_
    refine a_iloadn_1 (pc := 15) dX5_isUnder_15 ?_
    refine n_icmp_eq (tgt := 31) dX5_isUnder_16 (by decide) (by decide) (by decide) (fun c_16 => by omega) (fun c_16 => ?_)
    refine a_gets (pc := 19) (i := 3) (by decide) dX5_isUnder_19 rfl w_897 ?_
    refine a_iloadn_2 (pc := 22) dX5_isUnder_22 ?_
    refine a_sil (pc := 23) 2 (t := 3) (by decide) dX5_isUnder_23 rfl (by decide) ?_
    refine a_topi (nI 0) (by decide) ?_
    refine a_istoren_2 (pc := 24) dX5_isUnder_24 (by decide) (by first | rfl | trivial) ?_
    refine a_iinc_3 (pc := 25) (v := nI (1)) dX5_isUnder_25 (nI_add _ _) (by decide) (by first | rfl | trivial) ?_
    refine a_goto (pc := 28) (tgt := 4) dX5_isUnder_28 (by decide) ?_
    refine a_iloadn_3 (pc := 4) dX5_isUnder_4 ?_
    refine a_bipush (pc := 5) (v := nI 8) dX5_isUnder_5 (by decide) ?_
    refine n_icmp_ge (tgt := 31) dX5_isUnder_7 (by decide) (by decide) (by decide) (fun c_7 => by omega) (fun c_7 => ?_)
    refine a_iloadn_2 (pc := 10) dX5_isUnder_10 ?_
    refine n_if_lt (tgt := 31) dX5_isUnder_11 (by decide) (by decide) ?_
    refine a_iloadn_2 (pc := 14) dX5_isUnder_14 ?_
    refine a_iloadn_1 (pc := 15) dX5_isUnder_15 ?_
    refine n_icmp_eq (tgt := 31) dX5_isUnder_16 (by decide) (by decide) (by decide) (fun c_16 => by omega) (fun c_16 => ?_)
    refine a_gets (pc := 19) (i := 3) (by decide) dX5_isUnder_19 rfl w_897 ?_
    refine a_iloadn_2 (pc := 22) dX5_isUnder_22 ?_
    refine a_sil (pc := 23) 0 (t := 3) (by decide) dX5_isUnder_23 rfl (by decide) ?_
    refine a_topi ((-1)) (by decide) ?_
    refine a_istoren_2 (pc := 24) dX5_isUnder_24 (by decide) (by first | rfl | trivial) ?_
    refine a_iinc_3 (pc := 25) (v := nI (2)) dX5_isUnder_25 (nI_add _ _) (by decide) (by first | rfl | trivial) ?_
    refine a_goto (pc := 28) (tgt := 4) dX5_isUnder_28 (by decide) ?_
    refine a_iloadn_3 (pc := 4) dX5_isUnder_4 ?_
    refine a_bipush (pc := 5) (v := nI 8) dX5_isUnder_5 (by decide) ?_
    refine n_icmp_ge (tgt := 31) dX5_isUnder_7 (by decide) (by decide) (by decide) (fun c_7 => by omega) (fun c_7 => ?_)
    refine a_iloadn_2 (pc := 10) dX5_isUnder_10 ?_
    refine a_if_lt (pc := 11) (tgt := 31) dX5_isUnder_11 (by decide) (fun c_11 => ?_) (fun c_11 => absurd c_11 (by decide))
    refine a_iloadn_2 (pc := 31) dX5_isUnder_31 ?_
    refine a_iloadn_1 (pc := 32) dX5_isUnder_32 ?_
    refine a_icmp_ne (pc := 33) (tgt := 40) dX5_isUnder_33 (by decide) (fun c_33 => ?_) (fun c_33 => absurd c_33 (by decide))
    refine a_iconst (pc := 40) (v := nI 0) dX5_isUnder_40 (by decide) ?_
    exact a_zret (pc := 41) dX5_isUnder_41 rfl (by first | rfl | exact bI_nar _ | decide) (zf hz) (by rw [show decide (3 ∈ chn 2) = false by decide] at k; exact k)
  · refine AM.of [some (.int (nI (2))), some (.int (nI 4)), none, none] pnX5 (Nat.le_of_ble_eq_true rfl) (by simp [lsub, lvI, Value.category]) ?_
    refine a_iloadn_0 (pc := 0) dX5_isUnder_0 ?_
    refine a_istoren_2 (pc := 1) dX5_isUnder_1 (by decide) (by first | rfl | trivial) ?_
    refine a_iconst (pc := 2) (v := nI 0) dX5_isUnder_2 (by decide) ?_
    refine a_istoren_3 (pc := 3) dX5_isUnder_3 (by decide) (by first | rfl | trivial) ?_
    refine a_iloadn_3 (pc := 4) dX5_isUnder_4 ?_
    refine a_bipush (pc := 5) (v := nI 8) dX5_isUnder_5 (by decide) ?_
    refine n_icmp_ge (tgt := 31) dX5_isUnder_7 (by decide) (by decide) (by decide) (fun c_7 => by omega) (fun c_7 => ?_)
    refine a_iloadn_2 (pc := 10) dX5_isUnder_10 ?_
    refine n_if_lt (tgt := 31) dX5_isUnder_11 (by decide) (by decide) ?_
    refine a_iloadn_2 (pc := 14) dX5_isUnder_14 ?_
    refine a_iloadn_1 (pc := 15) dX5_isUnder_15 ?_
    refine n_icmp_eq (tgt := 31) dX5_isUnder_16 (by decide) (by decide) (by decide) (fun c_16 => by omega) (fun c_16 => ?_)
    refine a_gets (pc := 19) (i := 3) (by decide) dX5_isUnder_19 rfl w_897 ?_
    refine a_iloadn_2 (pc := 22) dX5_isUnder_22 ?_
    refine a_sil (pc := 23) 2 (t := 3) (by decide) dX5_isUnder_23 rfl (by decide) ?_
    refine a_topi (nI 0) (by decide) ?_
    refine a_istoren_2 (pc := 24) dX5_isUnder_24 (by decide) (by first | rfl | trivial) ?_
    refine a_iinc_3 (pc := 25) (v := nI (1)) dX5_isUnder_25 (nI_add _ _) (by decide) (by first | rfl | trivial) ?_
    refine a_goto (pc := 28) (tgt := 4) dX5_isUnder_28 (by decide) ?_
    refine a_iloadn_3 (pc := 4) dX5_isUnder_4 ?_
    refine a_bipush (pc := 5) (v := nI 8) dX5_isUnder_5 (by decide) ?_
    refine n_icmp_ge (tgt := 31) dX5_isUnder_7 (by decide) (by decide) (by decide) (fun c_7 => by omega) (fun c_7 => ?_)
    refine a_iloadn_2 (pc := 10) dX5_isUnder_10 ?_
    refine n_if_lt (tgt := 31) dX5_isUnder_11 (by decide) (by decide) ?_
    refine a_iloadn_2 (pc := 14) dX5_isUnder_14 ?_
    refine a_iloadn_1 (pc := 15) dX5_isUnder_15 ?_
    refine n_icmp_eq (tgt := 31) dX5_isUnder_16 (by decide) (by decide) (by decide) (fun c_16 => by omega) (fun c_16 => ?_)
    refine a_gets (pc := 19) (i := 3) (by decide) dX5_isUnder_19 rfl w_897 ?_
    refine a_iloadn_2 (pc := 22) dX5_isUnder_22 ?_
    refine a_sil (pc := 23) 0 (t := 3) (by decide) dX5_isUnder_23 rfl (by decide) ?_
    refine a_topi ((-1)) (by decide) ?_
    refine a_istoren_2 (pc := 24) dX5_isUnder_24 (by decide) (by first | rfl | trivial) ?_
    refine a_iinc_3 (pc := 25) (v := nI (2)) dX5_isUnder_25 (nI_add _ _) (by decide) (by first | rfl | trivial) ?_
    refine a_goto (pc := 28) (tgt := 4) dX5_isUnder_28 (by decide) ?_
    refine a_iloadn_3 (pc := 4) dX5_isUnder_4 ?_
    refine a_bipush (pc := 5) (v := nI 8) dX5_isUnder_5 (by decide) ?_
    refine n_icmp_ge (tgt := 31) dX5_isUnder_7 (by decide) (by decide) (by decide) (fun c_7 => by omega) (fun c_7 => ?_)
    refine a_iloadn_2 (pc := 10) dX5_isUnder_10 ?_
    refine a_if_lt (pc := 11) (tgt := 31) dX5_isUnder_11 (by decide) (fun c_11 => ?_) (fun c_11 => absurd c_11 (by decide))
    refine a_iloadn_2 (pc := 31) dX5_isUnder_31 ?_
    refine a_iloadn_1 (pc := 32) dX5_isUnder_32 ?_
    refine a_icmp_ne (pc := 33) (tgt := 40) dX5_isUnder_33 (by decide) (fun c_33 => ?_) (fun c_33 => absurd c_33 (by decide))
    refine a_iconst (pc := 40) (v := nI 0) dX5_isUnder_40 (by decide) ?_
    exact a_zret (pc := 41) dX5_isUnder_41 rfl (by first | rfl | exact bI_nar _ | decide) (zf hz) (by rw [show decide (4 ∈ chn 2) = false by decide] at k; exact k)
  · refine AM.of [some (.int (nI (2))), some (.int (nI 5)), none, none] pnX5 (Nat.le_of_ble_eq_true rfl) (by simp [lsub, lvI, Value.category]) ?_
    refine a_iloadn_0 (pc := 0) dX5_isUnder_0 ?_
    refine a_istoren_2 (pc := 1) dX5_isUnder_1 (by decide) (by first | rfl | trivial) ?_
    refine a_iconst (pc := 2) (v := nI 0) dX5_isUnder_2 (by decide) ?_
    refine a_istoren_3 (pc := 3) dX5_isUnder_3 (by decide) (by first | rfl | trivial) ?_
    refine a_iloadn_3 (pc := 4) dX5_isUnder_4 ?_
    refine a_bipush (pc := 5) (v := nI 8) dX5_isUnder_5 (by decide) ?_
    refine n_icmp_ge (tgt := 31) dX5_isUnder_7 (by decide) (by decide) (by decide) (fun c_7 => by omega) (fun c_7 => ?_)
    refine a_iloadn_2 (pc := 10) dX5_isUnder_10 ?_
    refine n_if_lt (tgt := 31) dX5_isUnder_11 (by decide) (by decide) ?_
    refine a_iloadn_2 (pc := 14) dX5_isUnder_14 ?_
    refine a_iloadn_1 (pc := 15) dX5_isUnder_15 ?_
    refine n_icmp_eq (tgt := 31) dX5_isUnder_16 (by decide) (by decide) (by decide) (fun c_16 => by omega) (fun c_16 => ?_)
    refine a_gets (pc := 19) (i := 3) (by decide) dX5_isUnder_19 rfl w_897 ?_
    refine a_iloadn_2 (pc := 22) dX5_isUnder_22 ?_
    refine a_sil (pc := 23) 2 (t := 3) (by decide) dX5_isUnder_23 rfl (by decide) ?_
    refine a_topi (nI 0) (by decide) ?_
    refine a_istoren_2 (pc := 24) dX5_isUnder_24 (by decide) (by first | rfl | trivial) ?_
    refine a_iinc_3 (pc := 25) (v := nI (1)) dX5_isUnder_25 (nI_add _ _) (by decide) (by first | rfl | trivial) ?_
    refine a_goto (pc := 28) (tgt := 4) dX5_isUnder_28 (by decide) ?_
    refine a_iloadn_3 (pc := 4) dX5_isUnder_4 ?_
    refine a_bipush (pc := 5) (v := nI 8) dX5_isUnder_5 (by decide) ?_
    refine n_icmp_ge (tgt := 31) dX5_isUnder_7 (by decide) (by decide) (by decide) (fun c_7 => by omega) (fun c_7 => ?_)
    refine a_iloadn_2 (pc := 10) dX5_isUnder_10 ?_
    refine n_if_lt (tgt := 31) dX5_isUnder_11 (by decide) (by decide) ?_
    refine a_iloadn_2 (pc := 14) dX5_isUnder_14 ?_
    refine a_iloadn_1 (pc := 15) dX5_isUnder_15 ?_
    refine n_icmp_eq (tgt := 31) dX5_isUnder_16 (by decide) (by decide) (by decide) (fun c_16 => by omega) (fun c_16 => ?_)
    refine a_gets (pc := 19) (i := 3) (by decide) dX5_isUnder_19 rfl w_897 ?_
    refine a_iloadn_2 (pc := 22) dX5_isUnder_22 ?_
    refine a_sil (pc := 23) 0 (t := 3) (by decide) dX5_isUnder_23 rfl (by decide) ?_
    refine a_topi ((-1)) (by decide) ?_
    refine a_istoren_2 (pc := 24) dX5_isUnder_24 (by decide) (by first | rfl | trivial) ?_
    refine a_iinc_3 (pc := 25) (v := nI (2)) dX5_isUnder_25 (nI_add _ _) (by decide) (by first | rfl | trivial) ?_
    refine a_goto (pc := 28) (tgt := 4) dX5_isUnder_28 (by decide) ?_
    refine a_iloadn_3 (pc := 4) dX5_isUnder_4 ?_
    refine a_bipush (pc := 5) (v := nI 8) dX5_isUnder_5 (by decide) ?_
    refine n_icmp_ge (tgt := 31) dX5_isUnder_7 (by decide) (by decide) (by decide) (fun c_7 => by omega) (fun c_7 => ?_)
    refine a_iloadn_2 (pc := 10) dX5_isUnder_10 ?_
    refine a_if_lt (pc := 11) (tgt := 31) dX5_isUnder_11 (by decide) (fun c_11 => ?_) (fun c_11 => absurd c_11 (by decide))
    refine a_iloadn_2 (pc := 31) dX5_isUnder_31 ?_
    refine a_iloadn_1 (pc := 32) dX5_isUnder_32 ?_
    refine a_icmp_ne (pc := 33) (tgt := 40) dX5_isUnder_33 (by decide) (fun c_33 => ?_) (fun c_33 => absurd c_33 (by decide))
    refine a_iconst (pc := 40) (v := nI 0) dX5_isUnder_40 (by decide) ?_
    exact a_zret (pc := 41) dX5_isUnder_41 rfl (by first | rfl | exact bI_nar _ | decide) (zf hz) (by rw [show decide (5 ∈ chn 2) = false by decide] at k; exact k)
  · refine AM.of [some (.int (nI (2))), some (.int (nI 6)), none, none] pnX5 (Nat.le_of_ble_eq_true rfl) (by simp [lsub, lvI, Value.category]) ?_
    refine a_iloadn_0 (pc := 0) dX5_isUnder_0 ?_
    refine a_istoren_2 (pc := 1) dX5_isUnder_1 (by decide) (by first | rfl | trivial) ?_
    refine a_iconst (pc := 2) (v := nI 0) dX5_isUnder_2 (by decide) ?_
    refine a_istoren_3 (pc := 3) dX5_isUnder_3 (by decide) (by first | rfl | trivial) ?_
    refine a_iloadn_3 (pc := 4) dX5_isUnder_4 ?_
    refine a_bipush (pc := 5) (v := nI 8) dX5_isUnder_5 (by decide) ?_
    refine n_icmp_ge (tgt := 31) dX5_isUnder_7 (by decide) (by decide) (by decide) (fun c_7 => by omega) (fun c_7 => ?_)
    refine a_iloadn_2 (pc := 10) dX5_isUnder_10 ?_
    refine n_if_lt (tgt := 31) dX5_isUnder_11 (by decide) (by decide) ?_
    refine a_iloadn_2 (pc := 14) dX5_isUnder_14 ?_
    refine a_iloadn_1 (pc := 15) dX5_isUnder_15 ?_
    refine n_icmp_eq (tgt := 31) dX5_isUnder_16 (by decide) (by decide) (by decide) (fun c_16 => by omega) (fun c_16 => ?_)
    refine a_gets (pc := 19) (i := 3) (by decide) dX5_isUnder_19 rfl w_897 ?_
    refine a_iloadn_2 (pc := 22) dX5_isUnder_22 ?_
    refine a_sil (pc := 23) 2 (t := 3) (by decide) dX5_isUnder_23 rfl (by decide) ?_
    refine a_topi (nI 0) (by decide) ?_
    refine a_istoren_2 (pc := 24) dX5_isUnder_24 (by decide) (by first | rfl | trivial) ?_
    refine a_iinc_3 (pc := 25) (v := nI (1)) dX5_isUnder_25 (nI_add _ _) (by decide) (by first | rfl | trivial) ?_
    refine a_goto (pc := 28) (tgt := 4) dX5_isUnder_28 (by decide) ?_
    refine a_iloadn_3 (pc := 4) dX5_isUnder_4 ?_
    refine a_bipush (pc := 5) (v := nI 8) dX5_isUnder_5 (by decide) ?_
    refine n_icmp_ge (tgt := 31) dX5_isUnder_7 (by decide) (by decide) (by decide) (fun c_7 => by omega) (fun c_7 => ?_)
    refine a_iloadn_2 (pc := 10) dX5_isUnder_10 ?_
    refine n_if_lt (tgt := 31) dX5_isUnder_11 (by decide) (by decide) ?_
    refine a_iloadn_2 (pc := 14) dX5_isUnder_14 ?_
    refine a_iloadn_1 (pc := 15) dX5_isUnder_15 ?_
    refine n_icmp_eq (tgt := 31) dX5_isUnder_16 (by decide) (by decide) (by decide) (fun c_16 => by omega) (fun c_16 => ?_)
    refine a_gets (pc := 19) (i := 3) (by decide) dX5_isUnder_19 rfl w_897 ?_
    refine a_iloadn_2 (pc := 22) dX5_isUnder_22 ?_
    refine a_sil (pc := 23) 0 (t := 3) (by decide) dX5_isUnder_23 rfl (by decide) ?_
    refine a_topi ((-1)) (by decide) ?_
    refine a_istoren_2 (pc := 24) dX5_isUnder_24 (by decide) (by first | rfl | trivial) ?_
    refine a_iinc_3 (pc := 25) (v := nI (2)) dX5_isUnder_25 (nI_add _ _) (by decide) (by first | rfl | trivial) ?_
    refine a_goto (pc := 28) (tgt := 4) dX5_isUnder_28 (by decide) ?_
    refine a_iloadn_3 (pc := 4) dX5_isUnder_4 ?_
    refine a_bipush (pc := 5) (v := nI 8) dX5_isUnder_5 (by decide) ?_
    refine n_icmp_ge (tgt := 31) dX5_isUnder_7 (by decide) (by decide) (by decide) (fun c_7 => by omega) (fun c_7 => ?_)
    refine a_iloadn_2 (pc := 10) dX5_isUnder_10 ?_
    refine a_if_lt (pc := 11) (tgt := 31) dX5_isUnder_11 (by decide) (fun c_11 => ?_) (fun c_11 => absurd c_11 (by decide))
    refine a_iloadn_2 (pc := 31) dX5_isUnder_31 ?_
    refine a_iloadn_1 (pc := 32) dX5_isUnder_32 ?_
    refine a_icmp_ne (pc := 33) (tgt := 40) dX5_isUnder_33 (by decide) (fun c_33 => ?_) (fun c_33 => absurd c_33 (by decide))
    refine a_iconst (pc := 40) (v := nI 0) dX5_isUnder_40 (by decide) ?_
    exact a_zret (pc := 41) dX5_isUnder_41 rfl (by first | rfl | exact bI_nar _ | decide) (zf hz) (by rw [show decide (6 ∈ chn 2) = false by decide] at k; exact k)
  · refine AM.of [some (.int (nI (2))), some (.int (nI 7)), none, none] pnX5 (Nat.le_of_ble_eq_true rfl) (by simp [lsub, lvI, Value.category]) ?_
    refine a_iloadn_0 (pc := 0) dX5_isUnder_0 ?_
    refine a_istoren_2 (pc := 1) dX5_isUnder_1 (by decide) (by first | rfl | trivial) ?_
    refine a_iconst (pc := 2) (v := nI 0) dX5_isUnder_2 (by decide) ?_
    refine a_istoren_3 (pc := 3) dX5_isUnder_3 (by decide) (by first | rfl | trivial) ?_
    refine a_iloadn_3 (pc := 4) dX5_isUnder_4 ?_
    refine a_bipush (pc := 5) (v := nI 8) dX5_isUnder_5 (by decide) ?_
    refine n_icmp_ge (tgt := 31) dX5_isUnder_7 (by decide) (by decide) (by decide) (fun c_7 => by omega) (fun c_7 => ?_)
    refine a_iloadn_2 (pc := 10) dX5_isUnder_10 ?_
    refine n_if_lt (tgt := 31) dX5_isUnder_11 (by decide) (by decide) ?_
    refine a_iloadn_2 (pc := 14) dX5_isUnder_14 ?_
    refine a_iloadn_1 (pc := 15) dX5_isUnder_15 ?_
    refine n_icmp_eq (tgt := 31) dX5_isUnder_16 (by decide) (by decide) (by decide) (fun c_16 => by omega) (fun c_16 => ?_)
    refine a_gets (pc := 19) (i := 3) (by decide) dX5_isUnder_19 rfl w_897 ?_
    refine a_iloadn_2 (pc := 22) dX5_isUnder_22 ?_
    refine a_sil (pc := 23) 2 (t := 3) (by decide) dX5_isUnder_23 rfl (by decide) ?_
    refine a_topi (nI 0) (by decide) ?_
    refine a_istoren_2 (pc := 24) dX5_isUnder_24 (by decide) (by first | rfl | trivial) ?_
    refine a_iinc_3 (pc := 25) (v := nI (1)) dX5_isUnder_25 (nI_add _ _) (by decide) (by first | rfl | trivial) ?_
    refine a_goto (pc := 28) (tgt := 4) dX5_isUnder_28 (by decide) ?_
    refine a_iloadn_3 (pc := 4) dX5_isUnder_4 ?_
    refine a_bipush (pc := 5) (v := nI 8) dX5_isUnder_5 (by decide) ?_
    refine n_icmp_ge (tgt := 31) dX5_isUnder_7 (by decide) (by decide) (by decide) (fun c_7 => by omega) (fun c_7 => ?_)
    refine a_iloadn_2 (pc := 10) dX5_isUnder_10 ?_
    refine n_if_lt (tgt := 31) dX5_isUnder_11 (by decide) (by decide) ?_
    refine a_iloadn_2 (pc := 14) dX5_isUnder_14 ?_
    refine a_iloadn_1 (pc := 15) dX5_isUnder_15 ?_
    refine n_icmp_eq (tgt := 31) dX5_isUnder_16 (by decide) (by decide) (by decide) (fun c_16 => by omega) (fun c_16 => ?_)
    refine a_gets (pc := 19) (i := 3) (by decide) dX5_isUnder_19 rfl w_897 ?_
    refine a_iloadn_2 (pc := 22) dX5_isUnder_22 ?_
    refine a_sil (pc := 23) 0 (t := 3) (by decide) dX5_isUnder_23 rfl (by decide) ?_
    refine a_topi ((-1)) (by decide) ?_
    refine a_istoren_2 (pc := 24) dX5_isUnder_24 (by decide) (by first | rfl | trivial) ?_
    refine a_iinc_3 (pc := 25) (v := nI (2)) dX5_isUnder_25 (nI_add _ _) (by decide) (by first | rfl | trivial) ?_
    refine a_goto (pc := 28) (tgt := 4) dX5_isUnder_28 (by decide) ?_
    refine a_iloadn_3 (pc := 4) dX5_isUnder_4 ?_
    refine a_bipush (pc := 5) (v := nI 8) dX5_isUnder_5 (by decide) ?_
    refine n_icmp_ge (tgt := 31) dX5_isUnder_7 (by decide) (by decide) (by decide) (fun c_7 => by omega) (fun c_7 => ?_)
    refine a_iloadn_2 (pc := 10) dX5_isUnder_10 ?_
    refine a_if_lt (pc := 11) (tgt := 31) dX5_isUnder_11 (by decide) (fun c_11 => ?_) (fun c_11 => absurd c_11 (by decide))
    refine a_iloadn_2 (pc := 31) dX5_isUnder_31 ?_
    refine a_iloadn_1 (pc := 32) dX5_isUnder_32 ?_
    refine a_icmp_ne (pc := 33) (tgt := 40) dX5_isUnder_33 (by decide) (fun c_33 => ?_) (fun c_33 => absurd c_33 (by decide))
    refine a_iconst (pc := 40) (v := nI 0) dX5_isUnder_40 (by decide) ?_
    exact a_zret (pc := 41) dX5_isUnder_41 rfl (by first | rfl | exact bI_nar _ | decide) (zf hz) (by rw [show decide (7 ∈ chn 2) = false by decide] at k; exact k)

set_option maxRecDepth 100000 in
set_option maxHeartbeats 4000000 in
theorem k_isUnder_3 {G : Cx} {d t : Nat} {h : List va_E} {Q : Option Value → List va_E → Prop} (hd : 1 ≤ d) (hz : gz G = false) (ht : t < 8) (k : Q (some (.int (bI (decide (t ∈ chn 3))))) h) : AM G yX5_isUnder cX5_isUnder 4 (some .boolean) d 0 0 [.int (nI (3)), .int (nI t)] h Q := by
  obtain ⟨d, rfl, he⟩ := dpos hd
  rcases k8 ht with rfl | rfl | rfl | rfl | rfl | rfl | rfl | rfl
  · refine AM.of [some (.int (nI (3))), some (.int (nI 0)), none, none] pnX5 (Nat.le_of_ble_eq_true rfl) (by simp [lsub, lvI, Value.category]) ?_
    refine a_iloadn_0 (pc := 0) dX5_isUnder_0 ?_
    refine a_istoren_2 (pc := 1) dX5_isUnder_1 (by decide) (by first | rfl | trivial) ?_
    refine a_iconst (pc := 2) (v := nI 0) dX5_isUnder_2 (by decide) ?_
    refine a_istoren_3 (pc := 3) dX5_isUnder_3 (by decide) (by first | rfl | trivial) ?_
    refine a_iloadn_3 (pc := 4) dX5_isUnder_4 ?_
    refine a_bipush (pc := 5) (v := nI 8) dX5_isUnder_5 (by decide) ?_
    refine n_icmp_ge (tgt := 31) dX5_isUnder_7 (by decide) (by decide) (by decide) (fun c_7 => by omega) (fun c_7 => ?_)
    refine a_iloadn_2 (pc := 10) dX5_isUnder_10 ?_
    refine n_if_lt (tgt := 31) dX5_isUnder_11 (by decide) (by decide) ?_
    refine a_iloadn_2 (pc := 14) dX5_isUnder_14 ?_
    refine a_iloadn_1 (pc := 15) dX5_isUnder_15 ?_
    refine n_icmp_eq (tgt := 31) dX5_isUnder_16 (by decide) (by decide) (by decide) (fun c_16 => by omega) (fun c_16 => ?_)
    refine a_gets (pc := 19) (i := 3) (by decide) dX5_isUnder_19 rfl w_897 ?_
    refine a_iloadn_2 (pc := 22) dX5_isUnder_22 ?_
    refine a_sil (pc := 23) 3 (t := 3) (by decide) dX5_isUnder_23 rfl (by decide) ?_
    refine a_topi (nI 2) (by decide) ?_
    refine a_istoren_2 (pc := 24) dX5_isUnder_24 (by decide) (by first | rfl | trivial) ?_
    refine a_iinc_3 (pc := 25) (v := nI (1)) dX5_isUnder_25 (nI_add _ _) (by decide) (by first | rfl | trivial) ?_
    refine a_goto (pc := 28) (tgt := 4) dX5_isUnder_28 (by decide) ?_
    refine a_iloadn_3 (pc := 4) dX5_isUnder_4 ?_
    refine a_bipush (pc := 5) (v := nI 8) dX5_isUnder_5 (by decide) ?_
    refine n_icmp_ge (tgt := 31) dX5_isUnder_7 (by decide) (by decide) (by decide) (fun c_7 => by omega) (fun c_7 => ?_)
    refine a_iloadn_2 (pc := 10) dX5_isUnder_10 ?_
    refine n_if_lt (tgt := 31) dX5_isUnder_11 (by decide) (by decide) ?_
    refine a_iloadn_2 (pc := 14) dX5_isUnder_14 ?_
    refine a_iloadn_1 (pc := 15) dX5_isUnder_15 ?_
    refine n_icmp_eq (tgt := 31) dX5_isUnder_16 (by decide) (by decide) (by decide) (fun c_16 => by omega) (fun c_16 => ?_)
    refine a_gets (pc := 19) (i := 3) (by decide) dX5_isUnder_19 rfl w_897 ?_
    refine a_iloadn_2 (pc := 22) dX5_isUnder_22 ?_
    refine a_sil (pc := 23) 2 (t := 3) (by decide) dX5_isUnder_23 rfl (by decide) ?_
    refine a_topi (nI 0) (by decide) ?_
    refine a_istoren_2 (pc := 24) dX5_isUnder_24 (by decide) (by first | rfl | trivial) ?_
    refine a_iinc_3 (pc := 25) (v := nI (2)) dX5_isUnder_25 (nI_add _ _) (by decide) (by first | rfl | trivial) ?_
    refine a_goto (pc := 28) (tgt := 4) dX5_isUnder_28 (by decide) ?_
    refine a_iloadn_3 (pc := 4) dX5_isUnder_4 ?_
    refine a_bipush (pc := 5) (v := nI 8) dX5_isUnder_5 (by decide) ?_
    refine n_icmp_ge (tgt := 31) dX5_isUnder_7 (by decide) (by decide) (by decide) (fun c_7 => by omega) (fun c_7 => ?_)
    refine a_iloadn_2 (pc := 10) dX5_isUnder_10 ?_
    refine n_if_lt (tgt := 31) dX5_isUnder_11 (by decide) (by decide) ?_
    refine a_iloadn_2 (pc := 14) dX5_isUnder_14 ?_
    refine a_iloadn_1 (pc := 15) dX5_isUnder_15 ?_
    refine n_icmp_eq (tgt := 31) dX5_isUnder_16 (by decide) (by decide) (by decide) (fun c_16 => ?_) (fun c_16 => by omega)
    refine a_iloadn_2 (pc := 31) dX5_isUnder_31 ?_
    refine a_iloadn_1 (pc := 32) dX5_isUnder_32 ?_
    refine n_icmp_ne (tgt := 40) dX5_isUnder_33 (by decide) (by decide) (by decide) (fun c_33 => by omega) (fun c_33 => ?_)
    refine a_iconst (pc := 36) (v := nI 1) dX5_isUnder_36 (by decide) ?_
    refine a_goto (pc := 37) (tgt := 41) dX5_isUnder_37 (by decide) ?_
    exact a_zret (pc := 41) dX5_isUnder_41 rfl (by first | rfl | exact bI_nar _ | decide) (zf hz) (by rw [show decide (0 ∈ chn 3) = true by decide] at k; exact k)
  · refine AM.of [some (.int (nI (3))), some (.int (nI 1)), none, none] pnX5 (Nat.le_of_ble_eq_true rfl) (by simp [lsub, lvI, Value.category]) ?_
    refine a_iloadn_0 (pc := 0) dX5_isUnder_0 ?_
    refine a_istoren_2 (pc := 1) dX5_isUnder_1 (by decide) (by first | rfl | trivial) ?_
    refine a_iconst (pc := 2) (v := nI 0) dX5_isUnder_2 (by decide) ?_
    refine a_istoren_3 (pc := 3) dX5_isUnder_3 (by decide) (by first | rfl | trivial) ?_
    refine a_iloadn_3 (pc := 4) dX5_isUnder_4 ?_
    refine a_bipush (pc := 5) (v := nI 8) dX5_isUnder_5 (by decide) ?_
    refine n_icmp_ge (tgt := 31) dX5_isUnder_7 (by decide) (by decide) (by decide) (fun c_7 => by omega) (fun c_7 => ?_)
    refine a_iloadn_2 (pc := 10) dX5_isUnder_10 ?_
    refine n_if_lt (tgt := 31) dX5_isUnder_11 (by decide) (by decide) ?_
    refine a_iloadn_2 (pc := 14) dX5_isUnder_14 ?_
    refine a_iloadn_1 (pc := 15) dX5_isUnder_15 ?_
    refine n_icmp_eq (tgt := 31) dX5_isUnder_16 (by decide) (by decide) (by decide) (fun c_16 => by omega) (fun c_16 => ?_)
    refine a_gets (pc := 19) (i := 3) (by decide) dX5_isUnder_19 rfl w_897 ?_
    refine a_iloadn_2 (pc := 22) dX5_isUnder_22 ?_
    refine a_sil (pc := 23) 3 (t := 3) (by decide) dX5_isUnder_23 rfl (by decide) ?_
    refine a_topi (nI 2) (by decide) ?_
    refine a_istoren_2 (pc := 24) dX5_isUnder_24 (by decide) (by first | rfl | trivial) ?_
    refine a_iinc_3 (pc := 25) (v := nI (1)) dX5_isUnder_25 (nI_add _ _) (by decide) (by first | rfl | trivial) ?_
    refine a_goto (pc := 28) (tgt := 4) dX5_isUnder_28 (by decide) ?_
    refine a_iloadn_3 (pc := 4) dX5_isUnder_4 ?_
    refine a_bipush (pc := 5) (v := nI 8) dX5_isUnder_5 (by decide) ?_
    refine n_icmp_ge (tgt := 31) dX5_isUnder_7 (by decide) (by decide) (by decide) (fun c_7 => by omega) (fun c_7 => ?_)
    refine a_iloadn_2 (pc := 10) dX5_isUnder_10 ?_
    refine n_if_lt (tgt := 31) dX5_isUnder_11 (by decide) (by decide) ?_
    refine a_iloadn_2 (pc := 14) dX5_isUnder_14 ?_
    refine a_iloadn_1 (pc := 15) dX5_isUnder_15 ?_
    refine n_icmp_eq (tgt := 31) dX5_isUnder_16 (by decide) (by decide) (by decide) (fun c_16 => by omega) (fun c_16 => ?_)
    refine a_gets (pc := 19) (i := 3) (by decide) dX5_isUnder_19 rfl w_897 ?_
    refine a_iloadn_2 (pc := 22) dX5_isUnder_22 ?_
    refine a_sil (pc := 23) 2 (t := 3) (by decide) dX5_isUnder_23 rfl (by decide) ?_
    refine a_topi (nI 0) (by decide) ?_
    refine a_istoren_2 (pc := 24) dX5_isUnder_24 (by decide) (by first | rfl | trivial) ?_
    refine a_iinc_3 (pc := 25) (v := nI (2)) dX5_isUnder_25 (nI_add _ _) (by decide) (by first | rfl | trivial) ?_
    refine a_goto (pc := 28) (tgt := 4) dX5_isUnder_28 (by decide) ?_
    refine a_iloadn_3 (pc := 4) dX5_isUnder_4 ?_
    refine a_bipush (pc := 5) (v := nI 8) dX5_isUnder_5 (by decide) ?_
    refine n_icmp_ge (tgt := 31) dX5_isUnder_7 (by decide) (by decide) (by decide) (fun c_7 => by omega) (fun c_7 => ?_)
    refine a_iloadn_2 (pc := 10) dX5_isUnder_10 ?_
    refine n_if_lt (tgt := 31) dX5_isUnder_11 (by decide) (by decide) ?_
    refine a_iloadn_2 (pc := 14) dX5_isUnder_14 ?_
    refine a_iloadn_1 (pc := 15) dX5_isUnder_15 ?_
    refine n_icmp_eq (tgt := 31) dX5_isUnder_16 (by decide) (by decide) (by decide) (fun c_16 => by omega) (fun c_16 => ?_)
    refine a_gets (pc := 19) (i := 3) (by decide) dX5_isUnder_19 rfl w_897 ?_
    refine a_iloadn_2 (pc := 22) dX5_isUnder_22 ?_
    refine a_sil (pc := 23) 0 (t := 3) (by decide) dX5_isUnder_23 rfl (by decide) ?_
    refine a_topi ((-1)) (by decide) ?_
    refine a_istoren_2 (pc := 24) dX5_isUnder_24 (by decide) (by first | rfl | trivial) ?_
    refine a_iinc_3 (pc := 25) (v := nI (3)) dX5_isUnder_25 (nI_add _ _) (by decide) (by first | rfl | trivial) ?_
    refine a_goto (pc := 28) (tgt := 4) dX5_isUnder_28 (by decide) ?_
    refine a_iloadn_3 (pc := 4) dX5_isUnder_4 ?_
    refine a_bipush (pc := 5) (v := nI 8) dX5_isUnder_5 (by decide) ?_
    refine n_icmp_ge (tgt := 31) dX5_isUnder_7 (by decide) (by decide) (by decide) (fun c_7 => by omega) (fun c_7 => ?_)
    refine a_iloadn_2 (pc := 10) dX5_isUnder_10 ?_
    refine a_if_lt (pc := 11) (tgt := 31) dX5_isUnder_11 (by decide) (fun c_11 => ?_) (fun c_11 => absurd c_11 (by decide))
    refine a_iloadn_2 (pc := 31) dX5_isUnder_31 ?_
    refine a_iloadn_1 (pc := 32) dX5_isUnder_32 ?_
    refine a_icmp_ne (pc := 33) (tgt := 40) dX5_isUnder_33 (by decide) (fun c_33 => ?_) (fun c_33 => absurd c_33 (by decide))
    refine a_iconst (pc := 40) (v := nI 0) dX5_isUnder_40 (by decide) ?_
    exact a_zret (pc := 41) dX5_isUnder_41 rfl (by first | rfl | exact bI_nar _ | decide) (zf hz) (by rw [show decide (1 ∈ chn 3) = false by decide] at k; exact k)
  · refine AM.of [some (.int (nI (3))), some (.int (nI 2)), none, none] pnX5 (Nat.le_of_ble_eq_true rfl) (by simp [lsub, lvI, Value.category]) ?_
    refine a_iloadn_0 (pc := 0) dX5_isUnder_0 ?_
    refine a_istoren_2 (pc := 1) dX5_isUnder_1 (by decide) (by first | rfl | trivial) ?_
    refine a_iconst (pc := 2) (v := nI 0) dX5_isUnder_2 (by decide) ?_
    refine a_istoren_3 (pc := 3) dX5_isUnder_3 (by decide) (by first | rfl | trivial) ?_
    refine a_iloadn_3 (pc := 4) dX5_isUnder_4 ?_
    refine a_bipush (pc := 5) (v := nI 8) dX5_isUnder_5 (by decide) ?_
    refine n_icmp_ge (tgt := 31) dX5_isUnder_7 (by decide) (by decide) (by decide) (fun c_7 => by omega) (fun c_7 => ?_)
    refine a_iloadn_2 (pc := 10) dX5_isUnder_10 ?_
    refine n_if_lt (tgt := 31) dX5_isUnder_11 (by decide) (by decide) ?_
    refine a_iloadn_2 (pc := 14) dX5_isUnder_14 ?_
    refine a_iloadn_1 (pc := 15) dX5_isUnder_15 ?_
    refine n_icmp_eq (tgt := 31) dX5_isUnder_16 (by decide) (by decide) (by decide) (fun c_16 => by omega) (fun c_16 => ?_)
    refine a_gets (pc := 19) (i := 3) (by decide) dX5_isUnder_19 rfl w_897 ?_
    refine a_iloadn_2 (pc := 22) dX5_isUnder_22 ?_
    refine a_sil (pc := 23) 3 (t := 3) (by decide) dX5_isUnder_23 rfl (by decide) ?_
    refine a_topi (nI 2) (by decide) ?_
    refine a_istoren_2 (pc := 24) dX5_isUnder_24 (by decide) (by first | rfl | trivial) ?_
    refine a_iinc_3 (pc := 25) (v := nI (1)) dX5_isUnder_25 (nI_add _ _) (by decide) (by first | rfl | trivial) ?_
    refine a_goto (pc := 28) (tgt := 4) dX5_isUnder_28 (by decide) ?_
    refine a_iloadn_3 (pc := 4) dX5_isUnder_4 ?_
    refine a_bipush (pc := 5) (v := nI 8) dX5_isUnder_5 (by decide) ?_
    refine n_icmp_ge (tgt := 31) dX5_isUnder_7 (by decide) (by decide) (by decide) (fun c_7 => by omega) (fun c_7 => ?_)
    refine a_iloadn_2 (pc := 10) dX5_isUnder_10 ?_
    refine n_if_lt (tgt := 31) dX5_isUnder_11 (by decide) (by decide) ?_
    refine a_iloadn_2 (pc := 14) dX5_isUnder_14 ?_
    refine a_iloadn_1 (pc := 15) dX5_isUnder_15 ?_
    refine n_icmp_eq (tgt := 31) dX5_isUnder_16 (by decide) (by decide) (by decide) (fun c_16 => ?_) (fun c_16 => by omega)
    refine a_iloadn_2 (pc := 31) dX5_isUnder_31 ?_
    refine a_iloadn_1 (pc := 32) dX5_isUnder_32 ?_
    refine n_icmp_ne (tgt := 40) dX5_isUnder_33 (by decide) (by decide) (by decide) (fun c_33 => by omega) (fun c_33 => ?_)
    refine a_iconst (pc := 36) (v := nI 1) dX5_isUnder_36 (by decide) ?_
    refine a_goto (pc := 37) (tgt := 41) dX5_isUnder_37 (by decide) ?_
    exact a_zret (pc := 41) dX5_isUnder_41 rfl (by first | rfl | exact bI_nar _ | decide) (zf hz) (by rw [show decide (2 ∈ chn 3) = true by decide] at k; exact k)
  · refine AM.of [some (.int (nI (3))), some (.int (nI 3)), none, none] pnX5 (Nat.le_of_ble_eq_true rfl) (by simp [lsub, lvI, Value.category]) ?_
    refine a_iloadn_0 (pc := 0) dX5_isUnder_0 ?_
    refine a_istoren_2 (pc := 1) dX5_isUnder_1 (by decide) (by first | rfl | trivial) ?_
    refine a_iconst (pc := 2) (v := nI 0) dX5_isUnder_2 (by decide) ?_
    refine a_istoren_3 (pc := 3) dX5_isUnder_3 (by decide) (by first | rfl | trivial) ?_
    refine a_iloadn_3 (pc := 4) dX5_isUnder_4 ?_
    refine a_bipush (pc := 5) (v := nI 8) dX5_isUnder_5 (by decide) ?_
    refine n_icmp_ge (tgt := 31) dX5_isUnder_7 (by decide) (by decide) (by decide) (fun c_7 => by omega) (fun c_7 => ?_)
    refine a_iloadn_2 (pc := 10) dX5_isUnder_10 ?_
    refine n_if_lt (tgt := 31) dX5_isUnder_11 (by decide) (by decide) ?_
    refine a_iloadn_2 (pc := 14) dX5_isUnder_14 ?_
    refine a_iloadn_1 (pc := 15) dX5_isUnder_15 ?_
    refine n_icmp_eq (tgt := 31) dX5_isUnder_16 (by decide) (by decide) (by decide) (fun c_16 => ?_) (fun c_16 => by omega)
    refine a_iloadn_2 (pc := 31) dX5_isUnder_31 ?_
    refine a_iloadn_1 (pc := 32) dX5_isUnder_32 ?_
    refine n_icmp_ne (tgt := 40) dX5_isUnder_33 (by decide) (by decide) (by decide) (fun c_33 => by omega) (fun c_33 => ?_)
    refine a_iconst (pc := 36) (v := nI 1) dX5_isUnder_36 (by decide) ?_
    refine a_goto (pc := 37) (tgt := 41) dX5_isUnder_37 (by decide) ?_
    exact a_zret (pc := 41) dX5_isUnder_41 rfl (by first | rfl | exact bI_nar _ | decide) (zf hz) (by rw [show decide (3 ∈ chn 3) = true by decide] at k; exact k)
  · refine AM.of [some (.int (nI (3))), some (.int (nI 4)), none, none] pnX5 (Nat.le_of_ble_eq_true rfl) (by simp [lsub, lvI, Value.category]) ?_
    refine a_iloadn_0 (pc := 0) dX5_isUnder_0 ?_
    refine a_istoren_2 (pc := 1) dX5_isUnder_1 (by decide) (by first | rfl | trivial) ?_
    refine a_iconst (pc := 2) (v := nI 0) dX5_isUnder_2 (by decide) ?_
    refine a_istoren_3 (pc := 3) dX5_isUnder_3 (by decide) (by first | rfl | trivial) ?_
    refine a_iloadn_3 (pc := 4) dX5_isUnder_4 ?_
    refine a_bipush (pc := 5) (v := nI 8) dX5_isUnder_5 (by decide) ?_
    refine n_icmp_ge (tgt := 31) dX5_isUnder_7 (by decide) (by decide) (by decide) (fun c_7 => by omega) (fun c_7 => ?_)
    refine a_iloadn_2 (pc := 10) dX5_isUnder_10 ?_
    refine n_if_lt (tgt := 31) dX5_isUnder_11 (by decide) (by decide) ?_
    refine a_iloadn_2 (pc := 14) dX5_isUnder_14 ?_
    refine a_iloadn_1 (pc := 15) dX5_isUnder_15 ?_
    refine n_icmp_eq (tgt := 31) dX5_isUnder_16 (by decide) (by decide) (by decide) (fun c_16 => by omega) (fun c_16 => ?_)
    refine a_gets (pc := 19) (i := 3) (by decide) dX5_isUnder_19 rfl w_897 ?_
    refine a_iloadn_2 (pc := 22) dX5_isUnder_22 ?_
    refine a_sil (pc := 23) 3 (t := 3) (by decide) dX5_isUnder_23 rfl (by decide) ?_
    refine a_topi (nI 2) (by decide) ?_
    refine a_istoren_2 (pc := 24) dX5_isUnder_24 (by decide) (by first | rfl | trivial) ?_
    refine a_iinc_3 (pc := 25) (v := nI (1)) dX5_isUnder_25 (nI_add _ _) (by decide) (by first | rfl | trivial) ?_
    refine a_goto (pc := 28) (tgt := 4) dX5_isUnder_28 (by decide) ?_
    refine a_iloadn_3 (pc := 4) dX5_isUnder_4 ?_
    refine a_bipush (pc := 5) (v := nI 8) dX5_isUnder_5 (by decide) ?_
    refine n_icmp_ge (tgt := 31) dX5_isUnder_7 (by decide) (by decide) (by decide) (fun c_7 => by omega) (fun c_7 => ?_)
    refine a_iloadn_2 (pc := 10) dX5_isUnder_10 ?_
    refine n_if_lt (tgt := 31) dX5_isUnder_11 (by decide) (by decide) ?_
    refine a_iloadn_2 (pc := 14) dX5_isUnder_14 ?_
    refine a_iloadn_1 (pc := 15) dX5_isUnder_15 ?_
    refine n_icmp_eq (tgt := 31) dX5_isUnder_16 (by decide) (by decide) (by decide) (fun c_16 => by omega) (fun c_16 => ?_)
    refine a_gets (pc := 19) (i := 3) (by decide) dX5_isUnder_19 rfl w_897 ?_
    refine a_iloadn_2 (pc := 22) dX5_isUnder_22 ?_
    refine a_sil (pc := 23) 2 (t := 3) (by decide) dX5_isUnder_23 rfl (by decide) ?_
    refine a_topi (nI 0) (by decide) ?_
    refine a_istoren_2 (pc := 24) dX5_isUnder_24 (by decide) (by first | rfl | trivial) ?_
    refine a_iinc_3 (pc := 25) (v := nI (2)) dX5_isUnder_25 (nI_add _ _) (by decide) (by first | rfl | trivial) ?_
    refine a_goto (pc := 28) (tgt := 4) dX5_isUnder_28 (by decide) ?_
    refine a_iloadn_3 (pc := 4) dX5_isUnder_4 ?_
    refine a_bipush (pc := 5) (v := nI 8) dX5_isUnder_5 (by decide) ?_
    refine n_icmp_ge (tgt := 31) dX5_isUnder_7 (by decide) (by decide) (by decide) (fun c_7 => by omega) (fun c_7 => ?_)
    refine a_iloadn_2 (pc := 10) dX5_isUnder_10 ?_
    refine n_if_lt (tgt := 31) dX5_isUnder_11 (by decide) (by decide) ?_
    refine a_iloadn_2 (pc := 14) dX5_isUnder_14 ?_
    refine a_iloadn_1 (pc := 15) dX5_isUnder_15 ?_
    refine n_icmp_eq (tgt := 31) dX5_isUnder_16 (by decide) (by decide) (by decide) (fun c_16 => by omega) (fun c_16 => ?_)
    refine a_gets (pc := 19) (i := 3) (by decide) dX5_isUnder_19 rfl w_897 ?_
    refine a_iloadn_2 (pc := 22) dX5_isUnder_22 ?_
    refine a_sil (pc := 23) 0 (t := 3) (by decide) dX5_isUnder_23 rfl (by decide) ?_
    refine a_topi ((-1)) (by decide) ?_
    refine a_istoren_2 (pc := 24) dX5_isUnder_24 (by decide) (by first | rfl | trivial) ?_
    refine a_iinc_3 (pc := 25) (v := nI (3)) dX5_isUnder_25 (nI_add _ _) (by decide) (by first | rfl | trivial) ?_
    refine a_goto (pc := 28) (tgt := 4) dX5_isUnder_28 (by decide) ?_
    refine a_iloadn_3 (pc := 4) dX5_isUnder_4 ?_
    refine a_bipush (pc := 5) (v := nI 8) dX5_isUnder_5 (by decide) ?_
    refine n_icmp_ge (tgt := 31) dX5_isUnder_7 (by decide) (by decide) (by decide) (fun c_7 => by omega) (fun c_7 => ?_)
    refine a_iloadn_2 (pc := 10) dX5_isUnder_10 ?_
    refine a_if_lt (pc := 11) (tgt := 31) dX5_isUnder_11 (by decide) (fun c_11 => ?_) (fun c_11 => absurd c_11 (by decide))
    refine a_iloadn_2 (pc := 31) dX5_isUnder_31 ?_
    refine a_iloadn_1 (pc := 32) dX5_isUnder_32 ?_
    refine a_icmp_ne (pc := 33) (tgt := 40) dX5_isUnder_33 (by decide) (fun c_33 => ?_) (fun c_33 => absurd c_33 (by decide))
    refine a_iconst (pc := 40) (v := nI 0) dX5_isUnder_40 (by decide) ?_
    exact a_zret (pc := 41) dX5_isUnder_41 rfl (by first | rfl | exact bI_nar _ | decide) (zf hz) (by rw [show decide (4 ∈ chn 3) = false by decide] at k; exact k)
  · refine AM.of [some (.int (nI (3))), some (.int (nI 5)), none, none] pnX5 (Nat.le_of_ble_eq_true rfl) (by simp [lsub, lvI, Value.category]) ?_
    refine a_iloadn_0 (pc := 0) dX5_isUnder_0 ?_
    refine a_istoren_2 (pc := 1) dX5_isUnder_1 (by decide) (by first | rfl | trivial) ?_
    refine a_iconst (pc := 2) (v := nI 0) dX5_isUnder_2 (by decide) ?_
    refine a_istoren_3 (pc := 3) dX5_isUnder_3 (by decide) (by first | rfl | trivial) ?_
    refine a_iloadn_3 (pc := 4) dX5_isUnder_4 ?_
    refine a_bipush (pc := 5) (v := nI 8) dX5_isUnder_5 (by decide) ?_
    refine n_icmp_ge (tgt := 31) dX5_isUnder_7 (by decide) (by decide) (by decide) (fun c_7 => by omega) (fun c_7 => ?_)
    refine a_iloadn_2 (pc := 10) dX5_isUnder_10 ?_
    refine n_if_lt (tgt := 31) dX5_isUnder_11 (by decide) (by decide) ?_
    refine a_iloadn_2 (pc := 14) dX5_isUnder_14 ?_
    refine a_iloadn_1 (pc := 15) dX5_isUnder_15 ?_
    refine n_icmp_eq (tgt := 31) dX5_isUnder_16 (by decide) (by decide) (by decide) (fun c_16 => by omega) (fun c_16 => ?_)
    refine a_gets (pc := 19) (i := 3) (by decide) dX5_isUnder_19 rfl w_897 ?_
    refine a_iloadn_2 (pc := 22) dX5_isUnder_22 ?_
    refine a_sil (pc := 23) 3 (t := 3) (by decide) dX5_isUnder_23 rfl (by decide) ?_
    refine a_topi (nI 2) (by decide) ?_
    refine a_istoren_2 (pc := 24) dX5_isUnder_24 (by decide) (by first | rfl | trivial) ?_
    refine a_iinc_3 (pc := 25) (v := nI (1)) dX5_isUnder_25 (nI_add _ _) (by decide) (by first | rfl | trivial) ?_
    refine a_goto (pc := 28) (tgt := 4) dX5_isUnder_28 (by decide) ?_
    refine a_iloadn_3 (pc := 4) dX5_isUnder_4 ?_
    refine a_bipush (pc := 5) (v := nI 8) dX5_isUnder_5 (by decide) ?_
    refine n_icmp_ge (tgt := 31) dX5_isUnder_7 (by decide) (by decide) (by decide) (fun c_7 => by omega) (fun c_7 => ?_)
    refine a_iloadn_2 (pc := 10) dX5_isUnder_10 ?_
    refine n_if_lt (tgt := 31) dX5_isUnder_11 (by decide) (by decide) ?_
    refine a_iloadn_2 (pc := 14) dX5_isUnder_14 ?_
    refine a_iloadn_1 (pc := 15) dX5_isUnder_15 ?_
    refine n_icmp_eq (tgt := 31) dX5_isUnder_16 (by decide) (by decide) (by decide) (fun c_16 => by omega) (fun c_16 => ?_)
    refine a_gets (pc := 19) (i := 3) (by decide) dX5_isUnder_19 rfl w_897 ?_
    refine a_iloadn_2 (pc := 22) dX5_isUnder_22 ?_
    refine a_sil (pc := 23) 2 (t := 3) (by decide) dX5_isUnder_23 rfl (by decide) ?_
    refine a_topi (nI 0) (by decide) ?_
    refine a_istoren_2 (pc := 24) dX5_isUnder_24 (by decide) (by first | rfl | trivial) ?_
    refine a_iinc_3 (pc := 25) (v := nI (2)) dX5_isUnder_25 (nI_add _ _) (by decide) (by first | rfl | trivial) ?_
    refine a_goto (pc := 28) (tgt := 4) dX5_isUnder_28 (by decide) ?_
    refine a_iloadn_3 (pc := 4) dX5_isUnder_4 ?_
    refine a_bipush (pc := 5) (v := nI 8) dX5_isUnder_5 (by decide) ?_
    refine n_icmp_ge (tgt := 31) dX5_isUnder_7 (by decide) (by decide) (by decide) (fun c_7 => by omega) (fun c_7 => ?_)
    refine a_iloadn_2 (pc := 10) dX5_isUnder_10 ?_
    refine n_if_lt (tgt := 31) dX5_isUnder_11 (by decide) (by decide) ?_
    refine a_iloadn_2 (pc := 14) dX5_isUnder_14 ?_
    refine a_iloadn_1 (pc := 15) dX5_isUnder_15 ?_
    refine n_icmp_eq (tgt := 31) dX5_isUnder_16 (by decide) (by decide) (by decide) (fun c_16 => by omega) (fun c_16 => ?_)
    refine a_gets (pc := 19) (i := 3) (by decide) dX5_isUnder_19 rfl w_897 ?_
    refine a_iloadn_2 (pc := 22) dX5_isUnder_22 ?_
    refine a_sil (pc := 23) 0 (t := 3) (by decide) dX5_isUnder_23 rfl (by decide) ?_
    refine a_topi ((-1)) (by decide) ?_
    refine a_istoren_2 (pc := 24) dX5_isUnder_24 (by decide) (by first | rfl | trivial) ?_
    refine a_iinc_3 (pc := 25) (v := nI (3)) dX5_isUnder_25 (nI_add _ _) (by decide) (by first | rfl | trivial) ?_
    refine a_goto (pc := 28) (tgt := 4) dX5_isUnder_28 (by decide) ?_
    refine a_iloadn_3 (pc := 4) dX5_isUnder_4 ?_
    refine a_bipush (pc := 5) (v := nI 8) dX5_isUnder_5 (by decide) ?_
    refine n_icmp_ge (tgt := 31) dX5_isUnder_7 (by decide) (by decide) (by decide) (fun c_7 => by omega) (fun c_7 => ?_)
    refine a_iloadn_2 (pc := 10) dX5_isUnder_10 ?_
    refine a_if_lt (pc := 11) (tgt := 31) dX5_isUnder_11 (by decide) (fun c_11 => ?_) (fun c_11 => absurd c_11 (by decide))
    refine a_iloadn_2 (pc := 31) dX5_isUnder_31 ?_
    refine a_iloadn_1 (pc := 32) dX5_isUnder_32 ?_
    refine a_icmp_ne (pc := 33) (tgt := 40) dX5_isUnder_33 (by decide) (fun c_33 => ?_) (fun c_33 => absurd c_33 (by decide))
    refine a_iconst (pc := 40) (v := nI 0) dX5_isUnder_40 (by decide) ?_
    exact a_zret (pc := 41) dX5_isUnder_41 rfl (by first | rfl | exact bI_nar _ | decide) (zf hz) (by rw [show decide (5 ∈ chn 3) = false by decide] at k; exact k)
  · refine AM.of [some (.int (nI (3))), some (.int (nI 6)), none, none] pnX5 (Nat.le_of_ble_eq_true rfl) (by simp [lsub, lvI, Value.category]) ?_
    refine a_iloadn_0 (pc := 0) dX5_isUnder_0 ?_
    refine a_istoren_2 (pc := 1) dX5_isUnder_1 (by decide) (by first | rfl | trivial) ?_
    refine a_iconst (pc := 2) (v := nI 0) dX5_isUnder_2 (by decide) ?_
    refine a_istoren_3 (pc := 3) dX5_isUnder_3 (by decide) (by first | rfl | trivial) ?_
    refine a_iloadn_3 (pc := 4) dX5_isUnder_4 ?_
    refine a_bipush (pc := 5) (v := nI 8) dX5_isUnder_5 (by decide) ?_
    refine n_icmp_ge (tgt := 31) dX5_isUnder_7 (by decide) (by decide) (by decide) (fun c_7 => by omega) (fun c_7 => ?_)
    refine a_iloadn_2 (pc := 10) dX5_isUnder_10 ?_
    refine n_if_lt (tgt := 31) dX5_isUnder_11 (by decide) (by decide) ?_
    refine a_iloadn_2 (pc := 14) dX5_isUnder_14 ?_
    refine a_iloadn_1 (pc := 15) dX5_isUnder_15 ?_
    refine n_icmp_eq (tgt := 31) dX5_isUnder_16 (by decide) (by decide) (by decide) (fun c_16 => by omega) (fun c_16 => ?_)
    refine a_gets (pc := 19) (i := 3) (by decide) dX5_isUnder_19 rfl w_897 ?_
    refine a_iloadn_2 (pc := 22) dX5_isUnder_22 ?_
    refine a_sil (pc := 23) 3 (t := 3) (by decide) dX5_isUnder_23 rfl (by decide) ?_
    refine a_topi (nI 2) (by decide) ?_
    refine a_istoren_2 (pc := 24) dX5_isUnder_24 (by decide) (by first | rfl | trivial) ?_
    refine a_iinc_3 (pc := 25) (v := nI (1)) dX5_isUnder_25 (nI_add _ _) (by decide) (by first | rfl | trivial) ?_
    refine a_goto (pc := 28) (tgt := 4) dX5_isUnder_28 (by decide) ?_
    refine a_iloadn_3 (pc := 4) dX5_isUnder_4 ?_
    refine a_bipush (pc := 5) (v := nI 8) dX5_isUnder_5 (by decide) ?_
    refine n_icmp_ge (tgt := 31) dX5_isUnder_7 (by decide) (by decide) (by decide) (fun c_7 => by omega) (fun c_7 => ?_)
    refine a_iloadn_2 (pc := 10) dX5_isUnder_10 ?_
    refine n_if_lt (tgt := 31) dX5_isUnder_11 (by decide) (by decide) ?_
    refine a_iloadn_2 (pc := 14) dX5_isUnder_14 ?_
    refine a_iloadn_1 (pc := 15) dX5_isUnder_15 ?_
    refine n_icmp_eq (tgt := 31) dX5_isUnder_16 (by decide) (by decide) (by decide) (fun c_16 => by omega) (fun c_16 => ?_)
    refine a_gets (pc := 19) (i := 3) (by decide) dX5_isUnder_19 rfl w_897 ?_
    refine a_iloadn_2 (pc := 22) dX5_isUnder_22 ?_
    refine a_sil (pc := 23) 2 (t := 3) (by decide) dX5_isUnder_23 rfl (by decide) ?_
    refine a_topi (nI 0) (by decide) ?_
    refine a_istoren_2 (pc := 24) dX5_isUnder_24 (by decide) (by first | rfl | trivial) ?_
    refine a_iinc_3 (pc := 25) (v := nI (2)) dX5_isUnder_25 (nI_add _ _) (by decide) (by first | rfl | trivial) ?_
    refine a_goto (pc := 28) (tgt := 4) dX5_isUnder_28 (by decide) ?_
    refine a_iloadn_3 (pc := 4) dX5_isUnder_4 ?_
    refine a_bipush (pc := 5) (v := nI 8) dX5_isUnder_5 (by decide) ?_
    refine n_icmp_ge (tgt := 31) dX5_isUnder_7 (by decide) (by decide) (by decide) (fun c_7 => by omega) (fun c_7 => ?_)
    refine a_iloadn_2 (pc := 10) dX5_isUnder_10 ?_
    refine n_if_lt (tgt := 31) dX5_isUnder_11 (by decide) (by decide) ?_
    refine a_iloadn_2 (pc := 14) dX5_isUnder_14 ?_
    refine a_iloadn_1 (pc := 15) dX5_isUnder_15 ?_
    refine n_icmp_eq (tgt := 31) dX5_isUnder_16 (by decide) (by decide) (by decide) (fun c_16 => by omega) (fun c_16 => ?_)
    refine a_gets (pc := 19) (i := 3) (by decide) dX5_isUnder_19 rfl w_897 ?_
    refine a_iloadn_2 (pc := 22) dX5_isUnder_22 ?_
    refine a_sil (pc := 23) 0 (t := 3) (by decide) dX5_isUnder_23 rfl (by decide) ?_
    refine a_topi ((-1)) (by decide) ?_
    refine a_istoren_2 (pc := 24) dX5_isUnder_24 (by decide) (by first | rfl | trivial) ?_
    refine a_iinc_3 (pc := 25) (v := nI (3)) dX5_isUnder_25 (nI_add _ _) (by decide) (by first | rfl | trivial) ?_
    refine a_goto (pc := 28) (tgt := 4) dX5_isUnder_28 (by decide) ?_
    refine a_iloadn_3 (pc := 4) dX5_isUnder_4 ?_
    refine a_bipush (pc := 5) (v := nI 8) dX5_isUnder_5 (by decide) ?_
    refine n_icmp_ge (tgt := 31) dX5_isUnder_7 (by decide) (by decide) (by decide) (fun c_7 => by omega) (fun c_7 => ?_)
    refine a_iloadn_2 (pc := 10) dX5_isUnder_10 ?_
    refine a_if_lt (pc := 11) (tgt := 31) dX5_isUnder_11 (by decide) (fun c_11 => ?_) (fun c_11 => absurd c_11 (by decide))
    refine a_iloadn_2 (pc := 31) dX5_isUnder_31 ?_
    refine a_iloadn_1 (pc := 32) dX5_isUnder_32 ?_
    refine a_icmp_ne (pc := 33) (tgt := 40) dX5_isUnder_33 (by decide) (fun c_33 => ?_) (fun c_33 => absurd c_33 (by decide))
    refine a_iconst (pc := 40) (v := nI 0) dX5_isUnder_40 (by decide) ?_
    exact a_zret (pc := 41) dX5_isUnder_41 rfl (by first | rfl | exact bI_nar _ | decide) (zf hz) (by rw [show decide (6 ∈ chn 3) = false by decide] at k; exact k)
  · refine AM.of [some (.int (nI (3))), some (.int (nI 7)), none, none] pnX5 (Nat.le_of_ble_eq_true rfl) (by simp [lsub, lvI, Value.category]) ?_
    refine a_iloadn_0 (pc := 0) dX5_isUnder_0 ?_
    refine a_istoren_2 (pc := 1) dX5_isUnder_1 (by decide) (by first | rfl | trivial) ?_
    refine a_iconst (pc := 2) (v := nI 0) dX5_isUnder_2 (by decide) ?_
    refine a_istoren_3 (pc := 3) dX5_isUnder_3 (by decide) (by first | rfl | trivial) ?_
    refine a_iloadn_3 (pc := 4) dX5_isUnder_4 ?_
    refine a_bipush (pc := 5) (v := nI 8) dX5_isUnder_5 (by decide) ?_
    refine n_icmp_ge (tgt := 31) dX5_isUnder_7 (by decide) (by decide) (by decide) (fun c_7 => by omega) (fun c_7 => ?_)
    refine a_iloadn_2 (pc := 10) dX5_isUnder_10 ?_
    refine n_if_lt (tgt := 31) dX5_isUnder_11 (by decide) (by decide) ?_
    refine a_iloadn_2 (pc := 14) dX5_isUnder_14 ?_
    refine a_iloadn_1 (pc := 15) dX5_isUnder_15 ?_
    refine n_icmp_eq (tgt := 31) dX5_isUnder_16 (by decide) (by decide) (by decide) (fun c_16 => by omega) (fun c_16 => ?_)
    refine a_gets (pc := 19) (i := 3) (by decide) dX5_isUnder_19 rfl w_897 ?_
    refine a_iloadn_2 (pc := 22) dX5_isUnder_22 ?_
    refine a_sil (pc := 23) 3 (t := 3) (by decide) dX5_isUnder_23 rfl (by decide) ?_
    refine a_topi (nI 2) (by decide) ?_
    refine a_istoren_2 (pc := 24) dX5_isUnder_24 (by decide) (by first | rfl | trivial) ?_
    refine a_iinc_3 (pc := 25) (v := nI (1)) dX5_isUnder_25 (nI_add _ _) (by decide) (by first | rfl | trivial) ?_
    refine a_goto (pc := 28) (tgt := 4) dX5_isUnder_28 (by decide) ?_
    refine a_iloadn_3 (pc := 4) dX5_isUnder_4 ?_
    refine a_bipush (pc := 5) (v := nI 8) dX5_isUnder_5 (by decide) ?_
    refine n_icmp_ge (tgt := 31) dX5_isUnder_7 (by decide) (by decide) (by decide) (fun c_7 => by omega) (fun c_7 => ?_)
    refine a_iloadn_2 (pc := 10) dX5_isUnder_10 ?_
    refine n_if_lt (tgt := 31) dX5_isUnder_11 (by decide) (by decide) ?_
    refine a_iloadn_2 (pc := 14) dX5_isUnder_14 ?_
    refine a_iloadn_1 (pc := 15) dX5_isUnder_15 ?_
    refine n_icmp_eq (tgt := 31) dX5_isUnder_16 (by decide) (by decide) (by decide) (fun c_16 => by omega) (fun c_16 => ?_)
    refine a_gets (pc := 19) (i := 3) (by decide) dX5_isUnder_19 rfl w_897 ?_
    refine a_iloadn_2 (pc := 22) dX5_isUnder_22 ?_
    refine a_sil (pc := 23) 2 (t := 3) (by decide) dX5_isUnder_23 rfl (by decide) ?_
    refine a_topi (nI 0) (by decide) ?_
    refine a_istoren_2 (pc := 24) dX5_isUnder_24 (by decide) (by first | rfl | trivial) ?_
    refine a_iinc_3 (pc := 25) (v := nI (2)) dX5_isUnder_25 (nI_add _ _) (by decide) (by first | rfl | trivial) ?_
    refine a_goto (pc := 28) (tgt := 4) dX5_isUnder_28 (by decide) ?_
    refine a_iloadn_3 (pc := 4) dX5_isUnder_4 ?_
    refine a_bipush (pc := 5) (v := nI 8) dX5_isUnder_5 (by decide) ?_
    refine n_icmp_ge (tgt := 31) dX5_isUnder_7 (by decide) (by decide) (by decide) (fun c_7 => by omega) (fun c_7 => ?_)
    refine a_iloadn_2 (pc := 10) dX5_isUnder_10 ?_
    refine n_if_lt (tgt := 31) dX5_isUnder_11 (by decide) (by decide) ?_
    refine a_iloadn_2 (pc := 14) dX5_isUnder_14 ?_
    refine a_iloadn_1 (pc := 15) dX5_isUnder_15 ?_
    refine n_icmp_eq (tgt := 31) dX5_isUnder_16 (by decide) (by decide) (by decide) (fun c_16 => by omega) (fun c_16 => ?_)
    refine a_gets (pc := 19) (i := 3) (by decide) dX5_isUnder_19 rfl w_897 ?_
    refine a_iloadn_2 (pc := 22) dX5_isUnder_22 ?_
    refine a_sil (pc := 23) 0 (t := 3) (by decide) dX5_isUnder_23 rfl (by decide) ?_
    refine a_topi ((-1)) (by decide) ?_
    refine a_istoren_2 (pc := 24) dX5_isUnder_24 (by decide) (by first | rfl | trivial) ?_
    refine a_iinc_3 (pc := 25) (v := nI (3)) dX5_isUnder_25 (nI_add _ _) (by decide) (by first | rfl | trivial) ?_
    refine a_goto (pc := 28) (tgt := 4) dX5_isUnder_28 (by decide) ?_
    refine a_iloadn_3 (pc := 4) dX5_isUnder_4 ?_
    refine a_bipush (pc := 5) (v := nI 8) dX5_isUnder_5 (by decide) ?_
    refine n_icmp_ge (tgt := 31) dX5_isUnder_7 (by decide) (by decide) (by decide) (fun c_7 => by omega) (fun c_7 => ?_)
    refine a_iloadn_2 (pc := 10) dX5_isUnder_10 ?_
    refine a_if_lt (pc := 11) (tgt := 31) dX5_isUnder_11 (by decide) (fun c_11 => ?_) (fun c_11 => absurd c_11 (by decide))
    refine a_iloadn_2 (pc := 31) dX5_isUnder_31 ?_
    refine a_iloadn_1 (pc := 32) dX5_isUnder_32 ?_
    refine a_icmp_ne (pc := 33) (tgt := 40) dX5_isUnder_33 (by decide) (fun c_33 => ?_) (fun c_33 => absurd c_33 (by decide))
    refine a_iconst (pc := 40) (v := nI 0) dX5_isUnder_40 (by decide) ?_
    exact a_zret (pc := 41) dX5_isUnder_41 rfl (by first | rfl | exact bI_nar _ | decide) (zf hz) (by rw [show decide (7 ∈ chn 3) = false by decide] at k; exact k)

set_option maxRecDepth 100000 in
set_option maxHeartbeats 4000000 in
theorem k_isUnder_4 {G : Cx} {d t : Nat} {h : List va_E} {Q : Option Value → List va_E → Prop} (hd : 1 ≤ d) (hz : gz G = false) (ht : t < 8) (k : Q (some (.int (bI (decide (t ∈ chn 4))))) h) : AM G yX5_isUnder cX5_isUnder 4 (some .boolean) d 0 0 [.int (nI (4)), .int (nI t)] h Q := by
  obtain ⟨d, rfl, he⟩ := dpos hd
  rcases k8 ht with rfl | rfl | rfl | rfl | rfl | rfl | rfl | rfl
  · refine AM.of [some (.int (nI (4))), some (.int (nI 0)), none, none] pnX5 (Nat.le_of_ble_eq_true rfl) (by simp [lsub, lvI, Value.category]) ?_
    refine a_iloadn_0 (pc := 0) dX5_isUnder_0 ?_
    refine a_istoren_2 (pc := 1) dX5_isUnder_1 (by decide) (by first | rfl | trivial) ?_
    refine a_iconst (pc := 2) (v := nI 0) dX5_isUnder_2 (by decide) ?_
    refine a_istoren_3 (pc := 3) dX5_isUnder_3 (by decide) (by first | rfl | trivial) ?_
    refine a_iloadn_3 (pc := 4) dX5_isUnder_4 ?_
    refine a_bipush (pc := 5) (v := nI 8) dX5_isUnder_5 (by decide) ?_
    refine n_icmp_ge (tgt := 31) dX5_isUnder_7 (by decide) (by decide) (by decide) (fun c_7 => by omega) (fun c_7 => ?_)
    refine a_iloadn_2 (pc := 10) dX5_isUnder_10 ?_
    refine n_if_lt (tgt := 31) dX5_isUnder_11 (by decide) (by decide) ?_
    refine a_iloadn_2 (pc := 14) dX5_isUnder_14 ?_
    refine a_iloadn_1 (pc := 15) dX5_isUnder_15 ?_
    refine n_icmp_eq (tgt := 31) dX5_isUnder_16 (by decide) (by decide) (by decide) (fun c_16 => by omega) (fun c_16 => ?_)
    refine a_gets (pc := 19) (i := 3) (by decide) dX5_isUnder_19 rfl w_897 ?_
    refine a_iloadn_2 (pc := 22) dX5_isUnder_22 ?_
    refine a_sil (pc := 23) 4 (t := 3) (by decide) dX5_isUnder_23 rfl (by decide) ?_
    refine a_topi (nI 1) (by decide) ?_
    refine a_istoren_2 (pc := 24) dX5_isUnder_24 (by decide) (by first | rfl | trivial) ?_
    refine a_iinc_3 (pc := 25) (v := nI (1)) dX5_isUnder_25 (nI_add _ _) (by decide) (by first | rfl | trivial) ?_
    refine a_goto (pc := 28) (tgt := 4) dX5_isUnder_28 (by decide) ?_
    refine a_iloadn_3 (pc := 4) dX5_isUnder_4 ?_
    refine a_bipush (pc := 5) (v := nI 8) dX5_isUnder_5 (by decide) ?_
    refine n_icmp_ge (tgt := 31) dX5_isUnder_7 (by decide) (by decide) (by decide) (fun c_7 => by omega) (fun c_7 => ?_)
    refine a_iloadn_2 (pc := 10) dX5_isUnder_10 ?_
    refine n_if_lt (tgt := 31) dX5_isUnder_11 (by decide) (by decide) ?_
    refine a_iloadn_2 (pc := 14) dX5_isUnder_14 ?_
    refine a_iloadn_1 (pc := 15) dX5_isUnder_15 ?_
    refine n_icmp_eq (tgt := 31) dX5_isUnder_16 (by decide) (by decide) (by decide) (fun c_16 => by omega) (fun c_16 => ?_)
    refine a_gets (pc := 19) (i := 3) (by decide) dX5_isUnder_19 rfl w_897 ?_
    refine a_iloadn_2 (pc := 22) dX5_isUnder_22 ?_
    refine a_sil (pc := 23) 1 (t := 3) (by decide) dX5_isUnder_23 rfl (by decide) ?_
    refine a_topi (nI 0) (by decide) ?_
    refine a_istoren_2 (pc := 24) dX5_isUnder_24 (by decide) (by first | rfl | trivial) ?_
    refine a_iinc_3 (pc := 25) (v := nI (2)) dX5_isUnder_25 (nI_add _ _) (by decide) (by first | rfl | trivial) ?_
    refine a_goto (pc := 28) (tgt := 4) dX5_isUnder_28 (by decide) ?_
    refine a_iloadn_3 (pc := 4) dX5_isUnder_4 ?_
    refine a_bipush (pc := 5) (v := nI 8) dX5_isUnder_5 (by decide) ?_
    refine n_icmp_ge (tgt := 31) dX5_isUnder_7 (by decide) (by decide) (by decide) (fun c_7 => by omega) (fun c_7 => ?_)
    refine a_iloadn_2 (pc := 10) dX5_isUnder_10 ?_
    refine n_if_lt (tgt := 31) dX5_isUnder_11 (by decide) (by decide) ?_
    refine a_iloadn_2 (pc := 14) dX5_isUnder_14 ?_
    refine a_iloadn_1 (pc := 15) dX5_isUnder_15 ?_
    refine n_icmp_eq (tgt := 31) dX5_isUnder_16 (by decide) (by decide) (by decide) (fun c_16 => ?_) (fun c_16 => by omega)
    refine a_iloadn_2 (pc := 31) dX5_isUnder_31 ?_
    refine a_iloadn_1 (pc := 32) dX5_isUnder_32 ?_
    refine n_icmp_ne (tgt := 40) dX5_isUnder_33 (by decide) (by decide) (by decide) (fun c_33 => by omega) (fun c_33 => ?_)
    refine a_iconst (pc := 36) (v := nI 1) dX5_isUnder_36 (by decide) ?_
    refine a_goto (pc := 37) (tgt := 41) dX5_isUnder_37 (by decide) ?_
    exact a_zret (pc := 41) dX5_isUnder_41 rfl (by first | rfl | exact bI_nar _ | decide) (zf hz) (by rw [show decide (0 ∈ chn 4) = true by decide] at k; exact k)
  · refine AM.of [some (.int (nI (4))), some (.int (nI 1)), none, none] pnX5 (Nat.le_of_ble_eq_true rfl) (by simp [lsub, lvI, Value.category]) ?_
    refine a_iloadn_0 (pc := 0) dX5_isUnder_0 ?_
    refine a_istoren_2 (pc := 1) dX5_isUnder_1 (by decide) (by first | rfl | trivial) ?_
    refine a_iconst (pc := 2) (v := nI 0) dX5_isUnder_2 (by decide) ?_
    refine a_istoren_3 (pc := 3) dX5_isUnder_3 (by decide) (by first | rfl | trivial) ?_
    refine a_iloadn_3 (pc := 4) dX5_isUnder_4 ?_
    refine a_bipush (pc := 5) (v := nI 8) dX5_isUnder_5 (by decide) ?_
    refine n_icmp_ge (tgt := 31) dX5_isUnder_7 (by decide) (by decide) (by decide) (fun c_7 => by omega) (fun c_7 => ?_)
    refine a_iloadn_2 (pc := 10) dX5_isUnder_10 ?_
    refine n_if_lt (tgt := 31) dX5_isUnder_11 (by decide) (by decide) ?_
    refine a_iloadn_2 (pc := 14) dX5_isUnder_14 ?_
    refine a_iloadn_1 (pc := 15) dX5_isUnder_15 ?_
    refine n_icmp_eq (tgt := 31) dX5_isUnder_16 (by decide) (by decide) (by decide) (fun c_16 => by omega) (fun c_16 => ?_)
    refine a_gets (pc := 19) (i := 3) (by decide) dX5_isUnder_19 rfl w_897 ?_
    refine a_iloadn_2 (pc := 22) dX5_isUnder_22 ?_
    refine a_sil (pc := 23) 4 (t := 3) (by decide) dX5_isUnder_23 rfl (by decide) ?_
    refine a_topi (nI 1) (by decide) ?_
    refine a_istoren_2 (pc := 24) dX5_isUnder_24 (by decide) (by first | rfl | trivial) ?_
    refine a_iinc_3 (pc := 25) (v := nI (1)) dX5_isUnder_25 (nI_add _ _) (by decide) (by first | rfl | trivial) ?_
    refine a_goto (pc := 28) (tgt := 4) dX5_isUnder_28 (by decide) ?_
    refine a_iloadn_3 (pc := 4) dX5_isUnder_4 ?_
    refine a_bipush (pc := 5) (v := nI 8) dX5_isUnder_5 (by decide) ?_
    refine n_icmp_ge (tgt := 31) dX5_isUnder_7 (by decide) (by decide) (by decide) (fun c_7 => by omega) (fun c_7 => ?_)
    refine a_iloadn_2 (pc := 10) dX5_isUnder_10 ?_
    refine n_if_lt (tgt := 31) dX5_isUnder_11 (by decide) (by decide) ?_
    refine a_iloadn_2 (pc := 14) dX5_isUnder_14 ?_
    refine a_iloadn_1 (pc := 15) dX5_isUnder_15 ?_
    refine n_icmp_eq (tgt := 31) dX5_isUnder_16 (by decide) (by decide) (by decide) (fun c_16 => ?_) (fun c_16 => by omega)
    refine a_iloadn_2 (pc := 31) dX5_isUnder_31 ?_
    refine a_iloadn_1 (pc := 32) dX5_isUnder_32 ?_
    refine n_icmp_ne (tgt := 40) dX5_isUnder_33 (by decide) (by decide) (by decide) (fun c_33 => by omega) (fun c_33 => ?_)
    refine a_iconst (pc := 36) (v := nI 1) dX5_isUnder_36 (by decide) ?_
    refine a_goto (pc := 37) (tgt := 41) dX5_isUnder_37 (by decide) ?_
    exact a_zret (pc := 41) dX5_isUnder_41 rfl (by first | rfl | exact bI_nar _ | decide) (zf hz) (by rw [show decide (1 ∈ chn 4) = true by decide] at k; exact k)
  · refine AM.of [some (.int (nI (4))), some (.int (nI 2)), none, none] pnX5 (Nat.le_of_ble_eq_true rfl) (by simp [lsub, lvI, Value.category]) ?_
    refine a_iloadn_0 (pc := 0) dX5_isUnder_0 ?_
    refine a_istoren_2 (pc := 1) dX5_isUnder_1 (by decide) (by first | rfl | trivial) ?_
    refine a_iconst (pc := 2) (v := nI 0) dX5_isUnder_2 (by decide) ?_
    refine a_istoren_3 (pc := 3) dX5_isUnder_3 (by decide) (by first | rfl | trivial) ?_
    refine a_iloadn_3 (pc := 4) dX5_isUnder_4 ?_
    refine a_bipush (pc := 5) (v := nI 8) dX5_isUnder_5 (by decide) ?_
    refine n_icmp_ge (tgt := 31) dX5_isUnder_7 (by decide) (by decide) (by decide) (fun c_7 => by omega) (fun c_7 => ?_)
    refine a_iloadn_2 (pc := 10) dX5_isUnder_10 ?_
    refine n_if_lt (tgt := 31) dX5_isUnder_11 (by decide) (by decide) ?_
    refine a_iloadn_2 (pc := 14) dX5_isUnder_14 ?_
    refine a_iloadn_1 (pc := 15) dX5_isUnder_15 ?_
    refine n_icmp_eq (tgt := 31) dX5_isUnder_16 (by decide) (by decide) (by decide) (fun c_16 => by omega) (fun c_16 => ?_)
    refine a_gets (pc := 19) (i := 3) (by decide) dX5_isUnder_19 rfl w_897 ?_
    refine a_iloadn_2 (pc := 22) dX5_isUnder_22 ?_
    refine a_sil (pc := 23) 4 (t := 3) (by decide) dX5_isUnder_23 rfl (by decide) ?_
    refine a_topi (nI 1) (by decide) ?_
    refine a_istoren_2 (pc := 24) dX5_isUnder_24 (by decide) (by first | rfl | trivial) ?_
    refine a_iinc_3 (pc := 25) (v := nI (1)) dX5_isUnder_25 (nI_add _ _) (by decide) (by first | rfl | trivial) ?_
    refine a_goto (pc := 28) (tgt := 4) dX5_isUnder_28 (by decide) ?_
    refine a_iloadn_3 (pc := 4) dX5_isUnder_4 ?_
    refine a_bipush (pc := 5) (v := nI 8) dX5_isUnder_5 (by decide) ?_
    refine n_icmp_ge (tgt := 31) dX5_isUnder_7 (by decide) (by decide) (by decide) (fun c_7 => by omega) (fun c_7 => ?_)
    refine a_iloadn_2 (pc := 10) dX5_isUnder_10 ?_
    refine n_if_lt (tgt := 31) dX5_isUnder_11 (by decide) (by decide) ?_
    refine a_iloadn_2 (pc := 14) dX5_isUnder_14 ?_
    refine a_iloadn_1 (pc := 15) dX5_isUnder_15 ?_
    refine n_icmp_eq (tgt := 31) dX5_isUnder_16 (by decide) (by decide) (by decide) (fun c_16 => by omega) (fun c_16 => ?_)
    refine a_gets (pc := 19) (i := 3) (by decide) dX5_isUnder_19 rfl w_897 ?_
    refine a_iloadn_2 (pc := 22) dX5_isUnder_22 ?_
    refine a_sil (pc := 23) 1 (t := 3) (by decide) dX5_isUnder_23 rfl (by decide) ?_
    refine a_topi (nI 0) (by decide) ?_
    refine a_istoren_2 (pc := 24) dX5_isUnder_24 (by decide) (by first | rfl | trivial) ?_
    refine a_iinc_3 (pc := 25) (v := nI (2)) dX5_isUnder_25 (nI_add _ _) (by decide) (by first | rfl | trivial) ?_
    refine a_goto (pc := 28) (tgt := 4) dX5_isUnder_28 (by decide) ?_
    refine a_iloadn_3 (pc := 4) dX5_isUnder_4 ?_
    refine a_bipush (pc := 5) (v := nI 8) dX5_isUnder_5 (by decide) ?_
    refine n_icmp_ge (tgt := 31) dX5_isUnder_7 (by decide) (by decide) (by decide) (fun c_7 => by omega) (fun c_7 => ?_)
    refine a_iloadn_2 (pc := 10) dX5_isUnder_10 ?_
    refine n_if_lt (tgt := 31) dX5_isUnder_11 (by decide) (by decide) ?_
    refine a_iloadn_2 (pc := 14) dX5_isUnder_14 ?_
    refine a_iloadn_1 (pc := 15) dX5_isUnder_15 ?_
    refine n_icmp_eq (tgt := 31) dX5_isUnder_16 (by decide) (by decide) (by decide) (fun c_16 => by omega) (fun c_16 => ?_)
    refine a_gets (pc := 19) (i := 3) (by decide) dX5_isUnder_19 rfl w_897 ?_
    refine a_iloadn_2 (pc := 22) dX5_isUnder_22 ?_
    refine a_sil (pc := 23) 0 (t := 3) (by decide) dX5_isUnder_23 rfl (by decide) ?_
    refine a_topi ((-1)) (by decide) ?_
    refine a_istoren_2 (pc := 24) dX5_isUnder_24 (by decide) (by first | rfl | trivial) ?_
    refine a_iinc_3 (pc := 25) (v := nI (3)) dX5_isUnder_25 (nI_add _ _) (by decide) (by first | rfl | trivial) ?_
    refine a_goto (pc := 28) (tgt := 4) dX5_isUnder_28 (by decide) ?_
    refine a_iloadn_3 (pc := 4) dX5_isUnder_4 ?_
    refine a_bipush (pc := 5) (v := nI 8) dX5_isUnder_5 (by decide) ?_
    refine n_icmp_ge (tgt := 31) dX5_isUnder_7 (by decide) (by decide) (by decide) (fun c_7 => by omega) (fun c_7 => ?_)
    refine a_iloadn_2 (pc := 10) dX5_isUnder_10 ?_
    refine a_if_lt (pc := 11) (tgt := 31) dX5_isUnder_11 (by decide) (fun c_11 => ?_) (fun c_11 => absurd c_11 (by decide))
    refine a_iloadn_2 (pc := 31) dX5_isUnder_31 ?_
    refine a_iloadn_1 (pc := 32) dX5_isUnder_32 ?_
    refine a_icmp_ne (pc := 33) (tgt := 40) dX5_isUnder_33 (by decide) (fun c_33 => ?_) (fun c_33 => absurd c_33 (by decide))
    refine a_iconst (pc := 40) (v := nI 0) dX5_isUnder_40 (by decide) ?_
    exact a_zret (pc := 41) dX5_isUnder_41 rfl (by first | rfl | exact bI_nar _ | decide) (zf hz) (by rw [show decide (2 ∈ chn 4) = false by decide] at k; exact k)
  · refine AM.of [some (.int (nI (4))), some (.int (nI 3)), none, none] pnX5 (Nat.le_of_ble_eq_true rfl) (by simp [lsub, lvI, Value.category]) ?_
    refine a_iloadn_0 (pc := 0) dX5_isUnder_0 ?_
    refine a_istoren_2 (pc := 1) dX5_isUnder_1 (by decide) (by first | rfl | trivial) ?_
    refine a_iconst (pc := 2) (v := nI 0) dX5_isUnder_2 (by decide) ?_
    refine a_istoren_3 (pc := 3) dX5_isUnder_3 (by decide) (by first | rfl | trivial) ?_
    refine a_iloadn_3 (pc := 4) dX5_isUnder_4 ?_
    refine a_bipush (pc := 5) (v := nI 8) dX5_isUnder_5 (by decide) ?_
    refine n_icmp_ge (tgt := 31) dX5_isUnder_7 (by decide) (by decide) (by decide) (fun c_7 => by omega) (fun c_7 => ?_)
    refine a_iloadn_2 (pc := 10) dX5_isUnder_10 ?_
    refine n_if_lt (tgt := 31) dX5_isUnder_11 (by decide) (by decide) ?_
    refine a_iloadn_2 (pc := 14) dX5_isUnder_14 ?_
    refine a_iloadn_1 (pc := 15) dX5_isUnder_15 ?_
    refine n_icmp_eq (tgt := 31) dX5_isUnder_16 (by decide) (by decide) (by decide) (fun c_16 => by omega) (fun c_16 => ?_)
    refine a_gets (pc := 19) (i := 3) (by decide) dX5_isUnder_19 rfl w_897 ?_
    refine a_iloadn_2 (pc := 22) dX5_isUnder_22 ?_
    refine a_sil (pc := 23) 4 (t := 3) (by decide) dX5_isUnder_23 rfl (by decide) ?_
    refine a_topi (nI 1) (by decide) ?_
    refine a_istoren_2 (pc := 24) dX5_isUnder_24 (by decide) (by first | rfl | trivial) ?_
    refine a_iinc_3 (pc := 25) (v := nI (1)) dX5_isUnder_25 (nI_add _ _) (by decide) (by first | rfl | trivial) ?_
    refine a_goto (pc := 28) (tgt := 4) dX5_isUnder_28 (by decide) ?_
    refine a_iloadn_3 (pc := 4) dX5_isUnder_4 ?_
    refine a_bipush (pc := 5) (v := nI 8) dX5_isUnder_5 (by decide) ?_
    refine n_icmp_ge (tgt := 31) dX5_isUnder_7 (by decide) (by decide) (by decide) (fun c_7 => by omega) (fun c_7 => ?_)
    refine a_iloadn_2 (pc := 10) dX5_isUnder_10 ?_
    refine n_if_lt (tgt := 31) dX5_isUnder_11 (by decide) (by decide) ?_
    refine a_iloadn_2 (pc := 14) dX5_isUnder_14 ?_
    refine a_iloadn_1 (pc := 15) dX5_isUnder_15 ?_
    refine n_icmp_eq (tgt := 31) dX5_isUnder_16 (by decide) (by decide) (by decide) (fun c_16 => by omega) (fun c_16 => ?_)
    refine a_gets (pc := 19) (i := 3) (by decide) dX5_isUnder_19 rfl w_897 ?_
    refine a_iloadn_2 (pc := 22) dX5_isUnder_22 ?_
    refine a_sil (pc := 23) 1 (t := 3) (by decide) dX5_isUnder_23 rfl (by decide) ?_
    refine a_topi (nI 0) (by decide) ?_
    refine a_istoren_2 (pc := 24) dX5_isUnder_24 (by decide) (by first | rfl | trivial) ?_
    refine a_iinc_3 (pc := 25) (v := nI (2)) dX5_isUnder_25 (nI_add _ _) (by decide) (by first | rfl | trivial) ?_
    refine a_goto (pc := 28) (tgt := 4) dX5_isUnder_28 (by decide) ?_
    refine a_iloadn_3 (pc := 4) dX5_isUnder_4 ?_
    refine a_bipush (pc := 5) (v := nI 8) dX5_isUnder_5 (by decide) ?_
    refine n_icmp_ge (tgt := 31) dX5_isUnder_7 (by decide) (by decide) (by decide) (fun c_7 => by omega) (fun c_7 => ?_)
    refine a_iloadn_2 (pc := 10) dX5_isUnder_10 ?_
    refine n_if_lt (tgt := 31) dX5_isUnder_11 (by decide) (by decide) ?_
    refine a_iloadn_2 (pc := 14) dX5_isUnder_14 ?_
    refine a_iloadn_1 (pc := 15) dX5_isUnder_15 ?_
    refine n_icmp_eq (tgt := 31) dX5_isUnder_16 (by decide) (by decide) (by decide) (fun c_16 => by omega) (fun c_16 => ?_)
    refine a_gets (pc := 19) (i := 3) (by decide) dX5_isUnder_19 rfl w_897 ?_
    refine a_iloadn_2 (pc := 22) dX5_isUnder_22 ?_
    refine a_sil (pc := 23) 0 (t := 3) (by decide) dX5_isUnder_23 rfl (by decide) ?_
    refine a_topi ((-1)) (by decide) ?_
    refine a_istoren_2 (pc := 24) dX5_isUnder_24 (by decide) (by first | rfl | trivial) ?_
    refine a_iinc_3 (pc := 25) (v := nI (3)) dX5_isUnder_25 (nI_add _ _) (by decide) (by first | rfl | trivial) ?_
    refine a_goto (pc := 28) (tgt := 4) dX5_isUnder_28 (by decide) ?_
    refine a_iloadn_3 (pc := 4) dX5_isUnder_4 ?_
    refine a_bipush (pc := 5) (v := nI 8) dX5_isUnder_5 (by decide) ?_
    refine n_icmp_ge (tgt := 31) dX5_isUnder_7 (by decide) (by decide) (by decide) (fun c_7 => by omega) (fun c_7 => ?_)
    refine a_iloadn_2 (pc := 10) dX5_isUnder_10 ?_
    refine a_if_lt (pc := 11) (tgt := 31) dX5_isUnder_11 (by decide) (fun c_11 => ?_) (fun c_11 => absurd c_11 (by decide))
    refine a_iloadn_2 (pc := 31) dX5_isUnder_31 ?_
    refine a_iloadn_1 (pc := 32) dX5_isUnder_32 ?_
    refine a_icmp_ne (pc := 33) (tgt := 40) dX5_isUnder_33 (by decide) (fun c_33 => ?_) (fun c_33 => absurd c_33 (by decide))
    refine a_iconst (pc := 40) (v := nI 0) dX5_isUnder_40 (by decide) ?_
    exact a_zret (pc := 41) dX5_isUnder_41 rfl (by first | rfl | exact bI_nar _ | decide) (zf hz) (by rw [show decide (3 ∈ chn 4) = false by decide] at k; exact k)
  · refine AM.of [some (.int (nI (4))), some (.int (nI 4)), none, none] pnX5 (Nat.le_of_ble_eq_true rfl) (by simp [lsub, lvI, Value.category]) ?_
    refine a_iloadn_0 (pc := 0) dX5_isUnder_0 ?_
    refine a_istoren_2 (pc := 1) dX5_isUnder_1 (by decide) (by first | rfl | trivial) ?_
    refine a_iconst (pc := 2) (v := nI 0) dX5_isUnder_2 (by decide) ?_
    refine a_istoren_3 (pc := 3) dX5_isUnder_3 (by decide) (by first | rfl | trivial) ?_
    refine a_iloadn_3 (pc := 4) dX5_isUnder_4 ?_
    refine a_bipush (pc := 5) (v := nI 8) dX5_isUnder_5 (by decide) ?_
    refine n_icmp_ge (tgt := 31) dX5_isUnder_7 (by decide) (by decide) (by decide) (fun c_7 => by omega) (fun c_7 => ?_)
    refine a_iloadn_2 (pc := 10) dX5_isUnder_10 ?_
    refine n_if_lt (tgt := 31) dX5_isUnder_11 (by decide) (by decide) ?_
    refine a_iloadn_2 (pc := 14) dX5_isUnder_14 ?_
    refine a_iloadn_1 (pc := 15) dX5_isUnder_15 ?_
    refine n_icmp_eq (tgt := 31) dX5_isUnder_16 (by decide) (by decide) (by decide) (fun c_16 => ?_) (fun c_16 => by omega)
    refine a_iloadn_2 (pc := 31) dX5_isUnder_31 ?_
    refine a_iloadn_1 (pc := 32) dX5_isUnder_32 ?_
    refine n_icmp_ne (tgt := 40) dX5_isUnder_33 (by decide) (by decide) (by decide) (fun c_33 => by omega) (fun c_33 => ?_)
    refine a_iconst (pc := 36) (v := nI 1) dX5_isUnder_36 (by decide) ?_
    refine a_goto (pc := 37) (tgt := 41) dX5_isUnder_37 (by decide) ?_
    exact a_zret (pc := 41) dX5_isUnder_41 rfl (by first | rfl | exact bI_nar _ | decide) (zf hz) (by rw [show decide (4 ∈ chn 4) = true by decide] at k; exact k)
  · refine AM.of [some (.int (nI (4))), some (.int (nI 5)), none, none] pnX5 (Nat.le_of_ble_eq_true rfl) (by simp [lsub, lvI, Value.category]) ?_
    refine a_iloadn_0 (pc := 0) dX5_isUnder_0 ?_
    refine a_istoren_2 (pc := 1) dX5_isUnder_1 (by decide) (by first | rfl | trivial) ?_
    refine a_iconst (pc := 2) (v := nI 0) dX5_isUnder_2 (by decide) ?_
    refine a_istoren_3 (pc := 3) dX5_isUnder_3 (by decide) (by first | rfl | trivial) ?_
    refine a_iloadn_3 (pc := 4) dX5_isUnder_4 ?_
    refine a_bipush (pc := 5) (v := nI 8) dX5_isUnder_5 (by decide) ?_
    refine n_icmp_ge (tgt := 31) dX5_isUnder_7 (by decide) (by decide) (by decide) (fun c_7 => by omega) (fun c_7 => ?_)
    refine a_iloadn_2 (pc := 10) dX5_isUnder_10 ?_
    refine n_if_lt (tgt := 31) dX5_isUnder_11 (by decide) (by decide) ?_
    refine a_iloadn_2 (pc := 14) dX5_isUnder_14 ?_
    refine a_iloadn_1 (pc := 15) dX5_isUnder_15 ?_
    refine n_icmp_eq (tgt := 31) dX5_isUnder_16 (by decide) (by decide) (by decide) (fun c_16 => by omega) (fun c_16 => ?_)
    refine a_gets (pc := 19) (i := 3) (by decide) dX5_isUnder_19 rfl w_897 ?_
    refine a_iloadn_2 (pc := 22) dX5_isUnder_22 ?_
    refine a_sil (pc := 23) 4 (t := 3) (by decide) dX5_isUnder_23 rfl (by decide) ?_
    refine a_topi (nI 1) (by decide) ?_
    refine a_istoren_2 (pc := 24) dX5_isUnder_24 (by decide) (by first | rfl | trivial) ?_
    refine a_iinc_3 (pc := 25) (v := nI (1)) dX5_isUnder_25 (nI_add _ _) (by decide) (by first | rfl | trivial) ?_
    refine a_goto (pc := 28) (tgt := 4) dX5_isUnder_28 (by decide) ?_
    refine a_iloadn_3 (pc := 4) dX5_isUnder_4 ?_
    refine a_bipush (pc := 5) (v := nI 8) dX5_isUnder_5 (by decide) ?_
    refine n_icmp_ge (tgt := 31) dX5_isUnder_7 (by decide) (by decide) (by decide) (fun c_7 => by omega) (fun c_7 => ?_)
    refine a_iloadn_2 (pc := 10) dX5_isUnder_10 ?_
    refine n_if_lt (tgt := 31) dX5_isUnder_11 (by decide) (by decide) ?_
    refine a_iloadn_2 (pc := 14) dX5_isUnder_14 ?_
    refine a_iloadn_1 (pc := 15) dX5_isUnder_15 ?_
    refine n_icmp_eq (tgt := 31) dX5_isUnder_16 (by decide) (by decide) (by decide) (fun c_16 => by omega) (fun c_16 => ?_)
    refine a_gets (pc := 19) (i := 3) (by decide) dX5_isUnder_19 rfl w_897 ?_
    refine a_iloadn_2 (pc := 22) dX5_isUnder_22 ?_
    refine a_sil (pc := 23) 1 (t := 3) (by decide) dX5_isUnder_23 rfl (by decide) ?_
    refine a_topi (nI 0) (by decide) ?_
    refine a_istoren_2 (pc := 24) dX5_isUnder_24 (by decide) (by first | rfl | trivial) ?_
    refine a_iinc_3 (pc := 25) (v := nI (2)) dX5_isUnder_25 (nI_add _ _) (by decide) (by first | rfl | trivial) ?_
    refine a_goto (pc := 28) (tgt := 4) dX5_isUnder_28 (by decide) ?_
    refine a_iloadn_3 (pc := 4) dX5_isUnder_4 ?_
    refine a_bipush (pc := 5) (v := nI 8) dX5_isUnder_5 (by decide) ?_
    refine n_icmp_ge (tgt := 31) dX5_isUnder_7 (by decide) (by decide) (by decide) (fun c_7 => by omega) (fun c_7 => ?_)
    refine a_iloadn_2 (pc := 10) dX5_isUnder_10 ?_
    refine n_if_lt (tgt := 31) dX5_isUnder_11 (by decide) (by decide) ?_
    refine a_iloadn_2 (pc := 14) dX5_isUnder_14 ?_
    refine a_iloadn_1 (pc := 15) dX5_isUnder_15 ?_
    refine n_icmp_eq (tgt := 31) dX5_isUnder_16 (by decide) (by decide) (by decide) (fun c_16 => by omega) (fun c_16 => ?_)
    refine a_gets (pc := 19) (i := 3) (by decide) dX5_isUnder_19 rfl w_897 ?_
    refine a_iloadn_2 (pc := 22) dX5_isUnder_22 ?_
    refine a_sil (pc := 23) 0 (t := 3) (by decide) dX5_isUnder_23 rfl (by decide) ?_
    refine a_topi ((-1)) (by decide) ?_
    refine a_istoren_2 (pc := 24) dX5_isUnder_24 (by decide) (by first | rfl | trivial) ?_
    refine a_iinc_3 (pc := 25) (v := nI (3)) dX5_isUnder_25 (nI_add _ _) (by decide) (by first | rfl | trivial) ?_
    refine a_goto (pc := 28) (tgt := 4) dX5_isUnder_28 (by decide) ?_
    refine a_iloadn_3 (pc := 4) dX5_isUnder_4 ?_
    refine a_bipush (pc := 5) (v := nI 8) dX5_isUnder_5 (by decide) ?_
    refine n_icmp_ge (tgt := 31) dX5_isUnder_7 (by decide) (by decide) (by decide) (fun c_7 => by omega) (fun c_7 => ?_)
    refine a_iloadn_2 (pc := 10) dX5_isUnder_10 ?_
    refine a_if_lt (pc := 11) (tgt := 31) dX5_isUnder_11 (by decide) (fun c_11 => ?_) (fun c_11 => absurd c_11 (by decide))
    refine a_iloadn_2 (pc := 31) dX5_isUnder_31 ?_
    refine a_iloadn_1 (pc := 32) dX5_isUnder_32 ?_
    refine a_icmp_ne (pc := 33) (tgt := 40) dX5_isUnder_33 (by decide) (fun c_33 => ?_) (fun c_33 => absurd c_33 (by decide))
    refine a_iconst (pc := 40) (v := nI 0) dX5_isUnder_40 (by decide) ?_
    exact a_zret (pc := 41) dX5_isUnder_41 rfl (by first | rfl | exact bI_nar _ | decide) (zf hz) (by rw [show decide (5 ∈ chn 4) = false by decide] at k; exact k)
  · refine AM.of [some (.int (nI (4))), some (.int (nI 6)), none, none] pnX5 (Nat.le_of_ble_eq_true rfl) (by simp [lsub, lvI, Value.category]) ?_
    refine a_iloadn_0 (pc := 0) dX5_isUnder_0 ?_
    refine a_istoren_2 (pc := 1) dX5_isUnder_1 (by decide) (by first | rfl | trivial) ?_
    refine a_iconst (pc := 2) (v := nI 0) dX5_isUnder_2 (by decide) ?_
    refine a_istoren_3 (pc := 3) dX5_isUnder_3 (by decide) (by first | rfl | trivial) ?_
    refine a_iloadn_3 (pc := 4) dX5_isUnder_4 ?_
    refine a_bipush (pc := 5) (v := nI 8) dX5_isUnder_5 (by decide) ?_
    refine n_icmp_ge (tgt := 31) dX5_isUnder_7 (by decide) (by decide) (by decide) (fun c_7 => by omega) (fun c_7 => ?_)
    refine a_iloadn_2 (pc := 10) dX5_isUnder_10 ?_
    refine n_if_lt (tgt := 31) dX5_isUnder_11 (by decide) (by decide) ?_
    refine a_iloadn_2 (pc := 14) dX5_isUnder_14 ?_
    refine a_iloadn_1 (pc := 15) dX5_isUnder_15 ?_
    refine n_icmp_eq (tgt := 31) dX5_isUnder_16 (by decide) (by decide) (by decide) (fun c_16 => by omega) (fun c_16 => ?_)
    refine a_gets (pc := 19) (i := 3) (by decide) dX5_isUnder_19 rfl w_897 ?_
    refine a_iloadn_2 (pc := 22) dX5_isUnder_22 ?_
    refine a_sil (pc := 23) 4 (t := 3) (by decide) dX5_isUnder_23 rfl (by decide) ?_
    refine a_topi (nI 1) (by decide) ?_
    refine a_istoren_2 (pc := 24) dX5_isUnder_24 (by decide) (by first | rfl | trivial) ?_
    refine a_iinc_3 (pc := 25) (v := nI (1)) dX5_isUnder_25 (nI_add _ _) (by decide) (by first | rfl | trivial) ?_
    refine a_goto (pc := 28) (tgt := 4) dX5_isUnder_28 (by decide) ?_
    refine a_iloadn_3 (pc := 4) dX5_isUnder_4 ?_
    refine a_bipush (pc := 5) (v := nI 8) dX5_isUnder_5 (by decide) ?_
    refine n_icmp_ge (tgt := 31) dX5_isUnder_7 (by decide) (by decide) (by decide) (fun c_7 => by omega) (fun c_7 => ?_)
    refine a_iloadn_2 (pc := 10) dX5_isUnder_10 ?_
    refine n_if_lt (tgt := 31) dX5_isUnder_11 (by decide) (by decide) ?_
    refine a_iloadn_2 (pc := 14) dX5_isUnder_14 ?_
    refine a_iloadn_1 (pc := 15) dX5_isUnder_15 ?_
    refine n_icmp_eq (tgt := 31) dX5_isUnder_16 (by decide) (by decide) (by decide) (fun c_16 => by omega) (fun c_16 => ?_)
    refine a_gets (pc := 19) (i := 3) (by decide) dX5_isUnder_19 rfl w_897 ?_
    refine a_iloadn_2 (pc := 22) dX5_isUnder_22 ?_
    refine a_sil (pc := 23) 1 (t := 3) (by decide) dX5_isUnder_23 rfl (by decide) ?_
    refine a_topi (nI 0) (by decide) ?_
    refine a_istoren_2 (pc := 24) dX5_isUnder_24 (by decide) (by first | rfl | trivial) ?_
    refine a_iinc_3 (pc := 25) (v := nI (2)) dX5_isUnder_25 (nI_add _ _) (by decide) (by first | rfl | trivial) ?_
    refine a_goto (pc := 28) (tgt := 4) dX5_isUnder_28 (by decide) ?_
    refine a_iloadn_3 (pc := 4) dX5_isUnder_4 ?_
    refine a_bipush (pc := 5) (v := nI 8) dX5_isUnder_5 (by decide) ?_
    refine n_icmp_ge (tgt := 31) dX5_isUnder_7 (by decide) (by decide) (by decide) (fun c_7 => by omega) (fun c_7 => ?_)
    refine a_iloadn_2 (pc := 10) dX5_isUnder_10 ?_
    refine n_if_lt (tgt := 31) dX5_isUnder_11 (by decide) (by decide) ?_
    refine a_iloadn_2 (pc := 14) dX5_isUnder_14 ?_
    refine a_iloadn_1 (pc := 15) dX5_isUnder_15 ?_
    refine n_icmp_eq (tgt := 31) dX5_isUnder_16 (by decide) (by decide) (by decide) (fun c_16 => by omega) (fun c_16 => ?_)
    refine a_gets (pc := 19) (i := 3) (by decide) dX5_isUnder_19 rfl w_897 ?_
    refine a_iloadn_2 (pc := 22) dX5_isUnder_22 ?_
    refine a_sil (pc := 23) 0 (t := 3) (by decide) dX5_isUnder_23 rfl (by decide) ?_
    refine a_topi ((-1)) (by decide) ?_
    refine a_istoren_2 (pc := 24) dX5_isUnder_24 (by decide) (by first | rfl | trivial) ?_
    refine a_iinc_3 (pc := 25) (v := nI (3)) dX5_isUnder_25 (nI_add _ _) (by decide) (by first | rfl | trivial) ?_
    refine a_goto (pc := 28) (tgt := 4) dX5_isUnder_28 (by decide) ?_
    refine a_iloadn_3 (pc := 4) dX5_isUnder_4 ?_
    refine a_bipush (pc := 5) (v := nI 8) dX5_isUnder_5 (by decide) ?_
    refine n_icmp_ge (tgt := 31) dX5_isUnder_7 (by decide) (by decide) (by decide) (fun c_7 => by omega) (fun c_7 => ?_)
    refine a_iloadn_2 (pc := 10) dX5_isUnder_10 ?_
    refine a_if_lt (pc := 11) (tgt := 31) dX5_isUnder_11 (by decide) (fun c_11 => ?_) (fun c_11 => absurd c_11 (by decide))
    refine a_iloadn_2 (pc := 31) dX5_isUnder_31 ?_
    refine a_iloadn_1 (pc := 32) dX5_isUnder_32 ?_
    refine a_icmp_ne (pc := 33) (tgt := 40) dX5_isUnder_33 (by decide) (fun c_33 => ?_) (fun c_33 => absurd c_33 (by decide))
    refine a_iconst (pc := 40) (v := nI 0) dX5_isUnder_40 (by decide) ?_
    exact a_zret (pc := 41) dX5_isUnder_41 rfl (by first | rfl | exact bI_nar _ | decide) (zf hz) (by rw [show decide (6 ∈ chn 4) = false by decide] at k; exact k)
  · refine AM.of [some (.int (nI (4))), some (.int (nI 7)), none, none] pnX5 (Nat.le_of_ble_eq_true rfl) (by simp [lsub, lvI, Value.category]) ?_
    refine a_iloadn_0 (pc := 0) dX5_isUnder_0 ?_
    refine a_istoren_2 (pc := 1) dX5_isUnder_1 (by decide) (by first | rfl | trivial) ?_
    refine a_iconst (pc := 2) (v := nI 0) dX5_isUnder_2 (by decide) ?_
    refine a_istoren_3 (pc := 3) dX5_isUnder_3 (by decide) (by first | rfl | trivial) ?_
    refine a_iloadn_3 (pc := 4) dX5_isUnder_4 ?_
    refine a_bipush (pc := 5) (v := nI 8) dX5_isUnder_5 (by decide) ?_
    refine n_icmp_ge (tgt := 31) dX5_isUnder_7 (by decide) (by decide) (by decide) (fun c_7 => by omega) (fun c_7 => ?_)
    refine a_iloadn_2 (pc := 10) dX5_isUnder_10 ?_
    refine n_if_lt (tgt := 31) dX5_isUnder_11 (by decide) (by decide) ?_
    refine a_iloadn_2 (pc := 14) dX5_isUnder_14 ?_
    refine a_iloadn_1 (pc := 15) dX5_isUnder_15 ?_
    refine n_icmp_eq (tgt := 31) dX5_isUnder_16 (by decide) (by decide) (by decide) (fun c_16 => by omega) (fun c_16 => ?_)
    refine a_gets (pc := 19) (i := 3) (by decide) dX5_isUnder_19 rfl w_897 ?_
    refine a_iloadn_2 (pc := 22) dX5_isUnder_22 ?_
    refine a_sil (pc := 23) 4 (t := 3) (by decide) dX5_isUnder_23 rfl (by decide) ?_
    refine a_topi (nI 1) (by decide) ?_
    refine a_istoren_2 (pc := 24) dX5_isUnder_24 (by decide) (by first | rfl | trivial) ?_
    refine a_iinc_3 (pc := 25) (v := nI (1)) dX5_isUnder_25 (nI_add _ _) (by decide) (by first | rfl | trivial) ?_
    refine a_goto (pc := 28) (tgt := 4) dX5_isUnder_28 (by decide) ?_
    refine a_iloadn_3 (pc := 4) dX5_isUnder_4 ?_
    refine a_bipush (pc := 5) (v := nI 8) dX5_isUnder_5 (by decide) ?_
    refine n_icmp_ge (tgt := 31) dX5_isUnder_7 (by decide) (by decide) (by decide) (fun c_7 => by omega) (fun c_7 => ?_)
    refine a_iloadn_2 (pc := 10) dX5_isUnder_10 ?_
    refine n_if_lt (tgt := 31) dX5_isUnder_11 (by decide) (by decide) ?_
    refine a_iloadn_2 (pc := 14) dX5_isUnder_14 ?_
    refine a_iloadn_1 (pc := 15) dX5_isUnder_15 ?_
    refine n_icmp_eq (tgt := 31) dX5_isUnder_16 (by decide) (by decide) (by decide) (fun c_16 => by omega) (fun c_16 => ?_)
    refine a_gets (pc := 19) (i := 3) (by decide) dX5_isUnder_19 rfl w_897 ?_
    refine a_iloadn_2 (pc := 22) dX5_isUnder_22 ?_
    refine a_sil (pc := 23) 1 (t := 3) (by decide) dX5_isUnder_23 rfl (by decide) ?_
    refine a_topi (nI 0) (by decide) ?_
    refine a_istoren_2 (pc := 24) dX5_isUnder_24 (by decide) (by first | rfl | trivial) ?_
    refine a_iinc_3 (pc := 25) (v := nI (2)) dX5_isUnder_25 (nI_add _ _) (by decide) (by first | rfl | trivial) ?_
    refine a_goto (pc := 28) (tgt := 4) dX5_isUnder_28 (by decide) ?_
    refine a_iloadn_3 (pc := 4) dX5_isUnder_4 ?_
    refine a_bipush (pc := 5) (v := nI 8) dX5_isUnder_5 (by decide) ?_
    refine n_icmp_ge (tgt := 31) dX5_isUnder_7 (by decide) (by decide) (by decide) (fun c_7 => by omega) (fun c_7 => ?_)
    refine a_iloadn_2 (pc := 10) dX5_isUnder_10 ?_
    refine n_if_lt (tgt := 31) dX5_isUnder_11 (by decide) (by decide) ?_
    refine a_iloadn_2 (pc := 14) dX5_isUnder_14 ?_
    refine a_iloadn_1 (pc := 15) dX5_isUnder_15 ?_
    refine n_icmp_eq (tgt := 31) dX5_isUnder_16 (by decide) (by decide) (by decide) (fun c_16 => by omega) (fun c_16 => ?_)
    refine a_gets (pc := 19) (i := 3) (by decide) dX5_isUnder_19 rfl w_897 ?_
    refine a_iloadn_2 (pc := 22) dX5_isUnder_22 ?_
    refine a_sil (pc := 23) 0 (t := 3) (by decide) dX5_isUnder_23 rfl (by decide) ?_
    refine a_topi ((-1)) (by decide) ?_
    refine a_istoren_2 (pc := 24) dX5_isUnder_24 (by decide) (by first | rfl | trivial) ?_
    refine a_iinc_3 (pc := 25) (v := nI (3)) dX5_isUnder_25 (nI_add _ _) (by decide) (by first | rfl | trivial) ?_
    refine a_goto (pc := 28) (tgt := 4) dX5_isUnder_28 (by decide) ?_
    refine a_iloadn_3 (pc := 4) dX5_isUnder_4 ?_
    refine a_bipush (pc := 5) (v := nI 8) dX5_isUnder_5 (by decide) ?_
    refine n_icmp_ge (tgt := 31) dX5_isUnder_7 (by decide) (by decide) (by decide) (fun c_7 => by omega) (fun c_7 => ?_)
    refine a_iloadn_2 (pc := 10) dX5_isUnder_10 ?_
    refine a_if_lt (pc := 11) (tgt := 31) dX5_isUnder_11 (by decide) (fun c_11 => ?_) (fun c_11 => absurd c_11 (by decide))
    refine a_iloadn_2 (pc := 31) dX5_isUnder_31 ?_
    refine a_iloadn_1 (pc := 32) dX5_isUnder_32 ?_
    refine a_icmp_ne (pc := 33) (tgt := 40) dX5_isUnder_33 (by decide) (fun c_33 => ?_) (fun c_33 => absurd c_33 (by decide))
    refine a_iconst (pc := 40) (v := nI 0) dX5_isUnder_40 (by decide) ?_
    exact a_zret (pc := 41) dX5_isUnder_41 rfl (by first | rfl | exact bI_nar _ | decide) (zf hz) (by rw [show decide (7 ∈ chn 4) = false by decide] at k; exact k)

set_option maxRecDepth 100000 in
set_option maxHeartbeats 4000000 in
theorem k_isUnder_5 {G : Cx} {d t : Nat} {h : List va_E} {Q : Option Value → List va_E → Prop} (hd : 1 ≤ d) (hz : gz G = false) (ht : t < 8) (k : Q (some (.int (bI (decide (t ∈ chn 5))))) h) : AM G yX5_isUnder cX5_isUnder 4 (some .boolean) d 0 0 [.int (nI (5)), .int (nI t)] h Q := by
  obtain ⟨d, rfl, he⟩ := dpos hd
  rcases k8 ht with rfl | rfl | rfl | rfl | rfl | rfl | rfl | rfl
  · refine AM.of [some (.int (nI (5))), some (.int (nI 0)), none, none] pnX5 (Nat.le_of_ble_eq_true rfl) (by simp [lsub, lvI, Value.category]) ?_
    refine a_iloadn_0 (pc := 0) dX5_isUnder_0 ?_
    refine a_istoren_2 (pc := 1) dX5_isUnder_1 (by decide) (by first | rfl | trivial) ?_
    refine a_iconst (pc := 2) (v := nI 0) dX5_isUnder_2 (by decide) ?_
    refine a_istoren_3 (pc := 3) dX5_isUnder_3 (by decide) (by first | rfl | trivial) ?_
    refine a_iloadn_3 (pc := 4) dX5_isUnder_4 ?_
    refine a_bipush (pc := 5) (v := nI 8) dX5_isUnder_5 (by decide) ?_
    refine n_icmp_ge (tgt := 31) dX5_isUnder_7 (by decide) (by decide) (by decide) (fun c_7 => by omega) (fun c_7 => ?_)
    refine a_iloadn_2 (pc := 10) dX5_isUnder_10 ?_
    refine n_if_lt (tgt := 31) dX5_isUnder_11 (by decide) (by decide) ?_
    refine a_iloadn_2 (pc := 14) dX5_isUnder_14 ?_
    refine a_iloadn_1 (pc := 15) dX5_isUnder_15 ?_
    refine n_icmp_eq (tgt := 31) dX5_isUnder_16 (by decide) (by decide) (by decide) (fun c_16 => by omega) (fun c_16 => ?_)
    refine a_gets (pc := 19) (i := 3) (by decide) dX5_isUnder_19 rfl w_897 ?_
    refine a_iloadn_2 (pc := 22) dX5_isUnder_22 ?_
    refine a_sil (pc := 23) 5 (t := 3) (by decide) dX5_isUnder_23 rfl (by decide) ?_
    refine a_topi (nI 3) (by decide) ?_
    refine a_istoren_2 (pc := 24) dX5_isUnder_24 (by decide) (by first | rfl | trivial) ?_
    refine a_iinc_3 (pc := 25) (v := nI (1)) dX5_isUnder_25 (nI_add _ _) (by decide) (by first | rfl | trivial) ?_
    refine a_goto (pc := 28) (tgt := 4) dX5_isUnder_28 (by decide) ?_
    refine a_iloadn_3 (pc := 4) dX5_isUnder_4 ?_
    refine a_bipush (pc := 5) (v := nI 8) dX5_isUnder_5 (by decide) ?_
    refine n_icmp_ge (tgt := 31) dX5_isUnder_7 (by decide) (by decide) (by decide) (fun c_7 => by omega) (fun c_7 => ?_)
    refine a_iloadn_2 (pc := 10) dX5_isUnder_10 ?_
    refine n_if_lt (tgt := 31) dX5_isUnder_11 (by decide) (by decide) ?_
    refine a_iloadn_2 (pc := 14) dX5_isUnder_14 ?_
    refine a_iloadn_1 (pc := 15) dX5_isUnder_15 ?_
    refine n_icmp_eq (tgt := 31) dX5_isUnder_16 (by decide) (by decide) (by decide) (fun c_16 => by omega) (fun c_16 => ?_)
    refine a_gets (pc := 19) (i := 3) (by decide) dX5_isUnder_19 rfl w_897 ?_
    refine a_iloadn_2 (pc := 22) dX5_isUnder_22 ?_
    refine a_sil (pc := 23) 3 (t := 3) (by decide) dX5_isUnder_23 rfl (by decide) ?_
    refine a_topi (nI 2) (by decide) ?_
    refine a_istoren_2 (pc := 24) dX5_isUnder_24 (by decide) (by first | rfl | trivial) ?_
    refine a_iinc_3 (pc := 25) (v := nI (2)) dX5_isUnder_25 (nI_add _ _) (by decide) (by first | rfl | trivial) ?_
    refine a_goto (pc := 28) (tgt := 4) dX5_isUnder_28 (by decide) ?_
    refine a_iloadn_3 (pc := 4) dX5_isUnder_4 ?_
    refine a_bipush (pc := 5) (v := nI 8) dX5_isUnder_5 (by decide) ?_
    refine n_icmp_ge (tgt := 31) dX5_isUnder_7 (by decide) (by decide) (by decide) (fun c_7 => by omega) (fun c_7 => ?_)
    refine a_iloadn_2 (pc := 10) dX5_isUnder_10 ?_
    refine n_if_lt (tgt := 31) dX5_isUnder_11 (by decide) (by decide) ?_
    refine a_iloadn_2 (pc := 14) dX5_isUnder_14 ?_
    refine a_iloadn_1 (pc := 15) dX5_isUnder_15 ?_
    refine n_icmp_eq (tgt := 31) dX5_isUnder_16 (by decide) (by decide) (by decide) (fun c_16 => by omega) (fun c_16 => ?_)
    refine a_gets (pc := 19) (i := 3) (by decide) dX5_isUnder_19 rfl w_897 ?_
    refine a_iloadn_2 (pc := 22) dX5_isUnder_22 ?_
    refine a_sil (pc := 23) 2 (t := 3) (by decide) dX5_isUnder_23 rfl (by decide) ?_
    refine a_topi (nI 0) (by decide) ?_
    refine a_istoren_2 (pc := 24) dX5_isUnder_24 (by decide) (by first | rfl | trivial) ?_
    refine a_iinc_3 (pc := 25) (v := nI (3)) dX5_isUnder_25 (nI_add _ _) (by decide) (by first | rfl | trivial) ?_
    refine a_goto (pc := 28) (tgt := 4) dX5_isUnder_28 (by decide) ?_
    refine a_iloadn_3 (pc := 4) dX5_isUnder_4 ?_
    refine a_bipush (pc := 5) (v := nI 8) dX5_isUnder_5 (by decide) ?_
    refine n_icmp_ge (tgt := 31) dX5_isUnder_7 (by decide) (by decide) (by decide) (fun c_7 => by omega) (fun c_7 => ?_)
    refine a_iloadn_2 (pc := 10) dX5_isUnder_10 ?_
    refine n_if_lt (tgt := 31) dX5_isUnder_11 (by decide) (by decide) ?_
    refine a_iloadn_2 (pc := 14) dX5_isUnder_14 ?_
    refine a_iloadn_1 (pc := 15) dX5_isUnder_15 ?_
    refine n_icmp_eq (tgt := 31) dX5_isUnder_16 (by decide) (by decide) (by decide) (fun c_16 => ?_) (fun c_16 => by omega)
    refine a_iloadn_2 (pc := 31) dX5_isUnder_31 ?_
    refine a_iloadn_1 (pc := 32) dX5_isUnder_32 ?_
    refine n_icmp_ne (tgt := 40) dX5_isUnder_33 (by decide) (by decide) (by decide) (fun c_33 => by omega) (fun c_33 => ?_)
    refine a_iconst (pc := 36) (v := nI 1) dX5_isUnder_36 (by decide) ?_
    refine a_goto (pc := 37) (tgt := 41) dX5_isUnder_37 (by decide) ?_
    exact a_zret (pc := 41) dX5_isUnder_41 rfl (by first | rfl | exact bI_nar _ | decide) (zf hz) (by rw [show decide (0 ∈ chn 5) = true by decide] at k; exact k)
  · refine AM.of [some (.int (nI (5))), some (.int (nI 1)), none, none] pnX5 (Nat.le_of_ble_eq_true rfl) (by simp [lsub, lvI, Value.category]) ?_
    refine a_iloadn_0 (pc := 0) dX5_isUnder_0 ?_
    refine a_istoren_2 (pc := 1) dX5_isUnder_1 (by decide) (by first | rfl | trivial) ?_
    refine a_iconst (pc := 2) (v := nI 0) dX5_isUnder_2 (by decide) ?_
    refine a_istoren_3 (pc := 3) dX5_isUnder_3 (by decide) (by first | rfl | trivial) ?_
    refine a_iloadn_3 (pc := 4) dX5_isUnder_4 ?_
    refine a_bipush (pc := 5) (v := nI 8) dX5_isUnder_5 (by decide) ?_
    refine n_icmp_ge (tgt := 31) dX5_isUnder_7 (by decide) (by decide) (by decide) (fun c_7 => by omega) (fun c_7 => ?_)
    refine a_iloadn_2 (pc := 10) dX5_isUnder_10 ?_
    refine n_if_lt (tgt := 31) dX5_isUnder_11 (by decide) (by decide) ?_
    refine a_iloadn_2 (pc := 14) dX5_isUnder_14 ?_
    refine a_iloadn_1 (pc := 15) dX5_isUnder_15 ?_
    refine n_icmp_eq (tgt := 31) dX5_isUnder_16 (by decide) (by decide) (by decide) (fun c_16 => by omega) (fun c_16 => ?_)
    refine a_gets (pc := 19) (i := 3) (by decide) dX5_isUnder_19 rfl w_897 ?_
    refine a_iloadn_2 (pc := 22) dX5_isUnder_22 ?_
    refine a_sil (pc := 23) 5 (t := 3) (by decide) dX5_isUnder_23 rfl (by decide) ?_
    refine a_topi (nI 3) (by decide) ?_
    refine a_istoren_2 (pc := 24) dX5_isUnder_24 (by decide) (by first | rfl | trivial) ?_
    refine a_iinc_3 (pc := 25) (v := nI (1)) dX5_isUnder_25 (nI_add _ _) (by decide) (by first | rfl | trivial) ?_
    refine a_goto (pc := 28) (tgt := 4) dX5_isUnder_28 (by decide) ?_
    refine a_iloadn_3 (pc := 4) dX5_isUnder_4 ?_
    refine a_bipush (pc := 5) (v := nI 8) dX5_isUnder_5 (by decide) ?_
    refine n_icmp_ge (tgt := 31) dX5_isUnder_7 (by decide) (by decide) (by decide) (fun c_7 => by omega) (fun c_7 => ?_)
    refine a_iloadn_2 (pc := 10) dX5_isUnder_10 ?_
    refine n_if_lt (tgt := 31) dX5_isUnder_11 (by decide) (by decide) ?_
    refine a_iloadn_2 (pc := 14) dX5_isUnder_14 ?_
    refine a_iloadn_1 (pc := 15) dX5_isUnder_15 ?_
    refine n_icmp_eq (tgt := 31) dX5_isUnder_16 (by decide) (by decide) (by decide) (fun c_16 => by omega) (fun c_16 => ?_)
    refine a_gets (pc := 19) (i := 3) (by decide) dX5_isUnder_19 rfl w_897 ?_
    refine a_iloadn_2 (pc := 22) dX5_isUnder_22 ?_
    refine a_sil (pc := 23) 3 (t := 3) (by decide) dX5_isUnder_23 rfl (by decide) ?_
    refine a_topi (nI 2) (by decide) ?_
    refine a_istoren_2 (pc := 24) dX5_isUnder_24 (by decide) (by first | rfl | trivial) ?_
    refine a_iinc_3 (pc := 25) (v := nI (2)) dX5_isUnder_25 (nI_add _ _) (by decide) (by first | rfl | trivial) ?_
    refine a_goto (pc := 28) (tgt := 4) dX5_isUnder_28 (by decide) ?_
    refine a_iloadn_3 (pc := 4) dX5_isUnder_4 ?_
    refine a_bipush (pc := 5) (v := nI 8) dX5_isUnder_5 (by decide) ?_
    refine n_icmp_ge (tgt := 31) dX5_isUnder_7 (by decide) (by decide) (by decide) (fun c_7 => by omega) (fun c_7 => ?_)
    refine a_iloadn_2 (pc := 10) dX5_isUnder_10 ?_
    refine n_if_lt (tgt := 31) dX5_isUnder_11 (by decide) (by decide) ?_
    refine a_iloadn_2 (pc := 14) dX5_isUnder_14 ?_
    refine a_iloadn_1 (pc := 15) dX5_isUnder_15 ?_
    refine n_icmp_eq (tgt := 31) dX5_isUnder_16 (by decide) (by decide) (by decide) (fun c_16 => by omega) (fun c_16 => ?_)
    refine a_gets (pc := 19) (i := 3) (by decide) dX5_isUnder_19 rfl w_897 ?_
    refine a_iloadn_2 (pc := 22) dX5_isUnder_22 ?_
    refine a_sil (pc := 23) 2 (t := 3) (by decide) dX5_isUnder_23 rfl (by decide) ?_
    refine a_topi (nI 0) (by decide) ?_
    refine a_istoren_2 (pc := 24) dX5_isUnder_24 (by decide) (by first | rfl | trivial) ?_
    refine a_iinc_3 (pc := 25) (v := nI (3)) dX5_isUnder_25 (nI_add _ _) (by decide) (by first | rfl | trivial) ?_
    refine a_goto (pc := 28) (tgt := 4) dX5_isUnder_28 (by decide) ?_
    refine a_iloadn_3 (pc := 4) dX5_isUnder_4 ?_
    refine a_bipush (pc := 5) (v := nI 8) dX5_isUnder_5 (by decide) ?_
    refine n_icmp_ge (tgt := 31) dX5_isUnder_7 (by decide) (by decide) (by decide) (fun c_7 => by omega) (fun c_7 => ?_)
    refine a_iloadn_2 (pc := 10) dX5_isUnder_10 ?_
    refine n_if_lt (tgt := 31) dX5_isUnder_11 (by decide) (by decide) ?_
    refine a_iloadn_2 (pc := 14) dX5_isUnder_14 ?_
    refine a_iloadn_1 (pc := 15) dX5_isUnder_15 ?_
    refine n_icmp_eq (tgt := 31) dX5_isUnder_16 (by decide) (by decide) (by decide) (fun c_16 => by omega) (fun c_16 => ?_)
    refine a_gets (pc := 19) (i := 3) (by decide) dX5_isUnder_19 rfl w_897 ?_
    refine a_iloadn_2 (pc := 22) dX5_isUnder_22 ?_
    refine a_sil (pc := 23) 0 (t := 3) (by decide) dX5_isUnder_23 rfl (by decide) ?_
    refine a_topi ((-1)) (by decide) ?_
    refine a_istoren_2 (pc := 24) dX5_isUnder_24 (by decide) (by first | rfl | trivial) ?_
    refine a_iinc_3 (pc := 25) (v := nI (4)) dX5_isUnder_25 (nI_add _ _) (by decide) (by first | rfl | trivial) ?_
    refine a_goto (pc := 28) (tgt := 4) dX5_isUnder_28 (by decide) ?_
    refine a_iloadn_3 (pc := 4) dX5_isUnder_4 ?_
    refine a_bipush (pc := 5) (v := nI 8) dX5_isUnder_5 (by decide) ?_
    refine n_icmp_ge (tgt := 31) dX5_isUnder_7 (by decide) (by decide) (by decide) (fun c_7 => by omega) (fun c_7 => ?_)
    refine a_iloadn_2 (pc := 10) dX5_isUnder_10 ?_
    refine a_if_lt (pc := 11) (tgt := 31) dX5_isUnder_11 (by decide) (fun c_11 => ?_) (fun c_11 => absurd c_11 (by decide))
    refine a_iloadn_2 (pc := 31) dX5_isUnder_31 ?_
    refine a_iloadn_1 (pc := 32) dX5_isUnder_32 ?_
    refine a_icmp_ne (pc := 33) (tgt := 40) dX5_isUnder_33 (by decide) (fun c_33 => ?_) (fun c_33 => absurd c_33 (by decide))
    refine a_iconst (pc := 40) (v := nI 0) dX5_isUnder_40 (by decide) ?_
    exact a_zret (pc := 41) dX5_isUnder_41 rfl (by first | rfl | exact bI_nar _ | decide) (zf hz) (by rw [show decide (1 ∈ chn 5) = false by decide] at k; exact k)
  · refine AM.of [some (.int (nI (5))), some (.int (nI 2)), none, none] pnX5 (Nat.le_of_ble_eq_true rfl) (by simp [lsub, lvI, Value.category]) ?_
    refine a_iloadn_0 (pc := 0) dX5_isUnder_0 ?_
    refine a_istoren_2 (pc := 1) dX5_isUnder_1 (by decide) (by first | rfl | trivial) ?_
    refine a_iconst (pc := 2) (v := nI 0) dX5_isUnder_2 (by decide) ?_
    refine a_istoren_3 (pc := 3) dX5_isUnder_3 (by decide) (by first | rfl | trivial) ?_
    refine a_iloadn_3 (pc := 4) dX5_isUnder_4 ?_
    refine a_bipush (pc := 5) (v := nI 8) dX5_isUnder_5 (by decide) ?_
    refine n_icmp_ge (tgt := 31) dX5_isUnder_7 (by decide) (by decide) (by decide) (fun c_7 => by omega) (fun c_7 => ?_)
    refine a_iloadn_2 (pc := 10) dX5_isUnder_10 ?_
    refine n_if_lt (tgt := 31) dX5_isUnder_11 (by decide) (by decide) ?_
    refine a_iloadn_2 (pc := 14) dX5_isUnder_14 ?_
    refine a_iloadn_1 (pc := 15) dX5_isUnder_15 ?_
    refine n_icmp_eq (tgt := 31) dX5_isUnder_16 (by decide) (by decide) (by decide) (fun c_16 => by omega) (fun c_16 => ?_)
    refine a_gets (pc := 19) (i := 3) (by decide) dX5_isUnder_19 rfl w_897 ?_
    refine a_iloadn_2 (pc := 22) dX5_isUnder_22 ?_
    refine a_sil (pc := 23) 5 (t := 3) (by decide) dX5_isUnder_23 rfl (by decide) ?_
    refine a_topi (nI 3) (by decide) ?_
    refine a_istoren_2 (pc := 24) dX5_isUnder_24 (by decide) (by first | rfl | trivial) ?_
    refine a_iinc_3 (pc := 25) (v := nI (1)) dX5_isUnder_25 (nI_add _ _) (by decide) (by first | rfl | trivial) ?_
    refine a_goto (pc := 28) (tgt := 4) dX5_isUnder_28 (by decide) ?_
    refine a_iloadn_3 (pc := 4) dX5_isUnder_4 ?_
    refine a_bipush (pc := 5) (v := nI 8) dX5_isUnder_5 (by decide) ?_
    refine n_icmp_ge (tgt := 31) dX5_isUnder_7 (by decide) (by decide) (by decide) (fun c_7 => by omega) (fun c_7 => ?_)
    refine a_iloadn_2 (pc := 10) dX5_isUnder_10 ?_
    refine n_if_lt (tgt := 31) dX5_isUnder_11 (by decide) (by decide) ?_
    refine a_iloadn_2 (pc := 14) dX5_isUnder_14 ?_
    refine a_iloadn_1 (pc := 15) dX5_isUnder_15 ?_
    refine n_icmp_eq (tgt := 31) dX5_isUnder_16 (by decide) (by decide) (by decide) (fun c_16 => by omega) (fun c_16 => ?_)
    refine a_gets (pc := 19) (i := 3) (by decide) dX5_isUnder_19 rfl w_897 ?_
    refine a_iloadn_2 (pc := 22) dX5_isUnder_22 ?_
    refine a_sil (pc := 23) 3 (t := 3) (by decide) dX5_isUnder_23 rfl (by decide) ?_
    refine a_topi (nI 2) (by decide) ?_
    refine a_istoren_2 (pc := 24) dX5_isUnder_24 (by decide) (by first | rfl | trivial) ?_
    refine a_iinc_3 (pc := 25) (v := nI (2)) dX5_isUnder_25 (nI_add _ _) (by decide) (by first | rfl | trivial) ?_
    refine a_goto (pc := 28) (tgt := 4) dX5_isUnder_28 (by decide) ?_
    refine a_iloadn_3 (pc := 4) dX5_isUnder_4 ?_
    refine a_bipush (pc := 5) (v := nI 8) dX5_isUnder_5 (by decide) ?_
    refine n_icmp_ge (tgt := 31) dX5_isUnder_7 (by decide) (by decide) (by decide) (fun c_7 => by omega) (fun c_7 => ?_)
    refine a_iloadn_2 (pc := 10) dX5_isUnder_10 ?_
    refine n_if_lt (tgt := 31) dX5_isUnder_11 (by decide) (by decide) ?_
    refine a_iloadn_2 (pc := 14) dX5_isUnder_14 ?_
    refine a_iloadn_1 (pc := 15) dX5_isUnder_15 ?_
    refine n_icmp_eq (tgt := 31) dX5_isUnder_16 (by decide) (by decide) (by decide) (fun c_16 => ?_) (fun c_16 => by omega)
    refine a_iloadn_2 (pc := 31) dX5_isUnder_31 ?_
    refine a_iloadn_1 (pc := 32) dX5_isUnder_32 ?_
    refine n_icmp_ne (tgt := 40) dX5_isUnder_33 (by decide) (by decide) (by decide) (fun c_33 => by omega) (fun c_33 => ?_)
    refine a_iconst (pc := 36) (v := nI 1) dX5_isUnder_36 (by decide) ?_
    refine a_goto (pc := 37) (tgt := 41) dX5_isUnder_37 (by decide) ?_
    exact a_zret (pc := 41) dX5_isUnder_41 rfl (by first | rfl | exact bI_nar _ | decide) (zf hz) (by rw [show decide (2 ∈ chn 5) = true by decide] at k; exact k)
  · refine AM.of [some (.int (nI (5))), some (.int (nI 3)), none, none] pnX5 (Nat.le_of_ble_eq_true rfl) (by simp [lsub, lvI, Value.category]) ?_
    refine a_iloadn_0 (pc := 0) dX5_isUnder_0 ?_
    refine a_istoren_2 (pc := 1) dX5_isUnder_1 (by decide) (by first | rfl | trivial) ?_
    refine a_iconst (pc := 2) (v := nI 0) dX5_isUnder_2 (by decide) ?_
    refine a_istoren_3 (pc := 3) dX5_isUnder_3 (by decide) (by first | rfl | trivial) ?_
    refine a_iloadn_3 (pc := 4) dX5_isUnder_4 ?_
    refine a_bipush (pc := 5) (v := nI 8) dX5_isUnder_5 (by decide) ?_
    refine n_icmp_ge (tgt := 31) dX5_isUnder_7 (by decide) (by decide) (by decide) (fun c_7 => by omega) (fun c_7 => ?_)
    refine a_iloadn_2 (pc := 10) dX5_isUnder_10 ?_
    refine n_if_lt (tgt := 31) dX5_isUnder_11 (by decide) (by decide) ?_
    refine a_iloadn_2 (pc := 14) dX5_isUnder_14 ?_
    refine a_iloadn_1 (pc := 15) dX5_isUnder_15 ?_
    refine n_icmp_eq (tgt := 31) dX5_isUnder_16 (by decide) (by decide) (by decide) (fun c_16 => by omega) (fun c_16 => ?_)
    refine a_gets (pc := 19) (i := 3) (by decide) dX5_isUnder_19 rfl w_897 ?_
    refine a_iloadn_2 (pc := 22) dX5_isUnder_22 ?_
    refine a_sil (pc := 23) 5 (t := 3) (by decide) dX5_isUnder_23 rfl (by decide) ?_
    refine a_topi (nI 3) (by decide) ?_
    refine a_istoren_2 (pc := 24) dX5_isUnder_24 (by decide) (by first | rfl | trivial) ?_
    refine a_iinc_3 (pc := 25) (v := nI (1)) dX5_isUnder_25 (nI_add _ _) (by decide) (by first | rfl | trivial) ?_
    refine a_goto (pc := 28) (tgt := 4) dX5_isUnder_28 (by decide) ?_
    refine a_iloadn_3 (pc := 4) dX5_isUnder_4 ?_
    refine a_bipush (pc := 5) (v := nI 8) dX5_isUnder_5 (by decide) ?_
    refine n_icmp_ge (tgt := 31) dX5_isUnder_7 (by decide) (by decide) (by decide) (fun c_7 => by omega) (fun c_7 => ?_)
    refine a_iloadn_2 (pc := 10) dX5_isUnder_10 ?_
    refine n_if_lt (tgt := 31) dX5_isUnder_11 (by decide) (by decide) ?_
    refine a_iloadn_2 (pc := 14) dX5_isUnder_14 ?_
    refine a_iloadn_1 (pc := 15) dX5_isUnder_15 ?_
    refine n_icmp_eq (tgt := 31) dX5_isUnder_16 (by decide) (by decide) (by decide) (fun c_16 => ?_) (fun c_16 => by omega)
    refine a_iloadn_2 (pc := 31) dX5_isUnder_31 ?_
    refine a_iloadn_1 (pc := 32) dX5_isUnder_32 ?_
    refine n_icmp_ne (tgt := 40) dX5_isUnder_33 (by decide) (by decide) (by decide) (fun c_33 => by omega) (fun c_33 => ?_)
    refine a_iconst (pc := 36) (v := nI 1) dX5_isUnder_36 (by decide) ?_
    refine a_goto (pc := 37) (tgt := 41) dX5_isUnder_37 (by decide) ?_
    exact a_zret (pc := 41) dX5_isUnder_41 rfl (by first | rfl | exact bI_nar _ | decide) (zf hz) (by rw [show decide (3 ∈ chn 5) = true by decide] at k; exact k)
  · refine AM.of [some (.int (nI (5))), some (.int (nI 4)), none, none] pnX5 (Nat.le_of_ble_eq_true rfl) (by simp [lsub, lvI, Value.category]) ?_
    refine a_iloadn_0 (pc := 0) dX5_isUnder_0 ?_
    refine a_istoren_2 (pc := 1) dX5_isUnder_1 (by decide) (by first | rfl | trivial) ?_
    refine a_iconst (pc := 2) (v := nI 0) dX5_isUnder_2 (by decide) ?_
    refine a_istoren_3 (pc := 3) dX5_isUnder_3 (by decide) (by first | rfl | trivial) ?_
    refine a_iloadn_3 (pc := 4) dX5_isUnder_4 ?_
    refine a_bipush (pc := 5) (v := nI 8) dX5_isUnder_5 (by decide) ?_
    refine n_icmp_ge (tgt := 31) dX5_isUnder_7 (by decide) (by decide) (by decide) (fun c_7 => by omega) (fun c_7 => ?_)
    refine a_iloadn_2 (pc := 10) dX5_isUnder_10 ?_
    refine n_if_lt (tgt := 31) dX5_isUnder_11 (by decide) (by decide) ?_
    refine a_iloadn_2 (pc := 14) dX5_isUnder_14 ?_
    refine a_iloadn_1 (pc := 15) dX5_isUnder_15 ?_
    refine n_icmp_eq (tgt := 31) dX5_isUnder_16 (by decide) (by decide) (by decide) (fun c_16 => by omega) (fun c_16 => ?_)
    refine a_gets (pc := 19) (i := 3) (by decide) dX5_isUnder_19 rfl w_897 ?_
    refine a_iloadn_2 (pc := 22) dX5_isUnder_22 ?_
    refine a_sil (pc := 23) 5 (t := 3) (by decide) dX5_isUnder_23 rfl (by decide) ?_
    refine a_topi (nI 3) (by decide) ?_
    refine a_istoren_2 (pc := 24) dX5_isUnder_24 (by decide) (by first | rfl | trivial) ?_
    refine a_iinc_3 (pc := 25) (v := nI (1)) dX5_isUnder_25 (nI_add _ _) (by decide) (by first | rfl | trivial) ?_
    refine a_goto (pc := 28) (tgt := 4) dX5_isUnder_28 (by decide) ?_
    refine a_iloadn_3 (pc := 4) dX5_isUnder_4 ?_
    refine a_bipush (pc := 5) (v := nI 8) dX5_isUnder_5 (by decide) ?_
    refine n_icmp_ge (tgt := 31) dX5_isUnder_7 (by decide) (by decide) (by decide) (fun c_7 => by omega) (fun c_7 => ?_)
    refine a_iloadn_2 (pc := 10) dX5_isUnder_10 ?_
    refine n_if_lt (tgt := 31) dX5_isUnder_11 (by decide) (by decide) ?_
    refine a_iloadn_2 (pc := 14) dX5_isUnder_14 ?_
    refine a_iloadn_1 (pc := 15) dX5_isUnder_15 ?_
    refine n_icmp_eq (tgt := 31) dX5_isUnder_16 (by decide) (by decide) (by decide) (fun c_16 => by omega) (fun c_16 => ?_)
    refine a_gets (pc := 19) (i := 3) (by decide) dX5_isUnder_19 rfl w_897 ?_
    refine a_iloadn_2 (pc := 22) dX5_isUnder_22 ?_
    refine a_sil (pc := 23) 3 (t := 3) (by decide) dX5_isUnder_23 rfl (by decide) ?_
    refine a_topi (nI 2) (by decide) ?_
    refine a_istoren_2 (pc := 24) dX5_isUnder_24 (by decide) (by first | rfl | trivial) ?_
    refine a_iinc_3 (pc := 25) (v := nI (2)) dX5_isUnder_25 (nI_add _ _) (by decide) (by first | rfl | trivial) ?_
    refine a_goto (pc := 28) (tgt := 4) dX5_isUnder_28 (by decide) ?_
    refine a_iloadn_3 (pc := 4) dX5_isUnder_4 ?_
    refine a_bipush (pc := 5) (v := nI 8) dX5_isUnder_5 (by decide) ?_
    refine n_icmp_ge (tgt := 31) dX5_isUnder_7 (by decide) (by decide) (by decide) (fun c_7 => by omega) (fun c_7 => ?_)
    refine a_iloadn_2 (pc := 10) dX5_isUnder_10 ?_
    refine n_if_lt (tgt := 31) dX5_isUnder_11 (by decide) (by decide) ?_
    refine a_iloadn_2 (pc := 14) dX5_isUnder_14 ?_
    refine a_iloadn_1 (pc := 15) dX5_isUnder_15 ?_
    refine n_icmp_eq (tgt := 31) dX5_isUnder_16 (by decide) (by decide) (by decide) (fun c_16 => by omega) (fun c_16 => ?_)
    refine a_gets (pc := 19) (i := 3) (by decide) dX5_isUnder_19 rfl w_897 ?_
    refine a_iloadn_2 (pc := 22) dX5_isUnder_22 ?_
    refine a_sil (pc := 23) 2 (t := 3) (by decide) dX5_isUnder_23 rfl (by decide) ?_
    refine a_topi (nI 0) (by decide) ?_
    refine a_istoren_2 (pc := 24) dX5_isUnder_24 (by decide) (by first | rfl | trivial) ?_
    refine a_iinc_3 (pc := 25) (v := nI (3)) dX5_isUnder_25 (nI_add _ _) (by decide) (by first | rfl | trivial) ?_
    refine a_goto (pc := 28) (tgt := 4) dX5_isUnder_28 (by decide) ?_
    refine a_iloadn_3 (pc := 4) dX5_isUnder_4 ?_
    refine a_bipush (pc := 5) (v := nI 8) dX5_isUnder_5 (by decide) ?_
    refine n_icmp_ge (tgt := 31) dX5_isUnder_7 (by decide) (by decide) (by decide) (fun c_7 => by omega) (fun c_7 => ?_)
    refine a_iloadn_2 (pc := 10) dX5_isUnder_10 ?_
    refine n_if_lt (tgt := 31) dX5_isUnder_11 (by decide) (by decide) ?_
    refine a_iloadn_2 (pc := 14) dX5_isUnder_14 ?_
    refine a_iloadn_1 (pc := 15) dX5_isUnder_15 ?_
    refine n_icmp_eq (tgt := 31) dX5_isUnder_16 (by decide) (by decide) (by decide) (fun c_16 => by omega) (fun c_16 => ?_)
    refine a_gets (pc := 19) (i := 3) (by decide) dX5_isUnder_19 rfl w_897 ?_
    refine a_iloadn_2 (pc := 22) dX5_isUnder_22 ?_
    refine a_sil (pc := 23) 0 (t := 3) (by decide) dX5_isUnder_23 rfl (by decide) ?_
    refine a_topi ((-1)) (by decide) ?_
    refine a_istoren_2 (pc := 24) dX5_isUnder_24 (by decide) (by first | rfl | trivial) ?_
    refine a_iinc_3 (pc := 25) (v := nI (4)) dX5_isUnder_25 (nI_add _ _) (by decide) (by first | rfl | trivial) ?_
    refine a_goto (pc := 28) (tgt := 4) dX5_isUnder_28 (by decide) ?_
    refine a_iloadn_3 (pc := 4) dX5_isUnder_4 ?_
    refine a_bipush (pc := 5) (v := nI 8) dX5_isUnder_5 (by decide) ?_
    refine n_icmp_ge (tgt := 31) dX5_isUnder_7 (by decide) (by decide) (by decide) (fun c_7 => by omega) (fun c_7 => ?_)
    refine a_iloadn_2 (pc := 10) dX5_isUnder_10 ?_
    refine a_if_lt (pc := 11) (tgt := 31) dX5_isUnder_11 (by decide) (fun c_11 => ?_) (fun c_11 => absurd c_11 (by decide))
    refine a_iloadn_2 (pc := 31) dX5_isUnder_31 ?_
    refine a_iloadn_1 (pc := 32) dX5_isUnder_32 ?_
    refine a_icmp_ne (pc := 33) (tgt := 40) dX5_isUnder_33 (by decide) (fun c_33 => ?_) (fun c_33 => absurd c_33 (by decide))
    refine a_iconst (pc := 40) (v := nI 0) dX5_isUnder_40 (by decide) ?_
    exact a_zret (pc := 41) dX5_isUnder_41 rfl (by first | rfl | exact bI_nar _ | decide) (zf hz) (by rw [show decide (4 ∈ chn 5) = false by decide] at k; exact k)
  · refine AM.of [some (.int (nI (5))), some (.int (nI 5)), none, none] pnX5 (Nat.le_of_ble_eq_true rfl) (by simp [lsub, lvI, Value.category]) ?_
    refine a_iloadn_0 (pc := 0) dX5_isUnder_0 ?_
    refine a_istoren_2 (pc := 1) dX5_isUnder_1 (by decide) (by first | rfl | trivial) ?_
    refine a_iconst (pc := 2) (v := nI 0) dX5_isUnder_2 (by decide) ?_
    refine a_istoren_3 (pc := 3) dX5_isUnder_3 (by decide) (by first | rfl | trivial) ?_
    refine a_iloadn_3 (pc := 4) dX5_isUnder_4 ?_
    refine a_bipush (pc := 5) (v := nI 8) dX5_isUnder_5 (by decide) ?_
    refine n_icmp_ge (tgt := 31) dX5_isUnder_7 (by decide) (by decide) (by decide) (fun c_7 => by omega) (fun c_7 => ?_)
    refine a_iloadn_2 (pc := 10) dX5_isUnder_10 ?_
    refine n_if_lt (tgt := 31) dX5_isUnder_11 (by decide) (by decide) ?_
    refine a_iloadn_2 (pc := 14) dX5_isUnder_14 ?_
    refine a_iloadn_1 (pc := 15) dX5_isUnder_15 ?_
    refine n_icmp_eq (tgt := 31) dX5_isUnder_16 (by decide) (by decide) (by decide) (fun c_16 => ?_) (fun c_16 => by omega)
    refine a_iloadn_2 (pc := 31) dX5_isUnder_31 ?_
    refine a_iloadn_1 (pc := 32) dX5_isUnder_32 ?_
    refine n_icmp_ne (tgt := 40) dX5_isUnder_33 (by decide) (by decide) (by decide) (fun c_33 => by omega) (fun c_33 => ?_)
    refine a_iconst (pc := 36) (v := nI 1) dX5_isUnder_36 (by decide) ?_
    refine a_goto (pc := 37) (tgt := 41) dX5_isUnder_37 (by decide) ?_
    exact a_zret (pc := 41) dX5_isUnder_41 rfl (by first | rfl | exact bI_nar _ | decide) (zf hz) (by rw [show decide (5 ∈ chn 5) = true by decide] at k; exact k)
  · refine AM.of [some (.int (nI (5))), some (.int (nI 6)), none, none] pnX5 (Nat.le_of_ble_eq_true rfl) (by simp [lsub, lvI, Value.category]) ?_
    refine a_iloadn_0 (pc := 0) dX5_isUnder_0 ?_
    refine a_istoren_2 (pc := 1) dX5_isUnder_1 (by decide) (by first | rfl | trivial) ?_
    refine a_iconst (pc := 2) (v := nI 0) dX5_isUnder_2 (by decide) ?_
    refine a_istoren_3 (pc := 3) dX5_isUnder_3 (by decide) (by first | rfl | trivial) ?_
    refine a_iloadn_3 (pc := 4) dX5_isUnder_4 ?_
    refine a_bipush (pc := 5) (v := nI 8) dX5_isUnder_5 (by decide) ?_
    refine n_icmp_ge (tgt := 31) dX5_isUnder_7 (by decide) (by decide) (by decide) (fun c_7 => by omega) (fun c_7 => ?_)
    refine a_iloadn_2 (pc := 10) dX5_isUnder_10 ?_
    refine n_if_lt (tgt := 31) dX5_isUnder_11 (by decide) (by decide) ?_
    refine a_iloadn_2 (pc := 14) dX5_isUnder_14 ?_
    refine a_iloadn_1 (pc := 15) dX5_isUnder_15 ?_
    refine n_icmp_eq (tgt := 31) dX5_isUnder_16 (by decide) (by decide) (by decide) (fun c_16 => by omega) (fun c_16 => ?_)
    refine a_gets (pc := 19) (i := 3) (by decide) dX5_isUnder_19 rfl w_897 ?_
    refine a_iloadn_2 (pc := 22) dX5_isUnder_22 ?_
    refine a_sil (pc := 23) 5 (t := 3) (by decide) dX5_isUnder_23 rfl (by decide) ?_
    refine a_topi (nI 3) (by decide) ?_
    refine a_istoren_2 (pc := 24) dX5_isUnder_24 (by decide) (by first | rfl | trivial) ?_
    refine a_iinc_3 (pc := 25) (v := nI (1)) dX5_isUnder_25 (nI_add _ _) (by decide) (by first | rfl | trivial) ?_
    refine a_goto (pc := 28) (tgt := 4) dX5_isUnder_28 (by decide) ?_
    refine a_iloadn_3 (pc := 4) dX5_isUnder_4 ?_
    refine a_bipush (pc := 5) (v := nI 8) dX5_isUnder_5 (by decide) ?_
    refine n_icmp_ge (tgt := 31) dX5_isUnder_7 (by decide) (by decide) (by decide) (fun c_7 => by omega) (fun c_7 => ?_)
    refine a_iloadn_2 (pc := 10) dX5_isUnder_10 ?_
    refine n_if_lt (tgt := 31) dX5_isUnder_11 (by decide) (by decide) ?_
    refine a_iloadn_2 (pc := 14) dX5_isUnder_14 ?_
    refine a_iloadn_1 (pc := 15) dX5_isUnder_15 ?_
    refine n_icmp_eq (tgt := 31) dX5_isUnder_16 (by decide) (by decide) (by decide) (fun c_16 => by omega) (fun c_16 => ?_)
    refine a_gets (pc := 19) (i := 3) (by decide) dX5_isUnder_19 rfl w_897 ?_
    refine a_iloadn_2 (pc := 22) dX5_isUnder_22 ?_
    refine a_sil (pc := 23) 3 (t := 3) (by decide) dX5_isUnder_23 rfl (by decide) ?_
    refine a_topi (nI 2) (by decide) ?_
    refine a_istoren_2 (pc := 24) dX5_isUnder_24 (by decide) (by first | rfl | trivial) ?_
    refine a_iinc_3 (pc := 25) (v := nI (2)) dX5_isUnder_25 (nI_add _ _) (by decide) (by first | rfl | trivial) ?_
    refine a_goto (pc := 28) (tgt := 4) dX5_isUnder_28 (by decide) ?_
    refine a_iloadn_3 (pc := 4) dX5_isUnder_4 ?_
    refine a_bipush (pc := 5) (v := nI 8) dX5_isUnder_5 (by decide) ?_
    refine n_icmp_ge (tgt := 31) dX5_isUnder_7 (by decide) (by decide) (by decide) (fun c_7 => by omega) (fun c_7 => ?_)
    refine a_iloadn_2 (pc := 10) dX5_isUnder_10 ?_
    refine n_if_lt (tgt := 31) dX5_isUnder_11 (by decide) (by decide) ?_
    refine a_iloadn_2 (pc := 14) dX5_isUnder_14 ?_
    refine a_iloadn_1 (pc := 15) dX5_isUnder_15 ?_
    refine n_icmp_eq (tgt := 31) dX5_isUnder_16 (by decide) (by decide) (by decide) (fun c_16 => by omega) (fun c_16 => ?_)
    refine a_gets (pc := 19) (i := 3) (by decide) dX5_isUnder_19 rfl w_897 ?_
    refine a_iloadn_2 (pc := 22) dX5_isUnder_22 ?_
    refine a_sil (pc := 23) 2 (t := 3) (by decide) dX5_isUnder_23 rfl (by decide) ?_
    refine a_topi (nI 0) (by decide) ?_
    refine a_istoren_2 (pc := 24) dX5_isUnder_24 (by decide) (by first | rfl | trivial) ?_
    refine a_iinc_3 (pc := 25) (v := nI (3)) dX5_isUnder_25 (nI_add _ _) (by decide) (by first | rfl | trivial) ?_
    refine a_goto (pc := 28) (tgt := 4) dX5_isUnder_28 (by decide) ?_
    refine a_iloadn_3 (pc := 4) dX5_isUnder_4 ?_
    refine a_bipush (pc := 5) (v := nI 8) dX5_isUnder_5 (by decide) ?_
    refine n_icmp_ge (tgt := 31) dX5_isUnder_7 (by decide) (by decide) (by decide) (fun c_7 => by omega) (fun c_7 => ?_)
    refine a_iloadn_2 (pc := 10) dX5_isUnder_10 ?_
    refine n_if_lt (tgt := 31) dX5_isUnder_11 (by decide) (by decide) ?_
    refine a_iloadn_2 (pc := 14) dX5_isUnder_14 ?_
    refine a_iloadn_1 (pc := 15) dX5_isUnder_15 ?_
    refine n_icmp_eq (tgt := 31) dX5_isUnder_16 (by decide) (by decide) (by decide) (fun c_16 => by omega) (fun c_16 => ?_)
    refine a_gets (pc := 19) (i := 3) (by decide) dX5_isUnder_19 rfl w_897 ?_
    refine a_iloadn_2 (pc := 22) dX5_isUnder_22 ?_
    refine a_sil (pc := 23) 0 (t := 3) (by decide) dX5_isUnder_23 rfl (by decide) ?_
    refine a_topi ((-1)) (by decide) ?_
    refine a_istoren_2 (pc := 24) dX5_isUnder_24 (by decide) (by first | rfl | trivial) ?_
    refine a_iinc_3 (pc := 25) (v := nI (4)) dX5_isUnder_25 (nI_add _ _) (by decide) (by first | rfl | trivial) ?_
    refine a_goto (pc := 28) (tgt := 4) dX5_isUnder_28 (by decide) ?_
    refine a_iloadn_3 (pc := 4) dX5_isUnder_4 ?_
    refine a_bipush (pc := 5) (v := nI 8) dX5_isUnder_5 (by decide) ?_
    refine n_icmp_ge (tgt := 31) dX5_isUnder_7 (by decide) (by decide) (by decide) (fun c_7 => by omega) (fun c_7 => ?_)
    refine a_iloadn_2 (pc := 10) dX5_isUnder_10 ?_
    refine a_if_lt (pc := 11) (tgt := 31) dX5_isUnder_11 (by decide) (fun c_11 => ?_) (fun c_11 => absurd c_11 (by decide))
    refine a_iloadn_2 (pc := 31) dX5_isUnder_31 ?_
    refine a_iloadn_1 (pc := 32) dX5_isUnder_32 ?_
    refine a_icmp_ne (pc := 33) (tgt := 40) dX5_isUnder_33 (by decide) (fun c_33 => ?_) (fun c_33 => absurd c_33 (by decide))
    refine a_iconst (pc := 40) (v := nI 0) dX5_isUnder_40 (by decide) ?_
    exact a_zret (pc := 41) dX5_isUnder_41 rfl (by first | rfl | exact bI_nar _ | decide) (zf hz) (by rw [show decide (6 ∈ chn 5) = false by decide] at k; exact k)
  · refine AM.of [some (.int (nI (5))), some (.int (nI 7)), none, none] pnX5 (Nat.le_of_ble_eq_true rfl) (by simp [lsub, lvI, Value.category]) ?_
    refine a_iloadn_0 (pc := 0) dX5_isUnder_0 ?_
    refine a_istoren_2 (pc := 1) dX5_isUnder_1 (by decide) (by first | rfl | trivial) ?_
    refine a_iconst (pc := 2) (v := nI 0) dX5_isUnder_2 (by decide) ?_
    refine a_istoren_3 (pc := 3) dX5_isUnder_3 (by decide) (by first | rfl | trivial) ?_
    refine a_iloadn_3 (pc := 4) dX5_isUnder_4 ?_
    refine a_bipush (pc := 5) (v := nI 8) dX5_isUnder_5 (by decide) ?_
    refine n_icmp_ge (tgt := 31) dX5_isUnder_7 (by decide) (by decide) (by decide) (fun c_7 => by omega) (fun c_7 => ?_)
    refine a_iloadn_2 (pc := 10) dX5_isUnder_10 ?_
    refine n_if_lt (tgt := 31) dX5_isUnder_11 (by decide) (by decide) ?_
    refine a_iloadn_2 (pc := 14) dX5_isUnder_14 ?_
    refine a_iloadn_1 (pc := 15) dX5_isUnder_15 ?_
    refine n_icmp_eq (tgt := 31) dX5_isUnder_16 (by decide) (by decide) (by decide) (fun c_16 => by omega) (fun c_16 => ?_)
    refine a_gets (pc := 19) (i := 3) (by decide) dX5_isUnder_19 rfl w_897 ?_
    refine a_iloadn_2 (pc := 22) dX5_isUnder_22 ?_
    refine a_sil (pc := 23) 5 (t := 3) (by decide) dX5_isUnder_23 rfl (by decide) ?_
    refine a_topi (nI 3) (by decide) ?_
    refine a_istoren_2 (pc := 24) dX5_isUnder_24 (by decide) (by first | rfl | trivial) ?_
    refine a_iinc_3 (pc := 25) (v := nI (1)) dX5_isUnder_25 (nI_add _ _) (by decide) (by first | rfl | trivial) ?_
    refine a_goto (pc := 28) (tgt := 4) dX5_isUnder_28 (by decide) ?_
    refine a_iloadn_3 (pc := 4) dX5_isUnder_4 ?_
    refine a_bipush (pc := 5) (v := nI 8) dX5_isUnder_5 (by decide) ?_
    refine n_icmp_ge (tgt := 31) dX5_isUnder_7 (by decide) (by decide) (by decide) (fun c_7 => by omega) (fun c_7 => ?_)
    refine a_iloadn_2 (pc := 10) dX5_isUnder_10 ?_
    refine n_if_lt (tgt := 31) dX5_isUnder_11 (by decide) (by decide) ?_
    refine a_iloadn_2 (pc := 14) dX5_isUnder_14 ?_
    refine a_iloadn_1 (pc := 15) dX5_isUnder_15 ?_
    refine n_icmp_eq (tgt := 31) dX5_isUnder_16 (by decide) (by decide) (by decide) (fun c_16 => by omega) (fun c_16 => ?_)
    refine a_gets (pc := 19) (i := 3) (by decide) dX5_isUnder_19 rfl w_897 ?_
    refine a_iloadn_2 (pc := 22) dX5_isUnder_22 ?_
    refine a_sil (pc := 23) 3 (t := 3) (by decide) dX5_isUnder_23 rfl (by decide) ?_
    refine a_topi (nI 2) (by decide) ?_
    refine a_istoren_2 (pc := 24) dX5_isUnder_24 (by decide) (by first | rfl | trivial) ?_
    refine a_iinc_3 (pc := 25) (v := nI (2)) dX5_isUnder_25 (nI_add _ _) (by decide) (by first | rfl | trivial) ?_
    refine a_goto (pc := 28) (tgt := 4) dX5_isUnder_28 (by decide) ?_
    refine a_iloadn_3 (pc := 4) dX5_isUnder_4 ?_
    refine a_bipush (pc := 5) (v := nI 8) dX5_isUnder_5 (by decide) ?_
    refine n_icmp_ge (tgt := 31) dX5_isUnder_7 (by decide) (by decide) (by decide) (fun c_7 => by omega) (fun c_7 => ?_)
    refine a_iloadn_2 (pc := 10) dX5_isUnder_10 ?_
    refine n_if_lt (tgt := 31) dX5_isUnder_11 (by decide) (by decide) ?_
    refine a_iloadn_2 (pc := 14) dX5_isUnder_14 ?_
    refine a_iloadn_1 (pc := 15) dX5_isUnder_15 ?_
    refine n_icmp_eq (tgt := 31) dX5_isUnder_16 (by decide) (by decide) (by decide) (fun c_16 => by omega) (fun c_16 => ?_)
    refine a_gets (pc := 19) (i := 3) (by decide) dX5_isUnder_19 rfl w_897 ?_
    refine a_iloadn_2 (pc := 22) dX5_isUnder_22 ?_
    refine a_sil (pc := 23) 2 (t := 3) (by decide) dX5_isUnder_23 rfl (by decide) ?_
    refine a_topi (nI 0) (by decide) ?_
    refine a_istoren_2 (pc := 24) dX5_isUnder_24 (by decide) (by first | rfl | trivial) ?_
    refine a_iinc_3 (pc := 25) (v := nI (3)) dX5_isUnder_25 (nI_add _ _) (by decide) (by first | rfl | trivial) ?_
    refine a_goto (pc := 28) (tgt := 4) dX5_isUnder_28 (by decide) ?_
    refine a_iloadn_3 (pc := 4) dX5_isUnder_4 ?_
    refine a_bipush (pc := 5) (v := nI 8) dX5_isUnder_5 (by decide) ?_
    refine n_icmp_ge (tgt := 31) dX5_isUnder_7 (by decide) (by decide) (by decide) (fun c_7 => by omega) (fun c_7 => ?_)
    refine a_iloadn_2 (pc := 10) dX5_isUnder_10 ?_
    refine n_if_lt (tgt := 31) dX5_isUnder_11 (by decide) (by decide) ?_
    refine a_iloadn_2 (pc := 14) dX5_isUnder_14 ?_
    refine a_iloadn_1 (pc := 15) dX5_isUnder_15 ?_
    refine n_icmp_eq (tgt := 31) dX5_isUnder_16 (by decide) (by decide) (by decide) (fun c_16 => by omega) (fun c_16 => ?_)
    refine a_gets (pc := 19) (i := 3) (by decide) dX5_isUnder_19 rfl w_897 ?_
    refine a_iloadn_2 (pc := 22) dX5_isUnder_22 ?_
    refine a_sil (pc := 23) 0 (t := 3) (by decide) dX5_isUnder_23 rfl (by decide) ?_
    refine a_topi ((-1)) (by decide) ?_
    refine a_istoren_2 (pc := 24) dX5_isUnder_24 (by decide) (by first | rfl | trivial) ?_
    refine a_iinc_3 (pc := 25) (v := nI (4)) dX5_isUnder_25 (nI_add _ _) (by decide) (by first | rfl | trivial) ?_
    refine a_goto (pc := 28) (tgt := 4) dX5_isUnder_28 (by decide) ?_
    refine a_iloadn_3 (pc := 4) dX5_isUnder_4 ?_
    refine a_bipush (pc := 5) (v := nI 8) dX5_isUnder_5 (by decide) ?_
    refine n_icmp_ge (tgt := 31) dX5_isUnder_7 (by decide) (by decide) (by decide) (fun c_7 => by omega) (fun c_7 => ?_)
    refine a_iloadn_2 (pc := 10) dX5_isUnder_10 ?_
    refine a_if_lt (pc := 11) (tgt := 31) dX5_isUnder_11 (by decide) (fun c_11 => ?_) (fun c_11 => absurd c_11 (by decide))
    refine a_iloadn_2 (pc := 31) dX5_isUnder_31 ?_
    refine a_iloadn_1 (pc := 32) dX5_isUnder_32 ?_
    refine a_icmp_ne (pc := 33) (tgt := 40) dX5_isUnder_33 (by decide) (fun c_33 => ?_) (fun c_33 => absurd c_33 (by decide))
    refine a_iconst (pc := 40) (v := nI 0) dX5_isUnder_40 (by decide) ?_
    exact a_zret (pc := 41) dX5_isUnder_41 rfl (by first | rfl | exact bI_nar _ | decide) (zf hz) (by rw [show decide (7 ∈ chn 5) = false by decide] at k; exact k)

set_option maxRecDepth 100000 in
set_option maxHeartbeats 4000000 in
theorem k_isUnder_6 {G : Cx} {d t : Nat} {h : List va_E} {Q : Option Value → List va_E → Prop} (hd : 1 ≤ d) (hz : gz G = false) (ht : t < 8) (k : Q (some (.int (bI (decide (t ∈ chn 6))))) h) : AM G yX5_isUnder cX5_isUnder 4 (some .boolean) d 0 0 [.int (nI (6)), .int (nI t)] h Q := by
  obtain ⟨d, rfl, he⟩ := dpos hd
  rcases k8 ht with rfl | rfl | rfl | rfl | rfl | rfl | rfl | rfl
  · refine AM.of [some (.int (nI (6))), some (.int (nI 0)), none, none] pnX5 (Nat.le_of_ble_eq_true rfl) (by simp [lsub, lvI, Value.category]) ?_
    refine a_iloadn_0 (pc := 0) dX5_isUnder_0 ?_
    refine a_istoren_2 (pc := 1) dX5_isUnder_1 (by decide) (by first | rfl | trivial) ?_
    refine a_iconst (pc := 2) (v := nI 0) dX5_isUnder_2 (by decide) ?_
    refine a_istoren_3 (pc := 3) dX5_isUnder_3 (by decide) (by first | rfl | trivial) ?_
    refine a_iloadn_3 (pc := 4) dX5_isUnder_4 ?_
    refine a_bipush (pc := 5) (v := nI 8) dX5_isUnder_5 (by decide) ?_
    refine n_icmp_ge (tgt := 31) dX5_isUnder_7 (by decide) (by decide) (by decide) (fun c_7 => by omega) (fun c_7 => ?_)
    refine a_iloadn_2 (pc := 10) dX5_isUnder_10 ?_
    refine n_if_lt (tgt := 31) dX5_isUnder_11 (by decide) (by decide) ?_
    refine a_iloadn_2 (pc := 14) dX5_isUnder_14 ?_
    refine a_iloadn_1 (pc := 15) dX5_isUnder_15 ?_
    refine n_icmp_eq (tgt := 31) dX5_isUnder_16 (by decide) (by decide) (by decide) (fun c_16 => by omega) (fun c_16 => ?_)
    refine a_gets (pc := 19) (i := 3) (by decide) dX5_isUnder_19 rfl w_897 ?_
    refine a_iloadn_2 (pc := 22) dX5_isUnder_22 ?_
    refine a_sil (pc := 23) 6 (t := 3) (by decide) dX5_isUnder_23 rfl (by decide) ?_
    refine a_topi (nI 0) (by decide) ?_
    refine a_istoren_2 (pc := 24) dX5_isUnder_24 (by decide) (by first | rfl | trivial) ?_
    refine a_iinc_3 (pc := 25) (v := nI (1)) dX5_isUnder_25 (nI_add _ _) (by decide) (by first | rfl | trivial) ?_
    refine a_goto (pc := 28) (tgt := 4) dX5_isUnder_28 (by decide) ?_
    refine a_iloadn_3 (pc := 4) dX5_isUnder_4 ?_
    refine a_bipush (pc := 5) (v := nI 8) dX5_isUnder_5 (by decide) ?_
    refine n_icmp_ge (tgt := 31) dX5_isUnder_7 (by decide) (by decide) (by decide) (fun c_7 => by omega) (fun c_7 => ?_)
    refine a_iloadn_2 (pc := 10) dX5_isUnder_10 ?_
    refine n_if_lt (tgt := 31) dX5_isUnder_11 (by decide) (by decide) ?_
    refine a_iloadn_2 (pc := 14) dX5_isUnder_14 ?_
    refine a_iloadn_1 (pc := 15) dX5_isUnder_15 ?_
    refine n_icmp_eq (tgt := 31) dX5_isUnder_16 (by decide) (by decide) (by decide) (fun c_16 => ?_) (fun c_16 => by omega)
    refine a_iloadn_2 (pc := 31) dX5_isUnder_31 ?_
    refine a_iloadn_1 (pc := 32) dX5_isUnder_32 ?_
    refine n_icmp_ne (tgt := 40) dX5_isUnder_33 (by decide) (by decide) (by decide) (fun c_33 => by omega) (fun c_33 => ?_)
    refine a_iconst (pc := 36) (v := nI 1) dX5_isUnder_36 (by decide) ?_
    refine a_goto (pc := 37) (tgt := 41) dX5_isUnder_37 (by decide) ?_
    exact a_zret (pc := 41) dX5_isUnder_41 rfl (by first | rfl | exact bI_nar _ | decide) (zf hz) (by rw [show decide (0 ∈ chn 6) = true by decide] at k; exact k)
  · refine AM.of [some (.int (nI (6))), some (.int (nI 1)), none, none] pnX5 (Nat.le_of_ble_eq_true rfl) (by simp [lsub, lvI, Value.category]) ?_
    refine a_iloadn_0 (pc := 0) dX5_isUnder_0 ?_
    refine a_istoren_2 (pc := 1) dX5_isUnder_1 (by decide) (by first | rfl | trivial) ?_
    refine a_iconst (pc := 2) (v := nI 0) dX5_isUnder_2 (by decide) ?_
    refine a_istoren_3 (pc := 3) dX5_isUnder_3 (by decide) (by first | rfl | trivial) ?_
    refine a_iloadn_3 (pc := 4) dX5_isUnder_4 ?_
    refine a_bipush (pc := 5) (v := nI 8) dX5_isUnder_5 (by decide) ?_
    refine n_icmp_ge (tgt := 31) dX5_isUnder_7 (by decide) (by decide) (by decide) (fun c_7 => by omega) (fun c_7 => ?_)
    refine a_iloadn_2 (pc := 10) dX5_isUnder_10 ?_
    refine n_if_lt (tgt := 31) dX5_isUnder_11 (by decide) (by decide) ?_
    refine a_iloadn_2 (pc := 14) dX5_isUnder_14 ?_
    refine a_iloadn_1 (pc := 15) dX5_isUnder_15 ?_
    refine n_icmp_eq (tgt := 31) dX5_isUnder_16 (by decide) (by decide) (by decide) (fun c_16 => by omega) (fun c_16 => ?_)
    refine a_gets (pc := 19) (i := 3) (by decide) dX5_isUnder_19 rfl w_897 ?_
    refine a_iloadn_2 (pc := 22) dX5_isUnder_22 ?_
    refine a_sil (pc := 23) 6 (t := 3) (by decide) dX5_isUnder_23 rfl (by decide) ?_
    refine a_topi (nI 0) (by decide) ?_
    refine a_istoren_2 (pc := 24) dX5_isUnder_24 (by decide) (by first | rfl | trivial) ?_
    refine a_iinc_3 (pc := 25) (v := nI (1)) dX5_isUnder_25 (nI_add _ _) (by decide) (by first | rfl | trivial) ?_
    refine a_goto (pc := 28) (tgt := 4) dX5_isUnder_28 (by decide) ?_
    refine a_iloadn_3 (pc := 4) dX5_isUnder_4 ?_
    refine a_bipush (pc := 5) (v := nI 8) dX5_isUnder_5 (by decide) ?_
    refine n_icmp_ge (tgt := 31) dX5_isUnder_7 (by decide) (by decide) (by decide) (fun c_7 => by omega) (fun c_7 => ?_)
    refine a_iloadn_2 (pc := 10) dX5_isUnder_10 ?_
    refine n_if_lt (tgt := 31) dX5_isUnder_11 (by decide) (by decide) ?_
    refine a_iloadn_2 (pc := 14) dX5_isUnder_14 ?_
    refine a_iloadn_1 (pc := 15) dX5_isUnder_15 ?_
    refine n_icmp_eq (tgt := 31) dX5_isUnder_16 (by decide) (by decide) (by decide) (fun c_16 => by omega) (fun c_16 => ?_)
    refine a_gets (pc := 19) (i := 3) (by decide) dX5_isUnder_19 rfl w_897 ?_
    refine a_iloadn_2 (pc := 22) dX5_isUnder_22 ?_
    refine a_sil (pc := 23) 0 (t := 3) (by decide) dX5_isUnder_23 rfl (by decide) ?_
    refine a_topi ((-1)) (by decide) ?_
    refine a_istoren_2 (pc := 24) dX5_isUnder_24 (by decide) (by first | rfl | trivial) ?_
    refine a_iinc_3 (pc := 25) (v := nI (2)) dX5_isUnder_25 (nI_add _ _) (by decide) (by first | rfl | trivial) ?_
    refine a_goto (pc := 28) (tgt := 4) dX5_isUnder_28 (by decide) ?_
    refine a_iloadn_3 (pc := 4) dX5_isUnder_4 ?_
    refine a_bipush (pc := 5) (v := nI 8) dX5_isUnder_5 (by decide) ?_
    refine n_icmp_ge (tgt := 31) dX5_isUnder_7 (by decide) (by decide) (by decide) (fun c_7 => by omega) (fun c_7 => ?_)
    refine a_iloadn_2 (pc := 10) dX5_isUnder_10 ?_
    refine a_if_lt (pc := 11) (tgt := 31) dX5_isUnder_11 (by decide) (fun c_11 => ?_) (fun c_11 => absurd c_11 (by decide))
    refine a_iloadn_2 (pc := 31) dX5_isUnder_31 ?_
    refine a_iloadn_1 (pc := 32) dX5_isUnder_32 ?_
    refine a_icmp_ne (pc := 33) (tgt := 40) dX5_isUnder_33 (by decide) (fun c_33 => ?_) (fun c_33 => absurd c_33 (by decide))
    refine a_iconst (pc := 40) (v := nI 0) dX5_isUnder_40 (by decide) ?_
    exact a_zret (pc := 41) dX5_isUnder_41 rfl (by first | rfl | exact bI_nar _ | decide) (zf hz) (by rw [show decide (1 ∈ chn 6) = false by decide] at k; exact k)
  · refine AM.of [some (.int (nI (6))), some (.int (nI 2)), none, none] pnX5 (Nat.le_of_ble_eq_true rfl) (by simp [lsub, lvI, Value.category]) ?_
    refine a_iloadn_0 (pc := 0) dX5_isUnder_0 ?_
    refine a_istoren_2 (pc := 1) dX5_isUnder_1 (by decide) (by first | rfl | trivial) ?_
    refine a_iconst (pc := 2) (v := nI 0) dX5_isUnder_2 (by decide) ?_
    refine a_istoren_3 (pc := 3) dX5_isUnder_3 (by decide) (by first | rfl | trivial) ?_
    refine a_iloadn_3 (pc := 4) dX5_isUnder_4 ?_
    refine a_bipush (pc := 5) (v := nI 8) dX5_isUnder_5 (by decide) ?_
    refine n_icmp_ge (tgt := 31) dX5_isUnder_7 (by decide) (by decide) (by decide) (fun c_7 => by omega) (fun c_7 => ?_)
    refine a_iloadn_2 (pc := 10) dX5_isUnder_10 ?_
    refine n_if_lt (tgt := 31) dX5_isUnder_11 (by decide) (by decide) ?_
    refine a_iloadn_2 (pc := 14) dX5_isUnder_14 ?_
    refine a_iloadn_1 (pc := 15) dX5_isUnder_15 ?_
    refine n_icmp_eq (tgt := 31) dX5_isUnder_16 (by decide) (by decide) (by decide) (fun c_16 => by omega) (fun c_16 => ?_)
    refine a_gets (pc := 19) (i := 3) (by decide) dX5_isUnder_19 rfl w_897 ?_
    refine a_iloadn_2 (pc := 22) dX5_isUnder_22 ?_
    refine a_sil (pc := 23) 6 (t := 3) (by decide) dX5_isUnder_23 rfl (by decide) ?_
    refine a_topi (nI 0) (by decide) ?_
    refine a_istoren_2 (pc := 24) dX5_isUnder_24 (by decide) (by first | rfl | trivial) ?_
    refine a_iinc_3 (pc := 25) (v := nI (1)) dX5_isUnder_25 (nI_add _ _) (by decide) (by first | rfl | trivial) ?_
    refine a_goto (pc := 28) (tgt := 4) dX5_isUnder_28 (by decide) ?_
    refine a_iloadn_3 (pc := 4) dX5_isUnder_4 ?_
    refine a_bipush (pc := 5) (v := nI 8) dX5_isUnder_5 (by decide) ?_
    refine n_icmp_ge (tgt := 31) dX5_isUnder_7 (by decide) (by decide) (by decide) (fun c_7 => by omega) (fun c_7 => ?_)
    refine a_iloadn_2 (pc := 10) dX5_isUnder_10 ?_
    refine n_if_lt (tgt := 31) dX5_isUnder_11 (by decide) (by decide) ?_
    refine a_iloadn_2 (pc := 14) dX5_isUnder_14 ?_
    refine a_iloadn_1 (pc := 15) dX5_isUnder_15 ?_
    refine n_icmp_eq (tgt := 31) dX5_isUnder_16 (by decide) (by decide) (by decide) (fun c_16 => by omega) (fun c_16 => ?_)
    refine a_gets (pc := 19) (i := 3) (by decide) dX5_isUnder_19 rfl w_897 ?_
    refine a_iloadn_2 (pc := 22) dX5_isUnder_22 ?_
    refine a_sil (pc := 23) 0 (t := 3) (by decide) dX5_isUnder_23 rfl (by decide) ?_
    refine a_topi ((-1)) (by decide) ?_
    refine a_istoren_2 (pc := 24) dX5_isUnder_24 (by decide) (by first | rfl | trivial) ?_
    refine a_iinc_3 (pc := 25) (v := nI (2)) dX5_isUnder_25 (nI_add _ _) (by decide) (by first | rfl | trivial) ?_
    refine a_goto (pc := 28) (tgt := 4) dX5_isUnder_28 (by decide) ?_
    refine a_iloadn_3 (pc := 4) dX5_isUnder_4 ?_
    refine a_bipush (pc := 5) (v := nI 8) dX5_isUnder_5 (by decide) ?_
    refine n_icmp_ge (tgt := 31) dX5_isUnder_7 (by decide) (by decide) (by decide) (fun c_7 => by omega) (fun c_7 => ?_)
    refine a_iloadn_2 (pc := 10) dX5_isUnder_10 ?_
    refine a_if_lt (pc := 11) (tgt := 31) dX5_isUnder_11 (by decide) (fun c_11 => ?_) (fun c_11 => absurd c_11 (by decide))
    refine a_iloadn_2 (pc := 31) dX5_isUnder_31 ?_
    refine a_iloadn_1 (pc := 32) dX5_isUnder_32 ?_
    refine a_icmp_ne (pc := 33) (tgt := 40) dX5_isUnder_33 (by decide) (fun c_33 => ?_) (fun c_33 => absurd c_33 (by decide))
    refine a_iconst (pc := 40) (v := nI 0) dX5_isUnder_40 (by decide) ?_
    exact a_zret (pc := 41) dX5_isUnder_41 rfl (by first | rfl | exact bI_nar _ | decide) (zf hz) (by rw [show decide (2 ∈ chn 6) = false by decide] at k; exact k)
  · refine AM.of [some (.int (nI (6))), some (.int (nI 3)), none, none] pnX5 (Nat.le_of_ble_eq_true rfl) (by simp [lsub, lvI, Value.category]) ?_
    refine a_iloadn_0 (pc := 0) dX5_isUnder_0 ?_
    refine a_istoren_2 (pc := 1) dX5_isUnder_1 (by decide) (by first | rfl | trivial) ?_
    refine a_iconst (pc := 2) (v := nI 0) dX5_isUnder_2 (by decide) ?_
    refine a_istoren_3 (pc := 3) dX5_isUnder_3 (by decide) (by first | rfl | trivial) ?_
    refine a_iloadn_3 (pc := 4) dX5_isUnder_4 ?_
    refine a_bipush (pc := 5) (v := nI 8) dX5_isUnder_5 (by decide) ?_
    refine n_icmp_ge (tgt := 31) dX5_isUnder_7 (by decide) (by decide) (by decide) (fun c_7 => by omega) (fun c_7 => ?_)
    refine a_iloadn_2 (pc := 10) dX5_isUnder_10 ?_
    refine n_if_lt (tgt := 31) dX5_isUnder_11 (by decide) (by decide) ?_
    refine a_iloadn_2 (pc := 14) dX5_isUnder_14 ?_
    refine a_iloadn_1 (pc := 15) dX5_isUnder_15 ?_
    refine n_icmp_eq (tgt := 31) dX5_isUnder_16 (by decide) (by decide) (by decide) (fun c_16 => by omega) (fun c_16 => ?_)
    refine a_gets (pc := 19) (i := 3) (by decide) dX5_isUnder_19 rfl w_897 ?_
    refine a_iloadn_2 (pc := 22) dX5_isUnder_22 ?_
    refine a_sil (pc := 23) 6 (t := 3) (by decide) dX5_isUnder_23 rfl (by decide) ?_
    refine a_topi (nI 0) (by decide) ?_
    refine a_istoren_2 (pc := 24) dX5_isUnder_24 (by decide) (by first | rfl | trivial) ?_
    refine a_iinc_3 (pc := 25) (v := nI (1)) dX5_isUnder_25 (nI_add _ _) (by decide) (by first | rfl | trivial) ?_
    refine a_goto (pc := 28) (tgt := 4) dX5_isUnder_28 (by decide) ?_
    refine a_iloadn_3 (pc := 4) dX5_isUnder_4 ?_
    refine a_bipush (pc := 5) (v := nI 8) dX5_isUnder_5 (by decide) ?_
    refine n_icmp_ge (tgt := 31) dX5_isUnder_7 (by decide) (by decide) (by decide) (fun c_7 => by omega) (fun c_7 => ?_)
    refine a_iloadn_2 (pc := 10) dX5_isUnder_10 ?_
    refine n_if_lt (tgt := 31) dX5_isUnder_11 (by decide) (by decide) ?_
    refine a_iloadn_2 (pc := 14) dX5_isUnder_14 ?_
    refine a_iloadn_1 (pc := 15) dX5_isUnder_15 ?_
    refine n_icmp_eq (tgt := 31) dX5_isUnder_16 (by decide) (by decide) (by decide) (fun c_16 => by omega) (fun c_16 => ?_)
    refine a_gets (pc := 19) (i := 3) (by decide) dX5_isUnder_19 rfl w_897 ?_
    refine a_iloadn_2 (pc := 22) dX5_isUnder_22 ?_
    refine a_sil (pc := 23) 0 (t := 3) (by decide) dX5_isUnder_23 rfl (by decide) ?_
    refine a_topi ((-1)) (by decide) ?_
    refine a_istoren_2 (pc := 24) dX5_isUnder_24 (by decide) (by first | rfl | trivial) ?_
    refine a_iinc_3 (pc := 25) (v := nI (2)) dX5_isUnder_25 (nI_add _ _) (by decide) (by first | rfl | trivial) ?_
    refine a_goto (pc := 28) (tgt := 4) dX5_isUnder_28 (by decide) ?_
    refine a_iloadn_3 (pc := 4) dX5_isUnder_4 ?_
    refine a_bipush (pc := 5) (v := nI 8) dX5_isUnder_5 (by decide) ?_
    refine n_icmp_ge (tgt := 31) dX5_isUnder_7 (by decide) (by decide) (by decide) (fun c_7 => by omega) (fun c_7 => ?_)
    refine a_iloadn_2 (pc := 10) dX5_isUnder_10 ?_
    refine a_if_lt (pc := 11) (tgt := 31) dX5_isUnder_11 (by decide) (fun c_11 => ?_) (fun c_11 => absurd c_11 (by decide))
    refine a_iloadn_2 (pc := 31) dX5_isUnder_31 ?_
    refine a_iloadn_1 (pc := 32) dX5_isUnder_32 ?_
    refine a_icmp_ne (pc := 33) (tgt := 40) dX5_isUnder_33 (by decide) (fun c_33 => ?_) (fun c_33 => absurd c_33 (by decide))
    refine a_iconst (pc := 40) (v := nI 0) dX5_isUnder_40 (by decide) ?_
    exact a_zret (pc := 41) dX5_isUnder_41 rfl (by first | rfl | exact bI_nar _ | decide) (zf hz) (by rw [show decide (3 ∈ chn 6) = false by decide] at k; exact k)
  · refine AM.of [some (.int (nI (6))), some (.int (nI 4)), none, none] pnX5 (Nat.le_of_ble_eq_true rfl) (by simp [lsub, lvI, Value.category]) ?_
    refine a_iloadn_0 (pc := 0) dX5_isUnder_0 ?_
    refine a_istoren_2 (pc := 1) dX5_isUnder_1 (by decide) (by first | rfl | trivial) ?_
    refine a_iconst (pc := 2) (v := nI 0) dX5_isUnder_2 (by decide) ?_
    refine a_istoren_3 (pc := 3) dX5_isUnder_3 (by decide) (by first | rfl | trivial) ?_
    refine a_iloadn_3 (pc := 4) dX5_isUnder_4 ?_
    refine a_bipush (pc := 5) (v := nI 8) dX5_isUnder_5 (by decide) ?_
    refine n_icmp_ge (tgt := 31) dX5_isUnder_7 (by decide) (by decide) (by decide) (fun c_7 => by omega) (fun c_7 => ?_)
    refine a_iloadn_2 (pc := 10) dX5_isUnder_10 ?_
    refine n_if_lt (tgt := 31) dX5_isUnder_11 (by decide) (by decide) ?_
    refine a_iloadn_2 (pc := 14) dX5_isUnder_14 ?_
    refine a_iloadn_1 (pc := 15) dX5_isUnder_15 ?_
    refine n_icmp_eq (tgt := 31) dX5_isUnder_16 (by decide) (by decide) (by decide) (fun c_16 => by omega) (fun c_16 => ?_)
    refine a_gets (pc := 19) (i := 3) (by decide) dX5_isUnder_19 rfl w_897 ?_
    refine a_iloadn_2 (pc := 22) dX5_isUnder_22 ?_
    refine a_sil (pc := 23) 6 (t := 3) (by decide) dX5_isUnder_23 rfl (by decide) ?_
    refine a_topi (nI 0) (by decide) ?_
    refine a_istoren_2 (pc := 24) dX5_isUnder_24 (by decide) (by first | rfl | trivial) ?_
    refine a_iinc_3 (pc := 25) (v := nI (1)) dX5_isUnder_25 (nI_add _ _) (by decide) (by first | rfl | trivial) ?_
    refine a_goto (pc := 28) (tgt := 4) dX5_isUnder_28 (by decide) ?_
    refine a_iloadn_3 (pc := 4) dX5_isUnder_4 ?_
    refine a_bipush (pc := 5) (v := nI 8) dX5_isUnder_5 (by decide) ?_
    refine n_icmp_ge (tgt := 31) dX5_isUnder_7 (by decide) (by decide) (by decide) (fun c_7 => by omega) (fun c_7 => ?_)
    refine a_iloadn_2 (pc := 10) dX5_isUnder_10 ?_
    refine n_if_lt (tgt := 31) dX5_isUnder_11 (by decide) (by decide) ?_
    refine a_iloadn_2 (pc := 14) dX5_isUnder_14 ?_
    refine a_iloadn_1 (pc := 15) dX5_isUnder_15 ?_
    refine n_icmp_eq (tgt := 31) dX5_isUnder_16 (by decide) (by decide) (by decide) (fun c_16 => by omega) (fun c_16 => ?_)
    refine a_gets (pc := 19) (i := 3) (by decide) dX5_isUnder_19 rfl w_897 ?_
    refine a_iloadn_2 (pc := 22) dX5_isUnder_22 ?_
    refine a_sil (pc := 23) 0 (t := 3) (by decide) dX5_isUnder_23 rfl (by decide) ?_
    refine a_topi ((-1)) (by decide) ?_
    refine a_istoren_2 (pc := 24) dX5_isUnder_24 (by decide) (by first | rfl | trivial) ?_
    refine a_iinc_3 (pc := 25) (v := nI (2)) dX5_isUnder_25 (nI_add _ _) (by decide) (by first | rfl | trivial) ?_
    refine a_goto (pc := 28) (tgt := 4) dX5_isUnder_28 (by decide) ?_
    refine a_iloadn_3 (pc := 4) dX5_isUnder_4 ?_
    refine a_bipush (pc := 5) (v := nI 8) dX5_isUnder_5 (by decide) ?_
    refine n_icmp_ge (tgt := 31) dX5_isUnder_7 (by decide) (by decide) (by decide) (fun c_7 => by omega) (fun c_7 => ?_)
    refine a_iloadn_2 (pc := 10) dX5_isUnder_10 ?_
    refine a_if_lt (pc := 11) (tgt := 31) dX5_isUnder_11 (by decide) (fun c_11 => ?_) (fun c_11 => absurd c_11 (by decide))
    refine a_iloadn_2 (pc := 31) dX5_isUnder_31 ?_
    refine a_iloadn_1 (pc := 32) dX5_isUnder_32 ?_
    refine a_icmp_ne (pc := 33) (tgt := 40) dX5_isUnder_33 (by decide) (fun c_33 => ?_) (fun c_33 => absurd c_33 (by decide))
    refine a_iconst (pc := 40) (v := nI 0) dX5_isUnder_40 (by decide) ?_
    exact a_zret (pc := 41) dX5_isUnder_41 rfl (by first | rfl | exact bI_nar _ | decide) (zf hz) (by rw [show decide (4 ∈ chn 6) = false by decide] at k; exact k)
  · refine AM.of [some (.int (nI (6))), some (.int (nI 5)), none, none] pnX5 (Nat.le_of_ble_eq_true rfl) (by simp [lsub, lvI, Value.category]) ?_
    refine a_iloadn_0 (pc := 0) dX5_isUnder_0 ?_
    refine a_istoren_2 (pc := 1) dX5_isUnder_1 (by decide) (by first | rfl | trivial) ?_
    refine a_iconst (pc := 2) (v := nI 0) dX5_isUnder_2 (by decide) ?_
    refine a_istoren_3 (pc := 3) dX5_isUnder_3 (by decide) (by first | rfl | trivial) ?_
    refine a_iloadn_3 (pc := 4) dX5_isUnder_4 ?_
    refine a_bipush (pc := 5) (v := nI 8) dX5_isUnder_5 (by decide) ?_
    refine n_icmp_ge (tgt := 31) dX5_isUnder_7 (by decide) (by decide) (by decide) (fun c_7 => by omega) (fun c_7 => ?_)
    refine a_iloadn_2 (pc := 10) dX5_isUnder_10 ?_
    refine n_if_lt (tgt := 31) dX5_isUnder_11 (by decide) (by decide) ?_
    refine a_iloadn_2 (pc := 14) dX5_isUnder_14 ?_
    refine a_iloadn_1 (pc := 15) dX5_isUnder_15 ?_
    refine n_icmp_eq (tgt := 31) dX5_isUnder_16 (by decide) (by decide) (by decide) (fun c_16 => by omega) (fun c_16 => ?_)
    refine a_gets (pc := 19) (i := 3) (by decide) dX5_isUnder_19 rfl w_897 ?_
    refine a_iloadn_2 (pc := 22) dX5_isUnder_22 ?_
    refine a_sil (pc := 23) 6 (t := 3) (by decide) dX5_isUnder_23 rfl (by decide) ?_
    refine a_topi (nI 0) (by decide) ?_
    refine a_istoren_2 (pc := 24) dX5_isUnder_24 (by decide) (by first | rfl | trivial) ?_
    refine a_iinc_3 (pc := 25) (v := nI (1)) dX5_isUnder_25 (nI_add _ _) (by decide) (by first | rfl | trivial) ?_
    refine a_goto (pc := 28) (tgt := 4) dX5_isUnder_28 (by decide) ?_
    refine a_iloadn_3 (pc := 4) dX5_isUnder_4 ?_
    refine a_bipush (pc := 5) (v := nI 8) dX5_isUnder_5 (by decide) ?_
    refine n_icmp_ge (tgt := 31) dX5_isUnder_7 (by decide) (by decide) (by decide) (fun c_7 => by omega) (fun c_7 => ?_)
    refine a_iloadn_2 (pc := 10) dX5_isUnder_10 ?_
    refine n_if_lt (tgt := 31) dX5_isUnder_11 (by decide) (by decide) ?_
    refine a_iloadn_2 (pc := 14) dX5_isUnder_14 ?_
    refine a_iloadn_1 (pc := 15) dX5_isUnder_15 ?_
    refine n_icmp_eq (tgt := 31) dX5_isUnder_16 (by decide) (by decide) (by decide) (fun c_16 => by omega) (fun c_16 => ?_)
    refine a_gets (pc := 19) (i := 3) (by decide) dX5_isUnder_19 rfl w_897 ?_
    refine a_iloadn_2 (pc := 22) dX5_isUnder_22 ?_
    refine a_sil (pc := 23) 0 (t := 3) (by decide) dX5_isUnder_23 rfl (by decide) ?_
    refine a_topi ((-1)) (by decide) ?_
    refine a_istoren_2 (pc := 24) dX5_isUnder_24 (by decide) (by first | rfl | trivial) ?_
    refine a_iinc_3 (pc := 25) (v := nI (2)) dX5_isUnder_25 (nI_add _ _) (by decide) (by first | rfl | trivial) ?_
    refine a_goto (pc := 28) (tgt := 4) dX5_isUnder_28 (by decide) ?_
    refine a_iloadn_3 (pc := 4) dX5_isUnder_4 ?_
    refine a_bipush (pc := 5) (v := nI 8) dX5_isUnder_5 (by decide) ?_
    refine n_icmp_ge (tgt := 31) dX5_isUnder_7 (by decide) (by decide) (by decide) (fun c_7 => by omega) (fun c_7 => ?_)
    refine a_iloadn_2 (pc := 10) dX5_isUnder_10 ?_
    refine a_if_lt (pc := 11) (tgt := 31) dX5_isUnder_11 (by decide) (fun c_11 => ?_) (fun c_11 => absurd c_11 (by decide))
    refine a_iloadn_2 (pc := 31) dX5_isUnder_31 ?_
    refine a_iloadn_1 (pc := 32) dX5_isUnder_32 ?_
    refine a_icmp_ne (pc := 33) (tgt := 40) dX5_isUnder_33 (by decide) (fun c_33 => ?_) (fun c_33 => absurd c_33 (by decide))
    refine a_iconst (pc := 40) (v := nI 0) dX5_isUnder_40 (by decide) ?_
    exact a_zret (pc := 41) dX5_isUnder_41 rfl (by first | rfl | exact bI_nar _ | decide) (zf hz) (by rw [show decide (5 ∈ chn 6) = false by decide] at k; exact k)
  · refine AM.of [some (.int (nI (6))), some (.int (nI 6)), none, none] pnX5 (Nat.le_of_ble_eq_true rfl) (by simp [lsub, lvI, Value.category]) ?_
    refine a_iloadn_0 (pc := 0) dX5_isUnder_0 ?_
    refine a_istoren_2 (pc := 1) dX5_isUnder_1 (by decide) (by first | rfl | trivial) ?_
    refine a_iconst (pc := 2) (v := nI 0) dX5_isUnder_2 (by decide) ?_
    refine a_istoren_3 (pc := 3) dX5_isUnder_3 (by decide) (by first | rfl | trivial) ?_
    refine a_iloadn_3 (pc := 4) dX5_isUnder_4 ?_
    refine a_bipush (pc := 5) (v := nI 8) dX5_isUnder_5 (by decide) ?_
    refine n_icmp_ge (tgt := 31) dX5_isUnder_7 (by decide) (by decide) (by decide) (fun c_7 => by omega) (fun c_7 => ?_)
    refine a_iloadn_2 (pc := 10) dX5_isUnder_10 ?_
    refine n_if_lt (tgt := 31) dX5_isUnder_11 (by decide) (by decide) ?_
    refine a_iloadn_2 (pc := 14) dX5_isUnder_14 ?_
    refine a_iloadn_1 (pc := 15) dX5_isUnder_15 ?_
    refine n_icmp_eq (tgt := 31) dX5_isUnder_16 (by decide) (by decide) (by decide) (fun c_16 => ?_) (fun c_16 => by omega)
    refine a_iloadn_2 (pc := 31) dX5_isUnder_31 ?_
    refine a_iloadn_1 (pc := 32) dX5_isUnder_32 ?_
    refine n_icmp_ne (tgt := 40) dX5_isUnder_33 (by decide) (by decide) (by decide) (fun c_33 => by omega) (fun c_33 => ?_)
    refine a_iconst (pc := 36) (v := nI 1) dX5_isUnder_36 (by decide) ?_
    refine a_goto (pc := 37) (tgt := 41) dX5_isUnder_37 (by decide) ?_
    exact a_zret (pc := 41) dX5_isUnder_41 rfl (by first | rfl | exact bI_nar _ | decide) (zf hz) (by rw [show decide (6 ∈ chn 6) = true by decide] at k; exact k)
  · refine AM.of [some (.int (nI (6))), some (.int (nI 7)), none, none] pnX5 (Nat.le_of_ble_eq_true rfl) (by simp [lsub, lvI, Value.category]) ?_
    refine a_iloadn_0 (pc := 0) dX5_isUnder_0 ?_
    refine a_istoren_2 (pc := 1) dX5_isUnder_1 (by decide) (by first | rfl | trivial) ?_
    refine a_iconst (pc := 2) (v := nI 0) dX5_isUnder_2 (by decide) ?_
    refine a_istoren_3 (pc := 3) dX5_isUnder_3 (by decide) (by first | rfl | trivial) ?_
    refine a_iloadn_3 (pc := 4) dX5_isUnder_4 ?_
    refine a_bipush (pc := 5) (v := nI 8) dX5_isUnder_5 (by decide) ?_
    refine n_icmp_ge (tgt := 31) dX5_isUnder_7 (by decide) (by decide) (by decide) (fun c_7 => by omega) (fun c_7 => ?_)
    refine a_iloadn_2 (pc := 10) dX5_isUnder_10 ?_
    refine n_if_lt (tgt := 31) dX5_isUnder_11 (by decide) (by decide) ?_
    refine a_iloadn_2 (pc := 14) dX5_isUnder_14 ?_
    refine a_iloadn_1 (pc := 15) dX5_isUnder_15 ?_
    refine n_icmp_eq (tgt := 31) dX5_isUnder_16 (by decide) (by decide) (by decide) (fun c_16 => by omega) (fun c_16 => ?_)
    refine a_gets (pc := 19) (i := 3) (by decide) dX5_isUnder_19 rfl w_897 ?_
    refine a_iloadn_2 (pc := 22) dX5_isUnder_22 ?_
    refine a_sil (pc := 23) 6 (t := 3) (by decide) dX5_isUnder_23 rfl (by decide) ?_
    refine a_topi (nI 0) (by decide) ?_
    refine a_istoren_2 (pc := 24) dX5_isUnder_24 (by decide) (by first | rfl | trivial) ?_
    refine a_iinc_3 (pc := 25) (v := nI (1)) dX5_isUnder_25 (nI_add _ _) (by decide) (by first | rfl | trivial) ?_
    refine a_goto (pc := 28) (tgt := 4) dX5_isUnder_28 (by decide) ?_
    refine a_iloadn_3 (pc := 4) dX5_isUnder_4 ?_
    refine a_bipush (pc := 5) (v := nI 8) dX5_isUnder_5 (by decide) ?_
    refine n_icmp_ge (tgt := 31) dX5_isUnder_7 (by decide) (by decide) (by decide) (fun c_7 => by omega) (fun c_7 => ?_)
    refine a_iloadn_2 (pc := 10) dX5_isUnder_10 ?_
    refine n_if_lt (tgt := 31) dX5_isUnder_11 (by decide) (by decide) ?_
    refine a_iloadn_2 (pc := 14) dX5_isUnder_14 ?_
    refine a_iloadn_1 (pc := 15) dX5_isUnder_15 ?_
    refine n_icmp_eq (tgt := 31) dX5_isUnder_16 (by decide) (by decide) (by decide) (fun c_16 => by omega) (fun c_16 => ?_)
    refine a_gets (pc := 19) (i := 3) (by decide) dX5_isUnder_19 rfl w_897 ?_
    refine a_iloadn_2 (pc := 22) dX5_isUnder_22 ?_
    refine a_sil (pc := 23) 0 (t := 3) (by decide) dX5_isUnder_23 rfl (by decide) ?_
    refine a_topi ((-1)) (by decide) ?_
    refine a_istoren_2 (pc := 24) dX5_isUnder_24 (by decide) (by first | rfl | trivial) ?_
    refine a_iinc_3 (pc := 25) (v := nI (2)) dX5_isUnder_25 (nI_add _ _) (by decide) (by first | rfl | trivial) ?_
    refine a_goto (pc := 28) (tgt := 4) dX5_isUnder_28 (by decide) ?_
    refine a_iloadn_3 (pc := 4) dX5_isUnder_4 ?_
    refine a_bipush (pc := 5) (v := nI 8) dX5_isUnder_5 (by decide) ?_
    refine n_icmp_ge (tgt := 31) dX5_isUnder_7 (by decide) (by decide) (by decide) (fun c_7 => by omega) (fun c_7 => ?_)
    refine a_iloadn_2 (pc := 10) dX5_isUnder_10 ?_
    refine a_if_lt (pc := 11) (tgt := 31) dX5_isUnder_11 (by decide) (fun c_11 => ?_) (fun c_11 => absurd c_11 (by decide))
    refine a_iloadn_2 (pc := 31) dX5_isUnder_31 ?_
    refine a_iloadn_1 (pc := 32) dX5_isUnder_32 ?_
    refine a_icmp_ne (pc := 33) (tgt := 40) dX5_isUnder_33 (by decide) (fun c_33 => ?_) (fun c_33 => absurd c_33 (by decide))
    refine a_iconst (pc := 40) (v := nI 0) dX5_isUnder_40 (by decide) ?_
    exact a_zret (pc := 41) dX5_isUnder_41 rfl (by first | rfl | exact bI_nar _ | decide) (zf hz) (by rw [show decide (7 ∈ chn 6) = false by decide] at k; exact k)

set_option maxRecDepth 100000 in
set_option maxHeartbeats 4000000 in
theorem k_isUnder_7 {G : Cx} {d t : Nat} {h : List va_E} {Q : Option Value → List va_E → Prop} (hd : 1 ≤ d) (hz : gz G = false) (ht : t < 8) (k : Q (some (.int (bI (decide (t ∈ chn 7))))) h) : AM G yX5_isUnder cX5_isUnder 4 (some .boolean) d 0 0 [.int (nI (7)), .int (nI t)] h Q := by
  obtain ⟨d, rfl, he⟩ := dpos hd
  rcases k8 ht with rfl | rfl | rfl | rfl | rfl | rfl | rfl | rfl
  · refine AM.of [some (.int (nI (7))), some (.int (nI 0)), none, none] pnX5 (Nat.le_of_ble_eq_true rfl) (by simp [lsub, lvI, Value.category]) ?_
    refine a_iloadn_0 (pc := 0) dX5_isUnder_0 ?_
    refine a_istoren_2 (pc := 1) dX5_isUnder_1 (by decide) (by first | rfl | trivial) ?_
    refine a_iconst (pc := 2) (v := nI 0) dX5_isUnder_2 (by decide) ?_
    refine a_istoren_3 (pc := 3) dX5_isUnder_3 (by decide) (by first | rfl | trivial) ?_
    refine a_iloadn_3 (pc := 4) dX5_isUnder_4 ?_
    refine a_bipush (pc := 5) (v := nI 8) dX5_isUnder_5 (by decide) ?_
    refine n_icmp_ge (tgt := 31) dX5_isUnder_7 (by decide) (by decide) (by decide) (fun c_7 => by omega) (fun c_7 => ?_)
    refine a_iloadn_2 (pc := 10) dX5_isUnder_10 ?_
    refine n_if_lt (tgt := 31) dX5_isUnder_11 (by decide) (by decide) ?_
    refine a_iloadn_2 (pc := 14) dX5_isUnder_14 ?_
    refine a_iloadn_1 (pc := 15) dX5_isUnder_15 ?_
    refine n_icmp_eq (tgt := 31) dX5_isUnder_16 (by decide) (by decide) (by decide) (fun c_16 => by omega) (fun c_16 => ?_)
    refine a_gets (pc := 19) (i := 3) (by decide) dX5_isUnder_19 rfl w_897 ?_
    refine a_iloadn_2 (pc := 22) dX5_isUnder_22 ?_
    refine a_sil (pc := 23) 7 (t := 3) (by decide) dX5_isUnder_23 rfl (by decide) ?_
    refine a_topi (nI 4) (by decide) ?_
    refine a_istoren_2 (pc := 24) dX5_isUnder_24 (by decide) (by first | rfl | trivial) ?_
    refine a_iinc_3 (pc := 25) (v := nI (1)) dX5_isUnder_25 (nI_add _ _) (by decide) (by first | rfl | trivial) ?_
    refine a_goto (pc := 28) (tgt := 4) dX5_isUnder_28 (by decide) ?_
    refine a_iloadn_3 (pc := 4) dX5_isUnder_4 ?_
    refine a_bipush (pc := 5) (v := nI 8) dX5_isUnder_5 (by decide) ?_
    refine n_icmp_ge (tgt := 31) dX5_isUnder_7 (by decide) (by decide) (by decide) (fun c_7 => by omega) (fun c_7 => ?_)
    refine a_iloadn_2 (pc := 10) dX5_isUnder_10 ?_
    refine n_if_lt (tgt := 31) dX5_isUnder_11 (by decide) (by decide) ?_
    refine a_iloadn_2 (pc := 14) dX5_isUnder_14 ?_
    refine a_iloadn_1 (pc := 15) dX5_isUnder_15 ?_
    refine n_icmp_eq (tgt := 31) dX5_isUnder_16 (by decide) (by decide) (by decide) (fun c_16 => by omega) (fun c_16 => ?_)
    refine a_gets (pc := 19) (i := 3) (by decide) dX5_isUnder_19 rfl w_897 ?_
    refine a_iloadn_2 (pc := 22) dX5_isUnder_22 ?_
    refine a_sil (pc := 23) 4 (t := 3) (by decide) dX5_isUnder_23 rfl (by decide) ?_
    refine a_topi (nI 1) (by decide) ?_
    refine a_istoren_2 (pc := 24) dX5_isUnder_24 (by decide) (by first | rfl | trivial) ?_
    refine a_iinc_3 (pc := 25) (v := nI (2)) dX5_isUnder_25 (nI_add _ _) (by decide) (by first | rfl | trivial) ?_
    refine a_goto (pc := 28) (tgt := 4) dX5_isUnder_28 (by decide) ?_
    refine a_iloadn_3 (pc := 4) dX5_isUnder_4 ?_
    refine a_bipush (pc := 5) (v := nI 8) dX5_isUnder_5 (by decide) ?_
    refine n_icmp_ge (tgt := 31) dX5_isUnder_7 (by decide) (by decide) (by decide) (fun c_7 => by omega) (fun c_7 => ?_)
    refine a_iloadn_2 (pc := 10) dX5_isUnder_10 ?_
    refine n_if_lt (tgt := 31) dX5_isUnder_11 (by decide) (by decide) ?_
    refine a_iloadn_2 (pc := 14) dX5_isUnder_14 ?_
    refine a_iloadn_1 (pc := 15) dX5_isUnder_15 ?_
    refine n_icmp_eq (tgt := 31) dX5_isUnder_16 (by decide) (by decide) (by decide) (fun c_16 => by omega) (fun c_16 => ?_)
    refine a_gets (pc := 19) (i := 3) (by decide) dX5_isUnder_19 rfl w_897 ?_
    refine a_iloadn_2 (pc := 22) dX5_isUnder_22 ?_
    refine a_sil (pc := 23) 1 (t := 3) (by decide) dX5_isUnder_23 rfl (by decide) ?_
    refine a_topi (nI 0) (by decide) ?_
    refine a_istoren_2 (pc := 24) dX5_isUnder_24 (by decide) (by first | rfl | trivial) ?_
    refine a_iinc_3 (pc := 25) (v := nI (3)) dX5_isUnder_25 (nI_add _ _) (by decide) (by first | rfl | trivial) ?_
    refine a_goto (pc := 28) (tgt := 4) dX5_isUnder_28 (by decide) ?_
    refine a_iloadn_3 (pc := 4) dX5_isUnder_4 ?_
    refine a_bipush (pc := 5) (v := nI 8) dX5_isUnder_5 (by decide) ?_
    refine n_icmp_ge (tgt := 31) dX5_isUnder_7 (by decide) (by decide) (by decide) (fun c_7 => by omega) (fun c_7 => ?_)
    refine a_iloadn_2 (pc := 10) dX5_isUnder_10 ?_
    refine n_if_lt (tgt := 31) dX5_isUnder_11 (by decide) (by decide) ?_
    refine a_iloadn_2 (pc := 14) dX5_isUnder_14 ?_
    refine a_iloadn_1 (pc := 15) dX5_isUnder_15 ?_
    refine n_icmp_eq (tgt := 31) dX5_isUnder_16 (by decide) (by decide) (by decide) (fun c_16 => ?_) (fun c_16 => by omega)
    refine a_iloadn_2 (pc := 31) dX5_isUnder_31 ?_
    refine a_iloadn_1 (pc := 32) dX5_isUnder_32 ?_
    refine n_icmp_ne (tgt := 40) dX5_isUnder_33 (by decide) (by decide) (by decide) (fun c_33 => by omega) (fun c_33 => ?_)
    refine a_iconst (pc := 36) (v := nI 1) dX5_isUnder_36 (by decide) ?_
    refine a_goto (pc := 37) (tgt := 41) dX5_isUnder_37 (by decide) ?_
    exact a_zret (pc := 41) dX5_isUnder_41 rfl (by first | rfl | exact bI_nar _ | decide) (zf hz) (by rw [show decide (0 ∈ chn 7) = true by decide] at k; exact k)
  · refine AM.of [some (.int (nI (7))), some (.int (nI 1)), none, none] pnX5 (Nat.le_of_ble_eq_true rfl) (by simp [lsub, lvI, Value.category]) ?_
    refine a_iloadn_0 (pc := 0) dX5_isUnder_0 ?_
    refine a_istoren_2 (pc := 1) dX5_isUnder_1 (by decide) (by first | rfl | trivial) ?_
    refine a_iconst (pc := 2) (v := nI 0) dX5_isUnder_2 (by decide) ?_
    refine a_istoren_3 (pc := 3) dX5_isUnder_3 (by decide) (by first | rfl | trivial) ?_
    refine a_iloadn_3 (pc := 4) dX5_isUnder_4 ?_
    refine a_bipush (pc := 5) (v := nI 8) dX5_isUnder_5 (by decide) ?_
    refine n_icmp_ge (tgt := 31) dX5_isUnder_7 (by decide) (by decide) (by decide) (fun c_7 => by omega) (fun c_7 => ?_)
    refine a_iloadn_2 (pc := 10) dX5_isUnder_10 ?_
    refine n_if_lt (tgt := 31) dX5_isUnder_11 (by decide) (by decide) ?_
    refine a_iloadn_2 (pc := 14) dX5_isUnder_14 ?_
    refine a_iloadn_1 (pc := 15) dX5_isUnder_15 ?_
    refine n_icmp_eq (tgt := 31) dX5_isUnder_16 (by decide) (by decide) (by decide) (fun c_16 => by omega) (fun c_16 => ?_)
    refine a_gets (pc := 19) (i := 3) (by decide) dX5_isUnder_19 rfl w_897 ?_
    refine a_iloadn_2 (pc := 22) dX5_isUnder_22 ?_
    refine a_sil (pc := 23) 7 (t := 3) (by decide) dX5_isUnder_23 rfl (by decide) ?_
    refine a_topi (nI 4) (by decide) ?_
    refine a_istoren_2 (pc := 24) dX5_isUnder_24 (by decide) (by first | rfl | trivial) ?_
    refine a_iinc_3 (pc := 25) (v := nI (1)) dX5_isUnder_25 (nI_add _ _) (by decide) (by first | rfl | trivial) ?_
    refine a_goto (pc := 28) (tgt := 4) dX5_isUnder_28 (by decide) ?_
    refine a_iloadn_3 (pc := 4) dX5_isUnder_4 ?_
    refine a_bipush (pc := 5) (v := nI 8) dX5_isUnder_5 (by decide) ?_
    refine n_icmp_ge (tgt := 31) dX5_isUnder_7 (by decide) (by decide) (by decide) (fun c_7 => by omega) (fun c_7 => ?_)
    refine a_iloadn_2 (pc := 10) dX5_isUnder_10 ?_
    refine n_if_lt (tgt := 31) dX5_isUnder_11 (by decide) (by decide) ?_
    refine a_iloadn_2 (pc := 14) dX5_isUnder_14 ?_
    refine a_iloadn_1 (pc := 15) dX5_isUnder_15 ?_
    refine n_icmp_eq (tgt := 31) dX5_isUnder_16 (by decide) (by decide) (by decide) (fun c_16 => by omega) (fun c_16 => ?_)
    refine a_gets (pc := 19) (i := 3) (by decide) dX5_isUnder_19 rfl w_897 ?_
    refine a_iloadn_2 (pc := 22) dX5_isUnder_22 ?_
    refine a_sil (pc := 23) 4 (t := 3) (by decide) dX5_isUnder_23 rfl (by decide) ?_
    refine a_topi (nI 1) (by decide) ?_
    refine a_istoren_2 (pc := 24) dX5_isUnder_24 (by decide) (by first | rfl | trivial) ?_
    refine a_iinc_3 (pc := 25) (v := nI (2)) dX5_isUnder_25 (nI_add _ _) (by decide) (by first | rfl | trivial) ?_
    refine a_goto (pc := 28) (tgt := 4) dX5_isUnder_28 (by decide) ?_
    refine a_iloadn_3 (pc := 4) dX5_isUnder_4 ?_
    refine a_bipush (pc := 5) (v := nI 8) dX5_isUnder_5 (by decide) ?_
    refine n_icmp_ge (tgt := 31) dX5_isUnder_7 (by decide) (by decide) (by decide) (fun c_7 => by omega) (fun c_7 => ?_)
    refine a_iloadn_2 (pc := 10) dX5_isUnder_10 ?_
    refine n_if_lt (tgt := 31) dX5_isUnder_11 (by decide) (by decide) ?_
    refine a_iloadn_2 (pc := 14) dX5_isUnder_14 ?_
    refine a_iloadn_1 (pc := 15) dX5_isUnder_15 ?_
    refine n_icmp_eq (tgt := 31) dX5_isUnder_16 (by decide) (by decide) (by decide) (fun c_16 => ?_) (fun c_16 => by omega)
    refine a_iloadn_2 (pc := 31) dX5_isUnder_31 ?_
    refine a_iloadn_1 (pc := 32) dX5_isUnder_32 ?_
    refine n_icmp_ne (tgt := 40) dX5_isUnder_33 (by decide) (by decide) (by decide) (fun c_33 => by omega) (fun c_33 => ?_)
    refine a_iconst (pc := 36) (v := nI 1) dX5_isUnder_36 (by decide) ?_
    refine a_goto (pc := 37) (tgt := 41) dX5_isUnder_37 (by decide) ?_
    exact a_zret (pc := 41) dX5_isUnder_41 rfl (by first | rfl | exact bI_nar _ | decide) (zf hz) (by rw [show decide (1 ∈ chn 7) = true by decide] at k; exact k)
  · refine AM.of [some (.int (nI (7))), some (.int (nI 2)), none, none] pnX5 (Nat.le_of_ble_eq_true rfl) (by simp [lsub, lvI, Value.category]) ?_
    refine a_iloadn_0 (pc := 0) dX5_isUnder_0 ?_
    refine a_istoren_2 (pc := 1) dX5_isUnder_1 (by decide) (by first | rfl | trivial) ?_
    refine a_iconst (pc := 2) (v := nI 0) dX5_isUnder_2 (by decide) ?_
    refine a_istoren_3 (pc := 3) dX5_isUnder_3 (by decide) (by first | rfl | trivial) ?_
    refine a_iloadn_3 (pc := 4) dX5_isUnder_4 ?_
    refine a_bipush (pc := 5) (v := nI 8) dX5_isUnder_5 (by decide) ?_
    refine n_icmp_ge (tgt := 31) dX5_isUnder_7 (by decide) (by decide) (by decide) (fun c_7 => by omega) (fun c_7 => ?_)
    refine a_iloadn_2 (pc := 10) dX5_isUnder_10 ?_
    refine n_if_lt (tgt := 31) dX5_isUnder_11 (by decide) (by decide) ?_
    refine a_iloadn_2 (pc := 14) dX5_isUnder_14 ?_
    refine a_iloadn_1 (pc := 15) dX5_isUnder_15 ?_
    refine n_icmp_eq (tgt := 31) dX5_isUnder_16 (by decide) (by decide) (by decide) (fun c_16 => by omega) (fun c_16 => ?_)
    refine a_gets (pc := 19) (i := 3) (by decide) dX5_isUnder_19 rfl w_897 ?_
    refine a_iloadn_2 (pc := 22) dX5_isUnder_22 ?_
    refine a_sil (pc := 23) 7 (t := 3) (by decide) dX5_isUnder_23 rfl (by decide) ?_
    refine a_topi (nI 4) (by decide) ?_
    refine a_istoren_2 (pc := 24) dX5_isUnder_24 (by decide) (by first | rfl | trivial) ?_
    refine a_iinc_3 (pc := 25) (v := nI (1)) dX5_isUnder_25 (nI_add _ _) (by decide) (by first | rfl | trivial) ?_
    refine a_goto (pc := 28) (tgt := 4) dX5_isUnder_28 (by decide) ?_
    refine a_iloadn_3 (pc := 4) dX5_isUnder_4 ?_
    refine a_bipush (pc := 5) (v := nI 8) dX5_isUnder_5 (by decide) ?_
    refine n_icmp_ge (tgt := 31) dX5_isUnder_7 (by decide) (by decide) (by decide) (fun c_7 => by omega) (fun c_7 => ?_)
    refine a_iloadn_2 (pc := 10) dX5_isUnder_10 ?_
    refine n_if_lt (tgt := 31) dX5_isUnder_11 (by decide) (by decide) ?_
    refine a_iloadn_2 (pc := 14) dX5_isUnder_14 ?_
    refine a_iloadn_1 (pc := 15) dX5_isUnder_15 ?_
    refine n_icmp_eq (tgt := 31) dX5_isUnder_16 (by decide) (by decide) (by decide) (fun c_16 => by omega) (fun c_16 => ?_)
    refine a_gets (pc := 19) (i := 3) (by decide) dX5_isUnder_19 rfl w_897 ?_
    refine a_iloadn_2 (pc := 22) dX5_isUnder_22 ?_
    refine a_sil (pc := 23) 4 (t := 3) (by decide) dX5_isUnder_23 rfl (by decide) ?_
    refine a_topi (nI 1) (by decide) ?_
    refine a_istoren_2 (pc := 24) dX5_isUnder_24 (by decide) (by first | rfl | trivial) ?_
    refine a_iinc_3 (pc := 25) (v := nI (2)) dX5_isUnder_25 (nI_add _ _) (by decide) (by first | rfl | trivial) ?_
    refine a_goto (pc := 28) (tgt := 4) dX5_isUnder_28 (by decide) ?_
    refine a_iloadn_3 (pc := 4) dX5_isUnder_4 ?_
    refine a_bipush (pc := 5) (v := nI 8) dX5_isUnder_5 (by decide) ?_
    refine n_icmp_ge (tgt := 31) dX5_isUnder_7 (by decide) (by decide) (by decide) (fun c_7 => by omega) (fun c_7 => ?_)
    refine a_iloadn_2 (pc := 10) dX5_isUnder_10 ?_
    refine n_if_lt (tgt := 31) dX5_isUnder_11 (by decide) (by decide) ?_
    refine a_iloadn_2 (pc := 14) dX5_isUnder_14 ?_
    refine a_iloadn_1 (pc := 15) dX5_isUnder_15 ?_
    refine n_icmp_eq (tgt := 31) dX5_isUnder_16 (by decide) (by decide) (by decide) (fun c_16 => by omega) (fun c_16 => ?_)
    refine a_gets (pc := 19) (i := 3) (by decide) dX5_isUnder_19 rfl w_897 ?_
    refine a_iloadn_2 (pc := 22) dX5_isUnder_22 ?_
    refine a_sil (pc := 23) 1 (t := 3) (by decide) dX5_isUnder_23 rfl (by decide) ?_
    refine a_topi (nI 0) (by decide) ?_
    refine a_istoren_2 (pc := 24) dX5_isUnder_24 (by decide) (by first | rfl | trivial) ?_
    refine a_iinc_3 (pc := 25) (v := nI (3)) dX5_isUnder_25 (nI_add _ _) (by decide) (by first | rfl | trivial) ?_
    refine a_goto (pc := 28) (tgt := 4) dX5_isUnder_28 (by decide) ?_
    refine a_iloadn_3 (pc := 4) dX5_isUnder_4 ?_
    refine a_bipush (pc := 5) (v := nI 8) dX5_isUnder_5 (by decide) ?_
    refine n_icmp_ge (tgt := 31) dX5_isUnder_7 (by decide) (by decide) (by decide) (fun c_7 => by omega) (fun c_7 => ?_)
    refine a_iloadn_2 (pc := 10) dX5_isUnder_10 ?_
    refine n_if_lt (tgt := 31) dX5_isUnder_11 (by decide) (by decide) ?_
    refine a_iloadn_2 (pc := 14) dX5_isUnder_14 ?_
    refine a_iloadn_1 (pc := 15) dX5_isUnder_15 ?_
    refine n_icmp_eq (tgt := 31) dX5_isUnder_16 (by decide) (by decide) (by decide) (fun c_16 => by omega) (fun c_16 => ?_)
    refine a_gets (pc := 19) (i := 3) (by decide) dX5_isUnder_19 rfl w_897 ?_
    refine a_iloadn_2 (pc := 22) dX5_isUnder_22 ?_
    refine a_sil (pc := 23) 0 (t := 3) (by decide) dX5_isUnder_23 rfl (by decide) ?_
    refine a_topi ((-1)) (by decide) ?_
    refine a_istoren_2 (pc := 24) dX5_isUnder_24 (by decide) (by first | rfl | trivial) ?_
    refine a_iinc_3 (pc := 25) (v := nI (4)) dX5_isUnder_25 (nI_add _ _) (by decide) (by first | rfl | trivial) ?_
    refine a_goto (pc := 28) (tgt := 4) dX5_isUnder_28 (by decide) ?_
    refine a_iloadn_3 (pc := 4) dX5_isUnder_4 ?_
    refine a_bipush (pc := 5) (v := nI 8) dX5_isUnder_5 (by decide) ?_
    refine n_icmp_ge (tgt := 31) dX5_isUnder_7 (by decide) (by decide) (by decide) (fun c_7 => by omega) (fun c_7 => ?_)
    refine a_iloadn_2 (pc := 10) dX5_isUnder_10 ?_
    refine a_if_lt (pc := 11) (tgt := 31) dX5_isUnder_11 (by decide) (fun c_11 => ?_) (fun c_11 => absurd c_11 (by decide))
    refine a_iloadn_2 (pc := 31) dX5_isUnder_31 ?_
    refine a_iloadn_1 (pc := 32) dX5_isUnder_32 ?_
    refine a_icmp_ne (pc := 33) (tgt := 40) dX5_isUnder_33 (by decide) (fun c_33 => ?_) (fun c_33 => absurd c_33 (by decide))
    refine a_iconst (pc := 40) (v := nI 0) dX5_isUnder_40 (by decide) ?_
    exact a_zret (pc := 41) dX5_isUnder_41 rfl (by first | rfl | exact bI_nar _ | decide) (zf hz) (by rw [show decide (2 ∈ chn 7) = false by decide] at k; exact k)
  · refine AM.of [some (.int (nI (7))), some (.int (nI 3)), none, none] pnX5 (Nat.le_of_ble_eq_true rfl) (by simp [lsub, lvI, Value.category]) ?_
    refine a_iloadn_0 (pc := 0) dX5_isUnder_0 ?_
    refine a_istoren_2 (pc := 1) dX5_isUnder_1 (by decide) (by first | rfl | trivial) ?_
    refine a_iconst (pc := 2) (v := nI 0) dX5_isUnder_2 (by decide) ?_
    refine a_istoren_3 (pc := 3) dX5_isUnder_3 (by decide) (by first | rfl | trivial) ?_
    refine a_iloadn_3 (pc := 4) dX5_isUnder_4 ?_
    refine a_bipush (pc := 5) (v := nI 8) dX5_isUnder_5 (by decide) ?_
    refine n_icmp_ge (tgt := 31) dX5_isUnder_7 (by decide) (by decide) (by decide) (fun c_7 => by omega) (fun c_7 => ?_)
    refine a_iloadn_2 (pc := 10) dX5_isUnder_10 ?_
    refine n_if_lt (tgt := 31) dX5_isUnder_11 (by decide) (by decide) ?_
    refine a_iloadn_2 (pc := 14) dX5_isUnder_14 ?_
    refine a_iloadn_1 (pc := 15) dX5_isUnder_15 ?_
    refine n_icmp_eq (tgt := 31) dX5_isUnder_16 (by decide) (by decide) (by decide) (fun c_16 => by omega) (fun c_16 => ?_)
    refine a_gets (pc := 19) (i := 3) (by decide) dX5_isUnder_19 rfl w_897 ?_
    refine a_iloadn_2 (pc := 22) dX5_isUnder_22 ?_
    refine a_sil (pc := 23) 7 (t := 3) (by decide) dX5_isUnder_23 rfl (by decide) ?_
    refine a_topi (nI 4) (by decide) ?_
    refine a_istoren_2 (pc := 24) dX5_isUnder_24 (by decide) (by first | rfl | trivial) ?_
    refine a_iinc_3 (pc := 25) (v := nI (1)) dX5_isUnder_25 (nI_add _ _) (by decide) (by first | rfl | trivial) ?_
    refine a_goto (pc := 28) (tgt := 4) dX5_isUnder_28 (by decide) ?_
    refine a_iloadn_3 (pc := 4) dX5_isUnder_4 ?_
    refine a_bipush (pc := 5) (v := nI 8) dX5_isUnder_5 (by decide) ?_
    refine n_icmp_ge (tgt := 31) dX5_isUnder_7 (by decide) (by decide) (by decide) (fun c_7 => by omega) (fun c_7 => ?_)
    refine a_iloadn_2 (pc := 10) dX5_isUnder_10 ?_
    refine n_if_lt (tgt := 31) dX5_isUnder_11 (by decide) (by decide) ?_
    refine a_iloadn_2 (pc := 14) dX5_isUnder_14 ?_
    refine a_iloadn_1 (pc := 15) dX5_isUnder_15 ?_
    refine n_icmp_eq (tgt := 31) dX5_isUnder_16 (by decide) (by decide) (by decide) (fun c_16 => by omega) (fun c_16 => ?_)
    refine a_gets (pc := 19) (i := 3) (by decide) dX5_isUnder_19 rfl w_897 ?_
    refine a_iloadn_2 (pc := 22) dX5_isUnder_22 ?_
    refine a_sil (pc := 23) 4 (t := 3) (by decide) dX5_isUnder_23 rfl (by decide) ?_
    refine a_topi (nI 1) (by decide) ?_
    refine a_istoren_2 (pc := 24) dX5_isUnder_24 (by decide) (by first | rfl | trivial) ?_
    refine a_iinc_3 (pc := 25) (v := nI (2)) dX5_isUnder_25 (nI_add _ _) (by decide) (by first | rfl | trivial) ?_
    refine a_goto (pc := 28) (tgt := 4) dX5_isUnder_28 (by decide) ?_
    refine a_iloadn_3 (pc := 4) dX5_isUnder_4 ?_
    refine a_bipush (pc := 5) (v := nI 8) dX5_isUnder_5 (by decide) ?_
    refine n_icmp_ge (tgt := 31) dX5_isUnder_7 (by decide) (by decide) (by decide) (fun c_7 => by omega) (fun c_7 => ?_)
    refine a_iloadn_2 (pc := 10) dX5_isUnder_10 ?_
    refine n_if_lt (tgt := 31) dX5_isUnder_11 (by decide) (by decide) ?_
    refine a_iloadn_2 (pc := 14) dX5_isUnder_14 ?_
    refine a_iloadn_1 (pc := 15) dX5_isUnder_15 ?_
    refine n_icmp_eq (tgt := 31) dX5_isUnder_16 (by decide) (by decide) (by decide) (fun c_16 => by omega) (fun c_16 => ?_)
    refine a_gets (pc := 19) (i := 3) (by decide) dX5_isUnder_19 rfl w_897 ?_
    refine a_iloadn_2 (pc := 22) dX5_isUnder_22 ?_
    refine a_sil (pc := 23) 1 (t := 3) (by decide) dX5_isUnder_23 rfl (by decide) ?_
    refine a_topi (nI 0) (by decide) ?_
    refine a_istoren_2 (pc := 24) dX5_isUnder_24 (by decide) (by first | rfl | trivial) ?_
    refine a_iinc_3 (pc := 25) (v := nI (3)) dX5_isUnder_25 (nI_add _ _) (by decide) (by first | rfl | trivial) ?_
    refine a_goto (pc := 28) (tgt := 4) dX5_isUnder_28 (by decide) ?_
    refine a_iloadn_3 (pc := 4) dX5_isUnder_4 ?_
    refine a_bipush (pc := 5) (v := nI 8) dX5_isUnder_5 (by decide) ?_
    refine n_icmp_ge (tgt := 31) dX5_isUnder_7 (by decide) (by decide) (by decide) (fun c_7 => by omega) (fun c_7 => ?_)
    refine a_iloadn_2 (pc := 10) dX5_isUnder_10 ?_
    refine n_if_lt (tgt := 31) dX5_isUnder_11 (by decide) (by decide) ?_
    refine a_iloadn_2 (pc := 14) dX5_isUnder_14 ?_
    refine a_iloadn_1 (pc := 15) dX5_isUnder_15 ?_
    refine n_icmp_eq (tgt := 31) dX5_isUnder_16 (by decide) (by decide) (by decide) (fun c_16 => by omega) (fun c_16 => ?_)
    refine a_gets (pc := 19) (i := 3) (by decide) dX5_isUnder_19 rfl w_897 ?_
    refine a_iloadn_2 (pc := 22) dX5_isUnder_22 ?_
    refine a_sil (pc := 23) 0 (t := 3) (by decide) dX5_isUnder_23 rfl (by decide) ?_
    refine a_topi ((-1)) (by decide) ?_
    refine a_istoren_2 (pc := 24) dX5_isUnder_24 (by decide) (by first | rfl | trivial) ?_
    refine a_iinc_3 (pc := 25) (v := nI (4)) dX5_isUnder_25 (nI_add _ _) (by decide) (by first | rfl | trivial) ?_
    refine a_goto (pc := 28) (tgt := 4) dX5_isUnder_28 (by decide) ?_
    refine a_iloadn_3 (pc := 4) dX5_isUnder_4 ?_
    refine a_bipush (pc := 5) (v := nI 8) dX5_isUnder_5 (by decide) ?_
    refine n_icmp_ge (tgt := 31) dX5_isUnder_7 (by decide) (by decide) (by decide) (fun c_7 => by omega) (fun c_7 => ?_)
    refine a_iloadn_2 (pc := 10) dX5_isUnder_10 ?_
    refine a_if_lt (pc := 11) (tgt := 31) dX5_isUnder_11 (by decide) (fun c_11 => ?_) (fun c_11 => absurd c_11 (by decide))
    refine a_iloadn_2 (pc := 31) dX5_isUnder_31 ?_
    refine a_iloadn_1 (pc := 32) dX5_isUnder_32 ?_
    refine a_icmp_ne (pc := 33) (tgt := 40) dX5_isUnder_33 (by decide) (fun c_33 => ?_) (fun c_33 => absurd c_33 (by decide))
    refine a_iconst (pc := 40) (v := nI 0) dX5_isUnder_40 (by decide) ?_
    exact a_zret (pc := 41) dX5_isUnder_41 rfl (by first | rfl | exact bI_nar _ | decide) (zf hz) (by rw [show decide (3 ∈ chn 7) = false by decide] at k; exact k)
  · refine AM.of [some (.int (nI (7))), some (.int (nI 4)), none, none] pnX5 (Nat.le_of_ble_eq_true rfl) (by simp [lsub, lvI, Value.category]) ?_
    refine a_iloadn_0 (pc := 0) dX5_isUnder_0 ?_
    refine a_istoren_2 (pc := 1) dX5_isUnder_1 (by decide) (by first | rfl | trivial) ?_
    refine a_iconst (pc := 2) (v := nI 0) dX5_isUnder_2 (by decide) ?_
    refine a_istoren_3 (pc := 3) dX5_isUnder_3 (by decide) (by first | rfl | trivial) ?_
    refine a_iloadn_3 (pc := 4) dX5_isUnder_4 ?_
    refine a_bipush (pc := 5) (v := nI 8) dX5_isUnder_5 (by decide) ?_
    refine n_icmp_ge (tgt := 31) dX5_isUnder_7 (by decide) (by decide) (by decide) (fun c_7 => by omega) (fun c_7 => ?_)
    refine a_iloadn_2 (pc := 10) dX5_isUnder_10 ?_
    refine n_if_lt (tgt := 31) dX5_isUnder_11 (by decide) (by decide) ?_
    refine a_iloadn_2 (pc := 14) dX5_isUnder_14 ?_
    refine a_iloadn_1 (pc := 15) dX5_isUnder_15 ?_
    refine n_icmp_eq (tgt := 31) dX5_isUnder_16 (by decide) (by decide) (by decide) (fun c_16 => by omega) (fun c_16 => ?_)
    refine a_gets (pc := 19) (i := 3) (by decide) dX5_isUnder_19 rfl w_897 ?_
    refine a_iloadn_2 (pc := 22) dX5_isUnder_22 ?_
    refine a_sil (pc := 23) 7 (t := 3) (by decide) dX5_isUnder_23 rfl (by decide) ?_
    refine a_topi (nI 4) (by decide) ?_
    refine a_istoren_2 (pc := 24) dX5_isUnder_24 (by decide) (by first | rfl | trivial) ?_
    refine a_iinc_3 (pc := 25) (v := nI (1)) dX5_isUnder_25 (nI_add _ _) (by decide) (by first | rfl | trivial) ?_
    refine a_goto (pc := 28) (tgt := 4) dX5_isUnder_28 (by decide) ?_
    refine a_iloadn_3 (pc := 4) dX5_isUnder_4 ?_
    refine a_bipush (pc := 5) (v := nI 8) dX5_isUnder_5 (by decide) ?_
    refine n_icmp_ge (tgt := 31) dX5_isUnder_7 (by decide) (by decide) (by decide) (fun c_7 => by omega) (fun c_7 => ?_)
    refine a_iloadn_2 (pc := 10) dX5_isUnder_10 ?_
    refine n_if_lt (tgt := 31) dX5_isUnder_11 (by decide) (by decide) ?_
    refine a_iloadn_2 (pc := 14) dX5_isUnder_14 ?_
    refine a_iloadn_1 (pc := 15) dX5_isUnder_15 ?_
    refine n_icmp_eq (tgt := 31) dX5_isUnder_16 (by decide) (by decide) (by decide) (fun c_16 => ?_) (fun c_16 => by omega)
    refine a_iloadn_2 (pc := 31) dX5_isUnder_31 ?_
    refine a_iloadn_1 (pc := 32) dX5_isUnder_32 ?_
    refine n_icmp_ne (tgt := 40) dX5_isUnder_33 (by decide) (by decide) (by decide) (fun c_33 => by omega) (fun c_33 => ?_)
    refine a_iconst (pc := 36) (v := nI 1) dX5_isUnder_36 (by decide) ?_
    refine a_goto (pc := 37) (tgt := 41) dX5_isUnder_37 (by decide) ?_
    exact a_zret (pc := 41) dX5_isUnder_41 rfl (by first | rfl | exact bI_nar _ | decide) (zf hz) (by rw [show decide (4 ∈ chn 7) = true by decide] at k; exact k)
  · refine AM.of [some (.int (nI (7))), some (.int (nI 5)), none, none] pnX5 (Nat.le_of_ble_eq_true rfl) (by simp [lsub, lvI, Value.category]) ?_
    refine a_iloadn_0 (pc := 0) dX5_isUnder_0 ?_
    refine a_istoren_2 (pc := 1) dX5_isUnder_1 (by decide) (by first | rfl | trivial) ?_
    refine a_iconst (pc := 2) (v := nI 0) dX5_isUnder_2 (by decide) ?_
    refine a_istoren_3 (pc := 3) dX5_isUnder_3 (by decide) (by first | rfl | trivial) ?_
    refine a_iloadn_3 (pc := 4) dX5_isUnder_4 ?_
    refine a_bipush (pc := 5) (v := nI 8) dX5_isUnder_5 (by decide) ?_
    refine n_icmp_ge (tgt := 31) dX5_isUnder_7 (by decide) (by decide) (by decide) (fun c_7 => by omega) (fun c_7 => ?_)
    refine a_iloadn_2 (pc := 10) dX5_isUnder_10 ?_
    refine n_if_lt (tgt := 31) dX5_isUnder_11 (by decide) (by decide) ?_
    refine a_iloadn_2 (pc := 14) dX5_isUnder_14 ?_
    refine a_iloadn_1 (pc := 15) dX5_isUnder_15 ?_
    refine n_icmp_eq (tgt := 31) dX5_isUnder_16 (by decide) (by decide) (by decide) (fun c_16 => by omega) (fun c_16 => ?_)
    refine a_gets (pc := 19) (i := 3) (by decide) dX5_isUnder_19 rfl w_897 ?_
    refine a_iloadn_2 (pc := 22) dX5_isUnder_22 ?_
    refine a_sil (pc := 23) 7 (t := 3) (by decide) dX5_isUnder_23 rfl (by decide) ?_
    refine a_topi (nI 4) (by decide) ?_
    refine a_istoren_2 (pc := 24) dX5_isUnder_24 (by decide) (by first | rfl | trivial) ?_
    refine a_iinc_3 (pc := 25) (v := nI (1)) dX5_isUnder_25 (nI_add _ _) (by decide) (by first | rfl | trivial) ?_
    refine a_goto (pc := 28) (tgt := 4) dX5_isUnder_28 (by decide) ?_
    refine a_iloadn_3 (pc := 4) dX5_isUnder_4 ?_
    refine a_bipush (pc := 5) (v := nI 8) dX5_isUnder_5 (by decide) ?_
    refine n_icmp_ge (tgt := 31) dX5_isUnder_7 (by decide) (by decide) (by decide) (fun c_7 => by omega) (fun c_7 => ?_)
    refine a_iloadn_2 (pc := 10) dX5_isUnder_10 ?_
    refine n_if_lt (tgt := 31) dX5_isUnder_11 (by decide) (by decide) ?_
    refine a_iloadn_2 (pc := 14) dX5_isUnder_14 ?_
    refine a_iloadn_1 (pc := 15) dX5_isUnder_15 ?_
    refine n_icmp_eq (tgt := 31) dX5_isUnder_16 (by decide) (by decide) (by decide) (fun c_16 => by omega) (fun c_16 => ?_)
    refine a_gets (pc := 19) (i := 3) (by decide) dX5_isUnder_19 rfl w_897 ?_
    refine a_iloadn_2 (pc := 22) dX5_isUnder_22 ?_
    refine a_sil (pc := 23) 4 (t := 3) (by decide) dX5_isUnder_23 rfl (by decide) ?_
    refine a_topi (nI 1) (by decide) ?_
    refine a_istoren_2 (pc := 24) dX5_isUnder_24 (by decide) (by first | rfl | trivial) ?_
    refine a_iinc_3 (pc := 25) (v := nI (2)) dX5_isUnder_25 (nI_add _ _) (by decide) (by first | rfl | trivial) ?_
    refine a_goto (pc := 28) (tgt := 4) dX5_isUnder_28 (by decide) ?_
    refine a_iloadn_3 (pc := 4) dX5_isUnder_4 ?_
    refine a_bipush (pc := 5) (v := nI 8) dX5_isUnder_5 (by decide) ?_
    refine n_icmp_ge (tgt := 31) dX5_isUnder_7 (by decide) (by decide) (by decide) (fun c_7 => by omega) (fun c_7 => ?_)
    refine a_iloadn_2 (pc := 10) dX5_isUnder_10 ?_
    refine n_if_lt (tgt := 31) dX5_isUnder_11 (by decide) (by decide) ?_
    refine a_iloadn_2 (pc := 14) dX5_isUnder_14 ?_
    refine a_iloadn_1 (pc := 15) dX5_isUnder_15 ?_
    refine n_icmp_eq (tgt := 31) dX5_isUnder_16 (by decide) (by decide) (by decide) (fun c_16 => by omega) (fun c_16 => ?_)
    refine a_gets (pc := 19) (i := 3) (by decide) dX5_isUnder_19 rfl w_897 ?_
    refine a_iloadn_2 (pc := 22) dX5_isUnder_22 ?_
    refine a_sil (pc := 23) 1 (t := 3) (by decide) dX5_isUnder_23 rfl (by decide) ?_
    refine a_topi (nI 0) (by decide) ?_
    refine a_istoren_2 (pc := 24) dX5_isUnder_24 (by decide) (by first | rfl | trivial) ?_
    refine a_iinc_3 (pc := 25) (v := nI (3)) dX5_isUnder_25 (nI_add _ _) (by decide) (by first | rfl | trivial) ?_
    refine a_goto (pc := 28) (tgt := 4) dX5_isUnder_28 (by decide) ?_
    refine a_iloadn_3 (pc := 4) dX5_isUnder_4 ?_
    refine a_bipush (pc := 5) (v := nI 8) dX5_isUnder_5 (by decide) ?_
    refine n_icmp_ge (tgt := 31) dX5_isUnder_7 (by decide) (by decide) (by decide) (fun c_7 => by omega) (fun c_7 => ?_)
    refine a_iloadn_2 (pc := 10) dX5_isUnder_10 ?_
    refine n_if_lt (tgt := 31) dX5_isUnder_11 (by decide) (by decide) ?_
    refine a_iloadn_2 (pc := 14) dX5_isUnder_14 ?_
    refine a_iloadn_1 (pc := 15) dX5_isUnder_15 ?_
    refine n_icmp_eq (tgt := 31) dX5_isUnder_16 (by decide) (by decide) (by decide) (fun c_16 => by omega) (fun c_16 => ?_)
    refine a_gets (pc := 19) (i := 3) (by decide) dX5_isUnder_19 rfl w_897 ?_
    refine a_iloadn_2 (pc := 22) dX5_isUnder_22 ?_
    refine a_sil (pc := 23) 0 (t := 3) (by decide) dX5_isUnder_23 rfl (by decide) ?_
    refine a_topi ((-1)) (by decide) ?_
    refine a_istoren_2 (pc := 24) dX5_isUnder_24 (by decide) (by first | rfl | trivial) ?_
    refine a_iinc_3 (pc := 25) (v := nI (4)) dX5_isUnder_25 (nI_add _ _) (by decide) (by first | rfl | trivial) ?_
    refine a_goto (pc := 28) (tgt := 4) dX5_isUnder_28 (by decide) ?_
    refine a_iloadn_3 (pc := 4) dX5_isUnder_4 ?_
    refine a_bipush (pc := 5) (v := nI 8) dX5_isUnder_5 (by decide) ?_
    refine n_icmp_ge (tgt := 31) dX5_isUnder_7 (by decide) (by decide) (by decide) (fun c_7 => by omega) (fun c_7 => ?_)
    refine a_iloadn_2 (pc := 10) dX5_isUnder_10 ?_
    refine a_if_lt (pc := 11) (tgt := 31) dX5_isUnder_11 (by decide) (fun c_11 => ?_) (fun c_11 => absurd c_11 (by decide))
    refine a_iloadn_2 (pc := 31) dX5_isUnder_31 ?_
    refine a_iloadn_1 (pc := 32) dX5_isUnder_32 ?_
    refine a_icmp_ne (pc := 33) (tgt := 40) dX5_isUnder_33 (by decide) (fun c_33 => ?_) (fun c_33 => absurd c_33 (by decide))
    refine a_iconst (pc := 40) (v := nI 0) dX5_isUnder_40 (by decide) ?_
    exact a_zret (pc := 41) dX5_isUnder_41 rfl (by first | rfl | exact bI_nar _ | decide) (zf hz) (by rw [show decide (5 ∈ chn 7) = false by decide] at k; exact k)
  · refine AM.of [some (.int (nI (7))), some (.int (nI 6)), none, none] pnX5 (Nat.le_of_ble_eq_true rfl) (by simp [lsub, lvI, Value.category]) ?_
    refine a_iloadn_0 (pc := 0) dX5_isUnder_0 ?_
    refine a_istoren_2 (pc := 1) dX5_isUnder_1 (by decide) (by first | rfl | trivial) ?_
    refine a_iconst (pc := 2) (v := nI 0) dX5_isUnder_2 (by decide) ?_
    refine a_istoren_3 (pc := 3) dX5_isUnder_3 (by decide) (by first | rfl | trivial) ?_
    refine a_iloadn_3 (pc := 4) dX5_isUnder_4 ?_
    refine a_bipush (pc := 5) (v := nI 8) dX5_isUnder_5 (by decide) ?_
    refine n_icmp_ge (tgt := 31) dX5_isUnder_7 (by decide) (by decide) (by decide) (fun c_7 => by omega) (fun c_7 => ?_)
    refine a_iloadn_2 (pc := 10) dX5_isUnder_10 ?_
    refine n_if_lt (tgt := 31) dX5_isUnder_11 (by decide) (by decide) ?_
    refine a_iloadn_2 (pc := 14) dX5_isUnder_14 ?_
    refine a_iloadn_1 (pc := 15) dX5_isUnder_15 ?_
    refine n_icmp_eq (tgt := 31) dX5_isUnder_16 (by decide) (by decide) (by decide) (fun c_16 => by omega) (fun c_16 => ?_)
    refine a_gets (pc := 19) (i := 3) (by decide) dX5_isUnder_19 rfl w_897 ?_
    refine a_iloadn_2 (pc := 22) dX5_isUnder_22 ?_
    refine a_sil (pc := 23) 7 (t := 3) (by decide) dX5_isUnder_23 rfl (by decide) ?_
    refine a_topi (nI 4) (by decide) ?_
    refine a_istoren_2 (pc := 24) dX5_isUnder_24 (by decide) (by first | rfl | trivial) ?_
    refine a_iinc_3 (pc := 25) (v := nI (1)) dX5_isUnder_25 (nI_add _ _) (by decide) (by first | rfl | trivial) ?_
    refine a_goto (pc := 28) (tgt := 4) dX5_isUnder_28 (by decide) ?_
    refine a_iloadn_3 (pc := 4) dX5_isUnder_4 ?_
    refine a_bipush (pc := 5) (v := nI 8) dX5_isUnder_5 (by decide) ?_
    refine n_icmp_ge (tgt := 31) dX5_isUnder_7 (by decide) (by decide) (by decide) (fun c_7 => by omega) (fun c_7 => ?_)
    refine a_iloadn_2 (pc := 10) dX5_isUnder_10 ?_
    refine n_if_lt (tgt := 31) dX5_isUnder_11 (by decide) (by decide) ?_
    refine a_iloadn_2 (pc := 14) dX5_isUnder_14 ?_
    refine a_iloadn_1 (pc := 15) dX5_isUnder_15 ?_
    refine n_icmp_eq (tgt := 31) dX5_isUnder_16 (by decide) (by decide) (by decide) (fun c_16 => by omega) (fun c_16 => ?_)
    refine a_gets (pc := 19) (i := 3) (by decide) dX5_isUnder_19 rfl w_897 ?_
    refine a_iloadn_2 (pc := 22) dX5_isUnder_22 ?_
    refine a_sil (pc := 23) 4 (t := 3) (by decide) dX5_isUnder_23 rfl (by decide) ?_
    refine a_topi (nI 1) (by decide) ?_
    refine a_istoren_2 (pc := 24) dX5_isUnder_24 (by decide) (by first | rfl | trivial) ?_
    refine a_iinc_3 (pc := 25) (v := nI (2)) dX5_isUnder_25 (nI_add _ _) (by decide) (by first | rfl | trivial) ?_
    refine a_goto (pc := 28) (tgt := 4) dX5_isUnder_28 (by decide) ?_
    refine a_iloadn_3 (pc := 4) dX5_isUnder_4 ?_
    refine a_bipush (pc := 5) (v := nI 8) dX5_isUnder_5 (by decide) ?_
    refine n_icmp_ge (tgt := 31) dX5_isUnder_7 (by decide) (by decide) (by decide) (fun c_7 => by omega) (fun c_7 => ?_)
    refine a_iloadn_2 (pc := 10) dX5_isUnder_10 ?_
    refine n_if_lt (tgt := 31) dX5_isUnder_11 (by decide) (by decide) ?_
    refine a_iloadn_2 (pc := 14) dX5_isUnder_14 ?_
    refine a_iloadn_1 (pc := 15) dX5_isUnder_15 ?_
    refine n_icmp_eq (tgt := 31) dX5_isUnder_16 (by decide) (by decide) (by decide) (fun c_16 => by omega) (fun c_16 => ?_)
    refine a_gets (pc := 19) (i := 3) (by decide) dX5_isUnder_19 rfl w_897 ?_
    refine a_iloadn_2 (pc := 22) dX5_isUnder_22 ?_
    refine a_sil (pc := 23) 1 (t := 3) (by decide) dX5_isUnder_23 rfl (by decide) ?_
    refine a_topi (nI 0) (by decide) ?_
    refine a_istoren_2 (pc := 24) dX5_isUnder_24 (by decide) (by first | rfl | trivial) ?_
    refine a_iinc_3 (pc := 25) (v := nI (3)) dX5_isUnder_25 (nI_add _ _) (by decide) (by first | rfl | trivial) ?_
    refine a_goto (pc := 28) (tgt := 4) dX5_isUnder_28 (by decide) ?_
    refine a_iloadn_3 (pc := 4) dX5_isUnder_4 ?_
    refine a_bipush (pc := 5) (v := nI 8) dX5_isUnder_5 (by decide) ?_
    refine n_icmp_ge (tgt := 31) dX5_isUnder_7 (by decide) (by decide) (by decide) (fun c_7 => by omega) (fun c_7 => ?_)
    refine a_iloadn_2 (pc := 10) dX5_isUnder_10 ?_
    refine n_if_lt (tgt := 31) dX5_isUnder_11 (by decide) (by decide) ?_
    refine a_iloadn_2 (pc := 14) dX5_isUnder_14 ?_
    refine a_iloadn_1 (pc := 15) dX5_isUnder_15 ?_
    refine n_icmp_eq (tgt := 31) dX5_isUnder_16 (by decide) (by decide) (by decide) (fun c_16 => by omega) (fun c_16 => ?_)
    refine a_gets (pc := 19) (i := 3) (by decide) dX5_isUnder_19 rfl w_897 ?_
    refine a_iloadn_2 (pc := 22) dX5_isUnder_22 ?_
    refine a_sil (pc := 23) 0 (t := 3) (by decide) dX5_isUnder_23 rfl (by decide) ?_
    refine a_topi ((-1)) (by decide) ?_
    refine a_istoren_2 (pc := 24) dX5_isUnder_24 (by decide) (by first | rfl | trivial) ?_
    refine a_iinc_3 (pc := 25) (v := nI (4)) dX5_isUnder_25 (nI_add _ _) (by decide) (by first | rfl | trivial) ?_
    refine a_goto (pc := 28) (tgt := 4) dX5_isUnder_28 (by decide) ?_
    refine a_iloadn_3 (pc := 4) dX5_isUnder_4 ?_
    refine a_bipush (pc := 5) (v := nI 8) dX5_isUnder_5 (by decide) ?_
    refine n_icmp_ge (tgt := 31) dX5_isUnder_7 (by decide) (by decide) (by decide) (fun c_7 => by omega) (fun c_7 => ?_)
    refine a_iloadn_2 (pc := 10) dX5_isUnder_10 ?_
    refine a_if_lt (pc := 11) (tgt := 31) dX5_isUnder_11 (by decide) (fun c_11 => ?_) (fun c_11 => absurd c_11 (by decide))
    refine a_iloadn_2 (pc := 31) dX5_isUnder_31 ?_
    refine a_iloadn_1 (pc := 32) dX5_isUnder_32 ?_
    refine a_icmp_ne (pc := 33) (tgt := 40) dX5_isUnder_33 (by decide) (fun c_33 => ?_) (fun c_33 => absurd c_33 (by decide))
    refine a_iconst (pc := 40) (v := nI 0) dX5_isUnder_40 (by decide) ?_
    exact a_zret (pc := 41) dX5_isUnder_41 rfl (by first | rfl | exact bI_nar _ | decide) (zf hz) (by rw [show decide (6 ∈ chn 7) = false by decide] at k; exact k)
  · refine AM.of [some (.int (nI (7))), some (.int (nI 7)), none, none] pnX5 (Nat.le_of_ble_eq_true rfl) (by simp [lsub, lvI, Value.category]) ?_
    refine a_iloadn_0 (pc := 0) dX5_isUnder_0 ?_
    refine a_istoren_2 (pc := 1) dX5_isUnder_1 (by decide) (by first | rfl | trivial) ?_
    refine a_iconst (pc := 2) (v := nI 0) dX5_isUnder_2 (by decide) ?_
    refine a_istoren_3 (pc := 3) dX5_isUnder_3 (by decide) (by first | rfl | trivial) ?_
    refine a_iloadn_3 (pc := 4) dX5_isUnder_4 ?_
    refine a_bipush (pc := 5) (v := nI 8) dX5_isUnder_5 (by decide) ?_
    refine n_icmp_ge (tgt := 31) dX5_isUnder_7 (by decide) (by decide) (by decide) (fun c_7 => by omega) (fun c_7 => ?_)
    refine a_iloadn_2 (pc := 10) dX5_isUnder_10 ?_
    refine n_if_lt (tgt := 31) dX5_isUnder_11 (by decide) (by decide) ?_
    refine a_iloadn_2 (pc := 14) dX5_isUnder_14 ?_
    refine a_iloadn_1 (pc := 15) dX5_isUnder_15 ?_
    refine n_icmp_eq (tgt := 31) dX5_isUnder_16 (by decide) (by decide) (by decide) (fun c_16 => ?_) (fun c_16 => by omega)
    refine a_iloadn_2 (pc := 31) dX5_isUnder_31 ?_
    refine a_iloadn_1 (pc := 32) dX5_isUnder_32 ?_
    refine n_icmp_ne (tgt := 40) dX5_isUnder_33 (by decide) (by decide) (by decide) (fun c_33 => by omega) (fun c_33 => ?_)
    refine a_iconst (pc := 36) (v := nI 1) dX5_isUnder_36 (by decide) ?_
    refine a_goto (pc := 37) (tgt := 41) dX5_isUnder_37 (by decide) ?_
    exact a_zret (pc := 41) dX5_isUnder_41 rfl (by first | rfl | exact bI_nar _ | decide) (zf hz) (by rw [show decide (7 ∈ chn 7) = true by decide] at k; exact k)

theorem k_isUnder {G : Cx} {d t k9 : Nat} {h : List va_E} {Q : Option Value → List va_E → Prop} (hd : 1 ≤ d) (hz : gz G = false) (ht : t < 8) (hk : k9 < 8) (k : Q (some (.int (bI (decide (t ∈ chn k9))))) h) : AM G yX5_isUnder cX5_isUnder 4 (some .boolean) d 0 0 [.int (nI k9), .int (nI t)] h Q := by
  rcases k8 hk with rfl | rfl | rfl | rfl | rfl | rfl | rfl | rfl
  · exact k_isUnder_0 hd hz ht k
  · exact k_isUnder_1 hd hz ht k
  · exact k_isUnder_2 hd hz ht k
  · exact k_isUnder_3 hd hz ht k
  · exact k_isUnder_4 hd hz ht k
  · exact k_isUnder_5 hd hz ht k
  · exact k_isUnder_6 hd hz ht k
  · exact k_isUnder_7 hd hz ht k
set_option maxRecDepth 100000 in
set_option maxHeartbeats 4000000 in
theorem k_perform_0 {G : Cx} {d : Nat} {h h0 : List va_E} {a : Su} {s : Rn} {Q : Option Value → List va_E → Prop} (hd : 15 ≤ d) (hz : gz G = false) (hm : SU G h0 h a s) {sc x : Int32} (hs : a.2.1 ≤ 50) (hkd : ∀ i, i < a.2.1 → a.1 i < 8) (k0 : inR 0 (nI a.2.1 - nI 1) sc = false → ∀ h1, SU G h0 h1 a (s.1, 0) → Q (some (.int (nI 0))) h1) (k1 : ∀ n, n < a.2.1 → sc = nI n → ∀ h1, SU G h0 h1 (a.1, a.2.1, n, a.1 n) (rns (s.1, 0) (actS n (a.1 n) 0 x).2) → Q (some (.int (actS n (a.1 n) 0 x).1)) h1) : AM G yX5_perform cX5_perform 4 (some .int) d 0 0 [.ref (gB G + 62), .int sc, .int (nI 0), .int x] h Q := by
  obtain ⟨d, rfl, he⟩ := dpos hd
  refine AM.of [some (.ref (gB G + 62)), some (.int (sc)), some (.int (nI (0))), some (.int (x))] pnX5 (Nat.le_of_ble_eq_true rfl) (by simp [lsub, lvI, Value.category]) ?_
  refine a_aloadn_0 (pc := 0) dX5_perform_0 ?_
  refine a_iconst (pc := 1) (v := nI 0) dX5_perform_1 (by decide) ?_
  refine kp_29 (x := 0) hm rfl dX5_perform_2 (fun h1 hm1 => ?_)
  refine a_iloadn_1 (pc := 5) dX5_perform_5 ?_
  refine a_iconst (pc := 6) (v := nI 0) dX5_perform_6 (by decide) ?_
  refine a_aloadn_0 (pc := 7) dX5_perform_7 ?_
  refine kg_18 (x := a.2.1) hm1 rfl dX5_perform_8 rfl ?_
  refine a_iconst (pc := 11) (v := nI 1) dX5_perform_11 (by decide) ?_
  refine a_isub (pc := 12) dX5_perform_12 ?_
  refine cs_X5_22 (pc := 13) rfl dX5_perform_13 (Nat.le_of_ble_eq_true rfl) ?_
  refine x_within (by omega) hz ?_
  refine a_topi (bI (inR 0 ((nI (a.2.1) - nI (1))) ((sc)))) rfl ?_
  refine b_if_eq (pc := 16) (tgt := 28) dX5_perform_16 (by decide) (fun c_16 => ?_) (fun c_16 => ?_)
  · refine a_iconst (pc := 28) (v := nI 0) dX5_perform_28 (by decide) ?_
    exact a_iret (pc := 29) dX5_perform_29 rfl (zf hz) (k0 c_16 _ hm1)
  · obtain ⟨n, hn, rfl⟩ := body_of hs c_16
    refine a_iloadn_2 (pc := 19) dX5_perform_19 ?_
    refine a_iconst (pc := 20) (v := nI 0) dX5_perform_20 (by decide) ?_
    refine a_iconst (pc := 21) (v := nI 3) dX5_perform_21 (by decide) ?_
    refine cs_X5_22 (pc := 22) rfl dX5_perform_22 (Nat.le_of_ble_eq_true rfl) ?_
    refine x_within (by omega) hz ?_
    refine a_topi (bI true) (by decide) ?_
    refine b_if_ne (pc := 25) (tgt := 30) dX5_perform_25 (by decide) (fun c_25 => ?_) (fun c_25 => by cases c_25)
    refine a_aloadn_0 (pc := 30) dX5_perform_30 ?_
    refine a_iloadn_1 (pc := 31) dX5_perform_31 ?_
    refine kp_38 (x := n) hm1 rfl dX5_perform_32 (fun h2 hm2 => ?_)
    refine a_aloadn_0 (pc := 35) dX5_perform_35 ?_
    refine a_aloadn_0 (pc := 36) dX5_perform_36 ?_
    refine kg_9 hm2 rfl dX5_perform_37 ?_
    refine a_iloadn_1 (pc := 40) dX5_perform_40 ?_
    refine kl_kinds (x := a.1 n) hm2 dX5_perform_41 (by omega) rfl ?_
    refine kp_41 (x := a.1 n) hm2 rfl dX5_perform_42 (fun h3 hm3 => ?_)
    refine a_aloadn_0 (pc := 45) dX5_perform_45 ?_
    refine a_aloadn_0 (pc := 46) dX5_perform_46 ?_
    refine kg_41 (x := a.1 n) hm3 rfl dX5_perform_47 rfl ?_
    refine a_iloadn_2 (pc := 50) dX5_perform_50 ?_
    refine a_iloadn_3 (pc := 51) dX5_perform_51 ?_
    refine a_iconst (pc := 52) (v := nI 0) dX5_perform_52 (by decide) ?_
    refine cv_X5_44 (pc := 53) rfl dX5_perform_53 hm3.ob (Nat.le_of_ble_eq_true rfl) ?_
    refine k_run0 (by omega) hz (a := (a.1, a.2.1, n, a.1 n)) hm3 (hkd n hn) (k := a.1 n) (hkd n hn) (dp := 0) (by omega) (show 0 < _ by omega) (fun h4 hm4 => ?_)
    exact a_iret (pc := 56) dX5_perform_56 rfl (zf hz) (k1 n hn rfl _ hm4)
set_option maxRecDepth 100000 in
set_option maxHeartbeats 4000000 in
theorem k_perform_1 {G : Cx} {d : Nat} {h h0 : List va_E} {a : Su} {s : Rn} {Q : Option Value → List va_E → Prop} (hd : 15 ≤ d) (hz : gz G = false) (hm : SU G h0 h a s) {sc x : Int32} (hs : a.2.1 ≤ 50) (hkd : ∀ i, i < a.2.1 → a.1 i < 8) (k0 : inR 0 (nI a.2.1 - nI 1) sc = false → ∀ h1, SU G h0 h1 a (s.1, 0) → Q (some (.int (nI 0))) h1) (k1 : ∀ n, n < a.2.1 → sc = nI n → ∀ h1, SU G h0 h1 (a.1, a.2.1, n, a.1 n) (rns (s.1, 0) (actS n (a.1 n) 1 x).2) → Q (some (.int (actS n (a.1 n) 1 x).1)) h1) : AM G yX5_perform cX5_perform 4 (some .int) d 0 0 [.ref (gB G + 62), .int sc, .int (nI 1), .int x] h Q := by
  obtain ⟨d, rfl, he⟩ := dpos hd
  refine AM.of [some (.ref (gB G + 62)), some (.int (sc)), some (.int (nI (1))), some (.int (x))] pnX5 (Nat.le_of_ble_eq_true rfl) (by simp [lsub, lvI, Value.category]) ?_
  refine a_aloadn_0 (pc := 0) dX5_perform_0 ?_
  refine a_iconst (pc := 1) (v := nI 0) dX5_perform_1 (by decide) ?_
  refine kp_29 (x := 0) hm rfl dX5_perform_2 (fun h1 hm1 => ?_)
  refine a_iloadn_1 (pc := 5) dX5_perform_5 ?_
  refine a_iconst (pc := 6) (v := nI 0) dX5_perform_6 (by decide) ?_
  refine a_aloadn_0 (pc := 7) dX5_perform_7 ?_
  refine kg_18 (x := a.2.1) hm1 rfl dX5_perform_8 rfl ?_
  refine a_iconst (pc := 11) (v := nI 1) dX5_perform_11 (by decide) ?_
  refine a_isub (pc := 12) dX5_perform_12 ?_
  refine cs_X5_22 (pc := 13) rfl dX5_perform_13 (Nat.le_of_ble_eq_true rfl) ?_
  refine x_within (by omega) hz ?_
  refine a_topi (bI (inR 0 ((nI (a.2.1) - nI (1))) ((sc)))) rfl ?_
  refine b_if_eq (pc := 16) (tgt := 28) dX5_perform_16 (by decide) (fun c_16 => ?_) (fun c_16 => ?_)
  · refine a_iconst (pc := 28) (v := nI 0) dX5_perform_28 (by decide) ?_
    exact a_iret (pc := 29) dX5_perform_29 rfl (zf hz) (k0 c_16 _ hm1)
  · obtain ⟨n, hn, rfl⟩ := body_of hs c_16
    refine a_iloadn_2 (pc := 19) dX5_perform_19 ?_
    refine a_iconst (pc := 20) (v := nI 0) dX5_perform_20 (by decide) ?_
    refine a_iconst (pc := 21) (v := nI 3) dX5_perform_21 (by decide) ?_
    refine cs_X5_22 (pc := 22) rfl dX5_perform_22 (Nat.le_of_ble_eq_true rfl) ?_
    refine x_within (by omega) hz ?_
    refine a_topi (bI true) (by decide) ?_
    refine b_if_ne (pc := 25) (tgt := 30) dX5_perform_25 (by decide) (fun c_25 => ?_) (fun c_25 => by cases c_25)
    refine a_aloadn_0 (pc := 30) dX5_perform_30 ?_
    refine a_iloadn_1 (pc := 31) dX5_perform_31 ?_
    refine kp_38 (x := n) hm1 rfl dX5_perform_32 (fun h2 hm2 => ?_)
    refine a_aloadn_0 (pc := 35) dX5_perform_35 ?_
    refine a_aloadn_0 (pc := 36) dX5_perform_36 ?_
    refine kg_9 hm2 rfl dX5_perform_37 ?_
    refine a_iloadn_1 (pc := 40) dX5_perform_40 ?_
    refine kl_kinds (x := a.1 n) hm2 dX5_perform_41 (by omega) rfl ?_
    refine kp_41 (x := a.1 n) hm2 rfl dX5_perform_42 (fun h3 hm3 => ?_)
    refine a_aloadn_0 (pc := 45) dX5_perform_45 ?_
    refine a_aloadn_0 (pc := 46) dX5_perform_46 ?_
    refine kg_41 (x := a.1 n) hm3 rfl dX5_perform_47 rfl ?_
    refine a_iloadn_2 (pc := 50) dX5_perform_50 ?_
    refine a_iloadn_3 (pc := 51) dX5_perform_51 ?_
    refine a_iconst (pc := 52) (v := nI 0) dX5_perform_52 (by decide) ?_
    refine cv_X5_44 (pc := 53) rfl dX5_perform_53 hm3.ob (Nat.le_of_ble_eq_true rfl) ?_
    refine k_run1 (by omega) hz (a := (a.1, a.2.1, n, a.1 n)) hm3 (hkd n hn) (k := a.1 n) (hkd n hn) (dp := 0) (by omega) (show 0 < _ by omega) (fun h4 hm4 => ?_)
    exact a_iret (pc := 56) dX5_perform_56 rfl (zf hz) (k1 n hn rfl _ hm4)
set_option maxRecDepth 100000 in
set_option maxHeartbeats 4000000 in
theorem k_perform_2 {G : Cx} {d : Nat} {h h0 : List va_E} {a : Su} {s : Rn} {Q : Option Value → List va_E → Prop} (hd : 15 ≤ d) (hz : gz G = false) (hm : SU G h0 h a s) {sc x : Int32} (hs : a.2.1 ≤ 50) (hkd : ∀ i, i < a.2.1 → a.1 i < 8) (k0 : inR 0 (nI a.2.1 - nI 1) sc = false → ∀ h1, SU G h0 h1 a (s.1, 0) → Q (some (.int (nI 0))) h1) (k1 : ∀ n, n < a.2.1 → sc = nI n → ∀ h1, SU G h0 h1 (a.1, a.2.1, n, a.1 n) (rns (s.1, 0) (actS n (a.1 n) 2 x).2) → Q (some (.int (actS n (a.1 n) 2 x).1)) h1) : AM G yX5_perform cX5_perform 4 (some .int) d 0 0 [.ref (gB G + 62), .int sc, .int (nI 2), .int x] h Q := by
  obtain ⟨d, rfl, he⟩ := dpos hd
  refine AM.of [some (.ref (gB G + 62)), some (.int (sc)), some (.int (nI (2))), some (.int (x))] pnX5 (Nat.le_of_ble_eq_true rfl) (by simp [lsub, lvI, Value.category]) ?_
  refine a_aloadn_0 (pc := 0) dX5_perform_0 ?_
  refine a_iconst (pc := 1) (v := nI 0) dX5_perform_1 (by decide) ?_
  refine kp_29 (x := 0) hm rfl dX5_perform_2 (fun h1 hm1 => ?_)
  refine a_iloadn_1 (pc := 5) dX5_perform_5 ?_
  refine a_iconst (pc := 6) (v := nI 0) dX5_perform_6 (by decide) ?_
  refine a_aloadn_0 (pc := 7) dX5_perform_7 ?_
  refine kg_18 (x := a.2.1) hm1 rfl dX5_perform_8 rfl ?_
  refine a_iconst (pc := 11) (v := nI 1) dX5_perform_11 (by decide) ?_
  refine a_isub (pc := 12) dX5_perform_12 ?_
  refine cs_X5_22 (pc := 13) rfl dX5_perform_13 (Nat.le_of_ble_eq_true rfl) ?_
  refine x_within (by omega) hz ?_
  refine a_topi (bI (inR 0 ((nI (a.2.1) - nI (1))) ((sc)))) rfl ?_
  refine b_if_eq (pc := 16) (tgt := 28) dX5_perform_16 (by decide) (fun c_16 => ?_) (fun c_16 => ?_)
  · refine a_iconst (pc := 28) (v := nI 0) dX5_perform_28 (by decide) ?_
    exact a_iret (pc := 29) dX5_perform_29 rfl (zf hz) (k0 c_16 _ hm1)
  · obtain ⟨n, hn, rfl⟩ := body_of hs c_16
    refine a_iloadn_2 (pc := 19) dX5_perform_19 ?_
    refine a_iconst (pc := 20) (v := nI 0) dX5_perform_20 (by decide) ?_
    refine a_iconst (pc := 21) (v := nI 3) dX5_perform_21 (by decide) ?_
    refine cs_X5_22 (pc := 22) rfl dX5_perform_22 (Nat.le_of_ble_eq_true rfl) ?_
    refine x_within (by omega) hz ?_
    refine a_topi (bI true) (by decide) ?_
    refine b_if_ne (pc := 25) (tgt := 30) dX5_perform_25 (by decide) (fun c_25 => ?_) (fun c_25 => by cases c_25)
    refine a_aloadn_0 (pc := 30) dX5_perform_30 ?_
    refine a_iloadn_1 (pc := 31) dX5_perform_31 ?_
    refine kp_38 (x := n) hm1 rfl dX5_perform_32 (fun h2 hm2 => ?_)
    refine a_aloadn_0 (pc := 35) dX5_perform_35 ?_
    refine a_aloadn_0 (pc := 36) dX5_perform_36 ?_
    refine kg_9 hm2 rfl dX5_perform_37 ?_
    refine a_iloadn_1 (pc := 40) dX5_perform_40 ?_
    refine kl_kinds (x := a.1 n) hm2 dX5_perform_41 (by omega) rfl ?_
    refine kp_41 (x := a.1 n) hm2 rfl dX5_perform_42 (fun h3 hm3 => ?_)
    refine a_aloadn_0 (pc := 45) dX5_perform_45 ?_
    refine a_aloadn_0 (pc := 46) dX5_perform_46 ?_
    refine kg_41 (x := a.1 n) hm3 rfl dX5_perform_47 rfl ?_
    refine a_iloadn_2 (pc := 50) dX5_perform_50 ?_
    refine a_iloadn_3 (pc := 51) dX5_perform_51 ?_
    refine a_iconst (pc := 52) (v := nI 0) dX5_perform_52 (by decide) ?_
    refine cv_X5_44 (pc := 53) rfl dX5_perform_53 hm3.ob (Nat.le_of_ble_eq_true rfl) ?_
    refine k_run2 (by omega) hz (a := (a.1, a.2.1, n, a.1 n)) hm3 (hkd n hn) (k := a.1 n) (hkd n hn) (dp := 0) (by omega) (show 0 < _ by omega) (fun h4 hm4 => ?_)
    exact a_iret (pc := 56) dX5_perform_56 rfl (zf hz) (k1 n hn rfl _ hm4)
set_option maxRecDepth 100000 in
set_option maxHeartbeats 4000000 in
theorem k_perform_3 {G : Cx} {d : Nat} {h h0 : List va_E} {a : Su} {s : Rn} {Q : Option Value → List va_E → Prop} (hd : 15 ≤ d) (hz : gz G = false) (hm : SU G h0 h a s) {sc x : Int32} (hs : a.2.1 ≤ 50) (hkd : ∀ i, i < a.2.1 → a.1 i < 8) (k0 : inR 0 (nI a.2.1 - nI 1) sc = false → ∀ h1, SU G h0 h1 a (s.1, 0) → Q (some (.int (nI 0))) h1) (k1 : ∀ n, n < a.2.1 → sc = nI n → ∀ h1, SU G h0 h1 (a.1, a.2.1, n, a.1 n) (rns (s.1, 0) (actS n (a.1 n) 3 x).2) → Q (some (.int (actS n (a.1 n) 3 x).1)) h1) : AM G yX5_perform cX5_perform 4 (some .int) d 0 0 [.ref (gB G + 62), .int sc, .int (nI 3), .int x] h Q := by
  obtain ⟨d, rfl, he⟩ := dpos hd
  refine AM.of [some (.ref (gB G + 62)), some (.int (sc)), some (.int (nI (3))), some (.int (x))] pnX5 (Nat.le_of_ble_eq_true rfl) (by simp [lsub, lvI, Value.category]) ?_
  refine a_aloadn_0 (pc := 0) dX5_perform_0 ?_
  refine a_iconst (pc := 1) (v := nI 0) dX5_perform_1 (by decide) ?_
  refine kp_29 (x := 0) hm rfl dX5_perform_2 (fun h1 hm1 => ?_)
  refine a_iloadn_1 (pc := 5) dX5_perform_5 ?_
  refine a_iconst (pc := 6) (v := nI 0) dX5_perform_6 (by decide) ?_
  refine a_aloadn_0 (pc := 7) dX5_perform_7 ?_
  refine kg_18 (x := a.2.1) hm1 rfl dX5_perform_8 rfl ?_
  refine a_iconst (pc := 11) (v := nI 1) dX5_perform_11 (by decide) ?_
  refine a_isub (pc := 12) dX5_perform_12 ?_
  refine cs_X5_22 (pc := 13) rfl dX5_perform_13 (Nat.le_of_ble_eq_true rfl) ?_
  refine x_within (by omega) hz ?_
  refine a_topi (bI (inR 0 ((nI (a.2.1) - nI (1))) ((sc)))) rfl ?_
  refine b_if_eq (pc := 16) (tgt := 28) dX5_perform_16 (by decide) (fun c_16 => ?_) (fun c_16 => ?_)
  · refine a_iconst (pc := 28) (v := nI 0) dX5_perform_28 (by decide) ?_
    exact a_iret (pc := 29) dX5_perform_29 rfl (zf hz) (k0 c_16 _ hm1)
  · obtain ⟨n, hn, rfl⟩ := body_of hs c_16
    refine a_iloadn_2 (pc := 19) dX5_perform_19 ?_
    refine a_iconst (pc := 20) (v := nI 0) dX5_perform_20 (by decide) ?_
    refine a_iconst (pc := 21) (v := nI 3) dX5_perform_21 (by decide) ?_
    refine cs_X5_22 (pc := 22) rfl dX5_perform_22 (Nat.le_of_ble_eq_true rfl) ?_
    refine x_within (by omega) hz ?_
    refine a_topi (bI true) (by decide) ?_
    refine b_if_ne (pc := 25) (tgt := 30) dX5_perform_25 (by decide) (fun c_25 => ?_) (fun c_25 => by cases c_25)
    refine a_aloadn_0 (pc := 30) dX5_perform_30 ?_
    refine a_iloadn_1 (pc := 31) dX5_perform_31 ?_
    refine kp_38 (x := n) hm1 rfl dX5_perform_32 (fun h2 hm2 => ?_)
    refine a_aloadn_0 (pc := 35) dX5_perform_35 ?_
    refine a_aloadn_0 (pc := 36) dX5_perform_36 ?_
    refine kg_9 hm2 rfl dX5_perform_37 ?_
    refine a_iloadn_1 (pc := 40) dX5_perform_40 ?_
    refine kl_kinds (x := a.1 n) hm2 dX5_perform_41 (by omega) rfl ?_
    refine kp_41 (x := a.1 n) hm2 rfl dX5_perform_42 (fun h3 hm3 => ?_)
    refine a_aloadn_0 (pc := 45) dX5_perform_45 ?_
    refine a_aloadn_0 (pc := 46) dX5_perform_46 ?_
    refine kg_41 (x := a.1 n) hm3 rfl dX5_perform_47 rfl ?_
    refine a_iloadn_2 (pc := 50) dX5_perform_50 ?_
    refine a_iloadn_3 (pc := 51) dX5_perform_51 ?_
    refine a_iconst (pc := 52) (v := nI 0) dX5_perform_52 (by decide) ?_
    refine cv_X5_44 (pc := 53) rfl dX5_perform_53 hm3.ob (Nat.le_of_ble_eq_true rfl) ?_
    refine k_run3 (by omega) hz (a := (a.1, a.2.1, n, a.1 n)) hm3 (hkd n hn) (k := a.1 n) (hkd n hn) (dp := 0) (by omega) (show 0 < _ by omega) (fun h4 hm4 => ?_)
    exact a_iret (pc := 56) dX5_perform_56 rfl (zf hz) (k1 n hn rfl _ hm4)
set_option maxRecDepth 100000 in
set_option maxHeartbeats 4000000 in
theorem k_perform_o {G : Cx} {d : Nat} {h h0 : List va_E} {a : Su} {s : Rn} {Q : Option Value → List va_E → Prop} (hd : 15 ≤ d) (hz : gz G = false) (hm : SU G h0 h a s) {sc x ac : Int32} (hac : inR 0 (nI 3) ac = false) (k0 : ∀ h1, SU G h0 h1 a (s.1, 0) → Q (some (.int (nI 0))) h1) : AM G yX5_perform cX5_perform 4 (some .int) d 0 0 [.ref (gB G + 62), .int sc, .int ac, .int x] h Q := by
  obtain ⟨d, rfl, he⟩ := dpos hd
  refine AM.of [some (.ref (gB G + 62)), some (.int (sc)), some (.int (ac)), some (.int (x))] pnX5 (Nat.le_of_ble_eq_true rfl) (by simp [lsub, lvI, Value.category]) ?_
  refine a_aloadn_0 (pc := 0) dX5_perform_0 ?_
  refine a_iconst (pc := 1) (v := nI 0) dX5_perform_1 (by decide) ?_
  refine kp_29 (x := 0) hm rfl dX5_perform_2 (fun h1 hm1 => ?_)
  refine a_iloadn_1 (pc := 5) dX5_perform_5 ?_
  refine a_iconst (pc := 6) (v := nI 0) dX5_perform_6 (by decide) ?_
  refine a_aloadn_0 (pc := 7) dX5_perform_7 ?_
  refine kg_18 (x := a.2.1) hm1 rfl dX5_perform_8 rfl ?_
  refine a_iconst (pc := 11) (v := nI 1) dX5_perform_11 (by decide) ?_
  refine a_isub (pc := 12) dX5_perform_12 ?_
  refine cs_X5_22 (pc := 13) rfl dX5_perform_13 (Nat.le_of_ble_eq_true rfl) ?_
  refine x_within (by omega) hz ?_
  refine a_topi (bI (inR 0 ((nI (a.2.1) - nI (1))) ((sc)))) rfl ?_
  refine b_if_eq (pc := 16) (tgt := 28) dX5_perform_16 (by decide) (fun c_16 => ?_) (fun c_16 => ?_)
  · refine a_iconst (pc := 28) (v := nI 0) dX5_perform_28 (by decide) ?_
    exact a_iret (pc := 29) dX5_perform_29 rfl (zf hz) (k0 _ hm1)
  · refine a_iloadn_2 (pc := 19) dX5_perform_19 ?_
    refine a_iconst (pc := 20) (v := nI 0) dX5_perform_20 (by decide) ?_
    refine a_iconst (pc := 21) (v := nI 3) dX5_perform_21 (by decide) ?_
    refine cs_X5_22 (pc := 22) rfl dX5_perform_22 (Nat.le_of_ble_eq_true rfl) ?_
    refine x_within (by omega) hz ?_
    refine a_topi (bI (inR 0 (nI (3)) ((ac)))) rfl ?_
    refine b_if_ne (pc := 25) (tgt := 30) dX5_perform_25 (by decide) (fun c_25 => by rw [hac] at c_25; cases c_25) (fun c_25 => ?_)
    refine a_iconst (pc := 28) (v := nI 0) dX5_perform_28 (by decide) ?_
    exact a_iret (pc := 29) dX5_perform_29 rfl (zf hz) (k0 _ hm1)
theorem k_perform {G : Cx} {d : Nat} {h h0 : List va_E} {a : Su} {s : Rn} {Q : Option Value → List va_E → Prop} (hd : 15 ≤ d) (hz : gz G = false) (hm : SU G h0 h a s) {sc x ac : Int32} (hs : a.2.1 ≤ 50) (hkd : ∀ i, i < a.2.1 → a.1 i < 8) (k0 : (inR 0 (nI a.2.1 - nI 1) sc && inR 0 (nI 3) ac) = false → ∀ h1, SU G h0 h1 a (s.1, 0) → Q (some (.int (nI 0))) h1) (k1 : ∀ n m, n < a.2.1 → sc = nI n → m < 4 → ac = nI m → ∀ h1, SU G h0 h1 (a.1, a.2.1, n, a.1 n) (rns (s.1, 0) (actS n (a.1 n) m x).2) → Q (some (.int (actS n (a.1 n) m x).1)) h1) : AM G yX5_perform cX5_perform 4 (some .int) d 0 0 [.ref (gB G + 62), .int sc, .int ac, .int x] h Q := by
  cases hac : inR 0 (nI 3) ac with
  | false => exact k_perform_o hd hz hm hac (k0 (by rw [hac, Bool.and_false]))
  | true =>
    obtain ⟨m, hm4, rfl⟩ := inR_of (by decide) hac
    rcases (show m = 0 ∨ m = 1 ∨ m = 2 ∨ m = 3 by omega) with rfl | rfl | rfl | rfl
    · exact k_perform_0 hd hz hm hs hkd (fun e => k0 (by rw [e]; rfl)) (fun n hn e => k1 n 0 hn e (by decide) rfl)
    · exact k_perform_1 hd hz hm hs hkd (fun e => k0 (by rw [e]; rfl)) (fun n hn e => k1 n 1 hn e (by decide) rfl)
    · exact k_perform_2 hd hz hm hs hkd (fun e => k0 (by rw [e]; rfl)) (fun n hn e => k1 n 2 hn e (by decide) rfl)
    · exact k_perform_3 hd hz hm hs hkd (fun e => k0 (by rw [e]; rfl)) (fun n hn e => k1 n 3 hn e (by decide) rfl)
set_option maxRecDepth 100000 in
set_option maxHeartbeats 4000000 in
theorem m_isBody {G : Cx} {d : Nat} {h h0 : List va_E} {b : MB} {p : MP} {t : MT} {o : MO} {Q : Option Value → List va_E → Prop} (hd : 2 ≤ d) (hz : gz G = false) (hm : MS G h0 h (b, p, t, o)) {x : Int32} (hbs : gBodies b ≤ 50) (k : Q (some (.int (bI (inR 0 (nI (gBodies b) - nI 1) x)))) h) : AM G yX12_isBody cX12_isBody 2 (some .boolean) d 0 0 [.ref (gB G + 80), .int x] h Q := by
  obtain ⟨d, rfl, he⟩ := dpos hd
  refine AM.of [some (.ref (gB G + 80)), some (.int (x))] pnX12 (Nat.le_of_ble_eq_true rfl) (by simp [lsub, lvI, Value.category]) ?_
  refine a_iloadn_1 (pc := 0) dX12_isBody_0 ?_
  refine a_i2l (pc := 1) dX12_isBody_1 ?_
  refine a_lconst (pc := 2) (v := 0) dX12_isBody_2 (by decide) ?_
  refine a_aloadn_0 (pc := 3) dX12_isBody_3 ?_
  refine mg_301 (x := gBodies b) hm rfl dX12_isBody_4 rfl ?_
  refine a_iconst (pc := 7) (v := nI 1) dX12_isBody_7 (by decide) ?_
  refine a_isub (pc := 8) dX12_isBody_8 ?_
  refine a_i2l (pc := 9) dX12_isBody_9 ?_
  refine cs_X12_96 (pc := 10) rfl dX12_isBody_10 (Nat.le_of_ble_eq_true rfl) ?_
  refine m_within (by omega) hz ?_
  refine a_topi (bI (inR 0 (nI (gBodies b) - nI 1) x)) (congrArg bI (inL_i 0 _ _)) ?_
  exact a_zret (pc := 13) dX12_isBody_13 rfl (by first | rfl | exact bI_nar _ | decide) (zf hz) k
set_option maxRecDepth 100000 in
set_option maxHeartbeats 4000000 in
theorem m_body {G : Cx} {d : Nat} {h h0 : List va_E} {b : MB} {p : MP} {t : MT} {o : MO} {Q : Option Value → List va_E → Prop} (hd : 3 ≤ d) (hz : gz G = false) (hm : MS G h0 h (b, p, t, o)) {kd : Int32} (hbs : gBodies b ≤ 50) (k0 : inR 0 (nI 7) kd = false → Q (some (.int (-1))) h) (k2 : ∀ n, n < 8 → kd = nI n → gBodies b = 50 → Q (some (.int (-3))) h) (k1 : ∀ n, n < 8 → kd = nI n → gBodies b < 50 → ∀ h1, MS G h0 h1 (uBodies (uBodyKind b (va_up (gBodyKind b) (gBodies b) n)) (gBodies b + 1), p, t, o) → Q (some (.int (nI (gBodies b)))) h1) : AM G yX12_body cX12_body 2 (some .int) d 0 0 [.ref (gB G + 80), .int (kd)] h Q := by
  obtain ⟨d, rfl, he⟩ := dpos hd
  refine AM.of [some (.ref (gB G + 80)), some (.int (kd))] pnX12 (Nat.le_of_ble_eq_true rfl) (by simp [lsub, lvI, Value.category]) ?_
  refine a_iloadn_1 (pc := 0) dX12_body_0 ?_
  refine a_i2l (pc := 1) dX12_body_1 ?_
  refine a_lconst (pc := 2) (v := 0) dX12_body_2 (by decide) ?_
  refine a_ldc2 (pc := 3) dX12_body_3 w_1408 ?_
  refine cs_X12_96 (pc := 6) rfl dX12_body_6 (Nat.le_of_ble_eq_true rfl) ?_
  refine m_within (by omega) hz ?_
  refine a_topi (bI (inR 0 (nI 7) kd)) (congrArg bI (inL_R 0 7 (by decide) (by decide) kd)) ?_
  refine b_if_ne (pc := 9) (tgt := 14) dX12_body_9 (by decide) (fun c_9 => ?_) (fun c_9 => ?_)
  · obtain ⟨n_kd, h_kd, rfl⟩ := inR_of (by decide) c_9
    have i_kd : iN (nI n_kd) = n_kd := iN_nI (by omega)
    refine a_aloadn_0 (pc := 14) dX12_body_14 ?_
    refine mg_301 (x := gBodies b) hm rfl dX12_body_15 rfl ?_
    refine a_bipush (pc := 18) (v := nI 50) dX12_body_18 (by decide) ?_
    refine n_icmp_ne (tgt := 26) dX12_body_20 (by decide) (by omega) (by decide) (fun c_20 => ?_) (fun c_20 => ?_)
    · refine a_aloadn_0 (pc := 26) dX12_body_26 ?_
      refine mg_65 hm rfl dX12_body_27 ?_
      refine a_aloadn_0 (pc := 30) dX12_body_30 ?_
      refine mg_301 (x := gBodies b) hm rfl dX12_body_31 rfl ?_
      refine a_iloadn_1 (pc := 34) dX12_body_34 ?_
      refine ms_bodyKind (j := (gBodies b)) (x := n_kd) hm dX12_body_35 (by omega) (fun h1 hm1 => ?_)
      refine a_aloadn_0 (pc := 36) dX12_body_36 ?_
      refine a_dup (pc := 37) dX12_body_37 rfl ?_
      refine mg_301 (x := gBodies b) hm1 rfl dX12_body_38 rfl ?_
      refine a_iconst (pc := 41) (v := nI 1) dX12_body_41 (by decide) ?_
      refine n_iadd dX12_body_42 ?_
      refine mp_301 (x := gBodies b + 1) hm1 rfl dX12_body_43 (fun h2 hm2 => ?_)
      refine a_aloadn_0 (pc := 46) dX12_body_46 ?_
      refine mg_301 (x := gBodies b + 1) hm2 rfl dX12_body_47 rfl ?_
      refine a_iconst (pc := 50) (v := nI 1) dX12_body_50 (by decide) ?_
      refine n_isub dX12_body_51 (by omega) ?_
      refine a_topi (nI (gBodies b)) (congrArg nI (by omega)) ?_
      exact a_iret (pc := 52) dX12_body_52 rfl (zf hz) (k1 n_kd (by omega) rfl (by omega) _ hm2)
    · refine a_bipush (pc := 23) (v := (-3)) dX12_body_23 (by decide) ?_
      exact a_iret (pc := 25) dX12_body_25 rfl (zf hz) (k2 n_kd (by omega) rfl c_20)
  · refine a_iconst (pc := 12) (v := (-1)) dX12_body_12 (by decide) ?_
    exact a_iret (pc := 13) dX12_body_13 rfl (zf hz) (k0 c_9)
theorem tr_lt {x y : Int32} (h : x < 0) : inR 0 y x = false := by
  unfold inR
  rw [decide_eq_false (Int32.not_le.mpr h)]; rfl
theorem tr_ge {m n : Nat} (hn : n < 2147483648) (h : m ≤ 24 ∧ m ≤ n) : inR 0 (nI m - nI 1) (nI n) = false := by
  cases e : inR 0 (nI m - nI 1) (nI n) with
  | false => rfl
  | true =>
    obtain ⟨j, hj, q⟩ := body_of (by omega) e
    have := (nI_eq hn (by omega)).mp q
    omega
set_option maxRecDepth 100000 in
set_option maxHeartbeats 4000000 in
theorem m_trace {G : Cx} {d : Nat} {h h0 : List va_E} {b : MB} {p : MP} {t : MT} {o : MO} {Q : Option Value → List va_E → Prop} (hd : 1 ≤ d) (hz : gz G = false) (hm : MS G h0 h (b, p, t, o)) {x : Int32} (hr : gRan b < 1000) (k0 : inR 0 (nI (min (gRan b) 24) - nI 1) x = false → Q (some (.int (-1))) h) (k1 : ∀ n, n < min (gRan b) 24 → x = nI n → Q (some (.int (nI (gTrace b n)))) h) : AM G yX12_trace cX12_trace 2 (some .int) d 0 0 [.ref (gB G + 80), .int (x)] h Q := by
  obtain ⟨d, rfl, he⟩ := dpos hd
  refine AM.of [some (.ref (gB G + 80)), some (.int (x))] pnX12 (Nat.le_of_ble_eq_true rfl) (by simp [lsub, lvI, Value.category]) ?_
  refine a_iloadn_1 (pc := 0) dX12_trace_0 ?_
  refine a_if_lt (pc := 1) (tgt := 27) dX12_trace_1 (by decide) (fun c_1 => ?_) (fun c_1 => ?_)
  · refine a_iconst (pc := 27) (v := (-1)) dX12_trace_27 (by decide) ?_
    exact a_iret (pc := 28) dX12_trace_28 rfl (zf hz) (k0 (tr_lt c_1))
  · obtain ⟨n, hn, rfl⟩ := nI_of c_1
    refine a_iloadn_1 (pc := 4) dX12_trace_4 ?_
    refine a_aloadn_0 (pc := 5) dX12_trace_5 ?_
    refine mg_306 (x := gRan b) hm rfl dX12_trace_6 rfl ?_
    refine n_icmp_ge (tgt := 27) dX12_trace_9 (by decide) (by omega) (by omega) (fun c_9 => ?_) (fun c_9 => ?_)
    · refine a_iconst (pc := 27) (v := (-1)) dX12_trace_27 (by decide) ?_
      exact a_iret (pc := 28) dX12_trace_28 rfl (zf hz) (k0 (tr_ge (by omega) (by omega)))
    · refine a_iloadn_1 (pc := 12) dX12_trace_12 ?_
      refine a_bipush (pc := 13) (v := nI 24) dX12_trace_13 (by decide) ?_
      refine n_icmp_ge (tgt := 27) dX12_trace_15 (by decide) (by omega) (by decide) (fun c_15 => ?_) (fun c_15 => ?_)
      · refine a_iconst (pc := 27) (v := (-1)) dX12_trace_27 (by decide) ?_
        exact a_iret (pc := 28) dX12_trace_28 rfl (zf hz) (k0 (tr_ge (by omega) (by omega)))
      · refine a_aloadn_0 (pc := 18) dX12_trace_18 ?_
        refine mg_68 hm rfl dX12_trace_19 ?_
        refine a_iloadn_1 (pc := 22) dX12_trace_22 ?_
        refine ml_trace (x := gTrace b n) hm dX12_trace_23 (by omega) rfl ?_
        refine a_goto (pc := 24) (tgt := 28) dX12_trace_24 (by decide) ?_
        exact a_iret (pc := 28) dX12_trace_28 rfl (zf hz) (k1 n (by omega) rfl)
set_option maxRecDepth 100000 in
set_option maxHeartbeats 4000000 in
theorem m_act_0 {G : Cx} {d : Nat} {h h0 : List va_E} {b : MB} {p : MP} {t : MT} {o : MO} {Q : Option Value → List va_E → Prop} (hd : 16 ≤ d) (hz : gz G = false) (hm : MS G h0 h (b, p, t, o)) {sc x : Int32} (hbs : gBodies b ≤ 50) (hkd : ∀ i, i < gBodies b → gBodyKind b i < 8) (k0 : inR 0 (nI (gBodies b) - nI 1) sc = false → ∀ h1, MS G h0 h1 (uRan b 0, p, t, o) → Q (some (.int (nI 0))) h1) (k1 : ∀ n, n < gBodies b → sc = nI n → ∀ h1 o1, MS G h0 h1 (uRan (uTrace b (rns (gTrace b, 0) (actS n (gBodyKind b n) 0 x).2).1) (rns (gTrace b, 0) (actS n (gBodyKind b n) 0 x).2).2, p, t, o1) → o1.2.1 = o.2.1 → Q (some (.int (actS n (gBodyKind b n) 0 x).1)) h1) : AM G yX12_act cX12_act 4 (some .int) d 0 0 [.ref (gB G + 80), .int (sc), .int (nI (0)), .int (x)] h Q := by
  obtain ⟨d, rfl, he⟩ := dpos hd
  refine AM.of [some (.ref (gB G + 80)), some (.int (sc)), some (.int (nI (0))), some (.int (x))] pnX12 (Nat.le_of_ble_eq_true rfl) (by simp [lsub, lvI, Value.category]) ?_
  refine a_aloadn_0 (pc := 0) dX12_act_0 ?_
  refine a_iconst (pc := 1) (v := nI 0) dX12_act_1 (by decide) ?_
  refine mp_306 (x := 0) hm rfl dX12_act_2 (fun h1 hm1 => ?_)
  refine a_aloadn_0 (pc := 5) dX12_act_5 ?_
  refine a_iloadn_1 (pc := 6) dX12_act_6 ?_
  refine cv_X12_330 (pc := 7) rfl dX12_act_7 hm1.2.2.1 (Nat.le_of_ble_eq_true rfl) ?_
  refine m_isBody (by omega) hz hm1 hbs ?_
  refine b_if_ne (pc := 10) (tgt := 15) dX12_act_10 (by decide) (fun c_10 => ?_) (fun c_10 => ?_)
  · obtain ⟨n, hn, rfl⟩ := body_of hbs c_10
    refine a_aloadn_0 (pc := 15) dX12_act_15 ?_
    refine a_aloadn_0 (pc := 16) dX12_act_16 ?_
    refine mg_65 hm1 rfl dX12_act_17 ?_
    refine a_iloadn_1 (pc := 20) dX12_act_20 ?_
    refine ml_bodyKind (x := gBodyKind b n) hm1 dX12_act_21 (by omega) rfl ?_
    refine mp_321 (x := gBodyKind b n) hm1 rfl dX12_act_22 (fun h2 hm2 => ?_)
    refine a_aloadn_0 (pc := 25) dX12_act_25 ?_
    refine a_iloadn_1 (pc := 26) dX12_act_26 ?_
    refine mp_315 (x := n) hm2 rfl dX12_act_27 (fun h3 hm3 => ?_)
    have hk9 := hkd n hn
    have hmA : MS G h0 h3 (uRan (uTrace b (gTrace b, 0).1) (gTrace b, 0).2, p, t, (o.1, o.2.1, o.2.2.1, o.2.2.2.1, o.2.2.2.2.1, o.2.2.2.2.2.1, gBodyKind b n, n, o.2.2.2.2.2.2.2.2)) := hm3
    refine a_iloadn_2 (pc := 30) dX12_act_30 ?_
    refine a_tableIn (pc := 31) (off := 29) (tgt := 60) dX12_act_31 (by decide) (by decide) (by decide) (by decide) ?_
    refine a_aloadn_0 (pc := 60) dX12_act_60 ?_
    refine a_aloadn_0 (pc := 61) dX12_act_61 ?_
    refine mg_321 (x := gBodyKind b n) hm3 rfl dX12_act_62 rfl ?_
    refine a_iloadn_3 (pc := 65) dX12_act_65 ?_
    refine cv_X12_312 (pc := 66) rfl dX12_act_66 hm3.2.2.1 (Nat.le_of_ble_eq_true rfl) ?_
    refine m_burnsAs (by omega) hz hmA (n := n) (sk := gBodyKind b n) ⟨rfl, rfl⟩ (k := gBodyKind b n) hk9 (show 0 < _ by omega) (fun h9 hm9 => ?_)
    exact a_iret (pc := 69) dX12_act_69 rfl (zf hz) (k1 n hn rfl _ _ hm9 rfl)
  · refine a_iconst (pc := 13) (v := nI 0) dX12_act_13 (by decide) ?_
    exact a_iret (pc := 14) dX12_act_14 rfl (zf hz) (k0 c_10 _ hm1)
set_option maxRecDepth 100000 in
set_option maxHeartbeats 4000000 in
theorem m_act_1 {G : Cx} {d : Nat} {h h0 : List va_E} {b : MB} {p : MP} {t : MT} {o : MO} {Q : Option Value → List va_E → Prop} (hd : 16 ≤ d) (hz : gz G = false) (hm : MS G h0 h (b, p, t, o)) {sc x : Int32} (hbs : gBodies b ≤ 50) (hkd : ∀ i, i < gBodies b → gBodyKind b i < 8) (k0 : inR 0 (nI (gBodies b) - nI 1) sc = false → ∀ h1, MS G h0 h1 (uRan b 0, p, t, o) → Q (some (.int (nI 0))) h1) (k1 : ∀ n, n < gBodies b → sc = nI n → ∀ h1 o1, MS G h0 h1 (uRan (uTrace b (rns (gTrace b, 0) (actS n (gBodyKind b n) 1 x).2).1) (rns (gTrace b, 0) (actS n (gBodyKind b n) 1 x).2).2, p, t, o1) → o1.2.1 = o.2.1 → Q (some (.int (actS n (gBodyKind b n) 1 x).1)) h1) : AM G yX12_act cX12_act 4 (some .int) d 0 0 [.ref (gB G + 80), .int (sc), .int (nI (1)), .int (x)] h Q := by
  obtain ⟨d, rfl, he⟩ := dpos hd
  refine AM.of [some (.ref (gB G + 80)), some (.int (sc)), some (.int (nI (1))), some (.int (x))] pnX12 (Nat.le_of_ble_eq_true rfl) (by simp [lsub, lvI, Value.category]) ?_
  refine a_aloadn_0 (pc := 0) dX12_act_0 ?_
  refine a_iconst (pc := 1) (v := nI 0) dX12_act_1 (by decide) ?_
  refine mp_306 (x := 0) hm rfl dX12_act_2 (fun h1 hm1 => ?_)
  refine a_aloadn_0 (pc := 5) dX12_act_5 ?_
  refine a_iloadn_1 (pc := 6) dX12_act_6 ?_
  refine cv_X12_330 (pc := 7) rfl dX12_act_7 hm1.2.2.1 (Nat.le_of_ble_eq_true rfl) ?_
  refine m_isBody (by omega) hz hm1 hbs ?_
  refine b_if_ne (pc := 10) (tgt := 15) dX12_act_10 (by decide) (fun c_10 => ?_) (fun c_10 => ?_)
  · obtain ⟨n, hn, rfl⟩ := body_of hbs c_10
    refine a_aloadn_0 (pc := 15) dX12_act_15 ?_
    refine a_aloadn_0 (pc := 16) dX12_act_16 ?_
    refine mg_65 hm1 rfl dX12_act_17 ?_
    refine a_iloadn_1 (pc := 20) dX12_act_20 ?_
    refine ml_bodyKind (x := gBodyKind b n) hm1 dX12_act_21 (by omega) rfl ?_
    refine mp_321 (x := gBodyKind b n) hm1 rfl dX12_act_22 (fun h2 hm2 => ?_)
    refine a_aloadn_0 (pc := 25) dX12_act_25 ?_
    refine a_iloadn_1 (pc := 26) dX12_act_26 ?_
    refine mp_315 (x := n) hm2 rfl dX12_act_27 (fun h3 hm3 => ?_)
    have hk9 := hkd n hn
    have hmA : MS G h0 h3 (uRan (uTrace b (gTrace b, 0).1) (gTrace b, 0).2, p, t, (o.1, o.2.1, o.2.2.1, o.2.2.2.1, o.2.2.2.2.1, o.2.2.2.2.2.1, gBodyKind b n, n, o.2.2.2.2.2.2.2.2)) := hm3
    refine a_iloadn_2 (pc := 30) dX12_act_30 ?_
    refine a_tableIn (pc := 31) (off := 39) (tgt := 70) dX12_act_31 (by decide) (by decide) (by decide) (by decide) ?_
    refine a_aloadn_0 (pc := 70) dX12_act_70 ?_
    refine a_aloadn_0 (pc := 71) dX12_act_71 ?_
    refine mg_321 (x := gBodyKind b n) hm3 rfl dX12_act_72 rfl ?_
    refine a_iloadn_3 (pc := 75) dX12_act_75 ?_
    refine cv_X12_318 (pc := 76) rfl dX12_act_76 hm3.2.2.1 (Nat.le_of_ble_eq_true rfl) ?_
    refine m_holdsAs (by omega) hz hmA (n := n) (sk := gBodyKind b n) ⟨rfl, rfl⟩ hk9 (k := gBodyKind b n) hk9 (show 0 < _ by omega) (fun h9 hm9 => ?_)
    exact a_iret (pc := 79) dX12_act_79 rfl (zf hz) (k1 n hn rfl _ _ hm9 rfl)
  · refine a_iconst (pc := 13) (v := nI 0) dX12_act_13 (by decide) ?_
    exact a_iret (pc := 14) dX12_act_14 rfl (zf hz) (k0 c_10 _ hm1)
set_option maxRecDepth 100000 in
set_option maxHeartbeats 4000000 in
theorem m_act_2 {G : Cx} {d : Nat} {h h0 : List va_E} {b : MB} {p : MP} {t : MT} {o : MO} {Q : Option Value → List va_E → Prop} (hd : 16 ≤ d) (hz : gz G = false) (hm : MS G h0 h (b, p, t, o)) {sc x : Int32} (hbs : gBodies b ≤ 50) (hkd : ∀ i, i < gBodies b → gBodyKind b i < 8) (k0 : inR 0 (nI (gBodies b) - nI 1) sc = false → ∀ h1, MS G h0 h1 (uRan b 0, p, t, o) → Q (some (.int (nI 0))) h1) (k1 : ∀ n, n < gBodies b → sc = nI n → ∀ h1 o1, MS G h0 h1 (uRan (uTrace b (rns (gTrace b, 0) (actS n (gBodyKind b n) 2 x).2).1) (rns (gTrace b, 0) (actS n (gBodyKind b n) 2 x).2).2, p, t, o1) → o1.2.1 = o.2.1 → Q (some (.int (actS n (gBodyKind b n) 2 x).1)) h1) : AM G yX12_act cX12_act 4 (some .int) d 0 0 [.ref (gB G + 80), .int (sc), .int (nI (2)), .int (x)] h Q := by
  obtain ⟨d, rfl, he⟩ := dpos hd
  refine AM.of [some (.ref (gB G + 80)), some (.int (sc)), some (.int (nI (2))), some (.int (x))] pnX12 (Nat.le_of_ble_eq_true rfl) (by simp [lsub, lvI, Value.category]) ?_
  refine a_aloadn_0 (pc := 0) dX12_act_0 ?_
  refine a_iconst (pc := 1) (v := nI 0) dX12_act_1 (by decide) ?_
  refine mp_306 (x := 0) hm rfl dX12_act_2 (fun h1 hm1 => ?_)
  refine a_aloadn_0 (pc := 5) dX12_act_5 ?_
  refine a_iloadn_1 (pc := 6) dX12_act_6 ?_
  refine cv_X12_330 (pc := 7) rfl dX12_act_7 hm1.2.2.1 (Nat.le_of_ble_eq_true rfl) ?_
  refine m_isBody (by omega) hz hm1 hbs ?_
  refine b_if_ne (pc := 10) (tgt := 15) dX12_act_10 (by decide) (fun c_10 => ?_) (fun c_10 => ?_)
  · obtain ⟨n, hn, rfl⟩ := body_of hbs c_10
    refine a_aloadn_0 (pc := 15) dX12_act_15 ?_
    refine a_aloadn_0 (pc := 16) dX12_act_16 ?_
    refine mg_65 hm1 rfl dX12_act_17 ?_
    refine a_iloadn_1 (pc := 20) dX12_act_20 ?_
    refine ml_bodyKind (x := gBodyKind b n) hm1 dX12_act_21 (by omega) rfl ?_
    refine mp_321 (x := gBodyKind b n) hm1 rfl dX12_act_22 (fun h2 hm2 => ?_)
    refine a_aloadn_0 (pc := 25) dX12_act_25 ?_
    refine a_iloadn_1 (pc := 26) dX12_act_26 ?_
    refine mp_315 (x := n) hm2 rfl dX12_act_27 (fun h3 hm3 => ?_)
    have hk9 := hkd n hn
    have hmA : MS G h0 h3 (uRan (uTrace b (gTrace b, 0).1) (gTrace b, 0).2, p, t, (o.1, o.2.1, o.2.2.1, o.2.2.2.1, o.2.2.2.2.1, o.2.2.2.2.2.1, gBodyKind b n, n, o.2.2.2.2.2.2.2.2)) := hm3
    refine a_iloadn_2 (pc := 30) dX12_act_30 ?_
    refine a_tableIn (pc := 31) (off := 49) (tgt := 80) dX12_act_31 (by decide) (by decide) (by decide) (by decide) ?_
    refine a_aloadn_0 (pc := 80) dX12_act_80 ?_
    refine a_aloadn_0 (pc := 81) dX12_act_81 ?_
    refine mg_321 (x := gBodyKind b n) hm3 rfl dX12_act_82 rfl ?_
    refine a_iloadn_3 (pc := 85) dX12_act_85 ?_
    refine cv_X12_324 (pc := 86) rfl dX12_act_86 hm3.2.2.1 (Nat.le_of_ble_eq_true rfl) ?_
    refine m_looksAs (by omega) hz hmA (n := n) (sk := gBodyKind b n) ⟨rfl, rfl⟩ hk9 (k := gBodyKind b n) hk9 (show 0 < _ by omega) (fun h9 hm9 => ?_)
    exact a_iret (pc := 89) dX12_act_89 rfl (zf hz) (k1 n hn rfl _ _ hm9 rfl)
  · refine a_iconst (pc := 13) (v := nI 0) dX12_act_13 (by decide) ?_
    exact a_iret (pc := 14) dX12_act_14 rfl (zf hz) (k0 c_10 _ hm1)
set_option maxRecDepth 100000 in
set_option maxHeartbeats 4000000 in
theorem m_act_3 {G : Cx} {d : Nat} {h h0 : List va_E} {b : MB} {p : MP} {t : MT} {o : MO} {Q : Option Value → List va_E → Prop} (hd : 16 ≤ d) (hz : gz G = false) (hm : MS G h0 h (b, p, t, o)) {sc x : Int32} (hbs : gBodies b ≤ 50) (hkd : ∀ i, i < gBodies b → gBodyKind b i < 8) (k0 : inR 0 (nI (gBodies b) - nI 1) sc = false → ∀ h1, MS G h0 h1 (uRan b 0, p, t, o) → Q (some (.int (nI 0))) h1) (k1 : ∀ n, n < gBodies b → sc = nI n → ∀ h1 o1, MS G h0 h1 (uRan (uTrace b (rns (gTrace b, 0) (actS n (gBodyKind b n) 3 x).2).1) (rns (gTrace b, 0) (actS n (gBodyKind b n) 3 x).2).2, p, t, o1) → o1.2.1 = o.2.1 → Q (some (.int (actS n (gBodyKind b n) 3 x).1)) h1) : AM G yX12_act cX12_act 4 (some .int) d 0 0 [.ref (gB G + 80), .int (sc), .int (nI (3)), .int (x)] h Q := by
  obtain ⟨d, rfl, he⟩ := dpos hd
  refine AM.of [some (.ref (gB G + 80)), some (.int (sc)), some (.int (nI (3))), some (.int (x))] pnX12 (Nat.le_of_ble_eq_true rfl) (by simp [lsub, lvI, Value.category]) ?_
  refine a_aloadn_0 (pc := 0) dX12_act_0 ?_
  refine a_iconst (pc := 1) (v := nI 0) dX12_act_1 (by decide) ?_
  refine mp_306 (x := 0) hm rfl dX12_act_2 (fun h1 hm1 => ?_)
  refine a_aloadn_0 (pc := 5) dX12_act_5 ?_
  refine a_iloadn_1 (pc := 6) dX12_act_6 ?_
  refine cv_X12_330 (pc := 7) rfl dX12_act_7 hm1.2.2.1 (Nat.le_of_ble_eq_true rfl) ?_
  refine m_isBody (by omega) hz hm1 hbs ?_
  refine b_if_ne (pc := 10) (tgt := 15) dX12_act_10 (by decide) (fun c_10 => ?_) (fun c_10 => ?_)
  · obtain ⟨n, hn, rfl⟩ := body_of hbs c_10
    refine a_aloadn_0 (pc := 15) dX12_act_15 ?_
    refine a_aloadn_0 (pc := 16) dX12_act_16 ?_
    refine mg_65 hm1 rfl dX12_act_17 ?_
    refine a_iloadn_1 (pc := 20) dX12_act_20 ?_
    refine ml_bodyKind (x := gBodyKind b n) hm1 dX12_act_21 (by omega) rfl ?_
    refine mp_321 (x := gBodyKind b n) hm1 rfl dX12_act_22 (fun h2 hm2 => ?_)
    refine a_aloadn_0 (pc := 25) dX12_act_25 ?_
    refine a_iloadn_1 (pc := 26) dX12_act_26 ?_
    refine mp_315 (x := n) hm2 rfl dX12_act_27 (fun h3 hm3 => ?_)
    have hk9 := hkd n hn
    have hmA : MS G h0 h3 (uRan (uTrace b (gTrace b, 0).1) (gTrace b, 0).2, p, t, (o.1, o.2.1, o.2.2.1, o.2.2.2.1, o.2.2.2.2.1, o.2.2.2.2.2.1, gBodyKind b n, n, o.2.2.2.2.2.2.2.2)) := hm3
    refine a_iloadn_2 (pc := 30) dX12_act_30 ?_
    refine a_tableIn (pc := 31) (off := 59) (tgt := 90) dX12_act_31 (by decide) (by decide) (by decide) (by decide) ?_
    refine a_aloadn_0 (pc := 90) dX12_act_90 ?_
    refine a_aloadn_0 (pc := 91) dX12_act_91 ?_
    refine mg_321 (x := gBodyKind b n) hm3 rfl dX12_act_92 rfl ?_
    refine a_iloadn_3 (pc := 95) dX12_act_95 ?_
    refine cv_X12_327 (pc := 96) rfl dX12_act_96 hm3.2.2.1 (Nat.le_of_ble_eq_true rfl) ?_
    refine m_tellsAs (by omega) hz hmA (n := n) (sk := gBodyKind b n) ⟨rfl, rfl⟩ hk9 (k := gBodyKind b n) hk9 (show 0 < _ by omega) (fun h9 hm9 => ?_)
    exact a_iret (pc := 99) dX12_act_99 rfl (zf hz) (k1 n hn rfl _ _ hm9 rfl)
  · refine a_iconst (pc := 13) (v := nI 0) dX12_act_13 (by decide) ?_
    exact a_iret (pc := 14) dX12_act_14 rfl (zf hz) (k0 c_10 _ hm1)
set_option maxRecDepth 100000 in
set_option maxHeartbeats 4000000 in
theorem m_act_o {G : Cx} {d : Nat} {h h0 : List va_E} {b : MB} {p : MP} {t : MT} {o : MO} {Q : Option Value → List va_E → Prop} (hd : 16 ≤ d) (hz : gz G = false) (hm : MS G h0 h (b, p, t, o)) {sc x : Int32} (hbs : gBodies b ≤ 50) (hkd : ∀ i, i < gBodies b → gBodyKind b i < 8) {ac : Int32} (hac : inR 0 (nI 3) ac = false) (k0 : inR 0 (nI (gBodies b) - nI 1) sc = false → ∀ h1, MS G h0 h1 (uRan b 0, p, t, o) → Q (some (.int (nI 0))) h1) (k2 : ∀ h1 o1, MS G h0 h1 (uRan b 0, p, t, o1) → o1.2.1 = o.2.1 → Q (some (.int (nI 0))) h1) : AM G yX12_act cX12_act 4 (some .int) d 0 0 [.ref (gB G + 80), .int (sc), .int (ac), .int (x)] h Q := by
  obtain ⟨d, rfl, he⟩ := dpos hd
  refine AM.of [some (.ref (gB G + 80)), some (.int (sc)), some (.int (ac)), some (.int (x))] pnX12 (Nat.le_of_ble_eq_true rfl) (by simp [lsub, lvI, Value.category]) ?_
  refine a_aloadn_0 (pc := 0) dX12_act_0 ?_
  refine a_iconst (pc := 1) (v := nI 0) dX12_act_1 (by decide) ?_
  refine mp_306 (x := 0) hm rfl dX12_act_2 (fun h1 hm1 => ?_)
  refine a_aloadn_0 (pc := 5) dX12_act_5 ?_
  refine a_iloadn_1 (pc := 6) dX12_act_6 ?_
  refine cv_X12_330 (pc := 7) rfl dX12_act_7 hm1.2.2.1 (Nat.le_of_ble_eq_true rfl) ?_
  refine m_isBody (by omega) hz hm1 hbs ?_
  refine b_if_ne (pc := 10) (tgt := 15) dX12_act_10 (by decide) (fun c_10 => ?_) (fun c_10 => ?_)
  · obtain ⟨n, hn, rfl⟩ := body_of hbs c_10
    refine a_aloadn_0 (pc := 15) dX12_act_15 ?_
    refine a_aloadn_0 (pc := 16) dX12_act_16 ?_
    refine mg_65 hm1 rfl dX12_act_17 ?_
    refine a_iloadn_1 (pc := 20) dX12_act_20 ?_
    refine ml_bodyKind (x := gBodyKind b n) hm1 dX12_act_21 (by omega) rfl ?_
    refine mp_321 (x := gBodyKind b n) hm1 rfl dX12_act_22 (fun h2 hm2 => ?_)
    refine a_aloadn_0 (pc := 25) dX12_act_25 ?_
    refine a_iloadn_1 (pc := 26) dX12_act_26 ?_
    refine mp_315 (x := n) hm2 rfl dX12_act_27 (fun h3 hm3 => ?_)
    have hk9 := hkd n hn
    have hmA : MS G h0 h3 (uRan (uTrace b (gTrace b, 0).1) (gTrace b, 0).2, p, t, (o.1, o.2.1, o.2.2.1, o.2.2.2.1, o.2.2.2.2.1, o.2.2.2.2.2.1, gBodyKind b n, n, o.2.2.2.2.2.2.2.2)) := hm3
    refine a_iloadn_2 (pc := 30) dX12_act_30 ?_
    refine a_tableOut (pc := 31) (tgt := 100) dX12_act_31 (inR_out (by decide) hac) (by decide) ?_
    refine a_iconst (pc := 100) (v := nI 0) dX12_act_100 (by decide) ?_
    exact a_iret (pc := 101) dX12_act_101 rfl (zf hz) (k2 _ _ hm3 rfl)
  · refine a_iconst (pc := 13) (v := nI 0) dX12_act_13 (by decide) ?_
    exact a_iret (pc := 14) dX12_act_14 rfl (zf hz) (k0 c_10 _ hm1)
theorem m_act {G : Cx} {d : Nat} {h h0 : List va_E} {b : MB} {p : MP} {t : MT} {o : MO} {Q : Option Value → List va_E → Prop} (hd : 16 ≤ d) (hz : gz G = false) (hm : MS G h0 h (b, p, t, o)) {sc x ac : Int32} (hbs : gBodies b ≤ 50) (hkd : ∀ i, i < gBodies b → gBodyKind b i < 8) (k0 : (inR 0 (nI (gBodies b) - nI 1) sc && inR 0 (nI 3) ac) = false → ∀ h1 o1, MS G h0 h1 (uRan b 0, p, t, o1) → o1.2.1 = o.2.1 → Q (some (.int (nI 0))) h1) (k1 : ∀ n m, n < gBodies b → sc = nI n → m < 4 → ac = nI m → ∀ h1 o1, MS G h0 h1 (uRan (uTrace b (rns (gTrace b, 0) (actS n (gBodyKind b n) m x).2).1) (rns (gTrace b, 0) (actS n (gBodyKind b n) m x).2).2, p, t, o1) → o1.2.1 = o.2.1 → Q (some (.int (actS n (gBodyKind b n) m x).1)) h1) : AM G yX12_act cX12_act 4 (some .int) d 0 0 [.ref (gB G + 80), .int sc, .int ac, .int x] h Q := by
  cases hac : inR 0 (nI 3) ac with
  | false => exact m_act_o hd hz hm hbs hkd hac (fun e h1 H => k0 (by rw [hac, Bool.and_false]) h1 _ H rfl) (k0 (by rw [hac, Bool.and_false]))
  | true =>
    obtain ⟨m, hm4, rfl⟩ := inR_of (by decide) hac
    rcases (show m = 0 ∨ m = 1 ∨ m = 2 ∨ m = 3 by omega) with rfl | rfl | rfl | rfl
    · exact m_act_0 hd hz hm hbs hkd (fun e h1 H => k0 (by rw [e]; rfl) h1 _ H rfl) (fun n hn e => k1 n 0 hn e (by decide) rfl)
    · exact m_act_1 hd hz hm hbs hkd (fun e h1 H => k0 (by rw [e]; rfl) h1 _ H rfl) (fun n hn e => k1 n 1 hn e (by decide) rfl)
    · exact m_act_2 hd hz hm hbs hkd (fun e h1 H => k0 (by rw [e]; rfl) h1 _ H rfl) (fun n hn e => k1 n 2 hn e (by decide) rfl)
    · exact m_act_3 hd hz hm hbs hkd (fun e h1 H => k0 (by rw [e]; rfl) h1 _ H rfl) (fun n hn e => k1 n 3 hn e (by decide) rfl)
