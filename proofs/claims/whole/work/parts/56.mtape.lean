/-! THE REFERENCE: the tape, numbers, counts -/
/-- where a number lies -/
def whO (n w : Int32) : Option Nat := if inR 0 (nI 3) w = true then (if inR 0 (nI 35) n = true then some (36 * iN w + iN n) else none) else if n = 0 ∧ inR (nI 4) (nI 6) w = true then some (144 + iN w - 4) else none
/-- what a number may become -/
def mayO (k : Nat) (v : Int32) : Bool := match k with
  | 0 => inR 0 (nI 99) v
  | 1 => inR 0 (nI 9) v
  | 4 => inR (nI 1) (nI 9) v
  | 5 => inR (nI 1) (nI 4) v
  | 6 => inR 0 (nI 11) v
  | _ => inR 0 (nI 1) v
theorem whO_lt {n w : Int32} {x : Nat} (h : whO n w = some x) : x < 147 ∧ ∃ k, k ≤ 6 ∧ w = nI k := by
  unfold whO at h
  by_cases e : inR 0 (nI 3) w = true
  · rw [if_pos e] at h
    obtain ⟨k, hk, rfl⟩ := inR_of (by decide) e
    by_cases e2 : inR 0 (nI 35) n = true
    · rw [if_pos e2] at h
      obtain ⟨m, hm, rfl⟩ := inR_of (by decide) e2
      rw [iN_nI (by omega), iN_nI (by omega)] at h
      cases h
      exact ⟨by omega, k, by omega, rfl⟩
    · rw [if_neg e2] at h; cases h
  · rw [if_neg e] at h
    by_cases e2 : n = 0 ∧ inR (nI 4) (nI 6) w = true
    · rw [if_pos e2] at h
      obtain ⟨k, hk0, hk, rfl⟩ := inR_1 (by decide) (by decide) e2.2
      rw [iN_nI (by omega)] at h
      cases h
      exact ⟨by omega, k, by omega, rfl⟩
    · rw [if_neg e2] at h; cases h
theorem mayO_lt {k : Nat} {v : Int32} (h : mayO k v = true) : ∃ x, x ≤ 99 ∧ v = nI x := by
  unfold mayO at h
  split at h
  · exact inR_of (by decide) h
  · obtain ⟨x, hx, e⟩ := inR_of (by decide) h; exact ⟨x, by omega, e⟩
  · obtain ⟨x, h0, hx, e⟩ := inR_1 (by decide) (by decide) h; exact ⟨x, by omega, e⟩
  · obtain ⟨x, h0, hx, e⟩ := inR_1 (by decide) (by decide) h; exact ⟨x, by omega, e⟩
  · obtain ⟨x, hx, e⟩ := inR_of (by decide) h; exact ⟨x, by omega, e⟩
  · obtain ⟨x, hx, e⟩ := inR_of (by decide) h; exact ⟨x, by omega, e⟩
set_option maxRecDepth 100000 in
set_option maxHeartbeats 4000000 in
theorem m_placeOf {G : Cx} {d : Nat} {h : List va_E} {Q : Option Value → List va_E → Prop} {n w : Int32} (hd : 3 ≤ d) (hz : gz G = false) (k : Q (some (.int (oI (whO n w)))) h) : AM G yX12_placeOf cX12_placeOf 2 (some .int) d 0 0 [.int n, .int w] h Q := by
  obtain ⟨d, rfl, he⟩ := dpos hd
  refine AM.of [some (.int (n)), some (.int (w))] pnX12 (Nat.le_of_ble_eq_true rfl) (by simp [lsub, lvI, Value.category]) ?_
  refine a_iloadn_1 (pc := 0) dX12_placeOf_0 ?_
  refine a_i2l (pc := 1) dX12_placeOf_1 ?_
  refine a_lconst (pc := 2) (v := 0) dX12_placeOf_2 (by decide) ?_
  refine a_ldc2 (pc := 3) dX12_placeOf_3 w_1151 ?_
  refine cs_X12_96 (pc := 6) rfl dX12_placeOf_6 (Nat.le_of_ble_eq_true rfl) ?_
  refine m_within (by omega) hz ?_
  refine a_topi (bI (inR 0 (nI 3) w)) (congrArg bI (inL_R 0 3 (by decide) (by decide) w)) ?_
  refine b_if_eq (pc := 9) (tgt := 31) dX12_placeOf_9 (by decide) (fun c_9 => ?_) (fun c_9 => ?_)
  · refine a_iloadn_0 (pc := 31) dX12_placeOf_31 ?_
    refine a_if_ne (pc := 32) (tgt := 59) dX12_placeOf_32 (by decide) (fun c_32 => ?_) (fun c_32 => ?_)
    · refine a_iconst (pc := 59) (v := (-1)) dX12_placeOf_59 (by decide) ?_
      exact a_iret (pc := 60) dX12_placeOf_60 rfl (zf hz) (by rw [show whO n w = none from by unfold whO; rw [c_9, if_neg Bool.false_ne_true, if_neg (fun z => c_32 z.1)]] at k; exact k)
    · refine a_iloadn_1 (pc := 35) dX12_placeOf_35 ?_
      refine a_i2l (pc := 36) dX12_placeOf_36 ?_
      refine a_ldc2 (pc := 37) dX12_placeOf_37 w_1152 ?_
      refine a_ldc2 (pc := 40) dX12_placeOf_40 w_1153 ?_
      refine cs_X12_96 (pc := 43) rfl dX12_placeOf_43 (Nat.le_of_ble_eq_true rfl) ?_
      refine m_within (by omega) hz ?_
      refine a_topi (bI (inR (nI 4) (nI 6) w)) (congrArg bI (inL_R 4 6 (by decide) (by decide) w)) ?_
      refine b_if_eq (pc := 46) (tgt := 59) dX12_placeOf_46 (by decide) (fun c_46 => ?_) (fun c_46 => ?_)
      · refine a_iconst (pc := 59) (v := (-1)) dX12_placeOf_59 (by decide) ?_
        exact a_iret (pc := 60) dX12_placeOf_60 rfl (zf hz) (by rw [show whO n w = none from by unfold whO; rw [c_9, if_neg Bool.false_ne_true, if_neg (fun z => by rw [c_46] at z; cases z.2)]] at k; exact k)
      · obtain ⟨n_w, h0_w, h_w, rfl⟩ := inR_1 (by decide) (by decide) c_46
        have i_w : iN (nI n_w) = n_w := iN_nI (by omega)
        refine a_sipush (pc := 49) (v := nI 144) dX12_placeOf_49 (by decide) ?_
        refine a_iloadn_1 (pc := 52) dX12_placeOf_52 ?_
        refine n_iadd dX12_placeOf_53 ?_
        refine a_iconst (pc := 54) (v := nI 4) dX12_placeOf_54 (by decide) ?_
        refine n_isub dX12_placeOf_55 (by omega) ?_
        refine a_goto (pc := 56) (tgt := 60) dX12_placeOf_56 (by decide) ?_
        exact a_iret (pc := 60) dX12_placeOf_60 rfl (zf hz) (by rw [show whO n (nI n_w) = some (144 + n_w - 4) from by unfold whO; rw [c_9, if_neg Bool.false_ne_true, if_pos ⟨c_32, c_46⟩, i_w]] at k; exact k)
  · obtain ⟨n_w, h_w, rfl⟩ := inR_of (by decide) c_9
    have i_w : iN (nI n_w) = n_w := iN_nI (by omega)
    refine a_iloadn_0 (pc := 12) dX12_placeOf_12 ?_
    refine a_i2l (pc := 13) dX12_placeOf_13 ?_
    refine cs_X12_106 (pc := 14) rfl dX12_placeOf_14 (Nat.le_of_ble_eq_true rfl) ?_
    refine m_isRoom (by omega) hz ?_
    refine a_topi (bI (inR 0 (nI 35) n)) (congrArg bI (inL_R 0 35 (by decide) (by decide) n)) ?_
    refine b_if_eq (pc := 17) (tgt := 29) dX12_placeOf_17 (by decide) (fun c_17 => ?_) (fun c_17 => ?_)
    · refine a_iconst (pc := 29) (v := (-1)) dX12_placeOf_29 (by decide) ?_
      exact a_iret (pc := 30) dX12_placeOf_30 rfl (zf hz) (by rw [show whO n (nI n_w) = none from by unfold whO; rw [c_9, if_pos rfl, c_17]; rfl] at k; exact k)
    · obtain ⟨n_n, h_n, rfl⟩ := inR_of (by decide) c_17
      have i_n : iN (nI n_n) = n_n := iN_nI (by omega)
      refine a_bipush (pc := 20) (v := nI 36) dX12_placeOf_20 (by decide) ?_
      refine a_iloadn_1 (pc := 22) dX12_placeOf_22 ?_
      refine n_imul dX12_placeOf_23 ?_
      refine a_iloadn_0 (pc := 24) dX12_placeOf_24 ?_
      refine n_iadd dX12_placeOf_25 ?_
      refine a_goto (pc := 26) (tgt := 30) dX12_placeOf_26 (by decide) ?_
      exact a_iret (pc := 30) dX12_placeOf_30 rfl (zf hz) (by rw [show whO (nI n_n) (nI n_w) = some (36 * n_w + n_n) from by unfold whO; rw [c_9, if_pos rfl, c_17, if_pos rfl, i_w, i_n]] at k; exact k)
set_option maxRecDepth 100000 in
set_option maxHeartbeats 4000000 in
theorem m_mayBecome {G : Cx} {d : Nat} {h : List va_E} {Q : Option Value → List va_E → Prop} {k9 : Nat} {v : Int32} (hd : 2 ≤ d) (hz : gz G = false) (hk : k9 ≤ 6) (k : Q (some (.int (bI (mayO k9 v)))) h) : AM G yX12_mayBecome cX12_mayBecome 2 (some .boolean) d 0 0 [.int (nI k9), .int v] h Q := by
  obtain ⟨d, rfl, he⟩ := dpos hd
  rcases (show k9 = 0 ∨ k9 = 1 ∨ k9 = 2 ∨ k9 = 3 ∨ k9 = 4 ∨ k9 = 5 ∨ k9 = 6 by omega) with rfl | rfl | rfl | rfl | rfl | rfl | rfl
  · refine AM.of [some (.int (nI 0)), some (.int v)] pnX12 (Nat.le_of_ble_eq_true rfl) (by simp [lsub, lvI, Value.category]) ?_
    refine a_iloadn_0 (pc := 0) dX12_mayBecome_0 ?_
    refine a_tableIn (pc := 1) (off := 43) (tgt := 44) dX12_mayBecome_1 (by decide) (by decide) (by decide) (by decide) ?_
    refine a_iloadn_1 (pc := 44) dX12_mayBecome_44 ?_
    refine a_i2l (pc := 45) dX12_mayBecome_45 ?_
    refine a_lconst (pc := 46) (v := 0) dX12_mayBecome_46 (by decide) ?_
    refine a_ldc2 (pc := 47) dX12_mayBecome_47 w_1142 ?_
    refine cs_X12_96 (pc := 50) rfl dX12_mayBecome_50 (Nat.le_of_ble_eq_true rfl) ?_
    refine m_within (by omega) hz ?_
    refine a_topi (bI (inR 0 (nI 99) v)) (congrArg bI (inL_R 0 99 (by decide) (by decide) v)) ?_
    exact a_zret (pc := 53) dX12_mayBecome_53 rfl (by first | rfl | exact bI_nar _ | decide) (zf hz) k
  · refine AM.of [some (.int (nI 1)), some (.int v)] pnX12 (Nat.le_of_ble_eq_true rfl) (by simp [lsub, lvI, Value.category]) ?_
    refine a_iloadn_0 (pc := 0) dX12_mayBecome_0 ?_
    refine a_tableIn (pc := 1) (off := 53) (tgt := 54) dX12_mayBecome_1 (by decide) (by decide) (by decide) (by decide) ?_
    refine a_iloadn_1 (pc := 54) dX12_mayBecome_54 ?_
    refine a_i2l (pc := 55) dX12_mayBecome_55 ?_
    refine a_lconst (pc := 56) (v := 0) dX12_mayBecome_56 (by decide) ?_
    refine a_ldc2 (pc := 57) dX12_mayBecome_57 w_1143 ?_
    refine cs_X12_96 (pc := 60) rfl dX12_mayBecome_60 (Nat.le_of_ble_eq_true rfl) ?_
    refine m_within (by omega) hz ?_
    refine a_topi (bI (inR 0 (nI 9) v)) (congrArg bI (inL_R 0 9 (by decide) (by decide) v)) ?_
    exact a_zret (pc := 63) dX12_mayBecome_63 rfl (by first | rfl | exact bI_nar _ | decide) (zf hz) k
  · refine AM.of [some (.int (nI 2)), some (.int v)] pnX12 (Nat.le_of_ble_eq_true rfl) (by simp [lsub, lvI, Value.category]) ?_
    refine a_iloadn_0 (pc := 0) dX12_mayBecome_0 ?_
    refine a_tableIn (pc := 1) (off := 93) (tgt := 94) dX12_mayBecome_1 (by decide) (by decide) (by decide) (by decide) ?_
    refine a_iloadn_1 (pc := 94) dX12_mayBecome_94 ?_
    refine a_i2l (pc := 95) dX12_mayBecome_95 ?_
    refine a_lconst (pc := 96) (v := 0) dX12_mayBecome_96 (by decide) ?_
    refine a_lconst (pc := 97) (v := 1) dX12_mayBecome_97 (by decide) ?_
    refine cs_X12_96 (pc := 98) rfl dX12_mayBecome_98 (Nat.le_of_ble_eq_true rfl) ?_
    refine m_within (by omega) hz ?_
    refine a_topi (bI (inR 0 (nI 1) v)) (congrArg bI (inL_R 0 1 (by decide) (by decide) v)) ?_
    exact a_zret (pc := 101) dX12_mayBecome_101 rfl (by first | rfl | exact bI_nar _ | decide) (zf hz) k
  · refine AM.of [some (.int (nI 3)), some (.int v)] pnX12 (Nat.le_of_ble_eq_true rfl) (by simp [lsub, lvI, Value.category]) ?_
    refine a_iloadn_0 (pc := 0) dX12_mayBecome_0 ?_
    refine a_tableIn (pc := 1) (off := 93) (tgt := 94) dX12_mayBecome_1 (by decide) (by decide) (by decide) (by decide) ?_
    refine a_iloadn_1 (pc := 94) dX12_mayBecome_94 ?_
    refine a_i2l (pc := 95) dX12_mayBecome_95 ?_
    refine a_lconst (pc := 96) (v := 0) dX12_mayBecome_96 (by decide) ?_
    refine a_lconst (pc := 97) (v := 1) dX12_mayBecome_97 (by decide) ?_
    refine cs_X12_96 (pc := 98) rfl dX12_mayBecome_98 (Nat.le_of_ble_eq_true rfl) ?_
    refine m_within (by omega) hz ?_
    refine a_topi (bI (inR 0 (nI 1) v)) (congrArg bI (inL_R 0 1 (by decide) (by decide) v)) ?_
    exact a_zret (pc := 101) dX12_mayBecome_101 rfl (by first | rfl | exact bI_nar _ | decide) (zf hz) k
  · refine AM.of [some (.int (nI 4)), some (.int v)] pnX12 (Nat.le_of_ble_eq_true rfl) (by simp [lsub, lvI, Value.category]) ?_
    refine a_iloadn_0 (pc := 0) dX12_mayBecome_0 ?_
    refine a_tableIn (pc := 1) (off := 63) (tgt := 64) dX12_mayBecome_1 (by decide) (by decide) (by decide) (by decide) ?_
    refine a_iloadn_1 (pc := 64) dX12_mayBecome_64 ?_
    refine a_i2l (pc := 65) dX12_mayBecome_65 ?_
    refine a_lconst (pc := 66) (v := 1) dX12_mayBecome_66 (by decide) ?_
    refine a_ldc2 (pc := 67) dX12_mayBecome_67 w_1143 ?_
    refine cs_X12_96 (pc := 70) rfl dX12_mayBecome_70 (Nat.le_of_ble_eq_true rfl) ?_
    refine m_within (by omega) hz ?_
    refine a_topi (bI (inR (nI 1) (nI 9) v)) (congrArg bI (inL_R 1 9 (by decide) (by decide) v)) ?_
    exact a_zret (pc := 73) dX12_mayBecome_73 rfl (by first | rfl | exact bI_nar _ | decide) (zf hz) k
  · refine AM.of [some (.int (nI 5)), some (.int v)] pnX12 (Nat.le_of_ble_eq_true rfl) (by simp [lsub, lvI, Value.category]) ?_
    refine a_iloadn_0 (pc := 0) dX12_mayBecome_0 ?_
    refine a_tableIn (pc := 1) (off := 73) (tgt := 74) dX12_mayBecome_1 (by decide) (by decide) (by decide) (by decide) ?_
    refine a_iloadn_1 (pc := 74) dX12_mayBecome_74 ?_
    refine a_i2l (pc := 75) dX12_mayBecome_75 ?_
    refine a_lconst (pc := 76) (v := 1) dX12_mayBecome_76 (by decide) ?_
    refine a_ldc2 (pc := 77) dX12_mayBecome_77 w_1152 ?_
    refine cs_X12_96 (pc := 80) rfl dX12_mayBecome_80 (Nat.le_of_ble_eq_true rfl) ?_
    refine m_within (by omega) hz ?_
    refine a_topi (bI (inR (nI 1) (nI 4) v)) (congrArg bI (inL_R 1 4 (by decide) (by decide) v)) ?_
    exact a_zret (pc := 83) dX12_mayBecome_83 rfl (by first | rfl | exact bI_nar _ | decide) (zf hz) k
  · refine AM.of [some (.int (nI 6)), some (.int v)] pnX12 (Nat.le_of_ble_eq_true rfl) (by simp [lsub, lvI, Value.category]) ?_
    refine a_iloadn_0 (pc := 0) dX12_mayBecome_0 ?_
    refine a_tableIn (pc := 1) (off := 83) (tgt := 84) dX12_mayBecome_1 (by decide) (by decide) (by decide) (by decide) ?_
    refine a_iloadn_1 (pc := 84) dX12_mayBecome_84 ?_
    refine a_i2l (pc := 85) dX12_mayBecome_85 ?_
    refine a_lconst (pc := 86) (v := 0) dX12_mayBecome_86 (by decide) ?_
    refine a_ldc2 (pc := 87) dX12_mayBecome_87 w_1157 ?_
    refine cs_X12_96 (pc := 90) rfl dX12_mayBecome_90 (Nat.le_of_ble_eq_true rfl) ?_
    refine m_within (by omega) hz ?_
    refine a_topi (bI (inR 0 (nI 11) v)) (congrArg bI (inL_R 0 11 (by decide) (by decide) v)) ?_
    exact a_zret (pc := 93) dX12_mayBecome_93 rfl (by first | rfl | exact bI_nar _ | decide) (zf hz) k

set_option maxRecDepth 100000 in
set_option maxHeartbeats 4000000 in
theorem m_mend {G : Cx} {d : Nat} {h h0 : List va_E} {b : MB} {p : MP} {t : MT} {o : MO} {Q : Option Value → List va_E → Prop} (hd : 4 ≤ d) (hz : gz G = false) (hm : MS G h0 h (b, p, t, o)) {n w v : Int32} (hI : HI b) (hm9 : ∀ i, i < 147 → gMay b i < 2147483648) (k0 : (whO n w = none ∨ ∃ x k, whO n w = some x ∧ k ≤ 6 ∧ w = nI k ∧ mayO k v = false) → Q (some (.int (-1))) h) (k2 : ∀ wh k x, whO n w = some wh → k ≤ 6 → w = nI k → mayO k v = true → v = nI x → x ≤ 99 → gMay b wh = x → Q (some (.int (nI (gMay b wh)))) h) (k3 : ∀ wh k x, whO n w = some wh → k ≤ 6 → w = nI k → mayO k v = true → v = nI x → x ≤ 99 → ¬ gMay b wh = x → ¬ gDone b = 40 → ∀ h1, MS G h0 h1 (uMay (uKeptMany (uDone (uChangeIs (uChangeWas (uChangeAt b (va_up (gChangeAt b) (gDone b) wh)) (va_up (gChangeWas b) (gDone b) (gMay b wh))) (va_up (gChangeIs b) (gDone b) x)) ((gDone b) + 1)) ((gDone b) + 1)) (va_up (gMay b) wh x), p, t, o) → Q (some (.int (nI (gMay b wh)))) h1) (k4 : ∀ wh k x, whO n w = some wh → k ≤ 6 → w = nI k → mayO k v = true → v = nI x → x ≤ 99 → ¬ gMay b wh = x → gDone b = 40 → ∀ (A W J : Nat → Nat), (∀ j, j < 39 → A j = gChangeAt b (j + 1)) → (∀ j, j < 39 → W j = gChangeWas b (j + 1)) → (∀ j, j < 39 → J j = gChangeIs b (j + 1)) → ∀ h1, MS G h0 h1 (uMay (uKeptMany (uDone (uChangeIs (uChangeWas (uChangeAt b (va_up A 39 wh)) (va_up W 39 (gMay b wh))) (va_up J 39 x)) (39 + 1)) (39 + 1)) (va_up (gMay b) wh x), p, t, o) → Q (some (.int (nI (gMay b wh)))) h1) : AM G yX12_mend cX12_mend 5 (some .int) d 0 0 [.ref (gB G + 80), .int n, .int w, .int v] h Q := by
  obtain ⟨d, rfl, he⟩ := dpos hd
  refine AM.of [some (.ref (gB G + 80)), some (.int (n)), some (.int (w)), some (.int (v)), none] pnX12 (Nat.le_of_ble_eq_true rfl) (by simp [lsub, lvI, Value.category]) ?_
  refine a_iloadn_1 (pc := 0) dX12_mend_0 ?_
  refine a_iloadn_2 (pc := 1) dX12_mend_1 ?_
  refine cs_X12_122 (pc := 2) rfl dX12_mend_2 (Nat.le_of_ble_eq_true rfl) ?_
  refine m_placeOf (by omega) hz ?_
  obtain ⟨wh, hwh⟩ : ∃ wh, whO n w = wh := ⟨_, rfl⟩
  rw [hwh]
  refine a_istore_4 (pc := 5) dX12_mend_5 (by decide) (by first | rfl | trivial) ?_
  cases wh with
  | none =>
    refine a_iload_4 (pc := 7) dX12_mend_7 ?_
    refine a_if_lt (pc := 9) (tgt := 30) dX12_mend_9 (by decide) (fun c_9 => ?_) (fun c_9 => absurd (show oI none < 0 by decide) c_9)
    refine a_iconst (pc := 30) (v := (-1)) dX12_mend_30 (by decide) ?_
    exact a_iret (pc := 31) dX12_mend_31 rfl (zf hz) (k0 (Or.inl hwh))
  | some wh0 =>
    obtain ⟨hwl, k, hk, rfl⟩ := whO_lt hwh
    refine a_ls (ls' := [some (.ref (gB G + 80)), some (.int n), some (.int (nI k)), some (.int v), some (.int (nI wh0))]) ⟨rfl, rfl, rfl, rfl, rfl, trivial⟩ ?_
    refine a_iload_4 (pc := 7) dX12_mend_7 ?_
    refine n_if_lt (tgt := 30) dX12_mend_9 (by decide) (by omega) ?_
    refine a_iloadn_2 (pc := 12) dX12_mend_12 ?_
    refine a_iloadn_3 (pc := 13) dX12_mend_13 ?_
    refine cs_X12_126 (pc := 14) rfl dX12_mend_14 (Nat.le_of_ble_eq_true rfl) ?_
    refine m_mayBecome (by omega) hz hk ?_
    refine b_if_eq (pc := 17) (tgt := 30) dX12_mend_17 (by decide) (fun c_17 => ?_) (fun c_17 => ?_)
    · refine a_iconst (pc := 30) (v := (-1)) dX12_mend_30 (by decide) ?_
      exact a_iret (pc := 31) dX12_mend_31 rfl (zf hz) (k0 (Or.inr ⟨wh0, k, hwh, hk, rfl, c_17⟩))
    · obtain ⟨x, hx, rfl⟩ := mayO_lt c_17
      refine a_aloadn_0 (pc := 20) dX12_mend_20 ?_
      refine a_iload_4 (pc := 21) dX12_mend_21 ?_
      refine a_iloadn_3 (pc := 23) dX12_mend_23 ?_
      refine cv_X12_130 (pc := 24) rfl dX12_mend_24 hm.2.2.1 (Nat.le_of_ble_eq_true rfl) ?_
      refine m_becomes (by omega) hz hm hI hwl (by omega) (hm9 _ hwl) (fun e => ?_) (fun e1 e2 h1 H1 => ?_) (fun e1 e2 A W J g1 g2 g3 h1 H1 => ?_)
      · refine a_goto (pc := 27) (tgt := 31) dX12_mend_27 (by decide) ?_
        exact a_iret (pc := 31) dX12_mend_31 rfl (zf hz) (k2 wh0 k x hwh hk rfl c_17 rfl hx e)
      · refine a_goto (pc := 27) (tgt := 31) dX12_mend_27 (by decide) ?_
        exact a_iret (pc := 31) dX12_mend_31 rfl (zf hz) (k3 wh0 k x hwh hk rfl c_17 rfl hx e1 e2 _ H1)
      · refine a_goto (pc := 27) (tgt := 31) dX12_mend_27 (by decide) ?_
        exact a_iret (pc := 31) dX12_mend_31 rfl (zf hz) (k4 wh0 k x hwh hk rfl c_17 rfl hx e1 e2 A W J g1 g2 g3 _ H1)
