/-! THE CLASS: its methods in thought -/
theorem inR_N {lo hi n : Nat} (hl : lo < 2147483648) (hh : hi < 2147483648) (hn : n < 2147483648) : inR (nI lo) (nI hi) (nI n) = inN lo hi n := by
  unfold inR inN
  rw [show decide (nI lo ≤ nI n) = decide (lo ≤ n) from decide_eq_decide.mpr (nI_leI hl hn), show decide (nI n ≤ nI hi) = decide (n ≤ hi) from decide_eq_decide.mpr (nI_leI hn hh)]
def isN (n w : Int32) : Bool := if inR 0 (nI 3) w = true then inR 0 (nI 35) n else (inR (nI 4) (nI 6) w && decide (n = 0))
set_option maxRecDepth 100000 in
set_option maxHeartbeats 4000000 in
theorem p_isRoom {G : Cx} {d : Nat} {h : List va_E} {Q : Option Value → List va_E → Prop} {x : Int32} (hd : 2 ≤ d) (hz : gz G = false) (k : Q (some (.int (bI (inR 0 (nI 35) x)))) h) : AM G yX11_isRoom cX11_isRoom 1 (some .boolean) d 0 0 [.int (x)] h Q := by
  obtain ⟨d, rfl, he⟩ := dpos hd
  refine AM.of [some (.int (x))] pnX11 (Nat.le_of_ble_eq_true rfl) (by simp [lsub, lvI, Value.category]) ?_
  refine a_iloadn_0 (pc := 0) dX11_isRoom_0 ?_
  refine a_iconst (pc := 1) (v := nI 0) dX11_isRoom_1 (by decide) ?_
  refine a_bipush (pc := 2) (v := nI 35) dX11_isRoom_2 (by decide) ?_
  refine cs_X11_101 (pc := 4) rfl dX11_isRoom_4 (Nat.le_of_ble_eq_true rfl) ?_
  refine x_within (by omega) hz ?_
  refine a_topi (bI (inR 0 (nI 35) x)) rfl ?_
  exact a_zret (pc := 7) dX11_isRoom_7 rfl (by first | rfl | exact bI_nar _ | decide) (zf hz) k
set_option maxRecDepth 100000 in
set_option maxHeartbeats 4000000 in
theorem p_isShelf {G : Cx} {d : Nat} {h : List va_E} {Q : Option Value → List va_E → Prop} {x : Int32} (hd : 2 ≤ d) (hz : gz G = false) (k : Q (some (.int (bI (inR 0 (nI 5) x)))) h) : AM G yX11_isShelf cX11_isShelf 1 (some .boolean) d 0 0 [.int (x)] h Q := by
  obtain ⟨d, rfl, he⟩ := dpos hd
  refine AM.of [some (.int (x))] pnX11 (Nat.le_of_ble_eq_true rfl) (by simp [lsub, lvI, Value.category]) ?_
  refine a_iloadn_0 (pc := 0) dX11_isShelf_0 ?_
  refine a_iconst (pc := 1) (v := nI 0) dX11_isShelf_1 (by decide) ?_
  refine a_iconst (pc := 2) (v := nI 5) dX11_isShelf_2 (by decide) ?_
  refine cs_X11_101 (pc := 3) rfl dX11_isShelf_3 (Nat.le_of_ble_eq_true rfl) ?_
  refine x_within (by omega) hz ?_
  refine a_topi (bI (inR 0 (nI 5) x)) rfl ?_
  exact a_zret (pc := 6) dX11_isShelf_6 rfl (by first | rfl | exact bI_nar _ | decide) (zf hz) k
set_option maxRecDepth 100000 in
set_option maxHeartbeats 4000000 in
theorem p_isNumber {G : Cx} {d : Nat} {h : List va_E} {Q : Option Value → List va_E → Prop} {n w : Int32} (hd : 3 ≤ d) (hz : gz G = false) (k : Q (some (.int (bI (isN n w)))) h) : AM G yX11_isNumber cX11_isNumber 2 (some .boolean) d 0 0 [.int (n), .int (w)] h Q := by
  obtain ⟨d, rfl, he⟩ := dpos hd
  refine AM.of [some (.int (n)), some (.int (w))] pnX11 (Nat.le_of_ble_eq_true rfl) (by simp [lsub, lvI, Value.category]) ?_
  refine a_iloadn_1 (pc := 0) dX11_isNumber_0 ?_
  refine a_iconst (pc := 1) (v := nI 0) dX11_isNumber_1 (by decide) ?_
  refine a_iconst (pc := 2) (v := nI 3) dX11_isNumber_2 (by decide) ?_
  refine cs_X11_101 (pc := 3) rfl dX11_isNumber_3 (Nat.le_of_ble_eq_true rfl) ?_
  refine x_within (by omega) hz ?_
  refine a_topi (bI (inR 0 (nI 3) w)) rfl ?_
  refine b_if_eq (pc := 6) (tgt := 16) dX11_isNumber_6 (by decide) (fun c_6 => ?_) (fun c_6 => ?_)
  · refine a_iloadn_1 (pc := 16) dX11_isNumber_16 ?_
    refine a_iconst (pc := 17) (v := nI 4) dX11_isNumber_17 (by decide) ?_
    refine a_bipush (pc := 18) (v := nI 6) dX11_isNumber_18 (by decide) ?_
    refine cs_X11_101 (pc := 20) rfl dX11_isNumber_20 (Nat.le_of_ble_eq_true rfl) ?_
    refine x_within (by omega) hz ?_
    refine a_topi (bI (inR (nI 4) (nI 6) w)) rfl ?_
    refine b_if_eq (pc := 23) (tgt := 34) dX11_isNumber_23 (by decide) (fun c_23 => ?_) (fun c_23 => ?_)
    · refine a_iconst (pc := 34) (v := nI 0) dX11_isNumber_34 (by decide) ?_
      refine a_zret (pc := 35) dX11_isNumber_35 rfl (by first | rfl | exact bI_nar _ | decide) (zf hz) ?_
      first | (rw [show isN n (nI n_w) = inR 0 (nI 35) n from if_pos c_6] at k; exact k) | (rw [show isN n (nI n_w) = false by unfold isN; rw [if_neg (by rw [c_6]; simp), c_23, decide_eq_false c_27]; rfl] at k; exact k) | (rw [show isN n (nI n_w) = true by unfold isN; rw [if_neg (by rw [c_6]; simp), c_23, decide_eq_true c_27]; rfl] at k; exact k) | (rw [show isN n w = false by unfold isN; rw [if_neg (by rw [c_6]; simp), c_23]; rfl] at k; exact k)
    · obtain ⟨n_w, h0_w, h_w, rfl⟩ := inR_1 (by decide) (by decide) c_23
      have i_w : iN (nI n_w) = n_w := iN_nI (by omega)
      refine a_iloadn_0 (pc := 26) dX11_isNumber_26 ?_
      refine a_if_ne (pc := 27) (tgt := 34) dX11_isNumber_27 (by decide) (fun c_27 => ?_) (fun c_27 => ?_)
      · refine a_iconst (pc := 34) (v := nI 0) dX11_isNumber_34 (by decide) ?_
        refine a_zret (pc := 35) dX11_isNumber_35 rfl (by first | rfl | exact bI_nar _ | decide) (zf hz) ?_
        first | (rw [show isN n (nI n_w) = inR 0 (nI 35) n from if_pos c_6] at k; exact k) | (rw [show isN n (nI n_w) = false by unfold isN; rw [if_neg (by rw [c_6]; simp), c_23, decide_eq_false c_27]; rfl] at k; exact k) | (rw [show isN n (nI n_w) = true by unfold isN; rw [if_neg (by rw [c_6]; simp), c_23, decide_eq_true c_27]; rfl] at k; exact k) | (rw [show isN n w = false by unfold isN; rw [if_neg (by rw [c_6]; simp), c_23]; rfl] at k; exact k)
      · refine a_iconst (pc := 30) (v := nI 1) dX11_isNumber_30 (by decide) ?_
        refine a_goto (pc := 31) (tgt := 35) dX11_isNumber_31 (by decide) ?_
        refine a_zret (pc := 35) dX11_isNumber_35 rfl (by first | rfl | exact bI_nar _ | decide) (zf hz) ?_
        first | (rw [show isN n (nI n_w) = inR 0 (nI 35) n from if_pos c_6] at k; exact k) | (rw [show isN n (nI n_w) = false by unfold isN; rw [if_neg (by rw [c_6]; simp), c_23, decide_eq_false c_27]; rfl] at k; exact k) | (rw [show isN n (nI n_w) = true by unfold isN; rw [if_neg (by rw [c_6]; simp), c_23, decide_eq_true c_27]; rfl] at k; exact k) | (rw [show isN n w = false by unfold isN; rw [if_neg (by rw [c_6]; simp), c_23]; rfl] at k; exact k)
  · obtain ⟨n_w, h_w, rfl⟩ := inR_of (by decide) c_6
    have i_w : iN (nI n_w) = n_w := iN_nI (by omega)
    refine a_iloadn_0 (pc := 9) dX11_isNumber_9 ?_
    refine cs_X11_140 (pc := 10) rfl dX11_isNumber_10 (Nat.le_of_ble_eq_true rfl) ?_
    refine p_isRoom (by omega) hz ?_
    refine a_goto (pc := 13) (tgt := 35) dX11_isNumber_13 (by decide) ?_
    refine a_zret (pc := 35) dX11_isNumber_35 rfl (by first | rfl | exact bI_nar _ | decide) (zf hz) ?_
    first | (rw [show isN n (nI n_w) = inR 0 (nI 35) n from if_pos c_6] at k; exact k) | (rw [show isN n (nI n_w) = false by unfold isN; rw [if_neg (by rw [c_6]; simp), c_23, decide_eq_false c_27]; rfl] at k; exact k) | (rw [show isN n (nI n_w) = true by unfold isN; rw [if_neg (by rw [c_6]; simp), c_23, decide_eq_true c_27]; rfl] at k; exact k) | (rw [show isN n w = false by unfold isN; rw [if_neg (by rw [c_6]; simp), c_23]; rfl] at k; exact k)
set_option maxRecDepth 100000 in
set_option maxHeartbeats 4000000 in
theorem p_press {G : Cx} {d c : Nat} {h h0 : List va_E} {b : MB} {v : Cv} {F : Lf} {Q : Option Value → List va_E → Prop} (hd : 6 ≤ d) (hz : gz G = false) (hC : COb G h0 h b v F c) {r : Int32} (k : ∀ y h1, y = spPress F v r → COb G h0 h1 b v F c → Q (some (.int y)) h1) : AM G yX11_press cX11_press 2 (some .int) d 0 0 [.ref (gB G + 0), .int (r)] h Q := by
  obtain ⟨d, rfl, he⟩ := dpos hd
  refine AM.of [some (.ref (gB G + 0)), some (.int (r))] pnX11 (Nat.le_of_ble_eq_true rfl) (by simp [lsub, lvI, Value.category]) ?_
  refine a_iloadn_1 (pc := 0) dX11_press_0 ?_
  refine cs_X11_140 (pc := 1) rfl dX11_press_1 (Nat.le_of_ble_eq_true rfl) ?_
  refine p_isRoom (by omega) hz ?_
  refine b_if_eq (pc := 4) (tgt := 22) dX11_press_4 (by decide) (fun c_4 => ?_) (fun c_4 => ?_)
  · refine a_iconst (pc := 22) (v := (-1)) dX11_press_22 (by decide) ?_
    exact a_iret (pc := 23) dX11_press_23 rfl (zf hz) (k _ _ (by simp [spPress, c_4]) hC)
  · obtain ⟨n_r, h_r, rfl⟩ := inR_of (by decide) c_4
    have i_r : iN (nI n_r) = n_r := iN_nI (by omega)
    refine a_aloadn_0 (pc := 7) dX11_press_7 ?_
    refine gf_X11_12 (pc := 8) rfl dX11_press_8 hC.c0 ?_
    refine a_iloadn_1 (pc := 11) dX11_press_11 ?_
    refine a_aloadn_0 (pc := 12) dX11_press_12 ?_
    refine gf_X11_22 (pc := 13) rfl dX11_press_13 hC.c0 ?_
    refine cv_X11_160 (pc := 16) rfl dX11_press_16 hC.c1.1 (Nat.le_of_ble_eq_true rfl) ?_
    refine x_pressOn (by omega) hz hC.c1 (by omega) (by omega) (LR.ok hC.c3) (fun h1 T1 L1 => ?_)
    have hC1 := COb.hl T1 L1 hC
    refine a_goto (pc := 19) (tgt := 23) dX11_press_19 (by decide) ?_
    exact a_iret (pc := 23) dX11_press_23 rfl (zf hz) (k _ _ (by simp [spPress, c_4, i_r]) hC1)
set_option maxRecDepth 100000 in
set_option maxHeartbeats 4000000 in
theorem p_later {G : Cx} {d c : Nat} {h h0 : List va_E} {b : MB} {v : Cv} {F : Lf} {Q : Option Value → List va_E → Prop} (hd : 9 ≤ d) (hz : gz G = false) (hC : COb G h0 h b v F c) {n r w : Int32} (k : ∀ y h1, y = spLater F v n r w → COb G h0 h1 b v F c → Q (some (.int y)) h1) : AM G yX11_later cX11_later 4 (some .int) d 0 0 [.ref (gB G + 0), .int (n), .int (r), .int (w)] h Q := by
  obtain ⟨d, rfl, he⟩ := dpos hd
  refine AM.of [some (.ref (gB G + 0)), some (.int (n)), some (.int (r)), some (.int (w))] pnX11 (Nat.le_of_ble_eq_true rfl) (by simp [lsub, lvI, Value.category]) ?_
  refine a_iloadn_1 (pc := 0) dX11_later_0 ?_
  refine a_iconst (pc := 1) (v := nI 0) dX11_later_1 (by decide) ?_
  refine a_bipush (pc := 2) (v := nI 48) dX11_later_2 (by decide) ?_
  refine cs_X11_101 (pc := 4) rfl dX11_later_4 (Nat.le_of_ble_eq_true rfl) ?_
  refine x_within (by omega) hz ?_
  refine a_topi (bI (inR 0 (nI 48) n)) rfl ?_
  refine b_if_eq (pc := 7) (tgt := 26) dX11_later_7 (by decide) (fun c_7 => ?_) (fun c_7 => ?_)
  · refine a_iconst (pc := 26) (v := (-1)) dX11_later_26 (by decide) ?_
    exact a_iret (pc := 27) dX11_later_27 rfl (zf hz) (k _ _ (by simp [spLater, c_7]) hC)
  · obtain ⟨n_n, h_n, rfl⟩ := inR_of (by decide) c_7
    have i_n : iN (nI n_n) = n_n := iN_nI (by omega)
    refine a_iloadn_2 (pc := 10) dX11_later_10 ?_
    refine cs_X11_140 (pc := 11) rfl dX11_later_11 (Nat.le_of_ble_eq_true rfl) ?_
    refine p_isRoom (by omega) hz ?_
    refine b_if_eq (pc := 14) (tgt := 26) dX11_later_14 (by decide) (fun c_14 => ?_) (fun c_14 => ?_)
    · refine a_iconst (pc := 26) (v := (-1)) dX11_later_26 (by decide) ?_
      exact a_iret (pc := 27) dX11_later_27 rfl (zf hz) (k _ _ (by simp [spLater, c_7, i_n, c_14]) hC)
    · obtain ⟨n_r, h_r, rfl⟩ := inR_of (by decide) c_14
      have i_r : iN (nI n_r) = n_r := iN_nI (by omega)
      refine a_iloadn_3 (pc := 17) dX11_later_17 ?_
      refine a_iconst (pc := 18) (v := nI 0) dX11_later_18 (by decide) ?_
      refine a_iconst (pc := 19) (v := nI 1) dX11_later_19 (by decide) ?_
      refine cs_X11_101 (pc := 20) rfl dX11_later_20 (Nat.le_of_ble_eq_true rfl) ?_
      refine x_within (by omega) hz ?_
      refine a_topi (bI (inR 0 (nI 1) w)) rfl ?_
      refine b_if_ne (pc := 23) (tgt := 28) dX11_later_23 (by decide) (fun c_23 => ?_) (fun c_23 => ?_)
      · obtain ⟨n_w, h_w, rfl⟩ := inR_of (by decide) c_23
        have i_w : iN (nI n_w) = n_w := iN_nI (by omega)
        refine a_aloadn_0 (pc := 28) dX11_later_28 ?_
        refine gf_X11_38 (pc := 29) rfl dX11_later_29 hC.c0 ?_
        refine a_iloadn_1 (pc := 32) dX11_later_32 ?_
        obtain ⟨s, u, T0⟩ := hC.toT
        refine cv_X11_164 (pc := 33) rfl dX11_later_33 T0.th (Nat.le_of_ble_eq_true rfl) ?_
        refine q_behind (by omega) hz T0 (by omega) (fun h1 T1 => ?_)
        have hC1 := COb.th T1 hC
        refine a_iloadn_2 (pc := 36) dX11_later_36 ?_
        refine a_iloadn_3 (pc := 37) dX11_later_37 ?_
        refine n_if_ne (tgt := 45) dX11_later_38 (by decide) (by omega) (fun c_38 => ?_) (fun c_38 => ?_)
        · have w1 : n_w = 1 := by omega
          refine a_iconst (pc := 45) (v := nI 0) dX11_later_45 (by decide) ?_
          refine cv_X11_128 (pc := 46) rfl dX11_later_46 T1.c26.choose_spec (Nat.le_of_ble_eq_true rfl) ?_
          refine q_numberOf (by omega) hz T1 (by omega) (by omega) ?_
          exact a_iret (pc := 49) dX11_later_49 rfl (zf hz) (k _ _ (by first | (subst w1; simp [spLater, c_7, i_n, c_14, i_r, c_23, i_w, c_38]; done) | (subst w1; simp [spLater, c_7, i_n, c_14, i_r, c_23, i_w, c_38]; rfl) | (subst w0; simp [spLater, c_7, i_n, c_14, i_r, c_23, i_w, c_38, bI_nI]; done) | (subst w0; simp [spLater, c_7, i_n, c_14, i_r, c_23, i_w, c_38, bI_nI]; rfl)) hC1)
        · have w0 : n_w = 0 := c_38
          refine a_iconst (pc := 41) (v := nI 3) dX11_later_41 (by decide) ?_
          refine a_goto (pc := 42) (tgt := 46) dX11_later_42 (by decide) ?_
          refine cv_X11_128 (pc := 46) rfl dX11_later_46 T1.c26.choose_spec (Nat.le_of_ble_eq_true rfl) ?_
          refine q_numberOf (by omega) hz T1 (by omega) (by omega) ?_
          exact a_iret (pc := 49) dX11_later_49 rfl (zf hz) (k _ _ (by first | (subst w1; simp [spLater, c_7, i_n, c_14, i_r, c_23, i_w, c_38]; done) | (subst w1; simp [spLater, c_7, i_n, c_14, i_r, c_23, i_w, c_38]; rfl) | (subst w0; simp [spLater, c_7, i_n, c_14, i_r, c_23, i_w, c_38, bI_nI]; done) | (subst w0; simp [spLater, c_7, i_n, c_14, i_r, c_23, i_w, c_38, bI_nI]; rfl)) hC1)
      · refine a_iconst (pc := 26) (v := (-1)) dX11_later_26 (by decide) ?_
        exact a_iret (pc := 27) dX11_later_27 rfl (zf hz) (k _ _ (by simp [spLater, c_7, i_n, c_14, i_r, c_23]) hC)
set_option maxRecDepth 100000 in
set_option maxHeartbeats 4000000 in
theorem p_dark {G : Cx} {d c : Nat} {h h0 : List va_E} {b : MB} {v : Cv} {F : Lf} {Q : Option Value → List va_E → Prop} (hd : 9 ≤ d) (hz : gz G = false) (hC : COb G h0 h b v F c) {n w : Int32} (k : ∀ y h1, y = spDark F v n w → COb G h0 h1 b v F c → Q (some (.int y)) h1) : AM G yX11_dark cX11_dark 4 (some .int) d 0 0 [.ref (gB G + 0), .int (n), .int (w)] h Q := by
  obtain ⟨d, rfl, he⟩ := dpos hd
  refine AM.of [some (.ref (gB G + 0)), some (.int (n)), some (.int (w)), none] pnX11 (Nat.le_of_ble_eq_true rfl) (by simp [lsub, lvI, Value.category]) ?_
  refine a_iloadn_1 (pc := 0) dX11_dark_0 ?_
  refine a_iconst (pc := 1) (v := nI 0) dX11_dark_1 (by decide) ?_
  refine a_bipush (pc := 2) (v := nI 48) dX11_dark_2 (by decide) ?_
  refine cs_X11_101 (pc := 4) rfl dX11_dark_4 (Nat.le_of_ble_eq_true rfl) ?_
  refine x_within (by omega) hz ?_
  refine a_topi (bI (inR 0 (nI 48) n)) rfl ?_
  refine b_if_eq (pc := 7) (tgt := 19) dX11_dark_7 (by decide) (fun c_7 => ?_) (fun c_7 => ?_)
  · refine a_iconst (pc := 19) (v := (-1)) dX11_dark_19 (by decide) ?_
    exact a_iret (pc := 20) dX11_dark_20 rfl (zf hz) (k _ _ (by simp [spDark, c_7]) hC)
  · obtain ⟨n_n, h_n, rfl⟩ := inR_of (by decide) c_7
    have i_n : iN (nI n_n) = n_n := iN_nI (by omega)
    refine a_iloadn_2 (pc := 10) dX11_dark_10 ?_
    refine a_iconst (pc := 11) (v := nI 0) dX11_dark_11 (by decide) ?_
    refine a_iconst (pc := 12) (v := nI 1) dX11_dark_12 (by decide) ?_
    refine cs_X11_101 (pc := 13) rfl dX11_dark_13 (Nat.le_of_ble_eq_true rfl) ?_
    refine x_within (by omega) hz ?_
    refine a_topi (bI (inR 0 (nI 1) w)) rfl ?_
    refine b_if_ne (pc := 16) (tgt := 21) dX11_dark_16 (by decide) (fun c_16 => ?_) (fun c_16 => ?_)
    · obtain ⟨n_w, h_w, rfl⟩ := inR_of (by decide) c_16
      have i_w : iN (nI n_w) = n_w := iN_nI (by omega)
      refine a_aloadn_0 (pc := 21) dX11_dark_21 ?_
      refine gf_X11_38 (pc := 22) rfl dX11_dark_22 hC.c0 ?_
      refine a_iloadn_1 (pc := 25) dX11_dark_25 ?_
      obtain ⟨s, u, T0⟩ := hC.toT
      refine cv_X11_164 (pc := 26) rfl dX11_dark_26 T0.th (Nat.le_of_ble_eq_true rfl) ?_
      refine q_behind (by omega) hz T0 (by omega) (fun h1 T1 => ?_)
      have hC1 := COb.th T1 hC
      refine a_astoren_3 (pc := 29) dX11_dark_29 (by decide) (by first | rfl | trivial) ?_
      refine a_iloadn_2 (pc := 30) dX11_dark_30 ?_
      refine n_if_ne (tgt := 41) dX11_dark_31 (by decide) (by omega) (fun c_31 => ?_) (fun c_31 => ?_)
      · have w1 : n_w = 1 := by omega
        refine a_aloadn_3 (pc := 41) dX11_dark_41 ?_
        refine cv_X11_171 (pc := 42) rfl dX11_dark_42 T1.c26.choose_spec (Nat.le_of_ble_eq_true rfl) ?_
        refine q_darkChildren (by omega) hz T1 ?_
        exact a_iret (pc := 45) dX11_dark_45 rfl (zf hz) (k _ _ (by first | (subst w1; simp [spDark, c_7, i_n, c_16, i_w, c_31]) | (subst w0; simp [spDark, c_7, i_n, c_16, i_w, c_31])) hC1)
      · have w0 : n_w = 0 := c_31
        refine a_aloadn_3 (pc := 34) dX11_dark_34 ?_
        refine cv_X11_168 (pc := 35) rfl dX11_dark_35 T1.c26.choose_spec (Nat.le_of_ble_eq_true rfl) ?_
        refine q_darkCount (by omega) hz T1 ?_
        refine a_goto (pc := 38) (tgt := 45) dX11_dark_38 (by decide) ?_
        exact a_iret (pc := 45) dX11_dark_45 rfl (zf hz) (k _ _ (by first | (subst w1; simp [spDark, c_7, i_n, c_16, i_w, c_31]) | (subst w0; simp [spDark, c_7, i_n, c_16, i_w, c_31])) hC1)
    · refine a_iconst (pc := 19) (v := (-1)) dX11_dark_19 (by decide) ?_
      exact a_iret (pc := 20) dX11_dark_20 rfl (zf hz) (k _ _ (by simp [spDark, c_7, i_n, c_16]) hC)
set_option maxRecDepth 100000 in
set_option maxHeartbeats 4000000 in
theorem p_map {G : Cx} {d c : Nat} {h h0 : List va_E} {b : MB} {v : Cv} {F : Lf} {Q : Option Value → List va_E → Prop} (hd : 9 ≤ d) (hz : gz G = false) (hC : COb G h0 h b v F c) {n : Int32} (k : ∀ y h1, y = spMap F v n → COb G h0 h1 b v F c → Q (some (.long y)) h1) : AM G yX11_map cX11_map 2 (some .long) d 0 0 [.ref (gB G + 0), .int (n)] h Q := by
  obtain ⟨d, rfl, he⟩ := dpos hd
  refine AM.of [some (.ref (gB G + 0)), some (.int (n))] pnX11 (Nat.le_of_ble_eq_true rfl) (by simp [lsub, lvI, Value.category]) ?_
  refine a_iloadn_1 (pc := 0) dX11_map_0 ?_
  refine a_iconst (pc := 1) (v := nI 0) dX11_map_1 (by decide) ?_
  refine a_bipush (pc := 2) (v := nI 48) dX11_map_2 (by decide) ?_
  refine cs_X11_101 (pc := 4) rfl dX11_map_4 (Nat.le_of_ble_eq_true rfl) ?_
  refine x_within (by omega) hz ?_
  refine a_topi (bI (inR 0 (nI 48) n)) rfl ?_
  refine b_if_eq (pc := 7) (tgt := 24) dX11_map_7 (by decide) (fun c_7 => ?_) (fun c_7 => ?_)
  · refine a_ldc2 (pc := 24) dX11_map_24 w_624 ?_
    exact a_lret (pc := 27) dX11_map_27 rfl (zf hz) (k _ _ (by simp [spMap, c_7]) hC)
  · obtain ⟨n_n, h_n, rfl⟩ := inR_of (by decide) c_7
    have i_n : iN (nI n_n) = n_n := iN_nI (by omega)
    refine a_aloadn_0 (pc := 10) dX11_map_10 ?_
    refine gf_X11_38 (pc := 11) rfl dX11_map_11 hC.c0 ?_
    refine a_iloadn_1 (pc := 14) dX11_map_14 ?_
    obtain ⟨s, u, T0⟩ := hC.toT
    refine cv_X11_164 (pc := 15) rfl dX11_map_15 T0.th (Nat.le_of_ble_eq_true rfl) ?_
    refine q_behind (by omega) hz T0 (by omega) (fun h1 T1 => ?_)
    have hC1 := COb.th T1 hC
    obtain ⟨u1, hu1, hs1⟩ := T1.2.2.2.2
    refine gf_X11_174 (pc := 18) rfl dX11_map_18 hu1.1 ?_
    refine a_topl (bL (cK (hrs F n_n v))) (by rw [hs1.2.2.1]) ?_
    refine a_goto (pc := 21) (tgt := 27) dX11_map_21 (by decide) ?_
    exact a_lret (pc := 27) dX11_map_27 rfl (zf hz) (k _ _ (by simp [spMap, c_7, i_n]) hC1)
set_option maxRecDepth 100000 in
set_option maxHeartbeats 4000000 in
theorem p_falls {G : Cx} {d c : Nat} {h h0 : List va_E} {b : MB} {v : Cv} {F : Lf} {Q : Option Value → List va_E → Prop} (hd : 10 ≤ d) (hz : gz G = false) (hC : COb G h0 h b v F c) {r : Int32} (k : ∀ y h1, y = spFalls F v r → COb G h0 h1 b v F c → Q (some (.int y)) h1) : AM G yX11_falls cX11_falls 2 (some .int) d 0 0 [.ref (gB G + 0), .int (r)] h Q := by
  obtain ⟨d, rfl, he⟩ := dpos hd
  refine AM.of [some (.ref (gB G + 0)), some (.int (r))] pnX11 (Nat.le_of_ble_eq_true rfl) (by simp [lsub, lvI, Value.category]) ?_
  refine a_iloadn_1 (pc := 0) dX11_falls_0 ?_
  refine cs_X11_140 (pc := 1) rfl dX11_falls_1 (Nat.le_of_ble_eq_true rfl) ?_
  refine p_isRoom (by omega) hz ?_
  refine b_if_eq (pc := 4) (tgt := 18) dX11_falls_4 (by decide) (fun c_4 => ?_) (fun c_4 => ?_)
  · refine a_iconst (pc := 18) (v := (-1)) dX11_falls_18 (by decide) ?_
    exact a_iret (pc := 19) dX11_falls_19 rfl (zf hz) (k _ _ (by first | simp [spFalls, c_4, hy1] | simp [spFalls, c_4]) hC)
  · obtain ⟨n_r, h_r, rfl⟩ := inR_of (by decide) c_4
    have i_r : iN (nI n_r) = n_r := iN_nI (by omega)
    refine a_aloadn_0 (pc := 7) dX11_falls_7 ?_
    refine gf_X11_38 (pc := 8) rfl dX11_falls_8 hC.c0 ?_
    refine a_iloadn_1 (pc := 11) dX11_falls_11 ?_
    obtain ⟨s, u, T0⟩ := hC.toT
    refine cv_X11_180 (pc := 12) rfl dX11_falls_12 T0.th (Nat.le_of_ble_eq_true rfl) ?_
    refine q_firstDark (by omega) hz T0 (by omega) (fun y1 h1 x1 hy1 T1 => ?_)
    have hC1 := COb.th T1 hC
    refine a_goto (pc := 15) (tgt := 19) dX11_falls_15 (by decide) ?_
    exact a_iret (pc := 19) dX11_falls_19 rfl (zf hz) (k _ _ (by first | simp [spFalls, c_4, i_r, hy1] | simp [spFalls, c_4, i_r]) hC1)
set_option maxRecDepth 100000 in
set_option maxHeartbeats 4000000 in
theorem p_still {G : Cx} {d c : Nat} {h h0 : List va_E} {b : MB} {v : Cv} {F : Lf} {Q : Option Value → List va_E → Prop} (hd : 9 ≤ d) (hz : gz G = false) (hC : COb G h0 h b v F c) (k : ∀ y h1, y = spStill F v → COb G h0 h1 b v F c → Q (some (.int y)) h1) : AM G yX11_still cX11_still 1 (some .int) d 0 0 [.ref (gB G + 0)] h Q := by
  obtain ⟨d, rfl, he⟩ := dpos hd
  refine AM.of [some (.ref (gB G + 0))] pnX11 (Nat.le_of_ble_eq_true rfl) (by simp [lsub, lvI, Value.category]) ?_
  refine a_aloadn_0 (pc := 0) dX11_still_0 ?_
  refine gf_X11_38 (pc := 1) rfl dX11_still_1 hC.c0 ?_
  obtain ⟨s, u, T0⟩ := hC.toT
  refine cv_X11_183 (pc := 4) rfl dX11_still_4 T0.th (Nat.le_of_ble_eq_true rfl) ?_
  refine q_firstStill (by omega) hz T0 (fun y1 h1 x1 hy1 T1 => ?_)
  have hC1 := COb.th T1 hC
  exact a_iret (pc := 7) dX11_still_7 rfl (zf hz) (k _ _ hy1 hC1)
set_option maxRecDepth 100000 in
set_option maxHeartbeats 4000000 in
theorem p_enough {G : Cx} {d c : Nat} {h h0 : List va_E} {b : MB} {v : Cv} {F : Lf} {Q : Option Value → List va_E → Prop} (hd : 11 ≤ d) (hz : gz G = false) (hC : COb G h0 h b v F c) {r tt : Int32} (k : ∀ y h1, y = spEnough F v r tt → COb G h0 h1 b v F c → Q (some (.int y)) h1) : AM G yX11_enough cX11_enough 3 (some .int) d 0 0 [.ref (gB G + 0), .int (r), .int (tt)] h Q := by
  obtain ⟨d, rfl, he⟩ := dpos hd
  refine AM.of [some (.ref (gB G + 0)), some (.int (r)), some (.int (tt))] pnX11 (Nat.le_of_ble_eq_true rfl) (by simp [lsub, lvI, Value.category]) ?_
  refine a_iloadn_1 (pc := 0) dX11_enough_0 ?_
  refine cs_X11_140 (pc := 1) rfl dX11_enough_1 (Nat.le_of_ble_eq_true rfl) ?_
  refine p_isRoom (by omega) hz ?_
  refine b_if_eq (pc := 4) (tgt := 29) dX11_enough_4 (by decide) (fun c_4 => ?_) (fun c_4 => ?_)
  · refine a_iconst (pc := 29) (v := (-1)) dX11_enough_29 (by decide) ?_
    exact a_iret (pc := 30) dX11_enough_30 rfl (zf hz) (k _ _ (by first | simp [spEnough, c_4, hy1] | simp [spEnough, c_4]) hC)
  · obtain ⟨n_r, h_r, rfl⟩ := inR_of (by decide) c_4
    have i_r : iN (nI n_r) = n_r := iN_nI (by omega)
    refine a_iloadn_2 (pc := 7) dX11_enough_7 ?_
    refine a_iconst (pc := 8) (v := nI 0) dX11_enough_8 (by decide) ?_
    refine a_bipush (pc := 9) (v := nI 24) dX11_enough_9 (by decide) ?_
    refine cs_X11_101 (pc := 11) rfl dX11_enough_11 (Nat.le_of_ble_eq_true rfl) ?_
    refine x_within (by omega) hz ?_
    refine a_topi (bI (inR 0 (nI 24) tt)) rfl ?_
    refine b_if_eq (pc := 14) (tgt := 29) dX11_enough_14 (by decide) (fun c_14 => ?_) (fun c_14 => ?_)
    · refine a_iconst (pc := 29) (v := (-1)) dX11_enough_29 (by decide) ?_
      exact a_iret (pc := 30) dX11_enough_30 rfl (zf hz) (k _ _ (by first | simp [spEnough, c_4, i_r, c_14, hy1] | simp [spEnough, c_4, i_r, c_14]) hC)
    · obtain ⟨n_tt, h_tt, rfl⟩ := inR_of (by decide) c_14
      have i_tt : iN (nI n_tt) = n_tt := iN_nI (by omega)
      refine a_aloadn_0 (pc := 17) dX11_enough_17 ?_
      refine gf_X11_38 (pc := 18) rfl dX11_enough_18 hC.c0 ?_
      refine a_iloadn_1 (pc := 21) dX11_enough_21 ?_
      refine a_iloadn_2 (pc := 22) dX11_enough_22 ?_
      obtain ⟨s, u, T0⟩ := hC.toT
      refine cv_X11_186 (pc := 23) rfl dX11_enough_23 T0.th (Nat.le_of_ble_eq_true rfl) ?_
      refine q_leastWax (by omega) hz T0 (by omega) (by omega) (fun y1 h1 x1 hy1 T1 => ?_)
      have hC1 := COb.th T1 hC
      refine a_goto (pc := 26) (tgt := 30) dX11_enough_26 (by decide) ?_
      exact a_iret (pc := 30) dX11_enough_30 rfl (zf hz) (k _ _ (by first | simp [spEnough, c_4, i_r, c_14, i_tt, hy1] | simp [spEnough, c_4, i_r, c_14, i_tt]) hC1)
theorem st_no {s z : St3} {w : Nat} (h : RS3 s z) (h2 : ¬ s.2.1 ≤ 36) : stAns z w = -2 := by
  rcases h with ⟨_, _, q⟩ | ⟨_, _, rfl⟩
  · exact absurd q h2
  · exact if_pos rfl
theorem st_yes {s z : St3} (h : RS3 s z) (h2 : s.2.1 ≤ 36) : z = s ∧ s.1 ≤ 36 := by
  rcases h with ⟨e, q, _⟩ | ⟨_, q, _⟩
  · exact ⟨e.symm, q⟩
  · omega
set_option maxRecDepth 100000 in
set_option maxHeartbeats 4000000 in
theorem p_stubs {G : Cx} {d c : Nat} {h h0 : List va_E} {b : MB} {v : Cv} {F : Lf} {Q : Option Value → List va_E → Prop} (hd : 14 ≤ d) (hz : gz G = false) (hC : COb G h0 h b v F c) {k tt w : Int32} (k2 : ∀ y h1, y = spStubs F v k tt w → COb G h0 h1 b v F c → Q (some (.int y)) h1) : AM G yX11_stubs cX11_stubs 4 (some .int) d 0 0 [.ref (gB G + 0), .int (k), .int (tt), .int (w)] h Q := by
  obtain ⟨d, rfl, he⟩ := dpos hd
  refine AM.of [some (.ref (gB G + 0)), some (.int (k)), some (.int (tt)), some (.int (w))] pnX11 (Nat.le_of_ble_eq_true rfl) (by simp [lsub, lvI, Value.category]) ?_
  refine a_iloadn_1 (pc := 0) dX11_stubs_0 ?_
  refine a_iconst (pc := 1) (v := nI 0) dX11_stubs_1 (by decide) ?_
  refine a_iconst (pc := 2) (v := nI 2) dX11_stubs_2 (by decide) ?_
  refine cs_X11_101 (pc := 3) rfl dX11_stubs_3 (Nat.le_of_ble_eq_true rfl) ?_
  refine x_within (by omega) hz ?_
  refine a_topi (bI (inR 0 (nI 2) k)) rfl ?_
  refine b_if_eq (pc := 6) (tgt := 28) dX11_stubs_6 (by decide) (fun c_6 => ?_) (fun c_6 => ?_)
  · refine a_iconst (pc := 28) (v := (-1)) dX11_stubs_28 (by decide) ?_
    exact a_iret (pc := 29) dX11_stubs_29 rfl (zf hz) (k2 _ _ (by simp [spStubs, c_6]) hC)
  · obtain ⟨n_k, h_k, rfl⟩ := inR_of (by decide) c_6
    have i_k : iN (nI n_k) = n_k := iN_nI (by omega)
    refine a_iloadn_2 (pc := 9) dX11_stubs_9 ?_
    refine a_iconst (pc := 10) (v := nI 0) dX11_stubs_10 (by decide) ?_
    refine a_bipush (pc := 11) (v := nI 12) dX11_stubs_11 (by decide) ?_
    refine cs_X11_101 (pc := 13) rfl dX11_stubs_13 (Nat.le_of_ble_eq_true rfl) ?_
    refine x_within (by omega) hz ?_
    refine a_topi (bI (inR 0 (nI 12) tt)) rfl ?_
    refine b_if_eq (pc := 16) (tgt := 28) dX11_stubs_16 (by decide) (fun c_16 => ?_) (fun c_16 => ?_)
    · refine a_iconst (pc := 28) (v := (-1)) dX11_stubs_28 (by decide) ?_
      exact a_iret (pc := 29) dX11_stubs_29 rfl (zf hz) (k2 _ _ (by simp [spStubs, c_6, i_k, c_16]) hC)
    · obtain ⟨n_tt, h_tt, rfl⟩ := inR_of (by decide) c_16
      have i_tt : iN (nI n_tt) = n_tt := iN_nI (by omega)
      refine a_iloadn_3 (pc := 19) dX11_stubs_19 ?_
      refine a_iconst (pc := 20) (v := nI 0) dX11_stubs_20 (by decide) ?_
      refine a_iconst (pc := 21) (v := nI 2) dX11_stubs_21 (by decide) ?_
      refine cs_X11_101 (pc := 22) rfl dX11_stubs_22 (Nat.le_of_ble_eq_true rfl) ?_
      refine x_within (by omega) hz ?_
      refine a_topi (bI (inR 0 (nI 2) w)) rfl ?_
      refine b_if_ne (pc := 25) (tgt := 30) dX11_stubs_25 (by decide) (fun c_25 => ?_) (fun c_25 => ?_)
      · obtain ⟨n_w, h_w, rfl⟩ := inR_of (by decide) c_25
        have i_w : iN (nI n_w) = n_w := iN_nI (by omega)
        refine a_aloadn_0 (pc := 30) dX11_stubs_30 ?_
        refine gf_X11_38 (pc := 31) rfl dX11_stubs_31 hC.c0 ?_
        refine a_iloadn_1 (pc := 34) dX11_stubs_34 ?_
        refine a_iloadn_2 (pc := 35) dX11_stubs_35 ?_
        obtain ⟨s, u, T0⟩ := hC.toT
        refine cv_X11_189 (pc := 36) rfl dX11_stubs_36 T0.th (Nat.le_of_ble_eq_true rfl) ?_
        refine q_findStubs (by omega) hz T0 (by omega) (by omega) (fun h1 x1 s1 hs1 T1 => ?_)
        have hC1 := COb.th T1 hC
        have hR : RS3 s1 (stA F n_tt v n_k St0) := by
          rw [hs1]; exact stA_R (Or.inr ⟨rfl, rfl, rfl⟩) n_k
        refine b_if_ne (pc := 39) (tgt := 45) dX11_stubs_39 (by decide) (fun c_39 => ?_) (fun c_39 => ?_)
        · have sy := st_yes hR (of_decide_eq_true c_39)
          refine a_iloadn_3 (pc := 45) dX11_stubs_45 ?_
          refine a_iconst (pc := 46) (v := nI 2) dX11_stubs_46 (by decide) ?_
          refine n_icmp_ne (tgt := 58) dX11_stubs_47 (by decide) (by omega) (by decide) (fun c_47 => ?_) (fun c_47 => ?_)
          · refine a_iloadn_3 (pc := 58) dX11_stubs_58 ?_
            refine n_if_ne (tgt := 72) dX11_stubs_59 (by decide) (by omega) (fun c_59 => ?_) (fun c_59 => ?_)
            · refine a_aloadn_0 (pc := 72) dX11_stubs_72 ?_
              refine gf_X11_38 (pc := 73) rfl dX11_stubs_73 hC1.c0 ?_
              refine gf_X11_199 (pc := 76) rfl dX11_stubs_76 T1.th ?_
              exact a_iret (pc := 79) dX11_stubs_79 rfl (zf hz) (k2 _ _ (by rw [sp_ok (by omega) (by omega) (by omega), sy.1, stAns, if_neg (by omega)]; first | rw [if_pos (by omega)] | rw [if_neg (by omega), if_pos (by omega)]) hC1)
            · refine a_aloadn_0 (pc := 62) dX11_stubs_62 ?_
              refine gf_X11_38 (pc := 63) rfl dX11_stubs_63 hC1.c0 ?_
              refine gf_X11_196 (pc := 66) rfl dX11_stubs_66 T1.th ?_
              refine a_goto (pc := 69) (tgt := 79) dX11_stubs_69 (by decide) ?_
              exact a_iret (pc := 79) dX11_stubs_79 rfl (zf hz) (k2 _ _ (by rw [sp_ok (by omega) (by omega) (by omega), sy.1, stAns, if_neg (by omega)]; first | rw [if_pos (by omega)] | rw [if_neg (by omega), if_pos (by omega)]) hC1)
          · refine a_aloadn_0 (pc := 50) dX11_stubs_50 ?_
            refine gf_X11_38 (pc := 51) rfl dX11_stubs_51 hC1.c0 ?_
            refine gf_X11_192 (pc := 54) rfl dX11_stubs_54 T1.th ?_
            exact a_iret (pc := 57) dX11_stubs_57 rfl (zf hz) (k2 _ _ (by rw [sp_ok (by omega) (by omega) (by omega), sy.1, stAns, if_neg (by omega), if_neg (by omega), if_neg (by omega)]) hC1)
        · refine a_bipush (pc := 42) (v := (-2)) dX11_stubs_42 (by decide) ?_
          exact a_iret (pc := 44) dX11_stubs_44 rfl (zf hz) (k2 _ _ (by rw [sp_ok (by omega) (by omega) (by omega), st_no hR (of_decide_eq_false c_39)]) hC1)
      · refine a_iconst (pc := 28) (v := (-1)) dX11_stubs_28 (by decide) ?_
        exact a_iret (pc := 29) dX11_stubs_29 rfl (zf hz) (k2 _ _ (by simp [spStubs, c_6, i_k, c_16, i_tt, c_25]) hC)
set_option maxRecDepth 100000 in
set_option maxHeartbeats 4000000 in
theorem p_wayIn {G : Cx} {d c : Nat} {h h0 : List va_E} {b : MB} {v : Cv} {F : Lf} {Q : Option Value → List va_E → Prop} (hd : 14 ≤ d) (hz : gz G = false) (hC : COb G h0 h b v F c) {r w : Int32} (k : ∀ y h1, wayP v r w y → COb G h0 h1 b v F c → Q (some (.int y)) h1) : AM G yX11_wayIn cX11_wayIn 3 (some .int) d 0 0 [.ref (gB G + 0), .int (r), .int (w)] h Q := by
  obtain ⟨d, rfl, he⟩ := dpos hd
  refine AM.of [some (.ref (gB G + 0)), some (.int (r)), some (.int (w))] pnX11 (Nat.le_of_ble_eq_true rfl) (by simp [lsub, lvI, Value.category]) ?_
  refine a_iloadn_1 (pc := 0) dX11_wayIn_0 ?_
  refine cs_X11_140 (pc := 1) rfl dX11_wayIn_1 (Nat.le_of_ble_eq_true rfl) ?_
  refine p_isRoom (by omega) hz ?_
  refine b_if_eq (pc := 4) (tgt := 16) dX11_wayIn_4 (by decide) (fun c_4 => ?_) (fun c_4 => ?_)
  · refine a_iconst (pc := 16) (v := (-1)) dX11_wayIn_16 (by decide) ?_
    exact a_iret (pc := 17) dX11_wayIn_17 rfl (zf hz) (k _ _ (wp_bad (by simp [c_4])) hC)
  · obtain ⟨n_r, h_r, rfl⟩ := inR_of (by decide) c_4
    have i_r : iN (nI n_r) = n_r := iN_nI (by omega)
    refine a_iloadn_2 (pc := 7) dX11_wayIn_7 ?_
    refine a_iconst (pc := 8) (v := nI 0) dX11_wayIn_8 (by decide) ?_
    refine a_iconst (pc := 9) (v := nI 1) dX11_wayIn_9 (by decide) ?_
    refine cs_X11_101 (pc := 10) rfl dX11_wayIn_10 (Nat.le_of_ble_eq_true rfl) ?_
    refine x_within (by omega) hz ?_
    refine a_topi (bI (inR 0 (nI 1) w)) rfl ?_
    refine b_if_ne (pc := 13) (tgt := 18) dX11_wayIn_13 (by decide) (fun c_13 => ?_) (fun c_13 => ?_)
    · obtain ⟨n_w, h_w, rfl⟩ := inR_of (by decide) c_13
      have i_w : iN (nI n_w) = n_w := iN_nI (by omega)
      refine a_iloadn_2 (pc := 18) dX11_wayIn_18 ?_
      refine n_if_ne (tgt := 33) dX11_wayIn_19 (by decide) (by omega) (fun c_19 => ?_) (fun c_19 => ?_)
      · have w1 : n_w = 1 := by omega
        subst w1
        refine a_aloadn_0 (pc := 33) dX11_wayIn_33 ?_
        refine gf_X11_61 (pc := 34) rfl dX11_wayIn_34 hC.c0 ?_
        refine a_iloadn_1 (pc := 37) dX11_wayIn_37 ?_
        obtain ⟨R, Y0⟩ := hC.toY
        refine cv_X11_205 (pc := 38) rfl dX11_wayIn_38 Y0.ob (Nat.le_of_ble_eq_true rfl) ?_
        refine w_fewestLights (by omega) hz Y0 (by omega) (fun h1 R1 y1 hy1 Y1 => ?_)
        have hC1 := COb.wa Y1 hC
        exact a_iret (pc := 41) dX11_wayIn_41 rfl (zf hz) (by first | exact k _ _ (wp_0 (by omega) hy1) hC1 | exact k _ _ (wp_1 (by omega) hy1) hC1)
      · have w0 : n_w = 0 := c_19
        subst w0
        refine a_aloadn_0 (pc := 22) dX11_wayIn_22 ?_
        refine gf_X11_61 (pc := 23) rfl dX11_wayIn_23 hC.c0 ?_
        refine a_iloadn_1 (pc := 26) dX11_wayIn_26 ?_
        obtain ⟨R, Y0⟩ := hC.toY
        refine cv_X11_202 (pc := 27) rfl dX11_wayIn_27 Y0.ob (Nat.le_of_ble_eq_true rfl) ?_
        refine w_fewestRooms (by omega) hz Y0 (by omega) (fun h1 R1 y1 hy1 Y1 => ?_)
        have hC1 := COb.wa Y1 hC
        refine a_goto (pc := 30) (tgt := 41) dX11_wayIn_30 (by decide) ?_
        exact a_iret (pc := 41) dX11_wayIn_41 rfl (zf hz) (by first | exact k _ _ (wp_0 (by omega) hy1) hC1 | exact k _ _ (wp_1 (by omega) hy1) hC1)
    · refine a_iconst (pc := 16) (v := (-1)) dX11_wayIn_16 (by decide) ?_
      exact a_iret (pc := 17) dX11_wayIn_17 rfl (zf hz) (k _ _ (wp_bad (by simp [c_4, i_r, c_13])) hC)
set_option maxRecDepth 100000 in
set_option maxHeartbeats 4000000 in
theorem p_round {G : Cx} {d c : Nat} {h h0 : List va_E} {b : MB} {v : Cv} {F : Lf} {Q : Option Value → List va_E → Prop} (hd : 16 ≤ d) (hz : gz G = false) (hC : COb G h0 h b v F c) {r n k : Int32} (k2 : ∀ y h1, y = spRound F v r n k → COb G h0 h1 b v F c → Q (some (.int y)) h1) : AM G yX11_round cX11_round 4 (some .int) d 0 0 [.ref (gB G + 0), .int (r), .int (n), .int (k)] h Q := by
  obtain ⟨d, rfl, he⟩ := dpos hd
  refine AM.of [some (.ref (gB G + 0)), some (.int (r)), some (.int (n)), some (.int (k))] pnX11 (Nat.le_of_ble_eq_true rfl) (by simp [lsub, lvI, Value.category]) ?_
  refine a_iloadn_1 (pc := 0) dX11_round_0 ?_
  refine cs_X11_140 (pc := 1) rfl dX11_round_1 (Nat.le_of_ble_eq_true rfl) ?_
  refine p_isRoom (by omega) hz ?_
  refine b_if_eq (pc := 4) (tgt := 27) dX11_round_4 (by decide) (fun c_4 => ?_) (fun c_4 => ?_)
  · refine a_iconst (pc := 27) (v := (-1)) dX11_round_27 (by decide) ?_
    exact a_iret (pc := 28) dX11_round_28 rfl (zf hz) (k2 _ _ (by simp [spRound, c_4]) hC)
  · obtain ⟨n_r, h_r, rfl⟩ := inR_of (by decide) c_4
    have i_r : iN (nI n_r) = n_r := iN_nI (by omega)
    refine a_iloadn_2 (pc := 7) dX11_round_7 ?_
    refine a_iconst (pc := 8) (v := nI 0) dX11_round_8 (by decide) ?_
    refine a_iconst (pc := 9) (v := nI 4) dX11_round_9 (by decide) ?_
    refine cs_X11_101 (pc := 10) rfl dX11_round_10 (Nat.le_of_ble_eq_true rfl) ?_
    refine x_within (by omega) hz ?_
    refine a_topi (bI (inR 0 (nI 4) n)) rfl ?_
    refine b_if_eq (pc := 13) (tgt := 27) dX11_round_13 (by decide) (fun c_13 => ?_) (fun c_13 => ?_)
    · refine a_iconst (pc := 27) (v := (-1)) dX11_round_27 (by decide) ?_
      exact a_iret (pc := 28) dX11_round_28 rfl (zf hz) (k2 _ _ (by simp [spRound, c_4, i_r, c_13]) hC)
    · obtain ⟨n_n, h_n, rfl⟩ := inR_of (by decide) c_13
      have i_n : iN (nI n_n) = n_n := iN_nI (by omega)
      refine a_iloadn_3 (pc := 16) dX11_round_16 ?_
      refine a_iconst (pc := 17) (v := (-1)) dX11_round_17 (by decide) ?_
      refine a_iloadn_2 (pc := 18) dX11_round_18 ?_
      refine a_iconst (pc := 19) (v := nI 1) dX11_round_19 (by decide) ?_
      refine a_isub (pc := 20) dX11_round_20 ?_
      refine cs_X11_101 (pc := 21) rfl dX11_round_21 (Nat.le_of_ble_eq_true rfl) ?_
      refine x_within (by omega) hz ?_
      refine a_topi (bI (inR (-1) ((nI (n_n) - nI (1))) k)) rfl ?_
      refine b_if_ne (pc := 24) (tgt := 29) dX11_round_24 (by decide) (fun c_24 => ?_) (fun c_24 => ?_)
      · refine a_aloadn_0 (pc := 29) dX11_round_29 ?_
        refine gf_X11_45 (pc := 30) rfl dX11_round_30 hC.c0 ?_
        refine a_iloadn_1 (pc := 33) dX11_round_33 ?_
        refine a_iloadn_2 (pc := 34) dX11_round_34 ?_
        obtain ⟨s, X, W0⟩ := hC.toW
        refine cv_X11_208 (pc := 35) rfl dX11_round_35 W0.ob (Nat.le_of_ble_eq_true rfl) ?_
        refine w_find (by omega) hz W0 (by omega) (by omega) (fun h1 X1 W1 => ?_)
        have hC1 := COb.wk W1 hC
        rw [Nat.min_eq_left (show n_n ≤ 4 by omega)] at W1
        obtain ⟨y1, y2⟩ := rdS_F (F := F) (m := n_n) (r := n_r) (v := v) (by omega) s.1 s.2.1
        refine a_iloadn_3 (pc := 38) dX11_round_38 ?_
        refine a_if_ge (pc := 39) (tgt := 52) dX11_round_39 (by decide) (fun c_39 => ?_) (fun c_39 => ?_)
        · have k0 : ¬ k < 0 := fun q => absurd (Int32.lt_of_lt_of_le q c_39) Int32.lt_irrefl
          obtain ⟨m, hm3, rfl⟩ := inR_k (by omega) c_24 k0
          have m4 : iN (nI m) = m := iN_nI (by omega)
          refine a_aloadn_0 (pc := 52) dX11_round_52 ?_
          refine gf_X11_45 (pc := 53) rfl dX11_round_53 hC1.c0 ?_
          refine a_iloadn_3 (pc := 56) dX11_round_56 ?_
          refine cv_X11_215 (pc := 57) rfl dX11_round_57 W1.ob (Nat.le_of_ble_eq_true rfl) ?_
          refine w_stepAt (by omega) hz W1 (by omega) ?_
          refine a_topi (nI ((rdS F n_n n_r v).2.1 m)) (by rw [y2 m hm3]) ?_
          exact a_iret (pc := 60) dX11_round_60 rfl (zf hz) (by first | exact k2 _ _ (by simp [spRound, c_4, i_r, c_13, i_n, c_24, c_39, k0, m4]) hC1 | exact k2 _ _ (by simp [spRound, c_4, i_r, c_13, i_n, c_24, c_39, k0]) hC1)
        · have k0 : k < 0 := Int32.not_le.mp c_39
          have m4 : True := trivial
          refine a_aloadn_0 (pc := 42) dX11_round_42 ?_
          refine gf_X11_45 (pc := 43) rfl dX11_round_43 hC1.c0 ?_
          refine gf_X11_212 (pc := 46) rfl dX11_round_46 W1.ob ?_
          refine a_topi (nI ((rdS F n_n n_r v).2.2)) (by rw [y1]) ?_
          refine a_goto (pc := 49) (tgt := 60) dX11_round_49 (by decide) ?_
          exact a_iret (pc := 60) dX11_round_60 rfl (zf hz) (by first | exact k2 _ _ (by simp [spRound, c_4, i_r, c_13, i_n, c_24, c_39, k0, m4]) hC1 | exact k2 _ _ (by simp [spRound, c_4, i_r, c_13, i_n, c_24, c_39, k0]) hC1)
      · refine a_iconst (pc := 27) (v := (-1)) dX11_round_27 (by decide) ?_
        exact a_iret (pc := 28) dX11_round_28 rfl (zf hz) (k2 _ _ (by simp [spRound, c_4, i_r, c_13, i_n, c_24]) hC)
